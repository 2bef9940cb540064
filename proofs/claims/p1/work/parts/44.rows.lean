section ZRows
variable {l : Launch} {D : va_G} {tc : Nat → ClassId} {A : Nat → Prop} {nS : Nat} {xs : Nat → Int32}
theorem ok_X10_begin_17 : zOK l D tc A nS xs mM_X10_begin 17 q_X10_begin_17 := s_vret rfl (by decide +kernel)
theorem ok_X10_begin_14 : zOK l D tc A nS xs mM_X10_begin 14 q_X10_begin_14 := r_putf kls_10 ty_10_7 zck_int (by decide) tx_10_7 rfl w_473 (by decide +kernel) ok_X10_begin_17
theorem ok_X10_begin_13 : zOK l D tc A nS xs mM_X10_begin 13 q_X10_begin_13 := s_iconst (n := (-1)) (by decide) (by decide +kernel) (by decide +kernel) ok_X10_begin_14
theorem ok_X10_begin_12 : zOK l D tc A nS xs mM_X10_begin 12 q_X10_begin_12 := s_aload_n (q := 0) rfl (by decide +kernel) (by decide +kernel) ok_X10_begin_13
theorem ok_X10_begin_9 : zOK l D tc A nS xs mM_X10_begin 9 q_X10_begin_9 := r_putf kls_10 ty_10_6 zck_int (by decide) tx_10_6 rfl w_474 (by decide +kernel) ok_X10_begin_12
theorem ok_X10_begin_8 : zOK l D tc A nS xs mM_X10_begin 8 q_X10_begin_8 := s_iconst (n := 0) (by decide) (by decide +kernel) (by decide +kernel) ok_X10_begin_9
theorem ok_X10_begin_7 : zOK l D tc A nS xs mM_X10_begin 7 q_X10_begin_7 := s_aload_n (q := 0) rfl (by decide +kernel) (by decide +kernel) ok_X10_begin_8
theorem ok_X10_begin_4 : zOK l D tc A nS xs mM_X10_begin 4 q_X10_begin_4 := r_putf kls_10 ty_10_3 zck_int (by decide) tx_10_3 rfl w_466 (by decide +kernel) ok_X10_begin_7
theorem ok_X10_begin_1 : zOK l D tc A nS xs mM_X10_begin 1 q_X10_begin_1 := s_sipush (n := 6000) (by decide) (by decide +kernel) (by decide +kernel) ok_X10_begin_4
theorem ok_X10_begin_0 : zOK l D tc A nS xs mM_X10_begin 0 q_X10_begin_0 := s_aload_n (q := 0) rfl (by decide +kernel) (by decide +kernel) ok_X10_begin_1
theorem ok_X10_clear_14 : zOK l D tc A nS xs mM_X10_clear 14 q_X10_clear_14 := s_vret rfl (by decide +kernel)
theorem ok_X10_clear_11 : zOK l D tc A nS xs mM_X10_clear 11 q_X10_clear_11 := r_callV zEE_ok zTw_gd kls_10 (M2 := mM_X10_begin) (na := 0) lb_119 calV_X10_begin rfl rfl w_475 (by decide +kernel) ok_X10_clear_14
theorem ok_X10_clear_10 : zOK l D tc A nS xs mM_X10_clear 10 q_X10_clear_10 := s_aload_n (q := 0) rfl (by decide +kernel) (by decide +kernel) ok_X10_clear_11
theorem ok_X10_clear_7 : zOK l D tc A nS xs mM_X10_clear 7 q_X10_clear_7 := r_putf kls_10 ty_10_5 zck_int (by decide) tx_10_5 rfl w_471 (by decide +kernel) ok_X10_clear_10
theorem ok_X10_clear_6 : zOK l D tc A nS xs mM_X10_clear 6 q_X10_clear_6 := s_iconst (n := 0) (by decide) (by decide +kernel) (by decide +kernel) ok_X10_clear_7
theorem ok_X10_clear_5 : zOK l D tc A nS xs mM_X10_clear 5 q_X10_clear_5 := s_aload_n (q := 0) rfl (by decide +kernel) (by decide +kernel) ok_X10_clear_6
theorem ok_X10_clear_2 : zOK l D tc A nS xs mM_X10_clear 2 q_X10_clear_2 := r_putf kls_10 ty_10_4 zck_int (by decide) tx_10_4 rfl w_472 (by decide +kernel) ok_X10_clear_5
theorem ok_X10_clear_1 : zOK l D tc A nS xs mM_X10_clear 1 q_X10_clear_1 := s_iconst (n := 0) (by decide) (by decide +kernel) (by decide +kernel) ok_X10_clear_2
theorem ok_X10_clear_0 : zOK l D tc A nS xs mM_X10_clear 0 q_X10_clear_0 := s_aload_n (q := 0) rfl (by decide +kernel) (by decide +kernel) ok_X10_clear_1
theorem ok_X10_copy_87 : zOK l D tc A nS xs mM_X10_copy 87 q_X10_copy_87 := s_iret rfl (by decide +kernel)
theorem ok_X10_copy_86 : zOK l D tc A nS xs mM_X10_copy 86 q_X10_copy_86 := s_iload_n (q := 3) rfl (by decide +kernel) (by decide +kernel) ok_X10_copy_87
theorem ok_X10_copy_83 : zOK l D tc A nS xs mM_X10_copy 83 q_X10_copy_83 := s_goto (tgt := 12) (off := (-71)) (by decide +kernel) (by decide) (s_back lb_122)
theorem ok_X10_copy_80 : zOK l D tc A nS xs mM_X10_copy 80 q_X10_copy_80 := s_iinc (n := 1) (by decide +kernel) (by decide +kernel) (by decide +kernel) ok_X10_copy_83
theorem ok_X10_copy_78 : zOK l D tc A nS xs mM_X10_copy 78 q_X10_copy_78 := s_istore (by decide +kernel) (by decide +kernel) ok_X10_copy_80
theorem ok_X10_copy_76 : zOK l D tc A nS xs mM_X10_copy 76 q_X10_copy_76 := s_iload (by decide +kernel) (by decide +kernel) ok_X10_copy_78
theorem ok_X10_copy_73 : zOK l D tc A nS xs mM_X10_copy 73 q_X10_copy_73 := r_callV zEE_ok zTw_gd kls_10 (M2 := mM_X10_setRest) (na := 2) lb_140 calV_X10_setRest rfl rfl w_479 (by decide +kernel) ok_X10_copy_76
theorem ok_X10_copy_71 : zOK l D tc A nS xs mM_X10_copy 71 q_X10_copy_71 := s_iload (by decide +kernel) (by decide +kernel) ok_X10_copy_73
theorem ok_X10_copy_69 : zOK l D tc A nS xs mM_X10_copy 69 q_X10_copy_69 := s_iload (by decide +kernel) (by decide +kernel) ok_X10_copy_71
theorem ok_X10_copy_68 : zOK l D tc A nS xs mM_X10_copy 68 q_X10_copy_68 := s_aload_n (q := 0) rfl (by decide +kernel) (by decide +kernel) ok_X10_copy_69
theorem ok_X10_copy_66 : zOK l D tc A nS xs mM_X10_copy 66 q_X10_copy_66 := s_istore (by decide +kernel) (by decide +kernel) ok_X10_copy_68
theorem ok_X10_copy_63 : zOK l D tc A nS xs mM_X10_copy 63 q_X10_copy_63 := r_callV zEE_ok zTw_gd kls_10 (M2 := mM_X10_addKept) (na := 1) lb_118 calV_X10_addKept rfl rfl w_480 (by decide +kernel) ok_X10_copy_66
theorem ok_X10_copy_62 : zOK l D tc A nS xs mM_X10_copy 62 q_X10_copy_62 := s_iald (t0 := 0) (by decide) (by decide) rfl (by decide +kernel) ok_X10_copy_63
theorem ok_X10_copy_60 : zOK l D tc A nS xs mM_X10_copy 60 q_X10_copy_60 := s_iload (by decide +kernel) (by decide +kernel) ok_X10_copy_62
theorem ok_X10_copy_57 : zOK l D tc A nS xs mM_X10_copy 57 q_X10_copy_57 := r_getf kls_10 (by decide) tx_10_2 rfl w_467 (by decide +kernel) ok_X10_copy_60
theorem ok_X10_copy_56 : zOK l D tc A nS xs mM_X10_copy 56 q_X10_copy_56 := s_aload_n (q := 0) rfl (by decide +kernel) (by decide +kernel) ok_X10_copy_57
theorem ok_X10_copy_55 : zOK l D tc A nS xs mM_X10_copy 55 q_X10_copy_55 := s_aload_n (q := 0) rfl (by decide +kernel) (by decide +kernel) ok_X10_copy_56
theorem ok_X10_copy_52 : zOK l D tc A nS xs mM_X10_copy 52 q_X10_copy_52 := r_callV zEE_ok zTw_gd kls_10 (M2 := mM_X10_setFirst) (na := 2) lb_139 calV_X10_setFirst rfl rfl w_483 (by decide +kernel) ok_X10_copy_55
theorem ok_X10_copy_49 : zOK l D tc A nS xs mM_X10_copy 49 q_X10_copy_49 := r_callV zEE_ok zTw_gd kls_10 (M2 := mM_X10_copy) (na := 2) lb_121 calV_X10_copy rfl rfl w_487 (by decide +kernel) ok_X10_copy_52
theorem ok_X10_copy_48 : zOK l D tc A nS xs mM_X10_copy 48 q_X10_copy_48 := s_iadd (by decide +kernel) ok_X10_copy_49
theorem ok_X10_copy_47 : zOK l D tc A nS xs mM_X10_copy 47 q_X10_copy_47 := s_iconst (n := 1) (by decide) (by decide +kernel) (by decide +kernel) ok_X10_copy_48
theorem ok_X10_copy_46 : zOK l D tc A nS xs mM_X10_copy 46 q_X10_copy_46 := s_iload_n (q := 2) rfl (by decide +kernel) (by decide +kernel) ok_X10_copy_47
theorem ok_X10_copy_45 : zOK l D tc A nS xs mM_X10_copy 45 q_X10_copy_45 := s_iald (t0 := 0) (by decide) (by decide) rfl (by decide +kernel) ok_X10_copy_46
theorem ok_X10_copy_43 : zOK l D tc A nS xs mM_X10_copy 43 q_X10_copy_43 := s_iload (by decide +kernel) (by decide +kernel) ok_X10_copy_45
theorem ok_X10_copy_40 : zOK l D tc A nS xs mM_X10_copy 40 q_X10_copy_40 := r_getf kls_10 (by decide) tx_10_1 rfl w_468 (by decide +kernel) ok_X10_copy_43
theorem ok_X10_copy_39 : zOK l D tc A nS xs mM_X10_copy 39 q_X10_copy_39 := s_aload_n (q := 0) rfl (by decide +kernel) (by decide +kernel) ok_X10_copy_40
theorem ok_X10_copy_38 : zOK l D tc A nS xs mM_X10_copy 38 q_X10_copy_38 := s_aload_n (q := 0) rfl (by decide +kernel) (by decide +kernel) ok_X10_copy_39
theorem ok_X10_copy_36 : zOK l D tc A nS xs mM_X10_copy 36 q_X10_copy_36 := s_iload (by decide +kernel) (by decide +kernel) ok_X10_copy_38
theorem ok_X10_copy_35 : zOK l D tc A nS xs mM_X10_copy 35 q_X10_copy_35 := s_aload_n (q := 0) rfl (by decide +kernel) (by decide +kernel) ok_X10_copy_36
theorem ok_X10_copy_32 : zOK l D tc A nS xs mM_X10_copy 32 q_X10_copy_32 := s_if_eq (tgt := 86) (off := 54) (by decide +kernel) (by decide) ok_X10_copy_86 ok_X10_copy_35
theorem ok_X10_copy_29 : zOK l D tc A nS xs mM_X10_copy 29 q_X10_copy_29 := r_callV zEE_ok zTw_gd kls_10 (M2 := mM_X10_isCons) (na := 1) lb_130 calV_X10_isCons rfl rfl w_490 (by decide +kernel) ok_X10_copy_32
theorem ok_X10_copy_27 : zOK l D tc A nS xs mM_X10_copy 27 q_X10_copy_27 := s_iload (by decide +kernel) (by decide +kernel) ok_X10_copy_29
theorem ok_X10_copy_26 : zOK l D tc A nS xs mM_X10_copy 26 q_X10_copy_26 := s_aload_n (q := 0) rfl (by decide +kernel) (by decide +kernel) ok_X10_copy_27
theorem ok_X10_copy_23 : zOK l D tc A nS xs mM_X10_copy 23 q_X10_copy_23 := s_icmp_ge (tgt := 86) (off := 63) (by decide +kernel) (by decide) ok_X10_copy_86 ok_X10_copy_26
theorem ok_X10_copy_21 : zOK l D tc A nS xs mM_X10_copy 21 q_X10_copy_21 := s_bipush (n := 110) (by decide) (by decide +kernel) (by decide +kernel) ok_X10_copy_23
theorem ok_X10_copy_20 : zOK l D tc A nS xs mM_X10_copy 20 q_X10_copy_20 := s_iload_n (q := 2) rfl (by decide +kernel) (by decide +kernel) ok_X10_copy_21
theorem ok_X10_copy_17 : zOK l D tc A nS xs mM_X10_copy 17 q_X10_copy_17 := s_icmp_ge (tgt := 86) (off := 69) (by decide +kernel) (by decide) ok_X10_copy_86 ok_X10_copy_20
theorem ok_X10_copy_14 : zOK l D tc A nS xs mM_X10_copy 14 q_X10_copy_14 := s_sipush (n := 3000) (by decide) (by decide +kernel) (by decide +kernel) ok_X10_copy_17
theorem ok_X10_copy_12 : zOK l D tc A nS xs mM_X10_copy 12 q_X10_copy_12 := s_iload (by decide +kernel) (by decide +kernel) ok_X10_copy_14
theorem ok_X10_copy_10 : zOK l D tc A nS xs mM_X10_copy 10 q_X10_copy_10 := s_istore (by decide +kernel) (by decide +kernel) ok_X10_copy_12
theorem ok_X10_copy_9 : zOK l D tc A nS xs mM_X10_copy 9 q_X10_copy_9 := s_iconst (n := 0) (by decide) (by decide +kernel) (by decide +kernel) ok_X10_copy_10
theorem ok_X10_copy_7 : zOK l D tc A nS xs mM_X10_copy 7 q_X10_copy_7 := s_istore (by decide +kernel) (by decide +kernel) ok_X10_copy_9
theorem ok_X10_copy_6 : zOK l D tc A nS xs mM_X10_copy 6 q_X10_copy_6 := s_iload_n (q := 3) rfl (by decide +kernel) (by decide +kernel) ok_X10_copy_7
theorem ok_X10_copy_5 : zOK l D tc A nS xs mM_X10_copy 5 q_X10_copy_5 := s_istore_n (q := 3) rfl (by decide +kernel) (by decide +kernel) ok_X10_copy_6
theorem ok_X10_copy_2 : zOK l D tc A nS xs mM_X10_copy 2 q_X10_copy_2 := r_callV zEE_ok zTw_gd kls_10 (M2 := mM_X10_addKept) (na := 1) lb_118 calV_X10_addKept rfl rfl w_480 (by decide +kernel) ok_X10_copy_5
theorem ok_X10_copy_1 : zOK l D tc A nS xs mM_X10_copy 1 q_X10_copy_1 := s_iload_n (q := 1) rfl (by decide +kernel) (by decide +kernel) ok_X10_copy_2
theorem ok_X10_copy_0 : zOK l D tc A nS xs mM_X10_copy 0 q_X10_copy_0 := s_aload_n (q := 0) rfl (by decide +kernel) (by decide +kernel) ok_X10_copy_1
theorem ok_X10_count_45 : zOK l D tc A nS xs mM_X10_count 45 q_X10_count_45 := s_iret rfl (by decide +kernel)
theorem ok_X10_count_41 : zOK l D tc A nS xs mM_X10_count 41 q_X10_count_41 := s_goto (tgt := 45) (off := 4) (by decide +kernel) (by decide) ok_X10_count_45
theorem ok_X10_count_40 : zOK l D tc A nS xs mM_X10_count 40 q_X10_count_40 := s_iload_n (q := 2) rfl (by decide +kernel) (by decide +kernel) ok_X10_count_41
theorem ok_X10_count_37 : zOK l D tc A nS xs mM_X10_count 37 q_X10_count_37 := s_if_ne (tgt := 44) (off := 7) (by decide +kernel) (by decide) s_none ok_X10_count_40
theorem ok_X10_count_34 : zOK l D tc A nS xs mM_X10_count 34 q_X10_count_34 := r_callV zEE_ok zTw_gd kls_10 (M2 := mM_X10_kind) (na := 1) lb_133 calV_X10_kind rfl rfl w_491 (by decide +kernel) ok_X10_count_37
theorem ok_X10_count_33 : zOK l D tc A nS xs mM_X10_count 33 q_X10_count_33 := s_iload_n (q := 3) rfl (by decide +kernel) (by decide +kernel) ok_X10_count_34
theorem ok_X10_count_32 : zOK l D tc A nS xs mM_X10_count 32 q_X10_count_32 := s_aload_n (q := 0) rfl (by decide +kernel) (by decide +kernel) ok_X10_count_33
theorem ok_X10_count_29 : zOK l D tc A nS xs mM_X10_count 29 q_X10_count_29 := s_goto (tgt := 4) (off := (-25)) (by decide +kernel) (by decide) (s_back lb_124)
theorem ok_X10_count_26 : zOK l D tc A nS xs mM_X10_count 26 q_X10_count_26 := s_iinc (n := 1) (by decide +kernel) (by decide +kernel) (by decide +kernel) ok_X10_count_29
theorem ok_X10_count_25 : zOK l D tc A nS xs mM_X10_count 25 q_X10_count_25 := s_istore_n (q := 3) rfl (by decide +kernel) (by decide +kernel) ok_X10_count_26
theorem ok_X10_count_24 : zOK l D tc A nS xs mM_X10_count 24 q_X10_count_24 := s_iald (t0 := 0) (by decide) (by decide) rfl (by decide +kernel) ok_X10_count_25
theorem ok_X10_count_23 : zOK l D tc A nS xs mM_X10_count 23 q_X10_count_23 := s_iload_n (q := 3) rfl (by decide +kernel) (by decide +kernel) ok_X10_count_24
theorem ok_X10_count_20 : zOK l D tc A nS xs mM_X10_count 20 q_X10_count_20 := r_getf kls_10 (by decide) tx_10_2 rfl w_467 (by decide +kernel) ok_X10_count_23
theorem ok_X10_count_19 : zOK l D tc A nS xs mM_X10_count 19 q_X10_count_19 := s_aload_n (q := 0) rfl (by decide +kernel) (by decide +kernel) ok_X10_count_20
theorem ok_X10_count_16 : zOK l D tc A nS xs mM_X10_count 16 q_X10_count_16 := s_if_eq (tgt := 32) (off := 16) (by decide +kernel) (by decide) ok_X10_count_32 ok_X10_count_19
theorem ok_X10_count_13 : zOK l D tc A nS xs mM_X10_count 13 q_X10_count_13 := r_callV zEE_ok zTw_gd kls_10 (M2 := mM_X10_isCons) (na := 1) lb_130 calV_X10_isCons rfl rfl w_490 (by decide +kernel) ok_X10_count_16
theorem ok_X10_count_12 : zOK l D tc A nS xs mM_X10_count 12 q_X10_count_12 := s_iload_n (q := 3) rfl (by decide +kernel) (by decide +kernel) ok_X10_count_13
theorem ok_X10_count_11 : zOK l D tc A nS xs mM_X10_count 11 q_X10_count_11 := s_aload_n (q := 0) rfl (by decide +kernel) (by decide +kernel) ok_X10_count_12
theorem ok_X10_count_8 : zOK l D tc A nS xs mM_X10_count 8 q_X10_count_8 := s_icmp_ge (tgt := 32) (off := 24) (by decide +kernel) (by decide) ok_X10_count_32 ok_X10_count_11
theorem ok_X10_count_5 : zOK l D tc A nS xs mM_X10_count 5 q_X10_count_5 := s_sipush (n := 18120) (by decide) (by decide +kernel) (by decide +kernel) ok_X10_count_8
theorem ok_X10_count_4 : zOK l D tc A nS xs mM_X10_count 4 q_X10_count_4 := s_iload_n (q := 2) rfl (by decide +kernel) (by decide +kernel) ok_X10_count_5
theorem ok_X10_count_3 : zOK l D tc A nS xs mM_X10_count 3 q_X10_count_3 := s_istore_n (q := 3) rfl (by decide +kernel) (by decide +kernel) ok_X10_count_4
theorem ok_X10_count_2 : zOK l D tc A nS xs mM_X10_count 2 q_X10_count_2 := s_iload_n (q := 1) rfl (by decide +kernel) (by decide +kernel) ok_X10_count_3
theorem ok_X10_count_1 : zOK l D tc A nS xs mM_X10_count 1 q_X10_count_1 := s_istore_n (q := 2) rfl (by decide +kernel) (by decide +kernel) ok_X10_count_2
theorem ok_X10_count_0 : zOK l D tc A nS xs mM_X10_count 0 q_X10_count_0 := s_iconst (n := 0) (by decide) (by decide +kernel) (by decide +kernel) ok_X10_count_1
theorem ok_X10_findsAlias_72 : zOK l D tc A nS xs mM_X10_findsAlias 72 q_X10_findsAlias_72 := s_zret rfl (by decide +kernel)
theorem ok_X10_findsAlias_71 : zOK l D tc A nS xs mM_X10_findsAlias 71 q_X10_findsAlias_71 := s_iconst (n := 0) (by decide) (by decide +kernel) (by decide +kernel) ok_X10_findsAlias_72
theorem ok_X10_findsAlias_64 : zOK l D tc A nS xs mM_X10_findsAlias 64 q_X10_findsAlias_64 := s_icmp_ne (tgt := 71) (off := 7) (by decide +kernel) (by decide) ok_X10_findsAlias_71 s_none
theorem ok_X10_findsAlias_63 : zOK l D tc A nS xs mM_X10_findsAlias 63 q_X10_findsAlias_63 := s_iconst (n := 3) (by decide) (by decide +kernel) (by decide +kernel) ok_X10_findsAlias_64
theorem ok_X10_findsAlias_60 : zOK l D tc A nS xs mM_X10_findsAlias 60 q_X10_findsAlias_60 := r_callV zEE_ok zTw_gd kls_10 (M2 := mM_X10_kind) (na := 1) lb_133 calV_X10_kind rfl rfl w_491 (by decide +kernel) ok_X10_findsAlias_63
theorem ok_X10_findsAlias_59 : zOK l D tc A nS xs mM_X10_findsAlias 59 q_X10_findsAlias_59 := s_iload_n (q := 3) rfl (by decide +kernel) (by decide +kernel) ok_X10_findsAlias_60
theorem ok_X10_findsAlias_58 : zOK l D tc A nS xs mM_X10_findsAlias 58 q_X10_findsAlias_58 := s_aload_n (q := 0) rfl (by decide +kernel) (by decide +kernel) ok_X10_findsAlias_59
theorem ok_X10_findsAlias_55 : zOK l D tc A nS xs mM_X10_findsAlias 55 q_X10_findsAlias_55 := s_goto (tgt := 5) (off := (-50)) (by decide +kernel) (by decide) (s_back lb_126)
theorem ok_X10_findsAlias_52 : zOK l D tc A nS xs mM_X10_findsAlias 52 q_X10_findsAlias_52 := s_iinc (n := 1) (by decide +kernel) (by decide +kernel) (by decide +kernel) ok_X10_findsAlias_55
theorem ok_X10_findsAlias_51 : zOK l D tc A nS xs mM_X10_findsAlias 51 q_X10_findsAlias_51 := s_istore_n (q := 3) rfl (by decide +kernel) (by decide +kernel) ok_X10_findsAlias_52
theorem ok_X10_findsAlias_50 : zOK l D tc A nS xs mM_X10_findsAlias 50 q_X10_findsAlias_50 := s_iald (t0 := 0) (by decide) (by decide) rfl (by decide +kernel) ok_X10_findsAlias_51
theorem ok_X10_findsAlias_49 : zOK l D tc A nS xs mM_X10_findsAlias 49 q_X10_findsAlias_49 := s_iload_n (q := 3) rfl (by decide +kernel) (by decide +kernel) ok_X10_findsAlias_50
theorem ok_X10_findsAlias_46 : zOK l D tc A nS xs mM_X10_findsAlias 46 q_X10_findsAlias_46 := r_getf kls_10 (by decide) tx_10_2 rfl w_467 (by decide +kernel) ok_X10_findsAlias_49
theorem ok_X10_findsAlias_45 : zOK l D tc A nS xs mM_X10_findsAlias 45 q_X10_findsAlias_45 := s_aload_n (q := 0) rfl (by decide +kernel) (by decide +kernel) ok_X10_findsAlias_46
theorem ok_X10_findsAlias_40 : zOK l D tc A nS xs mM_X10_findsAlias 40 q_X10_findsAlias_40 := s_if_eq (tgt := 45) (off := 5) (by decide +kernel) (by decide) ok_X10_findsAlias_45 s_none
theorem ok_X10_findsAlias_37 : zOK l D tc A nS xs mM_X10_findsAlias 37 q_X10_findsAlias_37 := r_callV zEE_ok zTw_gd kls_10 (M2 := mM_X10_findsAlias) (na := 2) lb_125 calV_X10_findsAlias rfl rfl w_492 (by decide +kernel) ok_X10_findsAlias_40
theorem ok_X10_findsAlias_36 : zOK l D tc A nS xs mM_X10_findsAlias 36 q_X10_findsAlias_36 := s_iadd (by decide +kernel) ok_X10_findsAlias_37
theorem ok_X10_findsAlias_35 : zOK l D tc A nS xs mM_X10_findsAlias 35 q_X10_findsAlias_35 := s_iconst (n := 1) (by decide) (by decide +kernel) (by decide +kernel) ok_X10_findsAlias_36
theorem ok_X10_findsAlias_34 : zOK l D tc A nS xs mM_X10_findsAlias 34 q_X10_findsAlias_34 := s_iload_n (q := 2) rfl (by decide +kernel) (by decide +kernel) ok_X10_findsAlias_35
theorem ok_X10_findsAlias_33 : zOK l D tc A nS xs mM_X10_findsAlias 33 q_X10_findsAlias_33 := s_iald (t0 := 0) (by decide) (by decide) rfl (by decide +kernel) ok_X10_findsAlias_34
theorem ok_X10_findsAlias_32 : zOK l D tc A nS xs mM_X10_findsAlias 32 q_X10_findsAlias_32 := s_iload_n (q := 3) rfl (by decide +kernel) (by decide +kernel) ok_X10_findsAlias_33
theorem ok_X10_findsAlias_29 : zOK l D tc A nS xs mM_X10_findsAlias 29 q_X10_findsAlias_29 := r_getf kls_10 (by decide) tx_10_1 rfl w_468 (by decide +kernel) ok_X10_findsAlias_32
theorem ok_X10_findsAlias_28 : zOK l D tc A nS xs mM_X10_findsAlias 28 q_X10_findsAlias_28 := s_aload_n (q := 0) rfl (by decide +kernel) (by decide +kernel) ok_X10_findsAlias_29
theorem ok_X10_findsAlias_27 : zOK l D tc A nS xs mM_X10_findsAlias 27 q_X10_findsAlias_27 := s_aload_n (q := 0) rfl (by decide +kernel) (by decide +kernel) ok_X10_findsAlias_28
theorem ok_X10_findsAlias_24 : zOK l D tc A nS xs mM_X10_findsAlias 24 q_X10_findsAlias_24 := s_if_eq (tgt := 58) (off := 34) (by decide +kernel) (by decide) ok_X10_findsAlias_58 ok_X10_findsAlias_27
theorem ok_X10_findsAlias_21 : zOK l D tc A nS xs mM_X10_findsAlias 21 q_X10_findsAlias_21 := r_callV zEE_ok zTw_gd kls_10 (M2 := mM_X10_isCons) (na := 1) lb_130 calV_X10_isCons rfl rfl w_490 (by decide +kernel) ok_X10_findsAlias_24
theorem ok_X10_findsAlias_20 : zOK l D tc A nS xs mM_X10_findsAlias 20 q_X10_findsAlias_20 := s_iload_n (q := 3) rfl (by decide +kernel) (by decide +kernel) ok_X10_findsAlias_21
theorem ok_X10_findsAlias_19 : zOK l D tc A nS xs mM_X10_findsAlias 19 q_X10_findsAlias_19 := s_aload_n (q := 0) rfl (by decide +kernel) (by decide +kernel) ok_X10_findsAlias_20
theorem ok_X10_findsAlias_16 : zOK l D tc A nS xs mM_X10_findsAlias 16 q_X10_findsAlias_16 := s_icmp_ge (tgt := 58) (off := 42) (by decide +kernel) (by decide) ok_X10_findsAlias_58 ok_X10_findsAlias_19
theorem ok_X10_findsAlias_14 : zOK l D tc A nS xs mM_X10_findsAlias 14 q_X10_findsAlias_14 := s_bipush (n := 110) (by decide) (by decide +kernel) (by decide +kernel) ok_X10_findsAlias_16
theorem ok_X10_findsAlias_13 : zOK l D tc A nS xs mM_X10_findsAlias 13 q_X10_findsAlias_13 := s_iload_n (q := 2) rfl (by decide +kernel) (by decide +kernel) ok_X10_findsAlias_14
theorem ok_X10_findsAlias_10 : zOK l D tc A nS xs mM_X10_findsAlias 10 q_X10_findsAlias_10 := s_icmp_ge (tgt := 58) (off := 48) (by decide +kernel) (by decide) ok_X10_findsAlias_58 ok_X10_findsAlias_13
theorem ok_X10_findsAlias_7 : zOK l D tc A nS xs mM_X10_findsAlias 7 q_X10_findsAlias_7 := s_sipush (n := 18120) (by decide) (by decide +kernel) (by decide +kernel) ok_X10_findsAlias_10
theorem ok_X10_findsAlias_5 : zOK l D tc A nS xs mM_X10_findsAlias 5 q_X10_findsAlias_5 := s_iload (by decide +kernel) (by decide +kernel) ok_X10_findsAlias_7
theorem ok_X10_findsAlias_3 : zOK l D tc A nS xs mM_X10_findsAlias 3 q_X10_findsAlias_3 := s_istore (by decide +kernel) (by decide +kernel) ok_X10_findsAlias_5
theorem ok_X10_findsAlias_2 : zOK l D tc A nS xs mM_X10_findsAlias 2 q_X10_findsAlias_2 := s_iconst (n := 0) (by decide) (by decide +kernel) (by decide +kernel) ok_X10_findsAlias_3
theorem ok_X10_findsAlias_1 : zOK l D tc A nS xs mM_X10_findsAlias 1 q_X10_findsAlias_1 := s_istore_n (q := 3) rfl (by decide +kernel) (by decide +kernel) ok_X10_findsAlias_2
theorem ok_X10_findsAlias_0 : zOK l D tc A nS xs mM_X10_findsAlias 0 q_X10_findsAlias_0 := s_iload_n (q := 1) rfl (by decide +kernel) (by decide +kernel) ok_X10_findsAlias_1
theorem ok_X10_first_34 : zOK l D tc A nS xs mM_X10_first 34 q_X10_first_34 := s_iret rfl (by decide +kernel)
theorem ok_X10_first_30 : zOK l D tc A nS xs mM_X10_first 30 q_X10_first_30 := s_goto (tgt := 34) (off := 4) (by decide +kernel) (by decide) ok_X10_first_34
theorem ok_X10_first_29 : zOK l D tc A nS xs mM_X10_first 29 q_X10_first_29 := s_iald (t0 := 0) (by decide) (by decide) rfl (by decide +kernel) ok_X10_first_30
theorem ok_X10_first_28 : zOK l D tc A nS xs mM_X10_first 28 q_X10_first_28 := s_iload_n (q := 1) rfl (by decide +kernel) (by decide +kernel) ok_X10_first_29
theorem ok_X10_first_25 : zOK l D tc A nS xs mM_X10_first 25 q_X10_first_25 := r_getf kls_10 (by decide) tx_10_1 rfl w_468 (by decide +kernel) ok_X10_first_28
theorem ok_X10_first_24 : zOK l D tc A nS xs mM_X10_first 24 q_X10_first_24 := s_aload_n (q := 0) rfl (by decide +kernel) (by decide +kernel) ok_X10_first_25
theorem ok_X10_first_21 : zOK l D tc A nS xs mM_X10_first 21 q_X10_first_21 := s_icmp_ne (tgt := 33) (off := 12) (by decide +kernel) (by decide) s_none ok_X10_first_24
theorem ok_X10_first_20 : zOK l D tc A nS xs mM_X10_first 20 q_X10_first_20 := s_iconst (n := 4) (by decide) (by decide +kernel) (by decide +kernel) ok_X10_first_21
theorem ok_X10_first_19 : zOK l D tc A nS xs mM_X10_first 19 q_X10_first_19 := s_iand (by decide +kernel) ok_X10_first_20
theorem ok_X10_first_17 : zOK l D tc A nS xs mM_X10_first 17 q_X10_first_17 := s_bipush (n := 7) (by decide) (by decide +kernel) (by decide +kernel) ok_X10_first_19
theorem ok_X10_first_16 : zOK l D tc A nS xs mM_X10_first 16 q_X10_first_16 := s_iald (t0 := 0) (by decide) (by decide) rfl (by decide +kernel) ok_X10_first_17
theorem ok_X10_first_15 : zOK l D tc A nS xs mM_X10_first 15 q_X10_first_15 := s_iload_n (q := 1) rfl (by decide +kernel) (by decide +kernel) ok_X10_first_16
theorem ok_X10_first_12 : zOK l D tc A nS xs mM_X10_first 12 q_X10_first_12 := r_getf kls_10 (by decide) tx_10_0 rfl w_469 (by decide +kernel) ok_X10_first_15
theorem ok_X10_first_11 : zOK l D tc A nS xs mM_X10_first 11 q_X10_first_11 := s_aload_n (q := 0) rfl (by decide +kernel) (by decide +kernel) ok_X10_first_12
theorem ok_X10_first_8 : zOK l D tc A nS xs mM_X10_first 8 q_X10_first_8 := s_icmp_ge (tgt := 33) (off := 25) (by decide +kernel) (by decide) s_none ok_X10_first_11
theorem ok_X10_first_5 : zOK l D tc A nS xs mM_X10_first 5 q_X10_first_5 := s_sipush (n := 18120) (by decide) (by decide +kernel) (by decide +kernel) ok_X10_first_8
theorem ok_X10_first_4 : zOK l D tc A nS xs mM_X10_first 4 q_X10_first_4 := s_iload_n (q := 1) rfl (by decide +kernel) (by decide +kernel) ok_X10_first_5
theorem ok_X10_first_1 : zOK l D tc A nS xs mM_X10_first 1 q_X10_first_1 := s_if_lt (tgt := 33) (off := 32) (by decide +kernel) (by decide) s_none ok_X10_first_4
theorem ok_X10_first_0 : zOK l D tc A nS xs mM_X10_first 0 q_X10_first_0 := s_iload_n (q := 1) rfl (by decide +kernel) (by decide +kernel) ok_X10_first_1
theorem ok_X10_hasAlias_6 : zOK l D tc A nS xs mM_X10_hasAlias 6 q_X10_hasAlias_6 := s_zret rfl (by decide +kernel)
theorem ok_X10_hasAlias_3 : zOK l D tc A nS xs mM_X10_hasAlias 3 q_X10_hasAlias_3 := r_callV zEE_ok zTw_gd kls_10 (M2 := mM_X10_findsAlias) (na := 2) lb_125 calV_X10_findsAlias rfl rfl w_492 (by decide +kernel) ok_X10_hasAlias_6
theorem ok_X10_hasAlias_2 : zOK l D tc A nS xs mM_X10_hasAlias 2 q_X10_hasAlias_2 := s_iconst (n := 0) (by decide) (by decide +kernel) (by decide +kernel) ok_X10_hasAlias_3
theorem ok_X10_hasAlias_1 : zOK l D tc A nS xs mM_X10_hasAlias 1 q_X10_hasAlias_1 := s_iload_n (q := 1) rfl (by decide +kernel) (by decide +kernel) ok_X10_hasAlias_2
theorem ok_X10_hasAlias_0 : zOK l D tc A nS xs mM_X10_hasAlias 0 q_X10_hasAlias_0 := s_aload_n (q := 0) rfl (by decide +kernel) (by decide +kernel) ok_X10_hasAlias_1
theorem ok_X10_init_43 : zOK l D tc A nS xs mM_X10_init 43 q_X10_init_43 := s_vret rfl (by decide +kernel)
theorem ok_X10_init_40 : zOK l D tc A nS xs mM_X10_init 40 q_X10_init_40 := r_putf kls_10 ty_10_7 zck_int (by decide) tx_10_7 rfl w_473 (by decide +kernel) ok_X10_init_43
theorem ok_X10_init_39 : zOK l D tc A nS xs mM_X10_init 39 q_X10_init_39 := s_iconst (n := (-1)) (by decide) (by decide +kernel) (by decide +kernel) ok_X10_init_40
theorem ok_X10_init_38 : zOK l D tc A nS xs mM_X10_init 38 q_X10_init_38 := s_aload_n (q := 0) rfl (by decide +kernel) (by decide +kernel) ok_X10_init_39
theorem ok_X10_init_35 : zOK l D tc A nS xs mM_X10_init 35 q_X10_init_35 := r_putf kls_10 ty_10_3 zck_int (by decide) tx_10_3 rfl w_466 (by decide +kernel) ok_X10_init_38
theorem ok_X10_init_32 : zOK l D tc A nS xs mM_X10_init 32 q_X10_init_32 := s_sipush (n := 6000) (by decide) (by decide +kernel) (by decide +kernel) ok_X10_init_35
theorem ok_X10_init_31 : zOK l D tc A nS xs mM_X10_init 31 q_X10_init_31 := s_aload_n (q := 0) rfl (by decide +kernel) (by decide +kernel) ok_X10_init_32
theorem ok_X10_init_28 : zOK l D tc A nS xs mM_X10_init 28 q_X10_init_28 := r_putF kls_10 ty_10_2 (zck_arr _) (by decide) tx_10_2 rfl rfl rfl w_467 (by decide +kernel) ok_X10_init_31
theorem ok_X10_init_26 : zOK l D tc A nS xs mM_X10_init 26 q_X10_init_26 := r_newa (t0 := 0) (atype := .int) (ty := .int) rfl (by decide) rfl rfl z_RA_int rfl (by decide) w_109 (by decide +kernel) ok_X10_init_28
theorem ok_X10_init_23 : zOK l D tc A nS xs mM_X10_init 23 q_X10_init_23 := s_sipush (n := 18120) (by decide) (by decide +kernel) (by decide +kernel) ok_X10_init_26
theorem ok_X10_init_22 : zOK l D tc A nS xs mM_X10_init 22 q_X10_init_22 := s_aload_n (q := 0) rfl (by decide +kernel) (by decide +kernel) ok_X10_init_23
theorem ok_X10_init_19 : zOK l D tc A nS xs mM_X10_init 19 q_X10_init_19 := r_putF kls_10 ty_10_1 (zck_arr _) (by decide) tx_10_1 rfl rfl rfl w_468 (by decide +kernel) ok_X10_init_22
theorem ok_X10_init_17 : zOK l D tc A nS xs mM_X10_init 17 q_X10_init_17 := r_newa (t0 := 0) (atype := .int) (ty := .int) rfl (by decide) rfl rfl z_RA_int rfl (by decide) w_109 (by decide +kernel) ok_X10_init_19
theorem ok_X10_init_14 : zOK l D tc A nS xs mM_X10_init 14 q_X10_init_14 := s_sipush (n := 18120) (by decide) (by decide +kernel) (by decide +kernel) ok_X10_init_17
theorem ok_X10_init_13 : zOK l D tc A nS xs mM_X10_init 13 q_X10_init_13 := s_aload_n (q := 0) rfl (by decide +kernel) (by decide +kernel) ok_X10_init_14
theorem ok_X10_init_10 : zOK l D tc A nS xs mM_X10_init 10 q_X10_init_10 := r_putF kls_10 ty_10_0 (zck_arr _) (by decide) tx_10_0 rfl rfl rfl w_469 (by decide +kernel) ok_X10_init_13
theorem ok_X10_init_8 : zOK l D tc A nS xs mM_X10_init 8 q_X10_init_8 := r_newa (t0 := 0) (atype := .int) (ty := .int) rfl (by decide) rfl rfl z_RA_int rfl (by decide) w_109 (by decide +kernel) ok_X10_init_10
theorem ok_X10_init_5 : zOK l D tc A nS xs mM_X10_init 5 q_X10_init_5 := s_sipush (n := 18120) (by decide) (by decide +kernel) (by decide +kernel) ok_X10_init_8
theorem ok_X10_init_4 : zOK l D tc A nS xs mM_X10_init 4 q_X10_init_4 := s_aload_n (q := 0) rfl (by decide +kernel) (by decide +kernel) ok_X10_init_5
theorem ok_X10_init_1 : zOK l D tc A nS xs mM_X10_init 1 q_X10_init_1 := s_oinit w_495 w_112 w_oi (by decide +kernel) ok_X10_init_4
theorem ok_X10_init_0 : zOK l D tc A nS xs mM_X10_init 0 q_X10_init_0 := s_aload_n (q := 0) rfl (by decide +kernel) (by decide +kernel) ok_X10_init_1
theorem ok_X10_isCons_29 : zOK l D tc A nS xs mM_X10_isCons 29 q_X10_isCons_29 := s_zret rfl (by decide +kernel)
theorem ok_X10_isCons_28 : zOK l D tc A nS xs mM_X10_isCons 28 q_X10_isCons_28 := s_iconst (n := 0) (by decide) (by decide +kernel) (by decide +kernel) ok_X10_isCons_29
theorem ok_X10_isCons_25 : zOK l D tc A nS xs mM_X10_isCons 25 q_X10_isCons_25 := s_goto (tgt := 29) (off := 4) (by decide +kernel) (by decide) ok_X10_isCons_29
theorem ok_X10_isCons_24 : zOK l D tc A nS xs mM_X10_isCons 24 q_X10_isCons_24 := s_iconst (n := 1) (by decide) (by decide +kernel) (by decide +kernel) ok_X10_isCons_25
theorem ok_X10_isCons_21 : zOK l D tc A nS xs mM_X10_isCons 21 q_X10_isCons_21 := s_icmp_ne (tgt := 28) (off := 7) (by decide +kernel) (by decide) ok_X10_isCons_28 ok_X10_isCons_24
theorem ok_X10_isCons_20 : zOK l D tc A nS xs mM_X10_isCons 20 q_X10_isCons_20 := s_iconst (n := 4) (by decide) (by decide +kernel) (by decide +kernel) ok_X10_isCons_21
theorem ok_X10_isCons_19 : zOK l D tc A nS xs mM_X10_isCons 19 q_X10_isCons_19 := s_iand (by decide +kernel) ok_X10_isCons_20
theorem ok_X10_isCons_17 : zOK l D tc A nS xs mM_X10_isCons 17 q_X10_isCons_17 := s_bipush (n := 7) (by decide) (by decide +kernel) (by decide +kernel) ok_X10_isCons_19
theorem ok_X10_isCons_16 : zOK l D tc A nS xs mM_X10_isCons 16 q_X10_isCons_16 := s_iald (t0 := 0) (by decide) (by decide) rfl (by decide +kernel) ok_X10_isCons_17
theorem ok_X10_isCons_15 : zOK l D tc A nS xs mM_X10_isCons 15 q_X10_isCons_15 := s_iload_n (q := 1) rfl (by decide +kernel) (by decide +kernel) ok_X10_isCons_16
theorem ok_X10_isCons_12 : zOK l D tc A nS xs mM_X10_isCons 12 q_X10_isCons_12 := r_getf kls_10 (by decide) tx_10_0 rfl w_469 (by decide +kernel) ok_X10_isCons_15
theorem ok_X10_isCons_11 : zOK l D tc A nS xs mM_X10_isCons 11 q_X10_isCons_11 := s_aload_n (q := 0) rfl (by decide +kernel) (by decide +kernel) ok_X10_isCons_12
theorem ok_X10_isCons_8 : zOK l D tc A nS xs mM_X10_isCons 8 q_X10_isCons_8 := s_icmp_ge (tgt := 28) (off := 20) (by decide +kernel) (by decide) ok_X10_isCons_28 ok_X10_isCons_11
theorem ok_X10_isCons_5 : zOK l D tc A nS xs mM_X10_isCons 5 q_X10_isCons_5 := s_sipush (n := 18120) (by decide) (by decide +kernel) (by decide +kernel) ok_X10_isCons_8
theorem ok_X10_isCons_4 : zOK l D tc A nS xs mM_X10_isCons 4 q_X10_isCons_4 := s_iload_n (q := 1) rfl (by decide +kernel) (by decide +kernel) ok_X10_isCons_5
theorem ok_X10_isCons_1 : zOK l D tc A nS xs mM_X10_isCons 1 q_X10_isCons_1 := s_if_lt (tgt := 28) (off := 27) (by decide +kernel) (by decide) ok_X10_isCons_28 ok_X10_isCons_4
theorem ok_X10_isCons_0 : zOK l D tc A nS xs mM_X10_isCons 0 q_X10_isCons_0 := s_iload_n (q := 1) rfl (by decide +kernel) (by decide +kernel) ok_X10_isCons_1
theorem ok_X10_isName_42 : zOK l D tc A nS xs mM_X10_isName 42 q_X10_isName_42 := s_zret rfl (by decide +kernel)
theorem ok_X10_isName_38 : zOK l D tc A nS xs mM_X10_isName 38 q_X10_isName_38 := s_goto (tgt := 42) (off := 4) (by decide +kernel) (by decide) ok_X10_isName_42
theorem ok_X10_isName_37 : zOK l D tc A nS xs mM_X10_isName 37 q_X10_isName_37 := s_iconst (n := 1) (by decide) (by decide +kernel) (by decide +kernel) ok_X10_isName_38
theorem ok_X10_isName_21 : zOK l D tc A nS xs mM_X10_isName 21 q_X10_isName_21 := s_icmp_eq (tgt := 37) (off := 16) (by decide +kernel) (by decide) ok_X10_isName_37 s_none
theorem ok_X10_isName_20 : zOK l D tc A nS xs mM_X10_isName 20 q_X10_isName_20 := s_iconst (n := 2) (by decide) (by decide +kernel) (by decide +kernel) ok_X10_isName_21
theorem ok_X10_isName_19 : zOK l D tc A nS xs mM_X10_isName 19 q_X10_isName_19 := s_iand (by decide +kernel) ok_X10_isName_20
theorem ok_X10_isName_17 : zOK l D tc A nS xs mM_X10_isName 17 q_X10_isName_17 := s_bipush (n := 7) (by decide) (by decide +kernel) (by decide +kernel) ok_X10_isName_19
theorem ok_X10_isName_16 : zOK l D tc A nS xs mM_X10_isName 16 q_X10_isName_16 := s_iald (t0 := 0) (by decide) (by decide) rfl (by decide +kernel) ok_X10_isName_17
theorem ok_X10_isName_15 : zOK l D tc A nS xs mM_X10_isName 15 q_X10_isName_15 := s_iload_n (q := 1) rfl (by decide +kernel) (by decide +kernel) ok_X10_isName_16
theorem ok_X10_isName_12 : zOK l D tc A nS xs mM_X10_isName 12 q_X10_isName_12 := r_getf kls_10 (by decide) tx_10_0 rfl w_469 (by decide +kernel) ok_X10_isName_15
theorem ok_X10_isName_11 : zOK l D tc A nS xs mM_X10_isName 11 q_X10_isName_11 := s_aload_n (q := 0) rfl (by decide +kernel) (by decide +kernel) ok_X10_isName_12
theorem ok_X10_isName_8 : zOK l D tc A nS xs mM_X10_isName 8 q_X10_isName_8 := s_icmp_ge (tgt := 41) (off := 33) (by decide +kernel) (by decide) s_none ok_X10_isName_11
theorem ok_X10_isName_5 : zOK l D tc A nS xs mM_X10_isName 5 q_X10_isName_5 := s_sipush (n := 18120) (by decide) (by decide +kernel) (by decide +kernel) ok_X10_isName_8
theorem ok_X10_isName_4 : zOK l D tc A nS xs mM_X10_isName 4 q_X10_isName_4 := s_iload_n (q := 1) rfl (by decide +kernel) (by decide +kernel) ok_X10_isName_5
theorem ok_X10_isName_1 : zOK l D tc A nS xs mM_X10_isName 1 q_X10_isName_1 := s_if_lt (tgt := 41) (off := 40) (by decide +kernel) (by decide) s_none ok_X10_isName_4
theorem ok_X10_isName_0 : zOK l D tc A nS xs mM_X10_isName 0 q_X10_isName_0 := s_iload_n (q := 1) rfl (by decide +kernel) (by decide +kernel) ok_X10_isName_1
theorem ok_X10_keep_6 : zOK l D tc A nS xs mM_X10_keep 6 q_X10_keep_6 := s_iret rfl (by decide +kernel)
theorem ok_X10_keep_3 : zOK l D tc A nS xs mM_X10_keep 3 q_X10_keep_3 := r_callV zEE_ok zTw_gd kls_10 (M2 := mM_X10_copy) (na := 2) lb_121 calV_X10_copy rfl rfl w_487 (by decide +kernel) ok_X10_keep_6
theorem ok_X10_keep_2 : zOK l D tc A nS xs mM_X10_keep 2 q_X10_keep_2 := s_iconst (n := 0) (by decide) (by decide +kernel) (by decide +kernel) ok_X10_keep_3
theorem ok_X10_keep_1 : zOK l D tc A nS xs mM_X10_keep 1 q_X10_keep_1 := s_iload_n (q := 1) rfl (by decide +kernel) (by decide +kernel) ok_X10_keep_2
theorem ok_X10_keep_0 : zOK l D tc A nS xs mM_X10_keep 0 q_X10_keep_0 := s_aload_n (q := 0) rfl (by decide +kernel) (by decide +kernel) ok_X10_keep_1
theorem ok_X10_kind_24 : zOK l D tc A nS xs mM_X10_kind 24 q_X10_kind_24 := s_iret rfl (by decide +kernel)
theorem ok_X10_kind_20 : zOK l D tc A nS xs mM_X10_kind 20 q_X10_kind_20 := s_goto (tgt := 24) (off := 4) (by decide +kernel) (by decide) ok_X10_kind_24
theorem ok_X10_kind_19 : zOK l D tc A nS xs mM_X10_kind 19 q_X10_kind_19 := s_iand (by decide +kernel) ok_X10_kind_20
theorem ok_X10_kind_17 : zOK l D tc A nS xs mM_X10_kind 17 q_X10_kind_17 := s_bipush (n := 7) (by decide) (by decide +kernel) (by decide +kernel) ok_X10_kind_19
theorem ok_X10_kind_16 : zOK l D tc A nS xs mM_X10_kind 16 q_X10_kind_16 := s_iald (t0 := 0) (by decide) (by decide) rfl (by decide +kernel) ok_X10_kind_17
theorem ok_X10_kind_15 : zOK l D tc A nS xs mM_X10_kind 15 q_X10_kind_15 := s_iload_n (q := 1) rfl (by decide +kernel) (by decide +kernel) ok_X10_kind_16
theorem ok_X10_kind_12 : zOK l D tc A nS xs mM_X10_kind 12 q_X10_kind_12 := r_getf kls_10 (by decide) tx_10_0 rfl w_469 (by decide +kernel) ok_X10_kind_15
theorem ok_X10_kind_11 : zOK l D tc A nS xs mM_X10_kind 11 q_X10_kind_11 := s_aload_n (q := 0) rfl (by decide +kernel) (by decide +kernel) ok_X10_kind_12
theorem ok_X10_kind_8 : zOK l D tc A nS xs mM_X10_kind 8 q_X10_kind_8 := s_icmp_ge (tgt := 23) (off := 15) (by decide +kernel) (by decide) s_none ok_X10_kind_11
theorem ok_X10_kind_5 : zOK l D tc A nS xs mM_X10_kind 5 q_X10_kind_5 := s_sipush (n := 18120) (by decide) (by decide +kernel) (by decide +kernel) ok_X10_kind_8
theorem ok_X10_kind_4 : zOK l D tc A nS xs mM_X10_kind 4 q_X10_kind_4 := s_iload_n (q := 1) rfl (by decide +kernel) (by decide +kernel) ok_X10_kind_5
theorem ok_X10_kind_1 : zOK l D tc A nS xs mM_X10_kind 1 q_X10_kind_1 := s_if_lt (tgt := 23) (off := 22) (by decide +kernel) (by decide) s_none ok_X10_kind_4
theorem ok_X10_kind_0 : zOK l D tc A nS xs mM_X10_kind 0 q_X10_kind_0 := s_iload_n (q := 1) rfl (by decide +kernel) (by decide +kernel) ok_X10_kind_1
theorem ok_X10_measure_16 : zOK l D tc A nS xs mM_X10_measure 16 q_X10_measure_16 := s_iret rfl (by decide +kernel)
theorem ok_X10_measure_13 : zOK l D tc A nS xs mM_X10_measure 13 q_X10_measure_13 := r_getf kls_10 (by decide) tx_10_8 rfl w_496 (by decide +kernel) ok_X10_measure_16
theorem ok_X10_measure_12 : zOK l D tc A nS xs mM_X10_measure 12 q_X10_measure_12 := s_aload_n (q := 0) rfl (by decide +kernel) (by decide +kernel) ok_X10_measure_13
theorem ok_X10_measure_9 : zOK l D tc A nS xs mM_X10_measure 9 q_X10_measure_9 := r_callV zEE_ok zTw_gd kls_10 (M2 := mM_X10_weigh) (na := 3) lb_143 calV_X10_weigh rfl rfl w_497 (by decide +kernel) ok_X10_measure_12
theorem ok_X10_measure_8 : zOK l D tc A nS xs mM_X10_measure 8 q_X10_measure_8 := s_iload_n (q := 3) rfl (by decide +kernel) (by decide +kernel) ok_X10_measure_9
theorem ok_X10_measure_7 : zOK l D tc A nS xs mM_X10_measure 7 q_X10_measure_7 := s_iload_n (q := 2) rfl (by decide +kernel) (by decide +kernel) ok_X10_measure_8
theorem ok_X10_measure_6 : zOK l D tc A nS xs mM_X10_measure 6 q_X10_measure_6 := s_iload_n (q := 1) rfl (by decide +kernel) (by decide +kernel) ok_X10_measure_7
theorem ok_X10_measure_5 : zOK l D tc A nS xs mM_X10_measure 5 q_X10_measure_5 := s_aload_n (q := 0) rfl (by decide +kernel) (by decide +kernel) ok_X10_measure_6
theorem ok_X10_measure_2 : zOK l D tc A nS xs mM_X10_measure 2 q_X10_measure_2 := r_putf kls_10 ty_10_8 zck_int (by decide) tx_10_8 rfl w_496 (by decide +kernel) ok_X10_measure_5
theorem ok_X10_measure_1 : zOK l D tc A nS xs mM_X10_measure 1 q_X10_measure_1 := s_iconst (n := 0) (by decide) (by decide +kernel) (by decide +kernel) ok_X10_measure_2
theorem ok_X10_measure_0 : zOK l D tc A nS xs mM_X10_measure 0 q_X10_measure_0 := s_aload_n (q := 0) rfl (by decide +kernel) (by decide +kernel) ok_X10_measure_1
theorem ok_X10_nameOf_51 : zOK l D tc A nS xs mM_X10_nameOf 51 q_X10_nameOf_51 := s_iret rfl (by decide +kernel)
theorem ok_X10_nameOf_50 : zOK l D tc A nS xs mM_X10_nameOf 50 q_X10_nameOf_50 := s_iconst (n := (-1)) (by decide) (by decide +kernel) (by decide +kernel) ok_X10_nameOf_51
theorem ok_X10_nameOf_39 : zOK l D tc A nS xs mM_X10_nameOf 39 q_X10_nameOf_39 := s_icmp_ne (tgt := 50) (off := 11) (by decide +kernel) (by decide) ok_X10_nameOf_50 s_none
theorem ok_X10_nameOf_38 : zOK l D tc A nS xs mM_X10_nameOf 38 q_X10_nameOf_38 := s_iconst (n := 3) (by decide) (by decide +kernel) (by decide +kernel) ok_X10_nameOf_39
theorem ok_X10_nameOf_37 : zOK l D tc A nS xs mM_X10_nameOf 37 q_X10_nameOf_37 := s_iload_n (q := 2) rfl (by decide +kernel) (by decide +kernel) ok_X10_nameOf_38
theorem ok_X10_nameOf_36 : zOK l D tc A nS xs mM_X10_nameOf 36 q_X10_nameOf_36 := s_iret rfl (by decide +kernel)
theorem ok_X10_nameOf_35 : zOK l D tc A nS xs mM_X10_nameOf 35 q_X10_nameOf_35 := s_iald (t0 := 0) (by decide) (by decide) rfl (by decide +kernel) ok_X10_nameOf_36
theorem ok_X10_nameOf_34 : zOK l D tc A nS xs mM_X10_nameOf 34 q_X10_nameOf_34 := s_iload_n (q := 1) rfl (by decide +kernel) (by decide +kernel) ok_X10_nameOf_35
theorem ok_X10_nameOf_31 : zOK l D tc A nS xs mM_X10_nameOf 31 q_X10_nameOf_31 := r_getf kls_10 (by decide) tx_10_1 rfl w_468 (by decide +kernel) ok_X10_nameOf_34
theorem ok_X10_nameOf_30 : zOK l D tc A nS xs mM_X10_nameOf 30 q_X10_nameOf_30 := s_aload_n (q := 0) rfl (by decide +kernel) (by decide +kernel) ok_X10_nameOf_31
theorem ok_X10_nameOf_27 : zOK l D tc A nS xs mM_X10_nameOf 27 q_X10_nameOf_27 := s_icmp_ne (tgt := 37) (off := 10) (by decide +kernel) (by decide) ok_X10_nameOf_37 ok_X10_nameOf_30
theorem ok_X10_nameOf_26 : zOK l D tc A nS xs mM_X10_nameOf 26 q_X10_nameOf_26 := s_iconst (n := 2) (by decide) (by decide +kernel) (by decide +kernel) ok_X10_nameOf_27
theorem ok_X10_nameOf_25 : zOK l D tc A nS xs mM_X10_nameOf 25 q_X10_nameOf_25 := s_iload_n (q := 2) rfl (by decide +kernel) (by decide +kernel) ok_X10_nameOf_26
theorem ok_X10_nameOf_24 : zOK l D tc A nS xs mM_X10_nameOf 24 q_X10_nameOf_24 := s_istore_n (q := 2) rfl (by decide +kernel) (by decide +kernel) ok_X10_nameOf_25
theorem ok_X10_nameOf_20 : zOK l D tc A nS xs mM_X10_nameOf 20 q_X10_nameOf_20 := s_goto (tgt := 24) (off := 4) (by decide +kernel) (by decide) ok_X10_nameOf_24
theorem ok_X10_nameOf_19 : zOK l D tc A nS xs mM_X10_nameOf 19 q_X10_nameOf_19 := s_iand (by decide +kernel) ok_X10_nameOf_20
theorem ok_X10_nameOf_17 : zOK l D tc A nS xs mM_X10_nameOf 17 q_X10_nameOf_17 := s_bipush (n := 7) (by decide) (by decide +kernel) (by decide +kernel) ok_X10_nameOf_19
theorem ok_X10_nameOf_16 : zOK l D tc A nS xs mM_X10_nameOf 16 q_X10_nameOf_16 := s_iald (t0 := 0) (by decide) (by decide) rfl (by decide +kernel) ok_X10_nameOf_17
theorem ok_X10_nameOf_15 : zOK l D tc A nS xs mM_X10_nameOf 15 q_X10_nameOf_15 := s_iload_n (q := 1) rfl (by decide +kernel) (by decide +kernel) ok_X10_nameOf_16
theorem ok_X10_nameOf_12 : zOK l D tc A nS xs mM_X10_nameOf 12 q_X10_nameOf_12 := r_getf kls_10 (by decide) tx_10_0 rfl w_469 (by decide +kernel) ok_X10_nameOf_15
theorem ok_X10_nameOf_11 : zOK l D tc A nS xs mM_X10_nameOf 11 q_X10_nameOf_11 := s_aload_n (q := 0) rfl (by decide +kernel) (by decide +kernel) ok_X10_nameOf_12
theorem ok_X10_nameOf_8 : zOK l D tc A nS xs mM_X10_nameOf 8 q_X10_nameOf_8 := s_icmp_ge (tgt := 23) (off := 15) (by decide +kernel) (by decide) s_none ok_X10_nameOf_11
theorem ok_X10_nameOf_5 : zOK l D tc A nS xs mM_X10_nameOf 5 q_X10_nameOf_5 := s_sipush (n := 18120) (by decide) (by decide +kernel) (by decide +kernel) ok_X10_nameOf_8
theorem ok_X10_nameOf_4 : zOK l D tc A nS xs mM_X10_nameOf 4 q_X10_nameOf_4 := s_iload_n (q := 1) rfl (by decide +kernel) (by decide +kernel) ok_X10_nameOf_5
theorem ok_X10_nameOf_1 : zOK l D tc A nS xs mM_X10_nameOf 1 q_X10_nameOf_1 := s_if_lt (tgt := 23) (off := 22) (by decide +kernel) (by decide) s_none ok_X10_nameOf_4
theorem ok_X10_nameOf_0 : zOK l D tc A nS xs mM_X10_nameOf 0 q_X10_nameOf_0 := s_iload_n (q := 1) rfl (by decide +kernel) (by decide +kernel) ok_X10_nameOf_1
theorem ok_X10_place_27 : zOK l D tc A nS xs mM_X10_place 27 q_X10_place_27 := s_iret rfl (by decide +kernel)
theorem ok_X10_place_23 : zOK l D tc A nS xs mM_X10_place 23 q_X10_place_23 := s_goto (tgt := 27) (off := 4) (by decide +kernel) (by decide) ok_X10_place_27
theorem ok_X10_place_22 : zOK l D tc A nS xs mM_X10_place 22 q_X10_place_22 := s_iand (by decide +kernel) ok_X10_place_23
theorem ok_X10_place_19 : zOK l D tc A nS xs mM_X10_place 19 q_X10_place_19 := s_sipush (n := 2047) (by decide) (by decide +kernel) (by decide +kernel) ok_X10_place_22
theorem ok_X10_place_18 : zOK l D tc A nS xs mM_X10_place 18 q_X10_place_18 := s_ishr (by decide +kernel) ok_X10_place_19
theorem ok_X10_place_17 : zOK l D tc A nS xs mM_X10_place 17 q_X10_place_17 := s_iconst (n := 3) (by decide) (by decide +kernel) (by decide +kernel) ok_X10_place_18
theorem ok_X10_place_16 : zOK l D tc A nS xs mM_X10_place 16 q_X10_place_16 := s_iald (t0 := 0) (by decide) (by decide) rfl (by decide +kernel) ok_X10_place_17
theorem ok_X10_place_15 : zOK l D tc A nS xs mM_X10_place 15 q_X10_place_15 := s_iload_n (q := 1) rfl (by decide +kernel) (by decide +kernel) ok_X10_place_16
theorem ok_X10_place_12 : zOK l D tc A nS xs mM_X10_place 12 q_X10_place_12 := r_getf kls_10 (by decide) tx_10_0 rfl w_469 (by decide +kernel) ok_X10_place_15
theorem ok_X10_place_11 : zOK l D tc A nS xs mM_X10_place 11 q_X10_place_11 := s_aload_n (q := 0) rfl (by decide +kernel) (by decide +kernel) ok_X10_place_12
theorem ok_X10_place_8 : zOK l D tc A nS xs mM_X10_place 8 q_X10_place_8 := s_icmp_ge (tgt := 26) (off := 18) (by decide +kernel) (by decide) s_none ok_X10_place_11
theorem ok_X10_place_5 : zOK l D tc A nS xs mM_X10_place 5 q_X10_place_5 := s_sipush (n := 18120) (by decide) (by decide +kernel) (by decide +kernel) ok_X10_place_8
theorem ok_X10_place_4 : zOK l D tc A nS xs mM_X10_place 4 q_X10_place_4 := s_iload_n (q := 1) rfl (by decide +kernel) (by decide +kernel) ok_X10_place_5
theorem ok_X10_place_1 : zOK l D tc A nS xs mM_X10_place 1 q_X10_place_1 := s_if_lt (tgt := 26) (off := 25) (by decide +kernel) (by decide) s_none ok_X10_place_4
theorem ok_X10_place_0 : zOK l D tc A nS xs mM_X10_place 0 q_X10_place_0 := s_iload_n (q := 1) rfl (by decide +kernel) (by decide +kernel) ok_X10_place_1
theorem ok_X10_repeats_140 : zOK l D tc A nS xs mM_X10_repeats 140 q_X10_repeats_140 := s_zret rfl (by decide +kernel)
theorem ok_X10_repeats_139 : zOK l D tc A nS xs mM_X10_repeats 139 q_X10_repeats_139 := s_iconst (n := 0) (by decide) (by decide +kernel) (by decide +kernel) ok_X10_repeats_140
theorem ok_X10_repeats_136 : zOK l D tc A nS xs mM_X10_repeats 136 q_X10_repeats_136 := s_goto (tgt := 140) (off := 4) (by decide +kernel) (by decide) ok_X10_repeats_140
theorem ok_X10_repeats_135 : zOK l D tc A nS xs mM_X10_repeats 135 q_X10_repeats_135 := s_iconst (n := 1) (by decide) (by decide +kernel) (by decide +kernel) ok_X10_repeats_136
theorem ok_X10_repeats_132 : zOK l D tc A nS xs mM_X10_repeats 132 q_X10_repeats_132 := s_icmp_ne (tgt := 139) (off := 7) (by decide +kernel) (by decide) ok_X10_repeats_139 ok_X10_repeats_135
theorem ok_X10_repeats_130 : zOK l D tc A nS xs mM_X10_repeats 130 q_X10_repeats_130 := s_bipush (n := 9) (by decide) (by decide +kernel) (by decide +kernel) ok_X10_repeats_132
theorem ok_X10_repeats_129 : zOK l D tc A nS xs mM_X10_repeats 129 q_X10_repeats_129 := s_ishr (by decide +kernel) ok_X10_repeats_130
theorem ok_X10_repeats_127 : zOK l D tc A nS xs mM_X10_repeats 127 q_X10_repeats_127 := s_bipush (n := 14) (by decide) (by decide +kernel) (by decide +kernel) ok_X10_repeats_129
theorem ok_X10_repeats_126 : zOK l D tc A nS xs mM_X10_repeats 126 q_X10_repeats_126 := s_iald (t0 := 0) (by decide) (by decide) rfl (by decide +kernel) ok_X10_repeats_127
theorem ok_X10_repeats_125 : zOK l D tc A nS xs mM_X10_repeats 125 q_X10_repeats_125 := s_iload_n (q := 3) rfl (by decide +kernel) (by decide +kernel) ok_X10_repeats_126
theorem ok_X10_repeats_122 : zOK l D tc A nS xs mM_X10_repeats 122 q_X10_repeats_122 := r_getf kls_10 (by decide) tx_10_0 rfl w_469 (by decide +kernel) ok_X10_repeats_125
theorem ok_X10_repeats_121 : zOK l D tc A nS xs mM_X10_repeats 121 q_X10_repeats_121 := s_aload_n (q := 0) rfl (by decide +kernel) (by decide +kernel) ok_X10_repeats_122
theorem ok_X10_repeats_118 : zOK l D tc A nS xs mM_X10_repeats 118 q_X10_repeats_118 := s_if_eq (tgt := 139) (off := 21) (by decide +kernel) (by decide) ok_X10_repeats_139 ok_X10_repeats_121
theorem ok_X10_repeats_116 : zOK l D tc A nS xs mM_X10_repeats 116 q_X10_repeats_116 := s_iload (by decide +kernel) (by decide +kernel) ok_X10_repeats_118
theorem ok_X10_repeats_114 : zOK l D tc A nS xs mM_X10_repeats 114 q_X10_repeats_114 := s_istore (by decide +kernel) (by decide +kernel) ok_X10_repeats_116
theorem ok_X10_repeats_113 : zOK l D tc A nS xs mM_X10_repeats 113 q_X10_repeats_113 := s_iconst (n := 0) (by decide) (by decide +kernel) (by decide +kernel) ok_X10_repeats_114
theorem ok_X10_repeats_110 : zOK l D tc A nS xs mM_X10_repeats 110 q_X10_repeats_110 := s_goto (tgt := 114) (off := 4) (by decide +kernel) (by decide) ok_X10_repeats_114
theorem ok_X10_repeats_109 : zOK l D tc A nS xs mM_X10_repeats 109 q_X10_repeats_109 := s_iconst (n := 1) (by decide) (by decide +kernel) (by decide +kernel) ok_X10_repeats_110
theorem ok_X10_repeats_106 : zOK l D tc A nS xs mM_X10_repeats 106 q_X10_repeats_106 := s_icmp_ne (tgt := 113) (off := 7) (by decide +kernel) (by decide) ok_X10_repeats_113 ok_X10_repeats_109
theorem ok_X10_repeats_105 : zOK l D tc A nS xs mM_X10_repeats 105 q_X10_repeats_105 := s_iconst (n := 3) (by decide) (by decide +kernel) (by decide +kernel) ok_X10_repeats_106
theorem ok_X10_repeats_104 : zOK l D tc A nS xs mM_X10_repeats 104 q_X10_repeats_104 := s_iand (by decide +kernel) ok_X10_repeats_105
theorem ok_X10_repeats_102 : zOK l D tc A nS xs mM_X10_repeats 102 q_X10_repeats_102 := s_bipush (n := 7) (by decide) (by decide +kernel) (by decide +kernel) ok_X10_repeats_104
theorem ok_X10_repeats_101 : zOK l D tc A nS xs mM_X10_repeats 101 q_X10_repeats_101 := s_iald (t0 := 0) (by decide) (by decide) rfl (by decide +kernel) ok_X10_repeats_102
theorem ok_X10_repeats_100 : zOK l D tc A nS xs mM_X10_repeats 100 q_X10_repeats_100 := s_iload_n (q := 3) rfl (by decide +kernel) (by decide +kernel) ok_X10_repeats_101
theorem ok_X10_repeats_97 : zOK l D tc A nS xs mM_X10_repeats 97 q_X10_repeats_97 := r_getf kls_10 (by decide) tx_10_0 rfl w_469 (by decide +kernel) ok_X10_repeats_100
theorem ok_X10_repeats_96 : zOK l D tc A nS xs mM_X10_repeats 96 q_X10_repeats_96 := s_aload_n (q := 0) rfl (by decide +kernel) (by decide +kernel) ok_X10_repeats_97
theorem ok_X10_repeats_93 : zOK l D tc A nS xs mM_X10_repeats 93 q_X10_repeats_93 := s_icmp_eq (tgt := 109) (off := 16) (by decide +kernel) (by decide) ok_X10_repeats_109 ok_X10_repeats_96
theorem ok_X10_repeats_92 : zOK l D tc A nS xs mM_X10_repeats 92 q_X10_repeats_92 := s_iconst (n := 2) (by decide) (by decide +kernel) (by decide +kernel) ok_X10_repeats_93
theorem ok_X10_repeats_91 : zOK l D tc A nS xs mM_X10_repeats 91 q_X10_repeats_91 := s_iand (by decide +kernel) ok_X10_repeats_92
theorem ok_X10_repeats_89 : zOK l D tc A nS xs mM_X10_repeats 89 q_X10_repeats_89 := s_bipush (n := 7) (by decide) (by decide +kernel) (by decide +kernel) ok_X10_repeats_91
theorem ok_X10_repeats_88 : zOK l D tc A nS xs mM_X10_repeats 88 q_X10_repeats_88 := s_iald (t0 := 0) (by decide) (by decide) rfl (by decide +kernel) ok_X10_repeats_89
theorem ok_X10_repeats_87 : zOK l D tc A nS xs mM_X10_repeats 87 q_X10_repeats_87 := s_iload_n (q := 3) rfl (by decide +kernel) (by decide +kernel) ok_X10_repeats_88
theorem ok_X10_repeats_84 : zOK l D tc A nS xs mM_X10_repeats 84 q_X10_repeats_84 := r_getf kls_10 (by decide) tx_10_0 rfl w_469 (by decide +kernel) ok_X10_repeats_87
theorem ok_X10_repeats_83 : zOK l D tc A nS xs mM_X10_repeats 83 q_X10_repeats_83 := s_aload_n (q := 0) rfl (by decide +kernel) (by decide +kernel) ok_X10_repeats_84
theorem ok_X10_repeats_82 : zOK l D tc A nS xs mM_X10_repeats 82 q_X10_repeats_82 := s_zret rfl (by decide +kernel)
theorem ok_X10_repeats_81 : zOK l D tc A nS xs mM_X10_repeats 81 q_X10_repeats_81 := s_iconst (n := 0) (by decide) (by decide +kernel) (by decide +kernel) ok_X10_repeats_82
theorem ok_X10_repeats_78 : zOK l D tc A nS xs mM_X10_repeats 78 q_X10_repeats_78 := s_icmp_lt (tgt := 83) (off := 5) (by decide +kernel) (by decide) ok_X10_repeats_83 ok_X10_repeats_81
theorem ok_X10_repeats_75 : zOK l D tc A nS xs mM_X10_repeats 75 q_X10_repeats_75 := s_sipush (n := 18120) (by decide) (by decide +kernel) (by decide +kernel) ok_X10_repeats_78
theorem ok_X10_repeats_74 : zOK l D tc A nS xs mM_X10_repeats 74 q_X10_repeats_74 := s_iload_n (q := 3) rfl (by decide +kernel) (by decide +kernel) ok_X10_repeats_75
theorem ok_X10_repeats_71 : zOK l D tc A nS xs mM_X10_repeats 71 q_X10_repeats_71 := s_if_lt (tgt := 81) (off := 10) (by decide +kernel) (by decide) ok_X10_repeats_81 ok_X10_repeats_74
theorem ok_X10_repeats_70 : zOK l D tc A nS xs mM_X10_repeats 70 q_X10_repeats_70 := s_iload_n (q := 3) rfl (by decide +kernel) (by decide +kernel) ok_X10_repeats_71
theorem ok_X10_repeats_69 : zOK l D tc A nS xs mM_X10_repeats 69 q_X10_repeats_69 := s_istore_n (q := 3) rfl (by decide +kernel) (by decide +kernel) ok_X10_repeats_70
theorem ok_X10_repeats_68 : zOK l D tc A nS xs mM_X10_repeats 68 q_X10_repeats_68 := s_iconst (n := (-1)) (by decide) (by decide +kernel) (by decide +kernel) ok_X10_repeats_69
theorem ok_X10_repeats_65 : zOK l D tc A nS xs mM_X10_repeats 65 q_X10_repeats_65 := s_goto (tgt := 69) (off := 4) (by decide +kernel) (by decide) ok_X10_repeats_69
theorem ok_X10_repeats_64 : zOK l D tc A nS xs mM_X10_repeats 64 q_X10_repeats_64 := s_iald (t0 := 0) (by decide) (by decide) rfl (by decide +kernel) ok_X10_repeats_65
theorem ok_X10_repeats_63 : zOK l D tc A nS xs mM_X10_repeats 63 q_X10_repeats_63 := s_iload_n (q := 2) rfl (by decide +kernel) (by decide +kernel) ok_X10_repeats_64
theorem ok_X10_repeats_60 : zOK l D tc A nS xs mM_X10_repeats 60 q_X10_repeats_60 := r_getf kls_10 (by decide) tx_10_1 rfl w_468 (by decide +kernel) ok_X10_repeats_63
theorem ok_X10_repeats_59 : zOK l D tc A nS xs mM_X10_repeats 59 q_X10_repeats_59 := s_aload_n (q := 0) rfl (by decide +kernel) (by decide +kernel) ok_X10_repeats_60
theorem ok_X10_repeats_56 : zOK l D tc A nS xs mM_X10_repeats 56 q_X10_repeats_56 := s_icmp_ne (tgt := 68) (off := 12) (by decide +kernel) (by decide) ok_X10_repeats_68 ok_X10_repeats_59
theorem ok_X10_repeats_55 : zOK l D tc A nS xs mM_X10_repeats 55 q_X10_repeats_55 := s_iconst (n := 4) (by decide) (by decide +kernel) (by decide +kernel) ok_X10_repeats_56
theorem ok_X10_repeats_54 : zOK l D tc A nS xs mM_X10_repeats 54 q_X10_repeats_54 := s_iand (by decide +kernel) ok_X10_repeats_55
theorem ok_X10_repeats_52 : zOK l D tc A nS xs mM_X10_repeats 52 q_X10_repeats_52 := s_bipush (n := 7) (by decide) (by decide +kernel) (by decide +kernel) ok_X10_repeats_54
theorem ok_X10_repeats_51 : zOK l D tc A nS xs mM_X10_repeats 51 q_X10_repeats_51 := s_iald (t0 := 0) (by decide) (by decide) rfl (by decide +kernel) ok_X10_repeats_52
theorem ok_X10_repeats_50 : zOK l D tc A nS xs mM_X10_repeats 50 q_X10_repeats_50 := s_iload_n (q := 2) rfl (by decide +kernel) (by decide +kernel) ok_X10_repeats_51
theorem ok_X10_repeats_47 : zOK l D tc A nS xs mM_X10_repeats 47 q_X10_repeats_47 := r_getf kls_10 (by decide) tx_10_0 rfl w_469 (by decide +kernel) ok_X10_repeats_50
theorem ok_X10_repeats_46 : zOK l D tc A nS xs mM_X10_repeats 46 q_X10_repeats_46 := s_aload_n (q := 0) rfl (by decide +kernel) (by decide +kernel) ok_X10_repeats_47
theorem ok_X10_repeats_43 : zOK l D tc A nS xs mM_X10_repeats 43 q_X10_repeats_43 := s_icmp_ge (tgt := 68) (off := 25) (by decide +kernel) (by decide) ok_X10_repeats_68 ok_X10_repeats_46
theorem ok_X10_repeats_40 : zOK l D tc A nS xs mM_X10_repeats 40 q_X10_repeats_40 := s_sipush (n := 18120) (by decide) (by decide +kernel) (by decide +kernel) ok_X10_repeats_43
theorem ok_X10_repeats_39 : zOK l D tc A nS xs mM_X10_repeats 39 q_X10_repeats_39 := s_iload_n (q := 2) rfl (by decide +kernel) (by decide +kernel) ok_X10_repeats_40
theorem ok_X10_repeats_36 : zOK l D tc A nS xs mM_X10_repeats 36 q_X10_repeats_36 := s_if_lt (tgt := 68) (off := 32) (by decide +kernel) (by decide) ok_X10_repeats_68 ok_X10_repeats_39
theorem ok_X10_repeats_35 : zOK l D tc A nS xs mM_X10_repeats 35 q_X10_repeats_35 := s_iload_n (q := 2) rfl (by decide +kernel) (by decide +kernel) ok_X10_repeats_36
theorem ok_X10_repeats_34 : zOK l D tc A nS xs mM_X10_repeats 34 q_X10_repeats_34 := s_istore_n (q := 2) rfl (by decide +kernel) (by decide +kernel) ok_X10_repeats_35
theorem ok_X10_repeats_30 : zOK l D tc A nS xs mM_X10_repeats 30 q_X10_repeats_30 := s_goto (tgt := 34) (off := 4) (by decide +kernel) (by decide) ok_X10_repeats_34
theorem ok_X10_repeats_29 : zOK l D tc A nS xs mM_X10_repeats 29 q_X10_repeats_29 := s_iald (t0 := 0) (by decide) (by decide) rfl (by decide +kernel) ok_X10_repeats_30
theorem ok_X10_repeats_28 : zOK l D tc A nS xs mM_X10_repeats 28 q_X10_repeats_28 := s_iload_n (q := 1) rfl (by decide +kernel) (by decide +kernel) ok_X10_repeats_29
theorem ok_X10_repeats_25 : zOK l D tc A nS xs mM_X10_repeats 25 q_X10_repeats_25 := r_getf kls_10 (by decide) tx_10_2 rfl w_467 (by decide +kernel) ok_X10_repeats_28
theorem ok_X10_repeats_24 : zOK l D tc A nS xs mM_X10_repeats 24 q_X10_repeats_24 := s_aload_n (q := 0) rfl (by decide +kernel) (by decide +kernel) ok_X10_repeats_25
theorem ok_X10_repeats_21 : zOK l D tc A nS xs mM_X10_repeats 21 q_X10_repeats_21 := s_icmp_ne (tgt := 33) (off := 12) (by decide +kernel) (by decide) s_none ok_X10_repeats_24
theorem ok_X10_repeats_20 : zOK l D tc A nS xs mM_X10_repeats 20 q_X10_repeats_20 := s_iconst (n := 4) (by decide) (by decide +kernel) (by decide +kernel) ok_X10_repeats_21
theorem ok_X10_repeats_19 : zOK l D tc A nS xs mM_X10_repeats 19 q_X10_repeats_19 := s_iand (by decide +kernel) ok_X10_repeats_20
theorem ok_X10_repeats_17 : zOK l D tc A nS xs mM_X10_repeats 17 q_X10_repeats_17 := s_bipush (n := 7) (by decide) (by decide +kernel) (by decide +kernel) ok_X10_repeats_19
theorem ok_X10_repeats_16 : zOK l D tc A nS xs mM_X10_repeats 16 q_X10_repeats_16 := s_iald (t0 := 0) (by decide) (by decide) rfl (by decide +kernel) ok_X10_repeats_17
theorem ok_X10_repeats_15 : zOK l D tc A nS xs mM_X10_repeats 15 q_X10_repeats_15 := s_iload_n (q := 1) rfl (by decide +kernel) (by decide +kernel) ok_X10_repeats_16
theorem ok_X10_repeats_12 : zOK l D tc A nS xs mM_X10_repeats 12 q_X10_repeats_12 := r_getf kls_10 (by decide) tx_10_0 rfl w_469 (by decide +kernel) ok_X10_repeats_15
theorem ok_X10_repeats_11 : zOK l D tc A nS xs mM_X10_repeats 11 q_X10_repeats_11 := s_aload_n (q := 0) rfl (by decide +kernel) (by decide +kernel) ok_X10_repeats_12
theorem ok_X10_repeats_8 : zOK l D tc A nS xs mM_X10_repeats 8 q_X10_repeats_8 := s_icmp_ge (tgt := 33) (off := 25) (by decide +kernel) (by decide) s_none ok_X10_repeats_11
theorem ok_X10_repeats_5 : zOK l D tc A nS xs mM_X10_repeats 5 q_X10_repeats_5 := s_sipush (n := 18120) (by decide) (by decide +kernel) (by decide +kernel) ok_X10_repeats_8
theorem ok_X10_repeats_4 : zOK l D tc A nS xs mM_X10_repeats 4 q_X10_repeats_4 := s_iload_n (q := 1) rfl (by decide +kernel) (by decide +kernel) ok_X10_repeats_5
theorem ok_X10_repeats_1 : zOK l D tc A nS xs mM_X10_repeats 1 q_X10_repeats_1 := s_if_lt (tgt := 33) (off := 32) (by decide +kernel) (by decide) s_none ok_X10_repeats_4
theorem ok_X10_repeats_0 : zOK l D tc A nS xs mM_X10_repeats 0 q_X10_repeats_0 := s_iload_n (q := 1) rfl (by decide +kernel) (by decide +kernel) ok_X10_repeats_1
theorem ok_X10_rest_34 : zOK l D tc A nS xs mM_X10_rest 34 q_X10_rest_34 := s_iret rfl (by decide +kernel)
theorem ok_X10_rest_30 : zOK l D tc A nS xs mM_X10_rest 30 q_X10_rest_30 := s_goto (tgt := 34) (off := 4) (by decide +kernel) (by decide) ok_X10_rest_34
theorem ok_X10_rest_29 : zOK l D tc A nS xs mM_X10_rest 29 q_X10_rest_29 := s_iald (t0 := 0) (by decide) (by decide) rfl (by decide +kernel) ok_X10_rest_30
theorem ok_X10_rest_28 : zOK l D tc A nS xs mM_X10_rest 28 q_X10_rest_28 := s_iload_n (q := 1) rfl (by decide +kernel) (by decide +kernel) ok_X10_rest_29
theorem ok_X10_rest_25 : zOK l D tc A nS xs mM_X10_rest 25 q_X10_rest_25 := r_getf kls_10 (by decide) tx_10_2 rfl w_467 (by decide +kernel) ok_X10_rest_28
theorem ok_X10_rest_24 : zOK l D tc A nS xs mM_X10_rest 24 q_X10_rest_24 := s_aload_n (q := 0) rfl (by decide +kernel) (by decide +kernel) ok_X10_rest_25
theorem ok_X10_rest_21 : zOK l D tc A nS xs mM_X10_rest 21 q_X10_rest_21 := s_icmp_ne (tgt := 33) (off := 12) (by decide +kernel) (by decide) s_none ok_X10_rest_24
theorem ok_X10_rest_20 : zOK l D tc A nS xs mM_X10_rest 20 q_X10_rest_20 := s_iconst (n := 4) (by decide) (by decide +kernel) (by decide +kernel) ok_X10_rest_21
theorem ok_X10_rest_19 : zOK l D tc A nS xs mM_X10_rest 19 q_X10_rest_19 := s_iand (by decide +kernel) ok_X10_rest_20
theorem ok_X10_rest_17 : zOK l D tc A nS xs mM_X10_rest 17 q_X10_rest_17 := s_bipush (n := 7) (by decide) (by decide +kernel) (by decide +kernel) ok_X10_rest_19
theorem ok_X10_rest_16 : zOK l D tc A nS xs mM_X10_rest 16 q_X10_rest_16 := s_iald (t0 := 0) (by decide) (by decide) rfl (by decide +kernel) ok_X10_rest_17
theorem ok_X10_rest_15 : zOK l D tc A nS xs mM_X10_rest 15 q_X10_rest_15 := s_iload_n (q := 1) rfl (by decide +kernel) (by decide +kernel) ok_X10_rest_16
theorem ok_X10_rest_12 : zOK l D tc A nS xs mM_X10_rest 12 q_X10_rest_12 := r_getf kls_10 (by decide) tx_10_0 rfl w_469 (by decide +kernel) ok_X10_rest_15
theorem ok_X10_rest_11 : zOK l D tc A nS xs mM_X10_rest 11 q_X10_rest_11 := s_aload_n (q := 0) rfl (by decide +kernel) (by decide +kernel) ok_X10_rest_12
theorem ok_X10_rest_8 : zOK l D tc A nS xs mM_X10_rest 8 q_X10_rest_8 := s_icmp_ge (tgt := 33) (off := 25) (by decide +kernel) (by decide) s_none ok_X10_rest_11
theorem ok_X10_rest_5 : zOK l D tc A nS xs mM_X10_rest 5 q_X10_rest_5 := s_sipush (n := 18120) (by decide) (by decide +kernel) (by decide +kernel) ok_X10_rest_8
theorem ok_X10_rest_4 : zOK l D tc A nS xs mM_X10_rest 4 q_X10_rest_4 := s_iload_n (q := 1) rfl (by decide +kernel) (by decide +kernel) ok_X10_rest_5
theorem ok_X10_rest_1 : zOK l D tc A nS xs mM_X10_rest 1 q_X10_rest_1 := s_if_lt (tgt := 33) (off := 32) (by decide +kernel) (by decide) s_none ok_X10_rest_4
theorem ok_X10_rest_0 : zOK l D tc A nS xs mM_X10_rest 0 q_X10_rest_0 := s_iload_n (q := 1) rfl (by decide +kernel) (by decide +kernel) ok_X10_rest_1
theorem ok_X10_setFirst_18 : zOK l D tc A nS xs mM_X10_setFirst 18 q_X10_setFirst_18 := s_vret rfl (by decide +kernel)
theorem ok_X10_setFirst_17 : zOK l D tc A nS xs mM_X10_setFirst 17 q_X10_setFirst_17 := s_iast (t0 := 0) (by decide) (by decide) rfl (by decide +kernel) ok_X10_setFirst_18
theorem ok_X10_setFirst_16 : zOK l D tc A nS xs mM_X10_setFirst 16 q_X10_setFirst_16 := s_iload_n (q := 2) rfl (by decide +kernel) (by decide +kernel) ok_X10_setFirst_17
theorem ok_X10_setFirst_15 : zOK l D tc A nS xs mM_X10_setFirst 15 q_X10_setFirst_15 := s_iload_n (q := 1) rfl (by decide +kernel) (by decide +kernel) ok_X10_setFirst_16
theorem ok_X10_setFirst_12 : zOK l D tc A nS xs mM_X10_setFirst 12 q_X10_setFirst_12 := r_getf kls_10 (by decide) tx_10_1 rfl w_468 (by decide +kernel) ok_X10_setFirst_15
theorem ok_X10_setFirst_11 : zOK l D tc A nS xs mM_X10_setFirst 11 q_X10_setFirst_11 := s_aload_n (q := 0) rfl (by decide +kernel) (by decide +kernel) ok_X10_setFirst_12
theorem ok_X10_setFirst_8 : zOK l D tc A nS xs mM_X10_setFirst 8 q_X10_setFirst_8 := s_icmp_ge (tgt := 18) (off := 10) (by decide +kernel) (by decide) ok_X10_setFirst_18 ok_X10_setFirst_11
theorem ok_X10_setFirst_5 : zOK l D tc A nS xs mM_X10_setFirst 5 q_X10_setFirst_5 := s_sipush (n := 18120) (by decide) (by decide +kernel) (by decide +kernel) ok_X10_setFirst_8
theorem ok_X10_setFirst_4 : zOK l D tc A nS xs mM_X10_setFirst 4 q_X10_setFirst_4 := s_iload_n (q := 1) rfl (by decide +kernel) (by decide +kernel) ok_X10_setFirst_5
theorem ok_X10_setFirst_1 : zOK l D tc A nS xs mM_X10_setFirst 1 q_X10_setFirst_1 := s_if_lt (tgt := 18) (off := 17) (by decide +kernel) (by decide) ok_X10_setFirst_18 ok_X10_setFirst_4
theorem ok_X10_setFirst_0 : zOK l D tc A nS xs mM_X10_setFirst 0 q_X10_setFirst_0 := s_iload_n (q := 1) rfl (by decide +kernel) (by decide +kernel) ok_X10_setFirst_1
theorem ok_X10_setRest_18 : zOK l D tc A nS xs mM_X10_setRest 18 q_X10_setRest_18 := s_vret rfl (by decide +kernel)
theorem ok_X10_setRest_17 : zOK l D tc A nS xs mM_X10_setRest 17 q_X10_setRest_17 := s_iast (t0 := 0) (by decide) (by decide) rfl (by decide +kernel) ok_X10_setRest_18
theorem ok_X10_setRest_16 : zOK l D tc A nS xs mM_X10_setRest 16 q_X10_setRest_16 := s_iload_n (q := 2) rfl (by decide +kernel) (by decide +kernel) ok_X10_setRest_17
theorem ok_X10_setRest_15 : zOK l D tc A nS xs mM_X10_setRest 15 q_X10_setRest_15 := s_iload_n (q := 1) rfl (by decide +kernel) (by decide +kernel) ok_X10_setRest_16
theorem ok_X10_setRest_12 : zOK l D tc A nS xs mM_X10_setRest 12 q_X10_setRest_12 := r_getf kls_10 (by decide) tx_10_2 rfl w_467 (by decide +kernel) ok_X10_setRest_15
theorem ok_X10_setRest_11 : zOK l D tc A nS xs mM_X10_setRest 11 q_X10_setRest_11 := s_aload_n (q := 0) rfl (by decide +kernel) (by decide +kernel) ok_X10_setRest_12
theorem ok_X10_setRest_8 : zOK l D tc A nS xs mM_X10_setRest 8 q_X10_setRest_8 := s_icmp_ge (tgt := 18) (off := 10) (by decide +kernel) (by decide) ok_X10_setRest_18 ok_X10_setRest_11
theorem ok_X10_setRest_5 : zOK l D tc A nS xs mM_X10_setRest 5 q_X10_setRest_5 := s_sipush (n := 18120) (by decide) (by decide +kernel) (by decide +kernel) ok_X10_setRest_8
theorem ok_X10_setRest_4 : zOK l D tc A nS xs mM_X10_setRest 4 q_X10_setRest_4 := s_iload_n (q := 1) rfl (by decide +kernel) (by decide +kernel) ok_X10_setRest_5
theorem ok_X10_setRest_1 : zOK l D tc A nS xs mM_X10_setRest 1 q_X10_setRest_1 := s_if_lt (tgt := 18) (off := 17) (by decide +kernel) (by decide) ok_X10_setRest_18 ok_X10_setRest_4
theorem ok_X10_setRest_0 : zOK l D tc A nS xs mM_X10_setRest 0 q_X10_setRest_0 := s_iload_n (q := 1) rfl (by decide +kernel) (by decide +kernel) ok_X10_setRest_1
theorem ok_X10_symbolAtLast_60 : zOK l D tc A nS xs mM_X10_symbolAtLast 60 q_X10_symbolAtLast_60 := s_iret rfl (by decide +kernel)
theorem ok_X10_symbolAtLast_59 : zOK l D tc A nS xs mM_X10_symbolAtLast 59 q_X10_symbolAtLast_59 := s_iconst (n := (-1)) (by decide) (by decide +kernel) (by decide +kernel) ok_X10_symbolAtLast_60
theorem ok_X10_symbolAtLast_56 : zOK l D tc A nS xs mM_X10_symbolAtLast 56 q_X10_symbolAtLast_56 := s_goto (tgt := 60) (off := 4) (by decide +kernel) (by decide) ok_X10_symbolAtLast_60
theorem ok_X10_symbolAtLast_55 : zOK l D tc A nS xs mM_X10_symbolAtLast 55 q_X10_symbolAtLast_55 := s_ishr (by decide +kernel) ok_X10_symbolAtLast_56
theorem ok_X10_symbolAtLast_53 : zOK l D tc A nS xs mM_X10_symbolAtLast 53 q_X10_symbolAtLast_53 := s_bipush (n := 14) (by decide) (by decide +kernel) (by decide +kernel) ok_X10_symbolAtLast_55
theorem ok_X10_symbolAtLast_52 : zOK l D tc A nS xs mM_X10_symbolAtLast 52 q_X10_symbolAtLast_52 := s_iald (t0 := 0) (by decide) (by decide) rfl (by decide +kernel) ok_X10_symbolAtLast_53
theorem ok_X10_symbolAtLast_51 : zOK l D tc A nS xs mM_X10_symbolAtLast 51 q_X10_symbolAtLast_51 := s_iload_n (q := 1) rfl (by decide +kernel) (by decide +kernel) ok_X10_symbolAtLast_52
theorem ok_X10_symbolAtLast_48 : zOK l D tc A nS xs mM_X10_symbolAtLast 48 q_X10_symbolAtLast_48 := r_getf kls_10 (by decide) tx_10_0 rfl w_469 (by decide +kernel) ok_X10_symbolAtLast_51
theorem ok_X10_symbolAtLast_47 : zOK l D tc A nS xs mM_X10_symbolAtLast 47 q_X10_symbolAtLast_47 := s_aload_n (q := 0) rfl (by decide +kernel) (by decide +kernel) ok_X10_symbolAtLast_48
theorem ok_X10_symbolAtLast_44 : zOK l D tc A nS xs mM_X10_symbolAtLast 44 q_X10_symbolAtLast_44 := s_if_eq (tgt := 59) (off := 15) (by decide +kernel) (by decide) ok_X10_symbolAtLast_59 ok_X10_symbolAtLast_47
theorem ok_X10_symbolAtLast_43 : zOK l D tc A nS xs mM_X10_symbolAtLast 43 q_X10_symbolAtLast_43 := s_iload_n (q := 2) rfl (by decide +kernel) (by decide +kernel) ok_X10_symbolAtLast_44
theorem ok_X10_symbolAtLast_42 : zOK l D tc A nS xs mM_X10_symbolAtLast 42 q_X10_symbolAtLast_42 := s_istore_n (q := 2) rfl (by decide +kernel) (by decide +kernel) ok_X10_symbolAtLast_43
theorem ok_X10_symbolAtLast_41 : zOK l D tc A nS xs mM_X10_symbolAtLast 41 q_X10_symbolAtLast_41 := s_iconst (n := 0) (by decide) (by decide +kernel) (by decide +kernel) ok_X10_symbolAtLast_42
theorem ok_X10_symbolAtLast_38 : zOK l D tc A nS xs mM_X10_symbolAtLast 38 q_X10_symbolAtLast_38 := s_goto (tgt := 42) (off := 4) (by decide +kernel) (by decide) ok_X10_symbolAtLast_42
theorem ok_X10_symbolAtLast_37 : zOK l D tc A nS xs mM_X10_symbolAtLast 37 q_X10_symbolAtLast_37 := s_iconst (n := 1) (by decide) (by decide +kernel) (by decide +kernel) ok_X10_symbolAtLast_38
theorem ok_X10_symbolAtLast_34 : zOK l D tc A nS xs mM_X10_symbolAtLast 34 q_X10_symbolAtLast_34 := s_icmp_ne (tgt := 41) (off := 7) (by decide +kernel) (by decide) ok_X10_symbolAtLast_41 ok_X10_symbolAtLast_37
theorem ok_X10_symbolAtLast_33 : zOK l D tc A nS xs mM_X10_symbolAtLast 33 q_X10_symbolAtLast_33 := s_iconst (n := 3) (by decide) (by decide +kernel) (by decide +kernel) ok_X10_symbolAtLast_34
theorem ok_X10_symbolAtLast_32 : zOK l D tc A nS xs mM_X10_symbolAtLast 32 q_X10_symbolAtLast_32 := s_iand (by decide +kernel) ok_X10_symbolAtLast_33
theorem ok_X10_symbolAtLast_30 : zOK l D tc A nS xs mM_X10_symbolAtLast 30 q_X10_symbolAtLast_30 := s_bipush (n := 7) (by decide) (by decide +kernel) (by decide +kernel) ok_X10_symbolAtLast_32
theorem ok_X10_symbolAtLast_29 : zOK l D tc A nS xs mM_X10_symbolAtLast 29 q_X10_symbolAtLast_29 := s_iald (t0 := 0) (by decide) (by decide) rfl (by decide +kernel) ok_X10_symbolAtLast_30
theorem ok_X10_symbolAtLast_28 : zOK l D tc A nS xs mM_X10_symbolAtLast 28 q_X10_symbolAtLast_28 := s_iload_n (q := 1) rfl (by decide +kernel) (by decide +kernel) ok_X10_symbolAtLast_29
theorem ok_X10_symbolAtLast_25 : zOK l D tc A nS xs mM_X10_symbolAtLast 25 q_X10_symbolAtLast_25 := r_getf kls_10 (by decide) tx_10_0 rfl w_469 (by decide +kernel) ok_X10_symbolAtLast_28
theorem ok_X10_symbolAtLast_24 : zOK l D tc A nS xs mM_X10_symbolAtLast 24 q_X10_symbolAtLast_24 := s_aload_n (q := 0) rfl (by decide +kernel) (by decide +kernel) ok_X10_symbolAtLast_25
theorem ok_X10_symbolAtLast_21 : zOK l D tc A nS xs mM_X10_symbolAtLast 21 q_X10_symbolAtLast_21 := s_icmp_eq (tgt := 37) (off := 16) (by decide +kernel) (by decide) ok_X10_symbolAtLast_37 ok_X10_symbolAtLast_24
theorem ok_X10_symbolAtLast_20 : zOK l D tc A nS xs mM_X10_symbolAtLast 20 q_X10_symbolAtLast_20 := s_iconst (n := 2) (by decide) (by decide +kernel) (by decide +kernel) ok_X10_symbolAtLast_21
theorem ok_X10_symbolAtLast_19 : zOK l D tc A nS xs mM_X10_symbolAtLast 19 q_X10_symbolAtLast_19 := s_iand (by decide +kernel) ok_X10_symbolAtLast_20
theorem ok_X10_symbolAtLast_17 : zOK l D tc A nS xs mM_X10_symbolAtLast 17 q_X10_symbolAtLast_17 := s_bipush (n := 7) (by decide) (by decide +kernel) (by decide +kernel) ok_X10_symbolAtLast_19
theorem ok_X10_symbolAtLast_16 : zOK l D tc A nS xs mM_X10_symbolAtLast 16 q_X10_symbolAtLast_16 := s_iald (t0 := 0) (by decide) (by decide) rfl (by decide +kernel) ok_X10_symbolAtLast_17
theorem ok_X10_symbolAtLast_15 : zOK l D tc A nS xs mM_X10_symbolAtLast 15 q_X10_symbolAtLast_15 := s_iload_n (q := 1) rfl (by decide +kernel) (by decide +kernel) ok_X10_symbolAtLast_16
theorem ok_X10_symbolAtLast_12 : zOK l D tc A nS xs mM_X10_symbolAtLast 12 q_X10_symbolAtLast_12 := r_getf kls_10 (by decide) tx_10_0 rfl w_469 (by decide +kernel) ok_X10_symbolAtLast_15
theorem ok_X10_symbolAtLast_11 : zOK l D tc A nS xs mM_X10_symbolAtLast 11 q_X10_symbolAtLast_11 := s_aload_n (q := 0) rfl (by decide +kernel) (by decide +kernel) ok_X10_symbolAtLast_12
theorem ok_X10_symbolAtLast_8 : zOK l D tc A nS xs mM_X10_symbolAtLast 8 q_X10_symbolAtLast_8 := s_icmp_ge (tgt := 41) (off := 33) (by decide +kernel) (by decide) ok_X10_symbolAtLast_41 ok_X10_symbolAtLast_11
theorem ok_X10_symbolAtLast_5 : zOK l D tc A nS xs mM_X10_symbolAtLast 5 q_X10_symbolAtLast_5 := s_sipush (n := 18120) (by decide) (by decide +kernel) (by decide +kernel) ok_X10_symbolAtLast_8
theorem ok_X10_symbolAtLast_4 : zOK l D tc A nS xs mM_X10_symbolAtLast 4 q_X10_symbolAtLast_4 := s_iload_n (q := 1) rfl (by decide +kernel) (by decide +kernel) ok_X10_symbolAtLast_5
theorem ok_X10_symbolAtLast_1 : zOK l D tc A nS xs mM_X10_symbolAtLast 1 q_X10_symbolAtLast_1 := s_if_lt (tgt := 41) (off := 40) (by decide +kernel) (by decide) ok_X10_symbolAtLast_41 ok_X10_symbolAtLast_4
theorem ok_X10_symbolAtLast_0 : zOK l D tc A nS xs mM_X10_symbolAtLast 0 q_X10_symbolAtLast_0 := s_iload_n (q := 1) rfl (by decide +kernel) (by decide +kernel) ok_X10_symbolAtLast_1
theorem ok_X10_turnKept_15 : zOK l D tc A nS xs mM_X10_turnKept 15 q_X10_turnKept_15 := s_vret rfl (by decide +kernel)
theorem ok_X10_turnKept_12 : zOK l D tc A nS xs mM_X10_turnKept 12 q_X10_turnKept_12 := r_putf kls_10 ty_10_5 zck_int (by decide) tx_10_5 rfl w_471 (by decide +kernel) ok_X10_turnKept_15
theorem ok_X10_turnKept_11 : zOK l D tc A nS xs mM_X10_turnKept 11 q_X10_turnKept_11 := s_iconst (n := 0) (by decide) (by decide +kernel) (by decide +kernel) ok_X10_turnKept_12
theorem ok_X10_turnKept_10 : zOK l D tc A nS xs mM_X10_turnKept 10 q_X10_turnKept_10 := s_aload_n (q := 0) rfl (by decide +kernel) (by decide +kernel) ok_X10_turnKept_11
theorem ok_X10_turnKept_7 : zOK l D tc A nS xs mM_X10_turnKept 7 q_X10_turnKept_7 := r_putf kls_10 ty_10_4 zck_int (by decide) tx_10_4 rfl w_472 (by decide +kernel) ok_X10_turnKept_10
theorem ok_X10_turnKept_6 : zOK l D tc A nS xs mM_X10_turnKept 6 q_X10_turnKept_6 := s_isub (by decide +kernel) ok_X10_turnKept_7
theorem ok_X10_turnKept_3 : zOK l D tc A nS xs mM_X10_turnKept 3 q_X10_turnKept_3 := r_getf kls_10 (by decide) tx_10_4 rfl w_472 (by decide +kernel) ok_X10_turnKept_6
theorem ok_X10_turnKept_2 : zOK l D tc A nS xs mM_X10_turnKept 2 q_X10_turnKept_2 := s_aload_n (q := 0) rfl (by decide +kernel) (by decide +kernel) ok_X10_turnKept_3
theorem ok_X10_turnKept_1 : zOK l D tc A nS xs mM_X10_turnKept 1 q_X10_turnKept_1 := s_iconst (n := 1) (by decide) (by decide +kernel) (by decide +kernel) ok_X10_turnKept_2
theorem ok_X10_turnKept_0 : zOK l D tc A nS xs mM_X10_turnKept 0 q_X10_turnKept_0 := s_aload_n (q := 0) rfl (by decide +kernel) (by decide +kernel) ok_X10_turnKept_1
theorem ok_X10_weigh_84 : zOK l D tc A nS xs mM_X10_weigh 84 q_X10_weigh_84 := s_vret rfl (by decide +kernel)
theorem ok_X10_weigh_81 : zOK l D tc A nS xs mM_X10_weigh 81 q_X10_weigh_81 := r_putf kls_10 ty_10_8 zck_int (by decide) tx_10_8 rfl w_496 (by decide +kernel) ok_X10_weigh_84
theorem ok_X10_weigh_80 : zOK l D tc A nS xs mM_X10_weigh 80 q_X10_weigh_80 := s_iadd (by decide +kernel) ok_X10_weigh_81
theorem ok_X10_weigh_79 : zOK l D tc A nS xs mM_X10_weigh 79 q_X10_weigh_79 := s_iconst (n := 1) (by decide) (by decide +kernel) (by decide +kernel) ok_X10_weigh_80
theorem ok_X10_weigh_76 : zOK l D tc A nS xs mM_X10_weigh 76 q_X10_weigh_76 := r_getf kls_10 (by decide) tx_10_8 rfl w_496 (by decide +kernel) ok_X10_weigh_79
theorem ok_X10_weigh_75 : zOK l D tc A nS xs mM_X10_weigh 75 q_X10_weigh_75 := s_dup (by decide +kernel) ok_X10_weigh_76
theorem ok_X10_weigh_74 : zOK l D tc A nS xs mM_X10_weigh 74 q_X10_weigh_74 := s_aload_n (q := 0) rfl (by decide +kernel) (by decide +kernel) ok_X10_weigh_75
theorem ok_X10_weigh_71 : zOK l D tc A nS xs mM_X10_weigh 71 q_X10_weigh_71 := s_goto (tgt := 3) (off := (-68)) (by decide +kernel) (by decide) (s_back lb_144)
theorem ok_X10_weigh_69 : zOK l D tc A nS xs mM_X10_weigh 69 q_X10_weigh_69 := s_istore (by decide +kernel) (by decide +kernel) ok_X10_weigh_71
theorem ok_X10_weigh_68 : zOK l D tc A nS xs mM_X10_weigh 68 q_X10_weigh_68 := s_iald (t0 := 0) (by decide) (by decide) rfl (by decide +kernel) ok_X10_weigh_69
theorem ok_X10_weigh_66 : zOK l D tc A nS xs mM_X10_weigh 66 q_X10_weigh_66 := s_iload (by decide +kernel) (by decide +kernel) ok_X10_weigh_68
theorem ok_X10_weigh_63 : zOK l D tc A nS xs mM_X10_weigh 63 q_X10_weigh_63 := r_getf kls_10 (by decide) tx_10_2 rfl w_467 (by decide +kernel) ok_X10_weigh_66
theorem ok_X10_weigh_62 : zOK l D tc A nS xs mM_X10_weigh 62 q_X10_weigh_62 := s_aload_n (q := 0) rfl (by decide +kernel) (by decide +kernel) ok_X10_weigh_63
theorem ok_X10_weigh_59 : zOK l D tc A nS xs mM_X10_weigh 59 q_X10_weigh_59 := r_callV zEE_ok zTw_gd kls_10 (M2 := mM_X10_weigh) (na := 3) lb_143 calV_X10_weigh rfl rfl w_497 (by decide +kernel) ok_X10_weigh_62
theorem ok_X10_weigh_58 : zOK l D tc A nS xs mM_X10_weigh 58 q_X10_weigh_58 := s_isub (by decide +kernel) ok_X10_weigh_59
theorem ok_X10_weigh_57 : zOK l D tc A nS xs mM_X10_weigh 57 q_X10_weigh_57 := s_iconst (n := 1) (by decide) (by decide +kernel) (by decide +kernel) ok_X10_weigh_58
theorem ok_X10_weigh_56 : zOK l D tc A nS xs mM_X10_weigh 56 q_X10_weigh_56 := s_iload_n (q := 3) rfl (by decide +kernel) (by decide +kernel) ok_X10_weigh_57
theorem ok_X10_weigh_55 : zOK l D tc A nS xs mM_X10_weigh 55 q_X10_weigh_55 := s_iload_n (q := 2) rfl (by decide +kernel) (by decide +kernel) ok_X10_weigh_56
theorem ok_X10_weigh_54 : zOK l D tc A nS xs mM_X10_weigh 54 q_X10_weigh_54 := s_iald (t0 := 0) (by decide) (by decide) rfl (by decide +kernel) ok_X10_weigh_55
theorem ok_X10_weigh_52 : zOK l D tc A nS xs mM_X10_weigh 52 q_X10_weigh_52 := s_iload (by decide +kernel) (by decide +kernel) ok_X10_weigh_54
theorem ok_X10_weigh_49 : zOK l D tc A nS xs mM_X10_weigh 49 q_X10_weigh_49 := r_getf kls_10 (by decide) tx_10_1 rfl w_468 (by decide +kernel) ok_X10_weigh_52
theorem ok_X10_weigh_48 : zOK l D tc A nS xs mM_X10_weigh 48 q_X10_weigh_48 := s_aload_n (q := 0) rfl (by decide +kernel) (by decide +kernel) ok_X10_weigh_49
theorem ok_X10_weigh_47 : zOK l D tc A nS xs mM_X10_weigh 47 q_X10_weigh_47 := s_aload_n (q := 0) rfl (by decide +kernel) (by decide +kernel) ok_X10_weigh_48
theorem ok_X10_weigh_44 : zOK l D tc A nS xs mM_X10_weigh 44 q_X10_weigh_44 := s_icmp_gt (tgt := 62) (off := 18) (by decide +kernel) (by decide) ok_X10_weigh_62 ok_X10_weigh_47
theorem ok_X10_weigh_43 : zOK l D tc A nS xs mM_X10_weigh 43 q_X10_weigh_43 := s_iload_n (q := 2) rfl (by decide +kernel) (by decide +kernel) ok_X10_weigh_44
theorem ok_X10_weigh_40 : zOK l D tc A nS xs mM_X10_weigh 40 q_X10_weigh_40 := r_getf kls_10 (by decide) tx_10_8 rfl w_496 (by decide +kernel) ok_X10_weigh_43
theorem ok_X10_weigh_39 : zOK l D tc A nS xs mM_X10_weigh 39 q_X10_weigh_39 := s_aload_n (q := 0) rfl (by decide +kernel) (by decide +kernel) ok_X10_weigh_40
theorem ok_X10_weigh_36 : zOK l D tc A nS xs mM_X10_weigh 36 q_X10_weigh_36 := r_putf kls_10 ty_10_8 zck_int (by decide) tx_10_8 rfl w_496 (by decide +kernel) ok_X10_weigh_39
theorem ok_X10_weigh_35 : zOK l D tc A nS xs mM_X10_weigh 35 q_X10_weigh_35 := s_iadd (by decide +kernel) ok_X10_weigh_36
theorem ok_X10_weigh_34 : zOK l D tc A nS xs mM_X10_weigh 34 q_X10_weigh_34 := s_iconst (n := 1) (by decide) (by decide +kernel) (by decide +kernel) ok_X10_weigh_35
theorem ok_X10_weigh_31 : zOK l D tc A nS xs mM_X10_weigh 31 q_X10_weigh_31 := r_getf kls_10 (by decide) tx_10_8 rfl w_496 (by decide +kernel) ok_X10_weigh_34
theorem ok_X10_weigh_30 : zOK l D tc A nS xs mM_X10_weigh 30 q_X10_weigh_30 := s_dup (by decide +kernel) ok_X10_weigh_31
theorem ok_X10_weigh_29 : zOK l D tc A nS xs mM_X10_weigh 29 q_X10_weigh_29 := s_aload_n (q := 0) rfl (by decide +kernel) (by decide +kernel) ok_X10_weigh_30
theorem ok_X10_weigh_21 : zOK l D tc A nS xs mM_X10_weigh 21 q_X10_weigh_21 := s_if_gt (tgt := 29) (off := 8) (by decide +kernel) (by decide) ok_X10_weigh_29 s_none
theorem ok_X10_weigh_20 : zOK l D tc A nS xs mM_X10_weigh 20 q_X10_weigh_20 := s_iload_n (q := 3) rfl (by decide +kernel) (by decide +kernel) ok_X10_weigh_21
theorem ok_X10_weigh_17 : zOK l D tc A nS xs mM_X10_weigh 17 q_X10_weigh_17 := s_if_eq (tgt := 74) (off := 57) (by decide +kernel) (by decide) ok_X10_weigh_74 ok_X10_weigh_20
theorem ok_X10_weigh_14 : zOK l D tc A nS xs mM_X10_weigh 14 q_X10_weigh_14 := r_callV zEE_ok zTw_gd kls_10 (M2 := mM_X10_isCons) (na := 1) lb_130 calV_X10_isCons rfl rfl w_490 (by decide +kernel) ok_X10_weigh_17
theorem ok_X10_weigh_12 : zOK l D tc A nS xs mM_X10_weigh 12 q_X10_weigh_12 := s_iload (by decide +kernel) (by decide +kernel) ok_X10_weigh_14
theorem ok_X10_weigh_11 : zOK l D tc A nS xs mM_X10_weigh 11 q_X10_weigh_11 := s_aload_n (q := 0) rfl (by decide +kernel) (by decide +kernel) ok_X10_weigh_12
theorem ok_X10_weigh_8 : zOK l D tc A nS xs mM_X10_weigh 8 q_X10_weigh_8 := s_icmp_gt (tgt := 74) (off := 66) (by decide +kernel) (by decide) ok_X10_weigh_74 ok_X10_weigh_11
theorem ok_X10_weigh_7 : zOK l D tc A nS xs mM_X10_weigh 7 q_X10_weigh_7 := s_iload_n (q := 2) rfl (by decide +kernel) (by decide +kernel) ok_X10_weigh_8
theorem ok_X10_weigh_4 : zOK l D tc A nS xs mM_X10_weigh 4 q_X10_weigh_4 := r_getf kls_10 (by decide) tx_10_8 rfl w_496 (by decide +kernel) ok_X10_weigh_7
theorem ok_X10_weigh_3 : zOK l D tc A nS xs mM_X10_weigh 3 q_X10_weigh_3 := s_aload_n (q := 0) rfl (by decide +kernel) (by decide +kernel) ok_X10_weigh_4
theorem ok_X10_weigh_1 : zOK l D tc A nS xs mM_X10_weigh 1 q_X10_weigh_1 := s_istore (by decide +kernel) (by decide +kernel) ok_X10_weigh_3
theorem ok_X10_weigh_0 : zOK l D tc A nS xs mM_X10_weigh 0 q_X10_weigh_0 := s_iload_n (q := 1) rfl (by decide +kernel) (by decide +kernel) ok_X10_weigh_1
theorem ok_X11_clearScheme_59 : zOK l D tc A nS xs mM_X11_clearScheme 59 q_X11_clearScheme_59 := s_vret rfl (by decide +kernel)
theorem ok_X11_clearScheme_56 : zOK l D tc A nS xs mM_X11_clearScheme 56 q_X11_clearScheme_56 := r_putf kls_11 ty_11_17 zck_int (by decide) tx_11_17 rfl w_500 (by decide +kernel) ok_X11_clearScheme_59
theorem ok_X11_clearScheme_55 : zOK l D tc A nS xs mM_X11_clearScheme 55 q_X11_clearScheme_55 := s_iconst (n := (-1)) (by decide) (by decide +kernel) (by decide +kernel) ok_X11_clearScheme_56
theorem ok_X11_clearScheme_54 : zOK l D tc A nS xs mM_X11_clearScheme 54 q_X11_clearScheme_54 := s_aload_n (q := 0) rfl (by decide +kernel) (by decide +kernel) ok_X11_clearScheme_55
theorem ok_X11_clearScheme_51 : zOK l D tc A nS xs mM_X11_clearScheme 51 q_X11_clearScheme_51 := r_putf kls_11 ty_11_16 zck_int (by decide) tx_11_16 rfl w_501 (by decide +kernel) ok_X11_clearScheme_54
theorem ok_X11_clearScheme_50 : zOK l D tc A nS xs mM_X11_clearScheme 50 q_X11_clearScheme_50 := s_iconst (n := 0) (by decide) (by decide +kernel) (by decide +kernel) ok_X11_clearScheme_51
theorem ok_X11_clearScheme_49 : zOK l D tc A nS xs mM_X11_clearScheme 49 q_X11_clearScheme_49 := s_aload_n (q := 0) rfl (by decide +kernel) (by decide +kernel) ok_X11_clearScheme_50
theorem ok_X11_clearScheme_46 : zOK l D tc A nS xs mM_X11_clearScheme 46 q_X11_clearScheme_46 := r_callV zEE_ok zTw_gd kls_7 (M2 := mM_X7_clear) (na := 0) lb_91 calV_X7_clear rfl rfl w_502 (by decide +kernel) ok_X11_clearScheme_49
theorem ok_X11_clearScheme_43 : zOK l D tc A nS xs mM_X11_clearScheme 43 q_X11_clearScheme_43 := r_getf kls_11 (by decide) tx_11_10 rfl w_506 (by decide +kernel) ok_X11_clearScheme_46
theorem ok_X11_clearScheme_42 : zOK l D tc A nS xs mM_X11_clearScheme 42 q_X11_clearScheme_42 := s_aload_n (q := 0) rfl (by decide +kernel) (by decide +kernel) ok_X11_clearScheme_43
theorem ok_X11_clearScheme_39 : zOK l D tc A nS xs mM_X11_clearScheme 39 q_X11_clearScheme_39 := r_callV zEE_ok zTw_gd kls_10 (M2 := mM_X10_clear) (na := 0) lb_120 calV_X10_clear rfl rfl w_507 (by decide +kernel) ok_X11_clearScheme_42
theorem ok_X11_clearScheme_36 : zOK l D tc A nS xs mM_X11_clearScheme 36 q_X11_clearScheme_36 := r_getf kls_11 (by decide) tx_11_9 rfl w_511 (by decide +kernel) ok_X11_clearScheme_39
theorem ok_X11_clearScheme_35 : zOK l D tc A nS xs mM_X11_clearScheme 35 q_X11_clearScheme_35 := s_aload_n (q := 0) rfl (by decide +kernel) (by decide +kernel) ok_X11_clearScheme_36
theorem ok_X11_clearScheme_32 : zOK l D tc A nS xs mM_X11_clearScheme 32 q_X11_clearScheme_32 := r_callV zEE_ok zTw_gd kls_6 (M2 := mM_X6_clear) (na := 0) lb_87 calV_X6_clear rfl rfl w_512 (by decide +kernel) ok_X11_clearScheme_35
theorem ok_X11_clearScheme_29 : zOK l D tc A nS xs mM_X11_clearScheme 29 q_X11_clearScheme_29 := r_getf kls_11 (by decide) tx_11_8 rfl w_517 (by decide +kernel) ok_X11_clearScheme_32
theorem ok_X11_clearScheme_28 : zOK l D tc A nS xs mM_X11_clearScheme 28 q_X11_clearScheme_28 := s_aload_n (q := 0) rfl (by decide +kernel) (by decide +kernel) ok_X11_clearScheme_29
theorem ok_X11_clearScheme_25 : zOK l D tc A nS xs mM_X11_clearScheme 25 q_X11_clearScheme_25 := r_callV zEE_ok zTw_gd kls_8 (M2 := mM_X8_clear) (na := 0) lb_103 calV_X8_clear rfl rfl w_518 (by decide +kernel) ok_X11_clearScheme_28
theorem ok_X11_clearScheme_22 : zOK l D tc A nS xs mM_X11_clearScheme 22 q_X11_clearScheme_22 := r_getf kls_11 (by decide) tx_11_7 rfl w_522 (by decide +kernel) ok_X11_clearScheme_25
theorem ok_X11_clearScheme_21 : zOK l D tc A nS xs mM_X11_clearScheme 21 q_X11_clearScheme_21 := s_aload_n (q := 0) rfl (by decide +kernel) (by decide +kernel) ok_X11_clearScheme_22
theorem ok_X11_clearScheme_18 : zOK l D tc A nS xs mM_X11_clearScheme 18 q_X11_clearScheme_18 := r_callV zEE_ok zTw_gd kls_1 (M2 := mM_X1_clear) (na := 0) lb_28 calV_X1_clear rfl rfl w_523 (by decide +kernel) ok_X11_clearScheme_21
theorem ok_X11_clearScheme_15 : zOK l D tc A nS xs mM_X11_clearScheme 15 q_X11_clearScheme_15 := r_getf kls_11 (by decide) tx_11_6 rfl w_527 (by decide +kernel) ok_X11_clearScheme_18
theorem ok_X11_clearScheme_14 : zOK l D tc A nS xs mM_X11_clearScheme 14 q_X11_clearScheme_14 := s_aload_n (q := 0) rfl (by decide +kernel) (by decide +kernel) ok_X11_clearScheme_15
theorem ok_X11_clearScheme_11 : zOK l D tc A nS xs mM_X11_clearScheme 11 q_X11_clearScheme_11 := r_callV zEE_ok zTw_gd kls_2 (M2 := mM_X2_clear) (na := 0) lb_35 calV_X2_clear rfl rfl w_528 (by decide +kernel) ok_X11_clearScheme_14
theorem ok_X11_clearScheme_8 : zOK l D tc A nS xs mM_X11_clearScheme 8 q_X11_clearScheme_8 := r_getf kls_11 (by decide) tx_11_5 rfl w_532 (by decide +kernel) ok_X11_clearScheme_11
theorem ok_X11_clearScheme_7 : zOK l D tc A nS xs mM_X11_clearScheme 7 q_X11_clearScheme_7 := s_aload_n (q := 0) rfl (by decide +kernel) (by decide +kernel) ok_X11_clearScheme_8
theorem ok_X11_clearScheme_4 : zOK l D tc A nS xs mM_X11_clearScheme 4 q_X11_clearScheme_4 := r_callV zEE_ok zTw_gd kls_3 (M2 := mM_X3_clear) (na := 0) lb_45 calV_X3_clear rfl rfl w_533 (by decide +kernel) ok_X11_clearScheme_7
theorem ok_X11_clearScheme_1 : zOK l D tc A nS xs mM_X11_clearScheme 1 q_X11_clearScheme_1 := r_getf kls_11 (by decide) tx_11_4 rfl w_537 (by decide +kernel) ok_X11_clearScheme_4
theorem ok_X11_clearScheme_0 : zOK l D tc A nS xs mM_X11_clearScheme 0 q_X11_clearScheme_0 := s_aload_n (q := 0) rfl (by decide +kernel) (by decide +kernel) ok_X11_clearScheme_1
theorem ok_X11_end_20 : zOK l D tc A nS xs mM_X11_end 20 q_X11_end_20 := s_zret rfl (by decide +kernel)
theorem ok_X11_end_19 : zOK l D tc A nS xs mM_X11_end 19 q_X11_end_19 := s_iconst (n := 1) (by decide) (by decide +kernel) (by decide +kernel) ok_X11_end_20
theorem ok_X11_end_16 : zOK l D tc A nS xs mM_X11_end 16 q_X11_end_16 := r_putf kls_11 ty_11_1 zck_int (by decide) tx_11_1 rfl w_538 (by decide +kernel) ok_X11_end_19
theorem ok_X11_end_15 : zOK l D tc A nS xs mM_X11_end 15 q_X11_end_15 := s_iload_n (q := 1) rfl (by decide +kernel) (by decide +kernel) ok_X11_end_16
theorem ok_X11_end_14 : zOK l D tc A nS xs mM_X11_end 14 q_X11_end_14 := s_aload_n (q := 0) rfl (by decide +kernel) (by decide +kernel) ok_X11_end_15
theorem ok_X11_end_13 : zOK l D tc A nS xs mM_X11_end 13 q_X11_end_13 := s_zret rfl (by decide +kernel)
theorem ok_X11_end_12 : zOK l D tc A nS xs mM_X11_end 12 q_X11_end_12 := s_iconst (n := 0) (by decide) (by decide +kernel) (by decide +kernel) ok_X11_end_13
theorem ok_X11_end_9 : zOK l D tc A nS xs mM_X11_end 9 q_X11_end_9 := s_icmp_le (tgt := 14) (off := 5) (by decide +kernel) (by decide) ok_X11_end_14 ok_X11_end_12
theorem ok_X11_end_6 : zOK l D tc A nS xs mM_X11_end 6 q_X11_end_6 := r_getf kls_11 (by decide) tx_11_1 rfl w_538 (by decide +kernel) ok_X11_end_9
theorem ok_X11_end_5 : zOK l D tc A nS xs mM_X11_end 5 q_X11_end_5 := s_aload_n (q := 0) rfl (by decide +kernel) (by decide +kernel) ok_X11_end_6
theorem ok_X11_end_4 : zOK l D tc A nS xs mM_X11_end 4 q_X11_end_4 := s_iload_n (q := 1) rfl (by decide +kernel) (by decide +kernel) ok_X11_end_5
theorem ok_X11_end_1 : zOK l D tc A nS xs mM_X11_end 1 q_X11_end_1 := s_if_lt (tgt := 12) (off := 11) (by decide +kernel) (by decide) ok_X11_end_12 ok_X11_end_4
theorem ok_X11_end_0 : zOK l D tc A nS xs mM_X11_end 0 q_X11_end_0 := s_iload_n (q := 1) rfl (by decide +kernel) (by decide +kernel) ok_X11_end_1
theorem ok_X11_fault_22 : zOK l D tc A nS xs mM_X11_fault 22 q_X11_fault_22 := s_iret rfl (by decide +kernel)
theorem ok_X11_fault_21 : zOK l D tc A nS xs mM_X11_fault 21 q_X11_fault_21 := s_iconst (n := (-1)) (by decide) (by decide +kernel) (by decide +kernel) ok_X11_fault_22
theorem ok_X11_fault_18 : zOK l D tc A nS xs mM_X11_fault 18 q_X11_fault_18 := s_goto (tgt := 22) (off := 4) (by decide +kernel) (by decide) ok_X11_fault_22
theorem ok_X11_fault_15 : zOK l D tc A nS xs mM_X11_fault 15 q_X11_fault_15 := r_getf kls_11 (by decide) tx_11_17 rfl w_500 (by decide +kernel) ok_X11_fault_18
theorem ok_X11_fault_14 : zOK l D tc A nS xs mM_X11_fault 14 q_X11_fault_14 := s_aload_n (q := 0) rfl (by decide +kernel) (by decide +kernel) ok_X11_fault_15
theorem ok_X11_fault_11 : zOK l D tc A nS xs mM_X11_fault 11 q_X11_fault_11 := s_icmp_ne (tgt := 21) (off := 10) (by decide +kernel) (by decide) ok_X11_fault_21 ok_X11_fault_14
theorem ok_X11_fault_10 : zOK l D tc A nS xs mM_X11_fault 10 q_X11_fault_10 := s_iconst (n := 1) (by decide) (by decide +kernel) (by decide +kernel) ok_X11_fault_11
theorem ok_X11_fault_9 : zOK l D tc A nS xs mM_X11_fault 9 q_X11_fault_9 := s_iload_n (q := 1) rfl (by decide +kernel) (by decide +kernel) ok_X11_fault_10
theorem ok_X11_fault_8 : zOK l D tc A nS xs mM_X11_fault 8 q_X11_fault_8 := s_iret rfl (by decide +kernel)
theorem ok_X11_fault_5 : zOK l D tc A nS xs mM_X11_fault 5 q_X11_fault_5 := r_getf kls_11 (by decide) tx_11_16 rfl w_501 (by decide +kernel) ok_X11_fault_8
theorem ok_X11_fault_4 : zOK l D tc A nS xs mM_X11_fault 4 q_X11_fault_4 := s_aload_n (q := 0) rfl (by decide +kernel) (by decide +kernel) ok_X11_fault_5
theorem ok_X11_fault_1 : zOK l D tc A nS xs mM_X11_fault 1 q_X11_fault_1 := s_if_ne (tgt := 9) (off := 8) (by decide +kernel) (by decide) ok_X11_fault_9 ok_X11_fault_4
theorem ok_X11_fault_0 : zOK l D tc A nS xs mM_X11_fault 0 q_X11_fault_0 := s_iload_n (q := 1) rfl (by decide +kernel) (by decide +kernel) ok_X11_fault_1
theorem ok_X11_feed_46 : zOK l D tc A nS xs mM_X11_feed 46 q_X11_feed_46 := s_iret rfl (by decide +kernel)
theorem ok_X11_feed_43 : zOK l D tc A nS xs mM_X11_feed 43 q_X11_feed_43 := r_getf kls_11 (by decide) tx_11_1 rfl w_538 (by decide +kernel) ok_X11_feed_46
theorem ok_X11_feed_42 : zOK l D tc A nS xs mM_X11_feed 42 q_X11_feed_42 := s_aload_n (q := 0) rfl (by decide +kernel) (by decide +kernel) ok_X11_feed_43
theorem ok_X11_feed_39 : zOK l D tc A nS xs mM_X11_feed 39 q_X11_feed_39 := r_callV zEE_ok zTw_gd kls_11 (M2 := mM_X11_tapeFour) (na := 1) lb_172 calV_X11_tapeFour rfl rfl w_539 (by decide +kernel) ok_X11_feed_42
theorem ok_X11_feed_37 : zOK l D tc A nS xs mM_X11_feed 37 q_X11_feed_37 := s_iload (by decide +kernel) (by decide +kernel) ok_X11_feed_39
theorem ok_X11_feed_36 : zOK l D tc A nS xs mM_X11_feed 36 q_X11_feed_36 := s_aload_n (q := 0) rfl (by decide +kernel) (by decide +kernel) ok_X11_feed_37
theorem ok_X11_feed_33 : zOK l D tc A nS xs mM_X11_feed 33 q_X11_feed_33 := r_callV zEE_ok zTw_gd kls_11 (M2 := mM_X11_tapeFour) (na := 1) lb_172 calV_X11_tapeFour rfl rfl w_539 (by decide +kernel) ok_X11_feed_36
theorem ok_X11_feed_31 : zOK l D tc A nS xs mM_X11_feed 31 q_X11_feed_31 := s_iload (by decide +kernel) (by decide +kernel) ok_X11_feed_33
theorem ok_X11_feed_30 : zOK l D tc A nS xs mM_X11_feed 30 q_X11_feed_30 := s_aload_n (q := 0) rfl (by decide +kernel) (by decide +kernel) ok_X11_feed_31
theorem ok_X11_feed_27 : zOK l D tc A nS xs mM_X11_feed 27 q_X11_feed_27 := r_callV zEE_ok zTw_gd kls_11 (M2 := mM_X11_tapeFour) (na := 1) lb_172 calV_X11_tapeFour rfl rfl w_539 (by decide +kernel) ok_X11_feed_30
theorem ok_X11_feed_26 : zOK l D tc A nS xs mM_X11_feed 26 q_X11_feed_26 := s_iload_n (q := 3) rfl (by decide +kernel) (by decide +kernel) ok_X11_feed_27
theorem ok_X11_feed_25 : zOK l D tc A nS xs mM_X11_feed 25 q_X11_feed_25 := s_aload_n (q := 0) rfl (by decide +kernel) (by decide +kernel) ok_X11_feed_26
theorem ok_X11_feed_22 : zOK l D tc A nS xs mM_X11_feed 22 q_X11_feed_22 := r_callV zEE_ok zTw_gd kls_11 (M2 := mM_X11_tapeFour) (na := 1) lb_172 calV_X11_tapeFour rfl rfl w_539 (by decide +kernel) ok_X11_feed_25
theorem ok_X11_feed_21 : zOK l D tc A nS xs mM_X11_feed 21 q_X11_feed_21 := s_iload_n (q := 2) rfl (by decide +kernel) (by decide +kernel) ok_X11_feed_22
theorem ok_X11_feed_20 : zOK l D tc A nS xs mM_X11_feed 20 q_X11_feed_20 := s_aload_n (q := 0) rfl (by decide +kernel) (by decide +kernel) ok_X11_feed_21
theorem ok_X11_feed_17 : zOK l D tc A nS xs mM_X11_feed 17 q_X11_feed_17 := r_callV zEE_ok zTw_gd kls_11 (M2 := mM_X11_tapeFour) (na := 1) lb_172 calV_X11_tapeFour rfl rfl w_539 (by decide +kernel) ok_X11_feed_20
theorem ok_X11_feed_16 : zOK l D tc A nS xs mM_X11_feed 16 q_X11_feed_16 := s_iload_n (q := 1) rfl (by decide +kernel) (by decide +kernel) ok_X11_feed_17
theorem ok_X11_feed_15 : zOK l D tc A nS xs mM_X11_feed 15 q_X11_feed_15 := s_aload_n (q := 0) rfl (by decide +kernel) (by decide +kernel) ok_X11_feed_16
theorem ok_X11_feed_10 : zOK l D tc A nS xs mM_X11_feed 10 q_X11_feed_10 := s_icmp_le (tgt := 15) (off := 5) (by decide +kernel) (by decide) ok_X11_feed_15 s_none
theorem ok_X11_feed_7 : zOK l D tc A nS xs mM_X11_feed 7 q_X11_feed_7 := s_sipush (n := 2000) (by decide) (by decide +kernel) (by decide +kernel) ok_X11_feed_10
theorem ok_X11_feed_6 : zOK l D tc A nS xs mM_X11_feed 6 q_X11_feed_6 := s_iadd (by decide +kernel) ok_X11_feed_7
theorem ok_X11_feed_4 : zOK l D tc A nS xs mM_X11_feed 4 q_X11_feed_4 := s_bipush (n := 20) (by decide) (by decide +kernel) (by decide +kernel) ok_X11_feed_6
theorem ok_X11_feed_1 : zOK l D tc A nS xs mM_X11_feed 1 q_X11_feed_1 := r_getf kls_11 (by decide) tx_11_1 rfl w_538 (by decide +kernel) ok_X11_feed_4
theorem ok_X11_feed_0 : zOK l D tc A nS xs mM_X11_feed 0 q_X11_feed_0 := s_aload_n (q := 0) rfl (by decide +kernel) (by decide +kernel) ok_X11_feed_1
theorem ok_X11_go_57 : zOK l D tc A nS xs mM_X11_go 57 q_X11_go_57 := s_iret rfl (by decide +kernel)
theorem ok_X11_go_56 : zOK l D tc A nS xs mM_X11_go 56 q_X11_go_56 := s_iload_n (q := 2) rfl (by decide +kernel) (by decide +kernel) ok_X11_go_57
theorem ok_X11_go_53 : zOK l D tc A nS xs mM_X11_go 53 q_X11_go_53 := s_goto (tgt := 23) (off := (-30)) (by decide +kernel) (by decide) (s_back lb_150)
theorem ok_X11_go_50 : zOK l D tc A nS xs mM_X11_go 50 q_X11_go_50 := s_iinc (n := 1) (by decide +kernel) (by decide +kernel) (by decide +kernel) ok_X11_go_53
theorem ok_X11_go_47 : zOK l D tc A nS xs mM_X11_go 47 q_X11_go_47 := r_putf kls_11 ty_11_3 zck_int (by decide) tx_11_3 rfl w_542 (by decide +kernel) ok_X11_go_50
theorem ok_X11_go_46 : zOK l D tc A nS xs mM_X11_go 46 q_X11_go_46 := s_iadd (by decide +kernel) ok_X11_go_47
theorem ok_X11_go_45 : zOK l D tc A nS xs mM_X11_go 45 q_X11_go_45 := s_iconst (n := 1) (by decide) (by decide +kernel) (by decide +kernel) ok_X11_go_46
theorem ok_X11_go_42 : zOK l D tc A nS xs mM_X11_go 42 q_X11_go_42 := r_getf kls_11 (by decide) tx_11_3 rfl w_542 (by decide +kernel) ok_X11_go_45
theorem ok_X11_go_41 : zOK l D tc A nS xs mM_X11_go 41 q_X11_go_41 := s_dup (by decide +kernel) ok_X11_go_42
theorem ok_X11_go_40 : zOK l D tc A nS xs mM_X11_go 40 q_X11_go_40 := s_aload_n (q := 0) rfl (by decide +kernel) (by decide +kernel) ok_X11_go_41
theorem ok_X11_go_39 : zOK l D tc A nS xs mM_X11_go 39 q_X11_go_39 := s_istore_n (q := 2) rfl (by decide +kernel) (by decide +kernel) ok_X11_go_40
theorem ok_X11_go_36 : zOK l D tc A nS xs mM_X11_go 36 q_X11_go_36 := r_callV zEE_ok zTw_gd kls_3 (M2 := mM_X3_step) (na := 0) lb_51 calV_X3_step rfl rfl w_543 (by decide +kernel) ok_X11_go_39
theorem ok_X11_go_33 : zOK l D tc A nS xs mM_X11_go 33 q_X11_go_33 := r_getf kls_11 (by decide) tx_11_2 rfl w_547 (by decide +kernel) ok_X11_go_36
theorem ok_X11_go_32 : zOK l D tc A nS xs mM_X11_go 32 q_X11_go_32 := s_aload_n (q := 0) rfl (by decide +kernel) (by decide +kernel) ok_X11_go_33
theorem ok_X11_go_29 : zOK l D tc A nS xs mM_X11_go 29 q_X11_go_29 := s_if_ne (tgt := 56) (off := 27) (by decide +kernel) (by decide) ok_X11_go_56 ok_X11_go_32
theorem ok_X11_go_28 : zOK l D tc A nS xs mM_X11_go 28 q_X11_go_28 := s_iload_n (q := 2) rfl (by decide +kernel) (by decide +kernel) ok_X11_go_29
theorem ok_X11_go_25 : zOK l D tc A nS xs mM_X11_go 25 q_X11_go_25 := s_icmp_ge (tgt := 56) (off := 31) (by decide +kernel) (by decide) ok_X11_go_56 ok_X11_go_28
theorem ok_X11_go_24 : zOK l D tc A nS xs mM_X11_go 24 q_X11_go_24 := s_iload_n (q := 1) rfl (by decide +kernel) (by decide +kernel) ok_X11_go_25
theorem ok_X11_go_23 : zOK l D tc A nS xs mM_X11_go 23 q_X11_go_23 := s_iload_n (q := 3) rfl (by decide +kernel) (by decide +kernel) ok_X11_go_24
theorem ok_X11_go_22 : zOK l D tc A nS xs mM_X11_go 22 q_X11_go_22 := s_istore_n (q := 3) rfl (by decide +kernel) (by decide +kernel) ok_X11_go_23
theorem ok_X11_go_21 : zOK l D tc A nS xs mM_X11_go 21 q_X11_go_21 := s_iconst (n := 0) (by decide) (by decide +kernel) (by decide +kernel) ok_X11_go_22
theorem ok_X11_go_20 : zOK l D tc A nS xs mM_X11_go 20 q_X11_go_20 := s_istore_n (q := 2) rfl (by decide +kernel) (by decide +kernel) ok_X11_go_21
theorem ok_X11_go_19 : zOK l D tc A nS xs mM_X11_go 19 q_X11_go_19 := s_iconst (n := 0) (by decide) (by decide +kernel) (by decide +kernel) ok_X11_go_20
theorem ok_X11_go_16 : zOK l D tc A nS xs mM_X11_go 16 q_X11_go_16 := r_putf kls_11 ty_11_3 zck_int (by decide) tx_11_3 rfl w_542 (by decide +kernel) ok_X11_go_19
theorem ok_X11_go_15 : zOK l D tc A nS xs mM_X11_go 15 q_X11_go_15 := s_iconst (n := 0) (by decide) (by decide +kernel) (by decide +kernel) ok_X11_go_16
theorem ok_X11_go_14 : zOK l D tc A nS xs mM_X11_go 14 q_X11_go_14 := s_aload_n (q := 0) rfl (by decide +kernel) (by decide +kernel) ok_X11_go_15
theorem ok_X11_go_13 : zOK l D tc A nS xs mM_X11_go 13 q_X11_go_13 := s_iret rfl (by decide +kernel)
theorem ok_X11_go_12 : zOK l D tc A nS xs mM_X11_go 12 q_X11_go_12 := s_iconst (n := (-1)) (by decide) (by decide +kernel) (by decide +kernel) ok_X11_go_13
theorem ok_X11_go_9 : zOK l D tc A nS xs mM_X11_go 9 q_X11_go_9 := s_icmp_le (tgt := 14) (off := 5) (by decide +kernel) (by decide) ok_X11_go_14 ok_X11_go_12
theorem ok_X11_go_6 : zOK l D tc A nS xs mM_X11_go 6 q_X11_go_6 := s_sipush (n := 5000) (by decide) (by decide +kernel) (by decide +kernel) ok_X11_go_9
theorem ok_X11_go_5 : zOK l D tc A nS xs mM_X11_go 5 q_X11_go_5 := s_iload_n (q := 1) rfl (by decide +kernel) (by decide +kernel) ok_X11_go_6
theorem ok_X11_go_2 : zOK l D tc A nS xs mM_X11_go 2 q_X11_go_2 := s_icmp_lt (tgt := 12) (off := 10) (by decide +kernel) (by decide) ok_X11_go_12 ok_X11_go_5
theorem ok_X11_go_1 : zOK l D tc A nS xs mM_X11_go 1 q_X11_go_1 := s_iconst (n := 1) (by decide) (by decide +kernel) (by decide +kernel) ok_X11_go_2
theorem ok_X11_go_0 : zOK l D tc A nS xs mM_X11_go 0 q_X11_go_0 := s_iload_n (q := 1) rfl (by decide +kernel) (by decide +kernel) ok_X11_go_1
theorem ok_X11_held_21 : zOK l D tc A nS xs mM_X11_held 21 q_X11_held_21 := s_iret rfl (by decide +kernel)
theorem ok_X11_held_18 : zOK l D tc A nS xs mM_X11_held 18 q_X11_held_18 := r_callV zEE_ok zTw_gd kls_3 (M2 := mM_X3_told) (na := 1) lb_52 calV_X3_told rfl rfl w_548 (by decide +kernel) ok_X11_held_21
theorem ok_X11_held_17 : zOK l D tc A nS xs mM_X11_held 17 q_X11_held_17 := s_iload_n (q := 1) rfl (by decide +kernel) (by decide +kernel) ok_X11_held_18
theorem ok_X11_held_14 : zOK l D tc A nS xs mM_X11_held 14 q_X11_held_14 := r_getf kls_11 (by decide) tx_11_2 rfl w_547 (by decide +kernel) ok_X11_held_17
theorem ok_X11_held_13 : zOK l D tc A nS xs mM_X11_held 13 q_X11_held_13 := s_aload_n (q := 0) rfl (by decide +kernel) (by decide +kernel) ok_X11_held_14
theorem ok_X11_held_10 : zOK l D tc A nS xs mM_X11_held 10 q_X11_held_10 := s_goto (tgt := 21) (off := 11) (by decide +kernel) (by decide) ok_X11_held_21
theorem ok_X11_held_7 : zOK l D tc A nS xs mM_X11_held 7 q_X11_held_7 := r_getf kls_11 (by decide) tx_11_3 rfl w_542 (by decide +kernel) ok_X11_held_10
theorem ok_X11_held_6 : zOK l D tc A nS xs mM_X11_held 6 q_X11_held_6 := s_aload_n (q := 0) rfl (by decide +kernel) (by decide +kernel) ok_X11_held_7
theorem ok_X11_held_3 : zOK l D tc A nS xs mM_X11_held 3 q_X11_held_3 := s_icmp_ne (tgt := 13) (off := 10) (by decide +kernel) (by decide) ok_X11_held_13 ok_X11_held_6
theorem ok_X11_held_1 : zOK l D tc A nS xs mM_X11_held 1 q_X11_held_1 := s_bipush (n := 9) (by decide) (by decide +kernel) (by decide +kernel) ok_X11_held_3
theorem ok_X11_held_0 : zOK l D tc A nS xs mM_X11_held 0 q_X11_held_0 := s_iload_n (q := 1) rfl (by decide +kernel) (by decide +kernel) ok_X11_held_1
theorem ok_X11_init_231 : zOK l D tc A nS xs mM_X11_init 231 q_X11_init_231 := s_vret rfl (by decide +kernel)
theorem ok_X11_init_230 : zOK l D tc A nS xs mM_X11_init 230 q_X11_init_230 := s_pop (by decide +kernel) ok_X11_init_231
theorem ok_X11_init_227 : zOK l D tc A nS xs mM_X11_init 227 q_X11_init_227 := r_callV zEE_ok zTw_gd kls_11 (M2 := mM_X11_takeText) (na := 2) lb_169 calV_X11_takeText rfl rfl w_552 (by decide +kernel) ok_X11_init_230
theorem ok_X11_init_224 : zOK l D tc A nS xs mM_X11_init 224 q_X11_init_224 := r_getf kls_11 (by decide) tx_11_15 rfl w_555 (by decide +kernel) ok_X11_init_227
theorem ok_X11_init_223 : zOK l D tc A nS xs mM_X11_init 223 q_X11_init_223 := s_aload_n (q := 0) rfl (by decide +kernel) (by decide +kernel) ok_X11_init_224
theorem ok_X11_init_220 : zOK l D tc A nS xs mM_X11_init 220 q_X11_init_220 := r_getf kls_11 (by decide) tx_11_14 rfl w_556 (by decide +kernel) ok_X11_init_223
theorem ok_X11_init_219 : zOK l D tc A nS xs mM_X11_init 219 q_X11_init_219 := s_aload_n (q := 0) rfl (by decide +kernel) (by decide +kernel) ok_X11_init_220
theorem ok_X11_init_218 : zOK l D tc A nS xs mM_X11_init 218 q_X11_init_218 := s_aload_n (q := 0) rfl (by decide +kernel) (by decide +kernel) ok_X11_init_219
theorem ok_X11_init_215 : zOK l D tc A nS xs mM_X11_init 215 q_X11_init_215 := r_callV zEE_ok zTw_gd kls_11 (M2 := mM_X11_writePrelude) (na := 0) lb_177 calV_X11_writePrelude rfl rfl w_557 (by decide +kernel) ok_X11_init_218
theorem ok_X11_init_214 : zOK l D tc A nS xs mM_X11_init 214 q_X11_init_214 := s_aload_n (q := 0) rfl (by decide +kernel) (by decide +kernel) ok_X11_init_215
theorem ok_X11_init_211 : zOK l D tc A nS xs mM_X11_init 211 q_X11_init_211 := r_callV zEE_ok zTw_gd kls_11 (M2 := mM_X11_readNames) (na := 0) lb_162 calV_X11_readNames rfl rfl w_560 (by decide +kernel) ok_X11_init_214
theorem ok_X11_init_210 : zOK l D tc A nS xs mM_X11_init 210 q_X11_init_210 := s_aload_n (q := 0) rfl (by decide +kernel) (by decide +kernel) ok_X11_init_211
theorem ok_X11_init_207 : zOK l D tc A nS xs mM_X11_init 207 q_X11_init_207 := r_callV zEE_ok zTw_gd kls_11 (M2 := mM_X11_clearScheme) (na := 0) lb_145 calV_X11_clearScheme rfl rfl w_563 (by decide +kernel) ok_X11_init_210
theorem ok_X11_init_206 : zOK l D tc A nS xs mM_X11_init 206 q_X11_init_206 := s_aload_n (q := 0) rfl (by decide +kernel) (by decide +kernel) ok_X11_init_207
theorem ok_X11_init_203 : zOK l D tc A nS xs mM_X11_init 203 q_X11_init_203 := r_putf kls_11 ty_11_17 zck_int (by decide) tx_11_17 rfl w_500 (by decide +kernel) ok_X11_init_206
theorem ok_X11_init_202 : zOK l D tc A nS xs mM_X11_init 202 q_X11_init_202 := s_iconst (n := (-1)) (by decide) (by decide +kernel) (by decide +kernel) ok_X11_init_203
theorem ok_X11_init_201 : zOK l D tc A nS xs mM_X11_init 201 q_X11_init_201 := s_aload_n (q := 0) rfl (by decide +kernel) (by decide +kernel) ok_X11_init_202
theorem ok_X11_init_198 : zOK l D tc A nS xs mM_X11_init 198 q_X11_init_198 := r_putF kls_11 ty_11_14 (zck_arr _) (by decide) tx_11_14 rfl rfl rfl w_556 (by decide +kernel) ok_X11_init_201
theorem ok_X11_init_196 : zOK l D tc A nS xs mM_X11_init 196 q_X11_init_196 := r_newa (t0 := 0) (atype := .int) (ty := .int) rfl (by decide) rfl rfl z_RA_int rfl (by decide) w_109 (by decide +kernel) ok_X11_init_198
theorem ok_X11_init_193 : zOK l D tc A nS xs mM_X11_init 193 q_X11_init_193 := s_sipush (n := 2000) (by decide) (by decide +kernel) (by decide +kernel) ok_X11_init_196
theorem ok_X11_init_192 : zOK l D tc A nS xs mM_X11_init 192 q_X11_init_192 := s_aload_n (q := 0) rfl (by decide +kernel) (by decide +kernel) ok_X11_init_193
theorem ok_X11_init_189 : zOK l D tc A nS xs mM_X11_init 189 q_X11_init_189 := r_putF kls_11 ty_11_13 (zck_arr _) (by decide) tx_11_13 rfl rfl rfl w_566 (by decide +kernel) ok_X11_init_192
theorem ok_X11_init_187 : zOK l D tc A nS xs mM_X11_init 187 q_X11_init_187 := r_newa (t0 := 0) (atype := .int) (ty := .int) rfl (by decide) rfl rfl z_RA_int rfl (by decide) w_109 (by decide +kernel) ok_X11_init_189
theorem ok_X11_init_185 : zOK l D tc A nS xs mM_X11_init 185 q_X11_init_185 := s_bipush (n := 40) (by decide) (by decide +kernel) (by decide +kernel) ok_X11_init_187
theorem ok_X11_init_184 : zOK l D tc A nS xs mM_X11_init 184 q_X11_init_184 := s_aload_n (q := 0) rfl (by decide +kernel) (by decide +kernel) ok_X11_init_185
theorem ok_X11_init_181 : zOK l D tc A nS xs mM_X11_init 181 q_X11_init_181 := r_putF kls_11 ty_11_12 (zck_obj _) (by decide) tx_11_12 rfl rfl rfl w_567 (by decide +kernel) ok_X11_init_184
theorem ok_X11_init_178 : zOK l D tc A nS xs mM_X11_init 178 q_X11_init_178 := r_callI zEE_ok zTw_gd (M2 := mM_X0_init) (na := 3) rfl lb_20 calI_X0_init rfl rfl w_568 (by decide +kernel) ok_X11_init_181
theorem ok_X11_init_175 : zOK l D tc A nS xs mM_X11_init 175 q_X11_init_175 := r_getf kls_11 (by decide) tx_11_10 rfl w_506 (by decide +kernel) ok_X11_init_178
theorem ok_X11_init_174 : zOK l D tc A nS xs mM_X11_init 174 q_X11_init_174 := s_aload_n (q := 0) rfl (by decide +kernel) (by decide +kernel) ok_X11_init_175
theorem ok_X11_init_171 : zOK l D tc A nS xs mM_X11_init 171 q_X11_init_171 := r_getf kls_11 (by decide) tx_11_5 rfl w_532 (by decide +kernel) ok_X11_init_174
theorem ok_X11_init_170 : zOK l D tc A nS xs mM_X11_init 170 q_X11_init_170 := s_aload_n (q := 0) rfl (by decide +kernel) (by decide +kernel) ok_X11_init_171
theorem ok_X11_init_167 : zOK l D tc A nS xs mM_X11_init 167 q_X11_init_167 := r_getf kls_11 (by decide) tx_11_9 rfl w_511 (by decide +kernel) ok_X11_init_170
theorem ok_X11_init_166 : zOK l D tc A nS xs mM_X11_init 166 q_X11_init_166 := s_aload_n (q := 0) rfl (by decide +kernel) (by decide +kernel) ok_X11_init_167
theorem ok_X11_init_165 : zOK l D tc A nS xs mM_X11_init 165 q_X11_init_165 := s_dup (by decide +kernel) ok_X11_init_166
theorem ok_X11_init_162 : zOK l D tc A nS xs mM_X11_init 162 q_X11_init_162 := r_new (N := 14) rfl kls_0 rfl rfl (by decide) zdf_0 rfl w_571 w_572 w_49 (by decide +kernel) ok_X11_init_165
theorem ok_X11_init_161 : zOK l D tc A nS xs mM_X11_init 161 q_X11_init_161 := s_aload_n (q := 0) rfl (by decide +kernel) (by decide +kernel) ok_X11_init_162
theorem ok_X11_init_158 : zOK l D tc A nS xs mM_X11_init 158 q_X11_init_158 := r_putF kls_11 ty_11_11 (zck_obj _) (by decide) tx_11_11 rfl rfl rfl w_573 (by decide +kernel) ok_X11_init_161
theorem ok_X11_init_155 : zOK l D tc A nS xs mM_X11_init 155 q_X11_init_155 := r_callI zEE_ok zTw_gd (M2 := mM_X5_init) (na := 2) rfl lb_73 calI_X5_init rfl rfl w_574 (by decide +kernel) ok_X11_init_158
theorem ok_X11_init_152 : zOK l D tc A nS xs mM_X11_init 152 q_X11_init_152 := r_getf kls_11 (by decide) tx_11_5 rfl w_532 (by decide +kernel) ok_X11_init_155
theorem ok_X11_init_151 : zOK l D tc A nS xs mM_X11_init 151 q_X11_init_151 := s_aload_n (q := 0) rfl (by decide +kernel) (by decide +kernel) ok_X11_init_152
theorem ok_X11_init_148 : zOK l D tc A nS xs mM_X11_init 148 q_X11_init_148 := r_getf kls_11 (by decide) tx_11_9 rfl w_511 (by decide +kernel) ok_X11_init_151
theorem ok_X11_init_147 : zOK l D tc A nS xs mM_X11_init 147 q_X11_init_147 := s_aload_n (q := 0) rfl (by decide +kernel) (by decide +kernel) ok_X11_init_148
theorem ok_X11_init_146 : zOK l D tc A nS xs mM_X11_init 146 q_X11_init_146 := s_dup (by decide +kernel) ok_X11_init_147
theorem ok_X11_init_143 : zOK l D tc A nS xs mM_X11_init 143 q_X11_init_143 := r_new (N := 10) rfl kls_5 rfl rfl (by decide) zdf_5 rfl w_577 w_578 w_291 (by decide +kernel) ok_X11_init_146
theorem ok_X11_init_142 : zOK l D tc A nS xs mM_X11_init 142 q_X11_init_142 := s_aload_n (q := 0) rfl (by decide +kernel) (by decide +kernel) ok_X11_init_143
theorem ok_X11_init_139 : zOK l D tc A nS xs mM_X11_init 139 q_X11_init_139 := r_putF kls_11 ty_11_10 (zck_obj _) (by decide) tx_11_10 rfl rfl rfl w_506 (by decide +kernel) ok_X11_init_142
theorem ok_X11_init_136 : zOK l D tc A nS xs mM_X11_init 136 q_X11_init_136 := r_callI zEE_ok zTw_gd (M2 := mM_X7_init) (na := 1) rfl lb_92 calI_X7_init rfl rfl w_579 (by decide +kernel) ok_X11_init_139
theorem ok_X11_init_133 : zOK l D tc A nS xs mM_X11_init 133 q_X11_init_133 := r_getf kls_11 (by decide) tx_11_9 rfl w_511 (by decide +kernel) ok_X11_init_136
theorem ok_X11_init_132 : zOK l D tc A nS xs mM_X11_init 132 q_X11_init_132 := s_aload_n (q := 0) rfl (by decide +kernel) (by decide +kernel) ok_X11_init_133
theorem ok_X11_init_131 : zOK l D tc A nS xs mM_X11_init 131 q_X11_init_131 := s_dup (by decide +kernel) ok_X11_init_132
theorem ok_X11_init_128 : zOK l D tc A nS xs mM_X11_init 128 q_X11_init_128 := r_new (N := 15) rfl kls_7 rfl rfl (by decide) zdf_7 rfl w_582 w_583 w_86 (by decide +kernel) ok_X11_init_131
theorem ok_X11_init_127 : zOK l D tc A nS xs mM_X11_init 127 q_X11_init_127 := s_aload_n (q := 0) rfl (by decide +kernel) (by decide +kernel) ok_X11_init_128
theorem ok_X11_init_124 : zOK l D tc A nS xs mM_X11_init 124 q_X11_init_124 := r_putF kls_11 ty_11_9 (zck_obj _) (by decide) tx_11_9 rfl rfl rfl w_511 (by decide +kernel) ok_X11_init_127
theorem ok_X11_init_121 : zOK l D tc A nS xs mM_X11_init 121 q_X11_init_121 := r_callIN zEE_ok zTw_gd (M2 := mM_X10_init) (na := 0) rfl lb_129 calI_X10_init rfl rfl (fun U f h => h.1 _ zNest_23) (by decide +kernel) ok_X11_init_124
theorem ok_X11_init_120 : zOK l D tc A nS xs mM_X11_init 120 q_X11_init_120 := s_dup (by decide +kernel) ok_X11_init_121
theorem ok_X11_init_117 : zOK l D tc A nS xs mM_X11_init 117 q_X11_init_117 := r_new (N := 9) rfl kls_10 rfl rfl (by decide) zdf_10 rfl w_586 w_587 w_69 (by decide +kernel) ok_X11_init_120
theorem ok_X11_init_116 : zOK l D tc A nS xs mM_X11_init 116 q_X11_init_116 := s_aload_n (q := 0) rfl (by decide +kernel) (by decide +kernel) ok_X11_init_117
theorem ok_X11_init_113 : zOK l D tc A nS xs mM_X11_init 113 q_X11_init_113 := r_putF kls_11 ty_11_8 (zck_obj _) (by decide) tx_11_8 rfl rfl rfl w_517 (by decide +kernel) ok_X11_init_116
theorem ok_X11_init_110 : zOK l D tc A nS xs mM_X11_init 110 q_X11_init_110 := r_callI zEE_ok zTw_gd (M2 := mM_X6_init) (na := 3) rfl lb_88 calI_X6_init rfl rfl w_588 (by decide +kernel) ok_X11_init_113
theorem ok_X11_init_107 : zOK l D tc A nS xs mM_X11_init 107 q_X11_init_107 := r_getf kls_11 (by decide) tx_11_7 rfl w_522 (by decide +kernel) ok_X11_init_110
theorem ok_X11_init_106 : zOK l D tc A nS xs mM_X11_init 106 q_X11_init_106 := s_aload_n (q := 0) rfl (by decide +kernel) (by decide +kernel) ok_X11_init_107
theorem ok_X11_init_103 : zOK l D tc A nS xs mM_X11_init 103 q_X11_init_103 := r_getf kls_11 (by decide) tx_11_6 rfl w_527 (by decide +kernel) ok_X11_init_106
theorem ok_X11_init_102 : zOK l D tc A nS xs mM_X11_init 102 q_X11_init_102 := s_aload_n (q := 0) rfl (by decide +kernel) (by decide +kernel) ok_X11_init_103
theorem ok_X11_init_99 : zOK l D tc A nS xs mM_X11_init 99 q_X11_init_99 := r_getf kls_11 (by decide) tx_11_4 rfl w_537 (by decide +kernel) ok_X11_init_102
theorem ok_X11_init_98 : zOK l D tc A nS xs mM_X11_init 98 q_X11_init_98 := s_aload_n (q := 0) rfl (by decide +kernel) (by decide +kernel) ok_X11_init_99
theorem ok_X11_init_97 : zOK l D tc A nS xs mM_X11_init 97 q_X11_init_97 := s_dup (by decide +kernel) ok_X11_init_98
theorem ok_X11_init_94 : zOK l D tc A nS xs mM_X11_init 94 q_X11_init_94 := r_new (N := 15) rfl kls_6 rfl rfl (by decide) zdf_6 rfl w_591 w_592 w_514 (by decide +kernel) ok_X11_init_97
theorem ok_X11_init_93 : zOK l D tc A nS xs mM_X11_init 93 q_X11_init_93 := s_aload_n (q := 0) rfl (by decide +kernel) (by decide +kernel) ok_X11_init_94
theorem ok_X11_init_90 : zOK l D tc A nS xs mM_X11_init 90 q_X11_init_90 := r_putF kls_11 ty_11_7 (zck_obj _) (by decide) tx_11_7 rfl rfl rfl w_522 (by decide +kernel) ok_X11_init_93
theorem ok_X11_init_87 : zOK l D tc A nS xs mM_X11_init 87 q_X11_init_87 := r_callI zEE_ok zTw_gd (M2 := mM_X8_init) (na := 2) rfl lb_104 calI_X8_init rfl rfl w_593 (by decide +kernel) ok_X11_init_90
theorem ok_X11_init_84 : zOK l D tc A nS xs mM_X11_init 84 q_X11_init_84 := r_getf kls_11 (by decide) tx_11_6 rfl w_527 (by decide +kernel) ok_X11_init_87
theorem ok_X11_init_83 : zOK l D tc A nS xs mM_X11_init 83 q_X11_init_83 := s_aload_n (q := 0) rfl (by decide +kernel) (by decide +kernel) ok_X11_init_84
theorem ok_X11_init_80 : zOK l D tc A nS xs mM_X11_init 80 q_X11_init_80 := r_getf kls_11 (by decide) tx_11_5 rfl w_532 (by decide +kernel) ok_X11_init_83
theorem ok_X11_init_79 : zOK l D tc A nS xs mM_X11_init 79 q_X11_init_79 := s_aload_n (q := 0) rfl (by decide +kernel) (by decide +kernel) ok_X11_init_80
theorem ok_X11_init_78 : zOK l D tc A nS xs mM_X11_init 78 q_X11_init_78 := s_dup (by decide +kernel) ok_X11_init_79
theorem ok_X11_init_75 : zOK l D tc A nS xs mM_X11_init 75 q_X11_init_75 := r_new (N := 9) rfl kls_8 rfl rfl (by decide) zdf_8 rfl w_596 w_597 w_409 (by decide +kernel) ok_X11_init_78
theorem ok_X11_init_74 : zOK l D tc A nS xs mM_X11_init 74 q_X11_init_74 := s_aload_n (q := 0) rfl (by decide +kernel) (by decide +kernel) ok_X11_init_75
theorem ok_X11_init_71 : zOK l D tc A nS xs mM_X11_init 71 q_X11_init_71 := r_putF kls_11 ty_11_6 (zck_obj _) (by decide) tx_11_6 rfl rfl rfl w_527 (by decide +kernel) ok_X11_init_74
theorem ok_X11_init_68 : zOK l D tc A nS xs mM_X11_init 68 q_X11_init_68 := r_callI zEE_ok zTw_gd (M2 := mM_X1_init) (na := 2) rfl lb_29 calI_X1_init rfl rfl w_598 (by decide +kernel) ok_X11_init_71
theorem ok_X11_init_65 : zOK l D tc A nS xs mM_X11_init 65 q_X11_init_65 := r_getf kls_11 (by decide) tx_11_5 rfl w_532 (by decide +kernel) ok_X11_init_68
theorem ok_X11_init_64 : zOK l D tc A nS xs mM_X11_init 64 q_X11_init_64 := s_aload_n (q := 0) rfl (by decide +kernel) (by decide +kernel) ok_X11_init_65
theorem ok_X11_init_61 : zOK l D tc A nS xs mM_X11_init 61 q_X11_init_61 := r_getf kls_11 (by decide) tx_11_4 rfl w_537 (by decide +kernel) ok_X11_init_64
theorem ok_X11_init_60 : zOK l D tc A nS xs mM_X11_init 60 q_X11_init_60 := s_aload_n (q := 0) rfl (by decide +kernel) (by decide +kernel) ok_X11_init_61
theorem ok_X11_init_59 : zOK l D tc A nS xs mM_X11_init 59 q_X11_init_59 := s_dup (by decide +kernel) ok_X11_init_60
theorem ok_X11_init_56 : zOK l D tc A nS xs mM_X11_init 56 q_X11_init_56 := r_new (N := 7) rfl kls_1 rfl rfl (by decide) zdf_1 rfl w_601 w_602 w_413 (by decide +kernel) ok_X11_init_59
theorem ok_X11_init_55 : zOK l D tc A nS xs mM_X11_init 55 q_X11_init_55 := s_aload_n (q := 0) rfl (by decide +kernel) (by decide +kernel) ok_X11_init_56
theorem ok_X11_init_52 : zOK l D tc A nS xs mM_X11_init 52 q_X11_init_52 := r_putF kls_11 ty_11_5 (zck_obj _) (by decide) tx_11_5 rfl rfl rfl w_532 (by decide +kernel) ok_X11_init_55
theorem ok_X11_init_49 : zOK l D tc A nS xs mM_X11_init 49 q_X11_init_49 := r_callI zEE_ok zTw_gd (M2 := mM_X2_init) (na := 1) rfl lb_38 calI_X2_init rfl rfl w_603 (by decide +kernel) ok_X11_init_52
theorem ok_X11_init_46 : zOK l D tc A nS xs mM_X11_init 46 q_X11_init_46 := r_getf kls_11 (by decide) tx_11_4 rfl w_537 (by decide +kernel) ok_X11_init_49
theorem ok_X11_init_45 : zOK l D tc A nS xs mM_X11_init 45 q_X11_init_45 := s_aload_n (q := 0) rfl (by decide +kernel) (by decide +kernel) ok_X11_init_46
theorem ok_X11_init_44 : zOK l D tc A nS xs mM_X11_init 44 q_X11_init_44 := s_dup (by decide +kernel) ok_X11_init_45
theorem ok_X11_init_41 : zOK l D tc A nS xs mM_X11_init 41 q_X11_init_41 := r_new (N := 10) rfl kls_2 rfl rfl (by decide) zdf_2 rfl w_606 w_607 w_99 (by decide +kernel) ok_X11_init_44
theorem ok_X11_init_40 : zOK l D tc A nS xs mM_X11_init 40 q_X11_init_40 := s_aload_n (q := 0) rfl (by decide +kernel) (by decide +kernel) ok_X11_init_41
theorem ok_X11_init_37 : zOK l D tc A nS xs mM_X11_init 37 q_X11_init_37 := r_putF kls_11 ty_11_4 (zck_obj _) (by decide) tx_11_4 rfl rfl rfl w_537 (by decide +kernel) ok_X11_init_40
theorem ok_X11_init_34 : zOK l D tc A nS xs mM_X11_init 34 q_X11_init_34 := r_callI zEE_ok zTw_gd (M2 := mM_X3_init) (na := 1) rfl lb_47 calI_X3_init rfl rfl w_608 (by decide +kernel) ok_X11_init_37
theorem ok_X11_init_32 : zOK l D tc A nS xs mM_X11_init 32 q_X11_init_32 := r_ldc (by decide) (x := (65536 : Int32)) (by decide +kernel) rfl w_611 (by decide +kernel) ok_X11_init_34
theorem ok_X11_init_31 : zOK l D tc A nS xs mM_X11_init 31 q_X11_init_31 := s_dup (by decide +kernel) ok_X11_init_32
theorem ok_X11_init_28 : zOK l D tc A nS xs mM_X11_init 28 q_X11_init_28 := r_new (N := 7) rfl kls_3 rfl rfl (by decide) zdf_3 rfl w_612 w_613 w_170 (by decide +kernel) ok_X11_init_31
theorem ok_X11_init_27 : zOK l D tc A nS xs mM_X11_init 27 q_X11_init_27 := s_aload_n (q := 0) rfl (by decide +kernel) (by decide +kernel) ok_X11_init_28
theorem ok_X11_init_24 : zOK l D tc A nS xs mM_X11_init 24 q_X11_init_24 := r_putF kls_11 ty_11_2 (zck_obj _) (by decide) tx_11_2 rfl rfl rfl w_547 (by decide +kernel) ok_X11_init_27
theorem ok_X11_init_21 : zOK l D tc A nS xs mM_X11_init 21 q_X11_init_21 := r_callI zEE_ok zTw_gd (M2 := mM_X3_init) (na := 1) rfl lb_47 calI_X3_init rfl rfl w_608 (by decide +kernel) ok_X11_init_24
theorem ok_X11_init_18 : zOK l D tc A nS xs mM_X11_init 18 q_X11_init_18 := s_sipush (n := 8192) (by decide) (by decide +kernel) (by decide +kernel) ok_X11_init_21
theorem ok_X11_init_17 : zOK l D tc A nS xs mM_X11_init 17 q_X11_init_17 := s_dup (by decide +kernel) ok_X11_init_18
theorem ok_X11_init_14 : zOK l D tc A nS xs mM_X11_init 14 q_X11_init_14 := r_new (N := 7) rfl kls_3 rfl rfl (by decide) zdf_3 rfl w_612 w_613 w_170 (by decide +kernel) ok_X11_init_17
theorem ok_X11_init_13 : zOK l D tc A nS xs mM_X11_init 13 q_X11_init_13 := s_aload_n (q := 0) rfl (by decide +kernel) (by decide +kernel) ok_X11_init_14
theorem ok_X11_init_10 : zOK l D tc A nS xs mM_X11_init 10 q_X11_init_10 := r_putF kls_11 ty_11_0 (zck_arr _) (by decide) tx_11_0 rfl rfl rfl w_614 (by decide +kernel) ok_X11_init_13
theorem ok_X11_init_8 : zOK l D tc A nS xs mM_X11_init 8 q_X11_init_8 := r_newa (t0 := 0) (atype := .int) (ty := .int) rfl (by decide) rfl rfl z_RA_int rfl (by decide) w_109 (by decide +kernel) ok_X11_init_10
theorem ok_X11_init_5 : zOK l D tc A nS xs mM_X11_init 5 q_X11_init_5 := s_sipush (n := 2000) (by decide) (by decide +kernel) (by decide +kernel) ok_X11_init_8
theorem ok_X11_init_4 : zOK l D tc A nS xs mM_X11_init 4 q_X11_init_4 := s_aload_n (q := 0) rfl (by decide +kernel) (by decide +kernel) ok_X11_init_5
theorem ok_X11_init_1 : zOK l D tc A nS xs mM_X11_init 1 q_X11_init_1 := s_oinit w_615 w_112 w_oi (by decide +kernel) ok_X11_init_4
theorem ok_X11_init_0 : zOK l D tc A nS xs mM_X11_init 0 q_X11_init_0 := s_aload_n (q := 0) rfl (by decide +kernel) (by decide +kernel) ok_X11_init_1
end ZRows
