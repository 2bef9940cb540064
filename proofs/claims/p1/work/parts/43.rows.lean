section ZRows
variable {l : Launch} {D : va_G} {tc : Nat → ClassId} {A : Nat → Prop} {nS : Nat} {xs : Nat → Int32}
theorem ok_X7_init_81 : zOK l D tc A nS xs mM_X7_init 81 q_X7_init_81 := s_vret rfl (by decide +kernel)
theorem ok_X7_init_78 : zOK l D tc A nS xs mM_X7_init 78 q_X7_init_78 := r_putF kls_7 ty_7_0 (zck_obj _) (by decide) tx_7_0 rfl rfl rfl w_361 (by decide +kernel) ok_X7_init_81
theorem ok_X7_init_77 : zOK l D tc A nS xs mM_X7_init 77 q_X7_init_77 := s_aload_n (q := 1) rfl (by decide +kernel) (by decide +kernel) ok_X7_init_78
theorem ok_X7_init_76 : zOK l D tc A nS xs mM_X7_init 76 q_X7_init_76 := s_aload_n (q := 0) rfl (by decide +kernel) (by decide +kernel) ok_X7_init_77
theorem ok_X7_init_73 : zOK l D tc A nS xs mM_X7_init 73 q_X7_init_73 := r_putF kls_7 ty_7_9 (zck_arr _) (by decide) tx_7_9 rfl rfl rfl w_362 (by decide +kernel) ok_X7_init_76
theorem ok_X7_init_71 : zOK l D tc A nS xs mM_X7_init 71 q_X7_init_71 := r_newa (t0 := 0) (atype := .int) (ty := .int) rfl (by decide) rfl rfl z_RA_int rfl (by decide) w_109 (by decide +kernel) ok_X7_init_73
theorem ok_X7_init_68 : zOK l D tc A nS xs mM_X7_init 68 q_X7_init_68 := s_sipush (n := 300) (by decide) (by decide +kernel) (by decide +kernel) ok_X7_init_71
theorem ok_X7_init_67 : zOK l D tc A nS xs mM_X7_init 67 q_X7_init_67 := s_aload_n (q := 0) rfl (by decide +kernel) (by decide +kernel) ok_X7_init_68
theorem ok_X7_init_64 : zOK l D tc A nS xs mM_X7_init 64 q_X7_init_64 := r_putF kls_7 ty_7_8 (zck_arr _) (by decide) tx_7_8 rfl rfl rfl w_363 (by decide +kernel) ok_X7_init_67
theorem ok_X7_init_62 : zOK l D tc A nS xs mM_X7_init 62 q_X7_init_62 := r_newa (t0 := 0) (atype := .int) (ty := .int) rfl (by decide) rfl rfl z_RA_int rfl (by decide) w_109 (by decide +kernel) ok_X7_init_64
theorem ok_X7_init_59 : zOK l D tc A nS xs mM_X7_init 59 q_X7_init_59 := s_sipush (n := 300) (by decide) (by decide +kernel) (by decide +kernel) ok_X7_init_62
theorem ok_X7_init_58 : zOK l D tc A nS xs mM_X7_init 58 q_X7_init_58 := s_aload_n (q := 0) rfl (by decide +kernel) (by decide +kernel) ok_X7_init_59
theorem ok_X7_init_55 : zOK l D tc A nS xs mM_X7_init 55 q_X7_init_55 := r_putF kls_7 ty_7_7 (zck_arr _) (by decide) tx_7_7 rfl rfl rfl w_359 (by decide +kernel) ok_X7_init_58
theorem ok_X7_init_53 : zOK l D tc A nS xs mM_X7_init 53 q_X7_init_53 := r_newa (t0 := 0) (atype := .int) (ty := .int) rfl (by decide) rfl rfl z_RA_int rfl (by decide) w_109 (by decide +kernel) ok_X7_init_55
theorem ok_X7_init_50 : zOK l D tc A nS xs mM_X7_init 50 q_X7_init_50 := s_sipush (n := 300) (by decide) (by decide +kernel) (by decide +kernel) ok_X7_init_53
theorem ok_X7_init_49 : zOK l D tc A nS xs mM_X7_init 49 q_X7_init_49 := s_aload_n (q := 0) rfl (by decide +kernel) (by decide +kernel) ok_X7_init_50
theorem ok_X7_init_46 : zOK l D tc A nS xs mM_X7_init 46 q_X7_init_46 := r_putF kls_7 ty_7_6 (zck_arr _) (by decide) tx_7_6 rfl rfl rfl w_360 (by decide +kernel) ok_X7_init_49
theorem ok_X7_init_44 : zOK l D tc A nS xs mM_X7_init 44 q_X7_init_44 := r_newa (t0 := 0) (atype := .int) (ty := .int) rfl (by decide) rfl rfl z_RA_int rfl (by decide) w_109 (by decide +kernel) ok_X7_init_46
theorem ok_X7_init_41 : zOK l D tc A nS xs mM_X7_init 41 q_X7_init_41 := s_sipush (n := 300) (by decide) (by decide +kernel) (by decide +kernel) ok_X7_init_44
theorem ok_X7_init_40 : zOK l D tc A nS xs mM_X7_init 40 q_X7_init_40 := s_aload_n (q := 0) rfl (by decide +kernel) (by decide +kernel) ok_X7_init_41
theorem ok_X7_init_37 : zOK l D tc A nS xs mM_X7_init 37 q_X7_init_37 := r_putF kls_7 ty_7_4 (zck_arr _) (by decide) tx_7_4 rfl rfl rfl w_364 (by decide +kernel) ok_X7_init_40
theorem ok_X7_init_35 : zOK l D tc A nS xs mM_X7_init 35 q_X7_init_35 := r_newa (t0 := 0) (atype := .int) (ty := .int) rfl (by decide) rfl rfl z_RA_int rfl (by decide) w_109 (by decide +kernel) ok_X7_init_37
theorem ok_X7_init_32 : zOK l D tc A nS xs mM_X7_init 32 q_X7_init_32 := s_sipush (n := 12001) (by decide) (by decide +kernel) (by decide +kernel) ok_X7_init_35
theorem ok_X7_init_31 : zOK l D tc A nS xs mM_X7_init 31 q_X7_init_31 := s_aload_n (q := 0) rfl (by decide +kernel) (by decide +kernel) ok_X7_init_32
theorem ok_X7_init_28 : zOK l D tc A nS xs mM_X7_init 28 q_X7_init_28 := r_putF kls_7 ty_7_3 (zck_arr _) (by decide) tx_7_3 rfl rfl rfl w_365 (by decide +kernel) ok_X7_init_31
theorem ok_X7_init_26 : zOK l D tc A nS xs mM_X7_init 26 q_X7_init_26 := r_newa (t0 := 0) (atype := .int) (ty := .int) rfl (by decide) rfl rfl z_RA_int rfl (by decide) w_109 (by decide +kernel) ok_X7_init_28
theorem ok_X7_init_23 : zOK l D tc A nS xs mM_X7_init 23 q_X7_init_23 := s_sipush (n := 12001) (by decide) (by decide +kernel) (by decide +kernel) ok_X7_init_26
theorem ok_X7_init_22 : zOK l D tc A nS xs mM_X7_init 22 q_X7_init_22 := s_aload_n (q := 0) rfl (by decide +kernel) (by decide +kernel) ok_X7_init_23
theorem ok_X7_init_19 : zOK l D tc A nS xs mM_X7_init 19 q_X7_init_19 := r_putF kls_7 ty_7_2 (zck_arr _) (by decide) tx_7_2 rfl rfl rfl w_366 (by decide +kernel) ok_X7_init_22
theorem ok_X7_init_17 : zOK l D tc A nS xs mM_X7_init 17 q_X7_init_17 := r_newa (t0 := 0) (atype := .int) (ty := .int) rfl (by decide) rfl rfl z_RA_int rfl (by decide) w_109 (by decide +kernel) ok_X7_init_19
theorem ok_X7_init_14 : zOK l D tc A nS xs mM_X7_init 14 q_X7_init_14 := s_sipush (n := 12001) (by decide) (by decide +kernel) (by decide +kernel) ok_X7_init_17
theorem ok_X7_init_13 : zOK l D tc A nS xs mM_X7_init 13 q_X7_init_13 := s_aload_n (q := 0) rfl (by decide +kernel) (by decide +kernel) ok_X7_init_14
theorem ok_X7_init_10 : zOK l D tc A nS xs mM_X7_init 10 q_X7_init_10 := r_putF kls_7 ty_7_1 (zck_arr _) (by decide) tx_7_1 rfl rfl rfl w_367 (by decide +kernel) ok_X7_init_13
theorem ok_X7_init_8 : zOK l D tc A nS xs mM_X7_init 8 q_X7_init_8 := r_newa (t0 := 0) (atype := .int) (ty := .int) rfl (by decide) rfl rfl z_RA_int rfl (by decide) w_109 (by decide +kernel) ok_X7_init_10
theorem ok_X7_init_5 : zOK l D tc A nS xs mM_X7_init 5 q_X7_init_5 := s_sipush (n := 12001) (by decide) (by decide +kernel) (by decide +kernel) ok_X7_init_8
theorem ok_X7_init_4 : zOK l D tc A nS xs mM_X7_init 4 q_X7_init_4 := s_aload_n (q := 0) rfl (by decide +kernel) (by decide +kernel) ok_X7_init_5
theorem ok_X7_init_1 : zOK l D tc A nS xs mM_X7_init 1 q_X7_init_1 := s_oinit w_368 w_112 w_oi (by decide +kernel) ok_X7_init_4
theorem ok_X7_init_0 : zOK l D tc A nS xs mM_X7_init 0 q_X7_init_0 := s_aload_n (q := 0) rfl (by decide +kernel) (by decide +kernel) ok_X7_init_1
theorem ok_X7_isMacro_27 : zOK l D tc A nS xs mM_X7_isMacro 27 q_X7_isMacro_27 := s_zret rfl (by decide +kernel)
theorem ok_X7_isMacro_26 : zOK l D tc A nS xs mM_X7_isMacro 26 q_X7_isMacro_26 := s_iconst (n := 0) (by decide) (by decide +kernel) (by decide +kernel) ok_X7_isMacro_27
theorem ok_X7_isMacro_4 : zOK l D tc A nS xs mM_X7_isMacro 4 q_X7_isMacro_4 := s_icmp_lt (tgt := 26) (off := 22) (by decide +kernel) (by decide) ok_X7_isMacro_26 s_none
theorem ok_X7_isMacro_1 : zOK l D tc A nS xs mM_X7_isMacro 1 q_X7_isMacro_1 := s_sipush (n := 2000) (by decide) (by decide +kernel) (by decide +kernel) ok_X7_isMacro_4
theorem ok_X7_isMacro_0 : zOK l D tc A nS xs mM_X7_isMacro 0 q_X7_isMacro_0 := s_iload_n (q := 1) rfl (by decide +kernel) (by decide +kernel) ok_X7_isMacro_1
theorem ok_X7_keep_59 : zOK l D tc A nS xs mM_X7_keep 59 q_X7_keep_59 := s_vret rfl (by decide +kernel)
theorem ok_X7_keep_56 : zOK l D tc A nS xs mM_X7_keep 56 q_X7_keep_56 := s_goto (tgt := 17) (off := (-39)) (by decide +kernel) (by decide) (s_back lb_95)
theorem ok_X7_keep_53 : zOK l D tc A nS xs mM_X7_keep 53 q_X7_keep_53 := s_iinc (n := 1) (by decide +kernel) (by decide +kernel) (by decide +kernel) ok_X7_keep_56
theorem ok_X7_keep_52 : zOK l D tc A nS xs mM_X7_keep 52 q_X7_keep_52 := s_iast (t0 := 0) (by decide) (by decide) rfl (by decide +kernel) ok_X7_keep_53
theorem ok_X7_keep_49 : zOK l D tc A nS xs mM_X7_keep 49 q_X7_keep_49 := r_callV zEE_ok zTw_gd kls_10 (M2 := mM_X10_keep) (na := 1) lb_132 calV_X10_keep rfl rfl w_369 (by decide +kernel) ok_X7_keep_52
theorem ok_X7_keep_48 : zOK l D tc A nS xs mM_X7_keep 48 q_X7_keep_48 := s_iald (t0 := 0) (by decide) (by decide) rfl (by decide +kernel) ok_X7_keep_49
theorem ok_X7_keep_47 : zOK l D tc A nS xs mM_X7_keep 47 q_X7_keep_47 := s_iload_n (q := 1) rfl (by decide +kernel) (by decide +kernel) ok_X7_keep_48
theorem ok_X7_keep_44 : zOK l D tc A nS xs mM_X7_keep 44 q_X7_keep_44 := r_getf kls_7 (by decide) tx_7_6 rfl w_360 (by decide +kernel) ok_X7_keep_47
theorem ok_X7_keep_43 : zOK l D tc A nS xs mM_X7_keep 43 q_X7_keep_43 := s_aload_n (q := 0) rfl (by decide +kernel) (by decide +kernel) ok_X7_keep_44
theorem ok_X7_keep_40 : zOK l D tc A nS xs mM_X7_keep 40 q_X7_keep_40 := r_getf kls_7 (by decide) tx_7_0 rfl w_361 (by decide +kernel) ok_X7_keep_43
theorem ok_X7_keep_39 : zOK l D tc A nS xs mM_X7_keep 39 q_X7_keep_39 := s_aload_n (q := 0) rfl (by decide +kernel) (by decide +kernel) ok_X7_keep_40
theorem ok_X7_keep_38 : zOK l D tc A nS xs mM_X7_keep 38 q_X7_keep_38 := s_iload_n (q := 1) rfl (by decide +kernel) (by decide +kernel) ok_X7_keep_39
theorem ok_X7_keep_35 : zOK l D tc A nS xs mM_X7_keep 35 q_X7_keep_35 := r_getf kls_7 (by decide) tx_7_6 rfl w_360 (by decide +kernel) ok_X7_keep_38
theorem ok_X7_keep_34 : zOK l D tc A nS xs mM_X7_keep 34 q_X7_keep_34 := s_aload_n (q := 0) rfl (by decide +kernel) (by decide +kernel) ok_X7_keep_35
theorem ok_X7_keep_31 : zOK l D tc A nS xs mM_X7_keep 31 q_X7_keep_31 := s_icmp_eq (tgt := 53) (off := 22) (by decide +kernel) (by decide) ok_X7_keep_53 ok_X7_keep_34
theorem ok_X7_keep_30 : zOK l D tc A nS xs mM_X7_keep 30 q_X7_keep_30 := s_iconst (n := (-1)) (by decide) (by decide +kernel) (by decide +kernel) ok_X7_keep_31
theorem ok_X7_keep_29 : zOK l D tc A nS xs mM_X7_keep 29 q_X7_keep_29 := s_iald (t0 := 0) (by decide) (by decide) rfl (by decide +kernel) ok_X7_keep_30
theorem ok_X7_keep_28 : zOK l D tc A nS xs mM_X7_keep 28 q_X7_keep_28 := s_iload_n (q := 1) rfl (by decide +kernel) (by decide +kernel) ok_X7_keep_29
theorem ok_X7_keep_25 : zOK l D tc A nS xs mM_X7_keep 25 q_X7_keep_25 := r_getf kls_7 (by decide) tx_7_6 rfl w_360 (by decide +kernel) ok_X7_keep_28
theorem ok_X7_keep_24 : zOK l D tc A nS xs mM_X7_keep 24 q_X7_keep_24 := s_aload_n (q := 0) rfl (by decide +kernel) (by decide +kernel) ok_X7_keep_25
theorem ok_X7_keep_21 : zOK l D tc A nS xs mM_X7_keep 21 q_X7_keep_21 := s_icmp_ge (tgt := 59) (off := 38) (by decide +kernel) (by decide) ok_X7_keep_59 ok_X7_keep_24
theorem ok_X7_keep_18 : zOK l D tc A nS xs mM_X7_keep 18 q_X7_keep_18 := s_sipush (n := 300) (by decide) (by decide +kernel) (by decide +kernel) ok_X7_keep_21
theorem ok_X7_keep_17 : zOK l D tc A nS xs mM_X7_keep 17 q_X7_keep_17 := s_iload_n (q := 1) rfl (by decide +kernel) (by decide +kernel) ok_X7_keep_18
theorem ok_X7_keep_16 : zOK l D tc A nS xs mM_X7_keep 16 q_X7_keep_16 := s_istore_n (q := 1) rfl (by decide +kernel) (by decide +kernel) ok_X7_keep_17
theorem ok_X7_keep_15 : zOK l D tc A nS xs mM_X7_keep 15 q_X7_keep_15 := s_iconst (n := 0) (by decide) (by decide +kernel) (by decide +kernel) ok_X7_keep_16
theorem ok_X7_keep_12 : zOK l D tc A nS xs mM_X7_keep 12 q_X7_keep_12 := r_callV zEE_ok zTw_gd kls_10 (M2 := mM_X10_turnKept) (na := 0) lb_142 calV_X10_turnKept rfl rfl w_373 (by decide +kernel) ok_X7_keep_15
theorem ok_X7_keep_9 : zOK l D tc A nS xs mM_X7_keep 9 q_X7_keep_9 := r_getf kls_7 (by decide) tx_7_0 rfl w_361 (by decide +kernel) ok_X7_keep_12
theorem ok_X7_keep_8 : zOK l D tc A nS xs mM_X7_keep 8 q_X7_keep_8 := s_aload_n (q := 0) rfl (by decide +kernel) (by decide +kernel) ok_X7_keep_9
theorem ok_X7_keep_7 : zOK l D tc A nS xs mM_X7_keep 7 q_X7_keep_7 := s_vret rfl (by decide +kernel)
theorem ok_X7_keep_4 : zOK l D tc A nS xs mM_X7_keep 4 q_X7_keep_4 := s_if_ne (tgt := 8) (off := 4) (by decide +kernel) (by decide) ok_X7_keep_8 ok_X7_keep_7
theorem ok_X7_keep_1 : zOK l D tc A nS xs mM_X7_keep 1 q_X7_keep_1 := r_getf kls_7 (by decide) tx_7_14 rfl w_377 (by decide +kernel) ok_X7_keep_4
theorem ok_X7_keep_0 : zOK l D tc A nS xs mM_X7_keep 0 q_X7_keep_0 := s_aload_n (q := 0) rfl (by decide +kernel) (by decide +kernel) ok_X7_keep_1
theorem ok_X7_keywordOf_23 : zOK l D tc A nS xs mM_X7_keywordOf 23 q_X7_keywordOf_23 := s_iret rfl (by decide +kernel)
theorem ok_X7_keywordOf_19 : zOK l D tc A nS xs mM_X7_keywordOf 19 q_X7_keywordOf_19 := s_goto (tgt := 23) (off := 4) (by decide +kernel) (by decide) ok_X7_keywordOf_23
theorem ok_X7_keywordOf_18 : zOK l D tc A nS xs mM_X7_keywordOf 18 q_X7_keywordOf_18 := s_isub (by decide +kernel) ok_X7_keywordOf_19
theorem ok_X7_keywordOf_15 : zOK l D tc A nS xs mM_X7_keywordOf 15 q_X7_keywordOf_15 := s_sipush (n := 1000) (by decide) (by decide +kernel) (by decide +kernel) ok_X7_keywordOf_18
theorem ok_X7_keywordOf_14 : zOK l D tc A nS xs mM_X7_keywordOf 14 q_X7_keywordOf_14 := s_iload_n (q := 1) rfl (by decide +kernel) (by decide +kernel) ok_X7_keywordOf_15
theorem ok_X7_keywordOf_11 : zOK l D tc A nS xs mM_X7_keywordOf 11 q_X7_keywordOf_11 := s_icmp_ge (tgt := 22) (off := 11) (by decide +kernel) (by decide) s_none ok_X7_keywordOf_14
theorem ok_X7_keywordOf_8 : zOK l D tc A nS xs mM_X7_keywordOf 8 q_X7_keywordOf_8 := s_sipush (n := 2000) (by decide) (by decide +kernel) (by decide +kernel) ok_X7_keywordOf_11
theorem ok_X7_keywordOf_7 : zOK l D tc A nS xs mM_X7_keywordOf 7 q_X7_keywordOf_7 := s_iload_n (q := 1) rfl (by decide +kernel) (by decide +kernel) ok_X7_keywordOf_8
theorem ok_X7_keywordOf_4 : zOK l D tc A nS xs mM_X7_keywordOf 4 q_X7_keywordOf_4 := s_icmp_lt (tgt := 22) (off := 18) (by decide +kernel) (by decide) s_none ok_X7_keywordOf_7
theorem ok_X7_keywordOf_1 : zOK l D tc A nS xs mM_X7_keywordOf 1 q_X7_keywordOf_1 := s_sipush (n := 1000) (by decide) (by decide +kernel) (by decide +kernel) ok_X7_keywordOf_4
theorem ok_X7_keywordOf_0 : zOK l D tc A nS xs mM_X7_keywordOf 0 q_X7_keywordOf_0 := s_iload_n (q := 1) rfl (by decide +kernel) (by decide +kernel) ok_X7_keywordOf_1
theorem ok_X7_mark_58 : zOK l D tc A nS xs mM_X7_mark 58 q_X7_mark_58 := s_vret rfl (by decide +kernel)
theorem ok_X7_mark_55 : zOK l D tc A nS xs mM_X7_mark 55 q_X7_mark_55 := r_putf kls_7 ty_7_13 zck_int (by decide) tx_7_13 rfl w_378 (by decide +kernel) ok_X7_mark_58
theorem ok_X7_mark_52 : zOK l D tc A nS xs mM_X7_mark 52 q_X7_mark_52 := r_getf kls_7 (by decide) tx_7_11 rfl w_356 (by decide +kernel) ok_X7_mark_55
theorem ok_X7_mark_51 : zOK l D tc A nS xs mM_X7_mark 51 q_X7_mark_51 := s_aload_n (q := 0) rfl (by decide +kernel) (by decide +kernel) ok_X7_mark_52
theorem ok_X7_mark_50 : zOK l D tc A nS xs mM_X7_mark 50 q_X7_mark_50 := s_aload_n (q := 0) rfl (by decide +kernel) (by decide +kernel) ok_X7_mark_51
theorem ok_X7_mark_47 : zOK l D tc A nS xs mM_X7_mark 47 q_X7_mark_47 := r_putf kls_7 ty_7_12 zck_int (by decide) tx_7_12 rfl w_379 (by decide +kernel) ok_X7_mark_50
theorem ok_X7_mark_44 : zOK l D tc A nS xs mM_X7_mark 44 q_X7_mark_44 := r_getf kls_7 (by decide) tx_7_10 rfl w_357 (by decide +kernel) ok_X7_mark_47
theorem ok_X7_mark_43 : zOK l D tc A nS xs mM_X7_mark 43 q_X7_mark_43 := s_aload_n (q := 0) rfl (by decide +kernel) (by decide +kernel) ok_X7_mark_44
theorem ok_X7_mark_42 : zOK l D tc A nS xs mM_X7_mark 42 q_X7_mark_42 := s_aload_n (q := 0) rfl (by decide +kernel) (by decide +kernel) ok_X7_mark_43
theorem ok_X7_mark_39 : zOK l D tc A nS xs mM_X7_mark 39 q_X7_mark_39 := s_acopy (t0 := 0) (by decide +kernel) rfl w_380 w_381 w_382 w_383 (by decide +kernel) ok_X7_mark_42
theorem ok_X7_mark_36 : zOK l D tc A nS xs mM_X7_mark 36 q_X7_mark_36 := s_sipush (n := 300) (by decide) (by decide +kernel) (by decide +kernel) ok_X7_mark_39
theorem ok_X7_mark_35 : zOK l D tc A nS xs mM_X7_mark 35 q_X7_mark_35 := s_iconst (n := 0) (by decide) (by decide +kernel) (by decide +kernel) ok_X7_mark_36
theorem ok_X7_mark_32 : zOK l D tc A nS xs mM_X7_mark 32 q_X7_mark_32 := r_getf kls_7 (by decide) tx_7_9 rfl w_362 (by decide +kernel) ok_X7_mark_35
theorem ok_X7_mark_31 : zOK l D tc A nS xs mM_X7_mark 31 q_X7_mark_31 := s_aload_n (q := 0) rfl (by decide +kernel) (by decide +kernel) ok_X7_mark_32
theorem ok_X7_mark_30 : zOK l D tc A nS xs mM_X7_mark 30 q_X7_mark_30 := s_iconst (n := 0) (by decide) (by decide +kernel) (by decide +kernel) ok_X7_mark_31
theorem ok_X7_mark_27 : zOK l D tc A nS xs mM_X7_mark 27 q_X7_mark_27 := r_getf kls_7 (by decide) tx_7_7 rfl w_359 (by decide +kernel) ok_X7_mark_30
theorem ok_X7_mark_26 : zOK l D tc A nS xs mM_X7_mark 26 q_X7_mark_26 := s_aload_n (q := 0) rfl (by decide +kernel) (by decide +kernel) ok_X7_mark_27
theorem ok_X7_mark_23 : zOK l D tc A nS xs mM_X7_mark 23 q_X7_mark_23 := s_acopy (t0 := 0) (by decide +kernel) rfl w_380 w_381 w_382 w_383 (by decide +kernel) ok_X7_mark_26
theorem ok_X7_mark_20 : zOK l D tc A nS xs mM_X7_mark 20 q_X7_mark_20 := s_sipush (n := 300) (by decide) (by decide +kernel) (by decide +kernel) ok_X7_mark_23
theorem ok_X7_mark_19 : zOK l D tc A nS xs mM_X7_mark 19 q_X7_mark_19 := s_iconst (n := 0) (by decide) (by decide +kernel) (by decide +kernel) ok_X7_mark_20
theorem ok_X7_mark_16 : zOK l D tc A nS xs mM_X7_mark 16 q_X7_mark_16 := r_getf kls_7 (by decide) tx_7_8 rfl w_363 (by decide +kernel) ok_X7_mark_19
theorem ok_X7_mark_15 : zOK l D tc A nS xs mM_X7_mark 15 q_X7_mark_15 := s_aload_n (q := 0) rfl (by decide +kernel) (by decide +kernel) ok_X7_mark_16
theorem ok_X7_mark_14 : zOK l D tc A nS xs mM_X7_mark 14 q_X7_mark_14 := s_iconst (n := 0) (by decide) (by decide +kernel) (by decide +kernel) ok_X7_mark_15
theorem ok_X7_mark_11 : zOK l D tc A nS xs mM_X7_mark 11 q_X7_mark_11 := r_getf kls_7 (by decide) tx_7_6 rfl w_360 (by decide +kernel) ok_X7_mark_14
theorem ok_X7_mark_10 : zOK l D tc A nS xs mM_X7_mark 10 q_X7_mark_10 := s_aload_n (q := 0) rfl (by decide +kernel) (by decide +kernel) ok_X7_mark_11
theorem ok_X7_mark_7 : zOK l D tc A nS xs mM_X7_mark 7 q_X7_mark_7 := r_putf kls_7 ty_7_14 zck_bool (by decide) tx_7_14 rfl w_377 (by decide +kernel) ok_X7_mark_10
theorem ok_X7_mark_6 : zOK l D tc A nS xs mM_X7_mark 6 q_X7_mark_6 := s_iconst (n := 0) (by decide) (by decide +kernel) (by decide +kernel) ok_X7_mark_7
theorem ok_X7_mark_5 : zOK l D tc A nS xs mM_X7_mark 5 q_X7_mark_5 := s_aload_n (q := 0) rfl (by decide +kernel) (by decide +kernel) ok_X7_mark_6
theorem ok_X7_mark_2 : zOK l D tc A nS xs mM_X7_mark 2 q_X7_mark_2 := r_putf kls_7 ty_7_5 zck_int (by decide) tx_7_5 rfl w_384 (by decide +kernel) ok_X7_mark_5
theorem ok_X7_mark_1 : zOK l D tc A nS xs mM_X7_mark 1 q_X7_mark_1 := s_iconst (n := 0) (by decide) (by decide +kernel) (by decide +kernel) ok_X7_mark_2
theorem ok_X7_mark_0 : zOK l D tc A nS xs mM_X7_mark 0 q_X7_mark_0 := s_aload_n (q := 0) rfl (by decide +kernel) (by decide +kernel) ok_X7_mark_1
theorem ok_X7_meaning_83 : zOK l D tc A nS xs mM_X7_meaning 83 q_X7_meaning_83 := s_iret rfl (by decide +kernel)
theorem ok_X7_meaning_80 : zOK l D tc A nS xs mM_X7_meaning 80 q_X7_meaning_80 := r_callV zEE_ok zTw_gd kls_7 (M2 := mM_X7_ofSymbol) (na := 1) lb_100 calV_X7_ofSymbol rfl rfl w_385 (by decide +kernel) ok_X7_meaning_83
theorem ok_X7_meaning_79 : zOK l D tc A nS xs mM_X7_meaning 79 q_X7_meaning_79 := s_iload_n (q := 3) rfl (by decide +kernel) (by decide +kernel) ok_X7_meaning_80
theorem ok_X7_meaning_78 : zOK l D tc A nS xs mM_X7_meaning 78 q_X7_meaning_78 := s_aload_n (q := 0) rfl (by decide +kernel) (by decide +kernel) ok_X7_meaning_79
theorem ok_X7_meaning_75 : zOK l D tc A nS xs mM_X7_meaning 75 q_X7_meaning_75 := s_icmp_ge (tgt := 84) (off := 9) (by decide +kernel) (by decide) s_none ok_X7_meaning_78
theorem ok_X7_meaning_72 : zOK l D tc A nS xs mM_X7_meaning 72 q_X7_meaning_72 := s_sipush (n := 512) (by decide) (by decide +kernel) (by decide +kernel) ok_X7_meaning_75
theorem ok_X7_meaning_71 : zOK l D tc A nS xs mM_X7_meaning 71 q_X7_meaning_71 := s_iload_n (q := 3) rfl (by decide +kernel) (by decide +kernel) ok_X7_meaning_72
theorem ok_X7_meaning_29 : zOK l D tc A nS xs mM_X7_meaning 29 q_X7_meaning_29 := s_if_le (tgt := 71) (off := 42) (by decide +kernel) (by decide) ok_X7_meaning_71 s_none
theorem ok_X7_meaning_27 : zOK l D tc A nS xs mM_X7_meaning 27 q_X7_meaning_27 := s_iload (by decide +kernel) (by decide +kernel) ok_X7_meaning_29
theorem ok_X7_meaning_24 : zOK l D tc A nS xs mM_X7_meaning 24 q_X7_meaning_24 := s_icmp_eq (tgt := 118) (off := 94) (by decide +kernel) (by decide) s_none ok_X7_meaning_27
theorem ok_X7_meaning_23 : zOK l D tc A nS xs mM_X7_meaning 23 q_X7_meaning_23 := s_iconst (n := (-1)) (by decide) (by decide +kernel) (by decide +kernel) ok_X7_meaning_24
theorem ok_X7_meaning_22 : zOK l D tc A nS xs mM_X7_meaning 22 q_X7_meaning_22 := s_iload_n (q := 3) rfl (by decide +kernel) (by decide +kernel) ok_X7_meaning_23
theorem ok_X7_meaning_19 : zOK l D tc A nS xs mM_X7_meaning 19 q_X7_meaning_19 := s_icmp_ge (tgt := 118) (off := 99) (by decide +kernel) (by decide) s_none ok_X7_meaning_22
theorem ok_X7_meaning_17 : zOK l D tc A nS xs mM_X7_meaning 17 q_X7_meaning_17 := r_ldc (by decide) (x := (100000000 : Int32)) (by decide +kernel) rfl w_388 (by decide +kernel) ok_X7_meaning_19
theorem ok_X7_meaning_15 : zOK l D tc A nS xs mM_X7_meaning 15 q_X7_meaning_15 := s_iload (by decide +kernel) (by decide +kernel) ok_X7_meaning_17
theorem ok_X7_meaning_13 : zOK l D tc A nS xs mM_X7_meaning 13 q_X7_meaning_13 := s_istore (by decide +kernel) (by decide +kernel) ok_X7_meaning_15
theorem ok_X7_meaning_12 : zOK l D tc A nS xs mM_X7_meaning 12 q_X7_meaning_12 := s_iconst (n := 0) (by decide) (by decide +kernel) (by decide +kernel) ok_X7_meaning_13
theorem ok_X7_meaning_10 : zOK l D tc A nS xs mM_X7_meaning 10 q_X7_meaning_10 := s_istore (by decide +kernel) (by decide +kernel) ok_X7_meaning_12
theorem ok_X7_meaning_9 : zOK l D tc A nS xs mM_X7_meaning 9 q_X7_meaning_9 := s_iload_n (q := 2) rfl (by decide +kernel) (by decide +kernel) ok_X7_meaning_10
theorem ok_X7_meaning_8 : zOK l D tc A nS xs mM_X7_meaning 8 q_X7_meaning_8 := s_istore_n (q := 3) rfl (by decide +kernel) (by decide +kernel) ok_X7_meaning_9
theorem ok_X7_meaning_5 : zOK l D tc A nS xs mM_X7_meaning 5 q_X7_meaning_5 := r_callV zEE_ok zTw_gd kls_10 (M2 := mM_X10_nameOf) (na := 1) lb_135 calV_X10_nameOf rfl rfl w_389 (by decide +kernel) ok_X7_meaning_8
theorem ok_X7_meaning_4 : zOK l D tc A nS xs mM_X7_meaning 4 q_X7_meaning_4 := s_iload_n (q := 1) rfl (by decide +kernel) (by decide +kernel) ok_X7_meaning_5
theorem ok_X7_meaning_1 : zOK l D tc A nS xs mM_X7_meaning 1 q_X7_meaning_1 := r_getf kls_7 (by decide) tx_7_0 rfl w_361 (by decide +kernel) ok_X7_meaning_4
theorem ok_X7_meaning_0 : zOK l D tc A nS xs mM_X7_meaning 0 q_X7_meaning_0 := s_aload_n (q := 0) rfl (by decide +kernel) (by decide +kernel) ok_X7_meaning_1
theorem ok_X7_ofSymbol_42 : zOK l D tc A nS xs mM_X7_ofSymbol 42 q_X7_ofSymbol_42 := s_iret rfl (by decide +kernel)
theorem ok_X7_ofSymbol_38 : zOK l D tc A nS xs mM_X7_ofSymbol 38 q_X7_ofSymbol_38 := s_goto (tgt := 42) (off := 4) (by decide +kernel) (by decide) ok_X7_ofSymbol_42
theorem ok_X7_ofSymbol_37 : zOK l D tc A nS xs mM_X7_ofSymbol 37 q_X7_ofSymbol_37 := s_iadd (by decide +kernel) ok_X7_ofSymbol_38
theorem ok_X7_ofSymbol_36 : zOK l D tc A nS xs mM_X7_ofSymbol 36 q_X7_ofSymbol_36 := s_iload_n (q := 1) rfl (by decide +kernel) (by decide +kernel) ok_X7_ofSymbol_37
theorem ok_X7_ofSymbol_33 : zOK l D tc A nS xs mM_X7_ofSymbol 33 q_X7_ofSymbol_33 := s_sipush (n := 1000) (by decide) (by decide +kernel) (by decide +kernel) ok_X7_ofSymbol_36
theorem ok_X7_ofSymbol_30 : zOK l D tc A nS xs mM_X7_ofSymbol 30 q_X7_ofSymbol_30 := s_icmp_ge (tgt := 41) (off := 11) (by decide +kernel) (by decide) s_none ok_X7_ofSymbol_33
theorem ok_X7_ofSymbol_28 : zOK l D tc A nS xs mM_X7_ofSymbol 28 q_X7_ofSymbol_28 := s_bipush (n := 8) (by decide) (by decide +kernel) (by decide +kernel) ok_X7_ofSymbol_30
theorem ok_X7_ofSymbol_27 : zOK l D tc A nS xs mM_X7_ofSymbol 27 q_X7_ofSymbol_27 := s_iload_n (q := 1) rfl (by decide +kernel) (by decide +kernel) ok_X7_ofSymbol_28
theorem ok_X7_ofSymbol_18 : zOK l D tc A nS xs mM_X7_ofSymbol 18 q_X7_ofSymbol_18 := s_icmp_eq (tgt := 27) (off := 9) (by decide +kernel) (by decide) ok_X7_ofSymbol_27 s_none
theorem ok_X7_ofSymbol_17 : zOK l D tc A nS xs mM_X7_ofSymbol 17 q_X7_ofSymbol_17 := s_iconst (n := (-1)) (by decide) (by decide +kernel) (by decide +kernel) ok_X7_ofSymbol_18
theorem ok_X7_ofSymbol_16 : zOK l D tc A nS xs mM_X7_ofSymbol 16 q_X7_ofSymbol_16 := s_iald (t0 := 0) (by decide) (by decide) rfl (by decide +kernel) ok_X7_ofSymbol_17
theorem ok_X7_ofSymbol_15 : zOK l D tc A nS xs mM_X7_ofSymbol 15 q_X7_ofSymbol_15 := s_iload_n (q := 1) rfl (by decide +kernel) (by decide +kernel) ok_X7_ofSymbol_16
theorem ok_X7_ofSymbol_12 : zOK l D tc A nS xs mM_X7_ofSymbol 12 q_X7_ofSymbol_12 := r_getf kls_7 (by decide) tx_7_6 rfl w_360 (by decide +kernel) ok_X7_ofSymbol_15
theorem ok_X7_ofSymbol_11 : zOK l D tc A nS xs mM_X7_ofSymbol 11 q_X7_ofSymbol_11 := s_aload_n (q := 0) rfl (by decide +kernel) (by decide +kernel) ok_X7_ofSymbol_12
theorem ok_X7_ofSymbol_8 : zOK l D tc A nS xs mM_X7_ofSymbol 8 q_X7_ofSymbol_8 := s_icmp_ge (tgt := 27) (off := 19) (by decide +kernel) (by decide) ok_X7_ofSymbol_27 ok_X7_ofSymbol_11
theorem ok_X7_ofSymbol_5 : zOK l D tc A nS xs mM_X7_ofSymbol 5 q_X7_ofSymbol_5 := s_sipush (n := 300) (by decide) (by decide +kernel) (by decide +kernel) ok_X7_ofSymbol_8
theorem ok_X7_ofSymbol_4 : zOK l D tc A nS xs mM_X7_ofSymbol 4 q_X7_ofSymbol_4 := s_iload_n (q := 1) rfl (by decide +kernel) (by decide +kernel) ok_X7_ofSymbol_5
theorem ok_X7_ofSymbol_1 : zOK l D tc A nS xs mM_X7_ofSymbol 1 q_X7_ofSymbol_1 := s_if_lt (tgt := 27) (off := 26) (by decide +kernel) (by decide) ok_X7_ofSymbol_27 ok_X7_ofSymbol_4
theorem ok_X7_ofSymbol_0 : zOK l D tc A nS xs mM_X7_ofSymbol 0 q_X7_ofSymbol_0 := s_iload_n (q := 1) rfl (by decide +kernel) (by decide +kernel) ok_X7_ofSymbol_1
theorem ok_X7_tellMacro_136 : zOK l D tc A nS xs mM_X7_tellMacro 136 q_X7_tellMacro_136 := s_zret rfl (by decide +kernel)
theorem ok_X7_tellMacro_135 : zOK l D tc A nS xs mM_X7_tellMacro 135 q_X7_tellMacro_135 := s_iconst (n := 1) (by decide) (by decide +kernel) (by decide +kernel) ok_X7_tellMacro_136
theorem ok_X7_tellMacro_132 : zOK l D tc A nS xs mM_X7_tellMacro 132 q_X7_tellMacro_132 := r_putf kls_7 ty_7_14 zck_bool (by decide) tx_7_14 rfl w_377 (by decide +kernel) ok_X7_tellMacro_135
theorem ok_X7_tellMacro_131 : zOK l D tc A nS xs mM_X7_tellMacro 131 q_X7_tellMacro_131 := s_iconst (n := 1) (by decide) (by decide +kernel) (by decide +kernel) ok_X7_tellMacro_132
theorem ok_X7_tellMacro_130 : zOK l D tc A nS xs mM_X7_tellMacro 130 q_X7_tellMacro_130 := s_aload_n (q := 0) rfl (by decide +kernel) (by decide +kernel) ok_X7_tellMacro_131
theorem ok_X7_tellMacro_129 : zOK l D tc A nS xs mM_X7_tellMacro 129 q_X7_tellMacro_129 := s_iast (t0 := 0) (by decide) (by decide) rfl (by decide +kernel) ok_X7_tellMacro_130
theorem ok_X7_tellMacro_128 : zOK l D tc A nS xs mM_X7_tellMacro 128 q_X7_tellMacro_128 := s_iload_n (q := 2) rfl (by decide +kernel) (by decide +kernel) ok_X7_tellMacro_129
theorem ok_X7_tellMacro_127 : zOK l D tc A nS xs mM_X7_tellMacro 127 q_X7_tellMacro_127 := s_iload_n (q := 1) rfl (by decide +kernel) (by decide +kernel) ok_X7_tellMacro_128
theorem ok_X7_tellMacro_124 : zOK l D tc A nS xs mM_X7_tellMacro 124 q_X7_tellMacro_124 := r_getf kls_7 (by decide) tx_7_6 rfl w_360 (by decide +kernel) ok_X7_tellMacro_127
theorem ok_X7_tellMacro_123 : zOK l D tc A nS xs mM_X7_tellMacro 123 q_X7_tellMacro_123 := s_aload_n (q := 0) rfl (by decide +kernel) (by decide +kernel) ok_X7_tellMacro_124
theorem ok_X7_tellMacro_122 : zOK l D tc A nS xs mM_X7_tellMacro 122 q_X7_tellMacro_122 := s_iast (t0 := 0) (by decide) (by decide) rfl (by decide +kernel) ok_X7_tellMacro_123
theorem ok_X7_tellMacro_120 : zOK l D tc A nS xs mM_X7_tellMacro 120 q_X7_tellMacro_120 := s_iload (by decide +kernel) (by decide +kernel) ok_X7_tellMacro_122
theorem ok_X7_tellMacro_119 : zOK l D tc A nS xs mM_X7_tellMacro 119 q_X7_tellMacro_119 := s_iload_n (q := 1) rfl (by decide +kernel) (by decide +kernel) ok_X7_tellMacro_120
theorem ok_X7_tellMacro_116 : zOK l D tc A nS xs mM_X7_tellMacro 116 q_X7_tellMacro_116 := r_getf kls_7 (by decide) tx_7_7 rfl w_359 (by decide +kernel) ok_X7_tellMacro_119
theorem ok_X7_tellMacro_115 : zOK l D tc A nS xs mM_X7_tellMacro 115 q_X7_tellMacro_115 := s_aload_n (q := 0) rfl (by decide +kernel) (by decide +kernel) ok_X7_tellMacro_116
theorem ok_X7_tellMacro_112 : zOK l D tc A nS xs mM_X7_tellMacro 112 q_X7_tellMacro_112 := r_putf kls_7 ty_7_11 zck_int (by decide) tx_7_11 rfl w_356 (by decide +kernel) ok_X7_tellMacro_115
theorem ok_X7_tellMacro_111 : zOK l D tc A nS xs mM_X7_tellMacro 111 q_X7_tellMacro_111 := s_iadd (by decide +kernel) ok_X7_tellMacro_112
theorem ok_X7_tellMacro_110 : zOK l D tc A nS xs mM_X7_tellMacro 110 q_X7_tellMacro_110 := s_isub (by decide +kernel) ok_X7_tellMacro_111
theorem ok_X7_tellMacro_109 : zOK l D tc A nS xs mM_X7_tellMacro 109 q_X7_tellMacro_109 := s_iald (t0 := 0) (by decide) (by decide) rfl (by decide +kernel) ok_X7_tellMacro_110
theorem ok_X7_tellMacro_108 : zOK l D tc A nS xs mM_X7_tellMacro 108 q_X7_tellMacro_108 := s_iload_n (q := 1) rfl (by decide +kernel) (by decide +kernel) ok_X7_tellMacro_109
theorem ok_X7_tellMacro_105 : zOK l D tc A nS xs mM_X7_tellMacro 105 q_X7_tellMacro_105 := r_getf kls_7 (by decide) tx_7_7 rfl w_359 (by decide +kernel) ok_X7_tellMacro_108
theorem ok_X7_tellMacro_104 : zOK l D tc A nS xs mM_X7_tellMacro 104 q_X7_tellMacro_104 := s_aload_n (q := 0) rfl (by decide +kernel) (by decide +kernel) ok_X7_tellMacro_105
theorem ok_X7_tellMacro_102 : zOK l D tc A nS xs mM_X7_tellMacro 102 q_X7_tellMacro_102 := s_iload (by decide +kernel) (by decide +kernel) ok_X7_tellMacro_104
theorem ok_X7_tellMacro_99 : zOK l D tc A nS xs mM_X7_tellMacro 99 q_X7_tellMacro_99 := r_getf kls_7 (by decide) tx_7_11 rfl w_356 (by decide +kernel) ok_X7_tellMacro_102
theorem ok_X7_tellMacro_98 : zOK l D tc A nS xs mM_X7_tellMacro 98 q_X7_tellMacro_98 := s_dup (by decide +kernel) ok_X7_tellMacro_99
theorem ok_X7_tellMacro_97 : zOK l D tc A nS xs mM_X7_tellMacro 97 q_X7_tellMacro_97 := s_aload_n (q := 0) rfl (by decide +kernel) (by decide +kernel) ok_X7_tellMacro_98
theorem ok_X7_tellMacro_94 : zOK l D tc A nS xs mM_X7_tellMacro 94 q_X7_tellMacro_94 := r_putf kls_7 ty_7_10 zck_int (by decide) tx_7_10 rfl w_357 (by decide +kernel) ok_X7_tellMacro_97
theorem ok_X7_tellMacro_93 : zOK l D tc A nS xs mM_X7_tellMacro 93 q_X7_tellMacro_93 := s_iadd (by decide +kernel) ok_X7_tellMacro_94
theorem ok_X7_tellMacro_89 : zOK l D tc A nS xs mM_X7_tellMacro 89 q_X7_tellMacro_89 := s_goto (tgt := 93) (off := 4) (by decide +kernel) (by decide) ok_X7_tellMacro_93
theorem ok_X7_tellMacro_88 : zOK l D tc A nS xs mM_X7_tellMacro 88 q_X7_tellMacro_88 := s_iconst (n := 1) (by decide) (by decide +kernel) (by decide +kernel) ok_X7_tellMacro_89
theorem ok_X7_tellMacro_85 : zOK l D tc A nS xs mM_X7_tellMacro 85 q_X7_tellMacro_85 := s_if_eq (tgt := 92) (off := 7) (by decide +kernel) (by decide) s_none ok_X7_tellMacro_88
theorem ok_X7_tellMacro_84 : zOK l D tc A nS xs mM_X7_tellMacro 84 q_X7_tellMacro_84 := s_iload_n (q := 3) rfl (by decide +kernel) (by decide +kernel) ok_X7_tellMacro_85
theorem ok_X7_tellMacro_81 : zOK l D tc A nS xs mM_X7_tellMacro 81 q_X7_tellMacro_81 := r_getf kls_7 (by decide) tx_7_10 rfl w_357 (by decide +kernel) ok_X7_tellMacro_84
theorem ok_X7_tellMacro_80 : zOK l D tc A nS xs mM_X7_tellMacro 80 q_X7_tellMacro_80 := s_dup (by decide +kernel) ok_X7_tellMacro_81
theorem ok_X7_tellMacro_79 : zOK l D tc A nS xs mM_X7_tellMacro 79 q_X7_tellMacro_79 := s_aload_n (q := 0) rfl (by decide +kernel) (by decide +kernel) ok_X7_tellMacro_80
theorem ok_X7_tellMacro_74 : zOK l D tc A nS xs mM_X7_tellMacro 74 q_X7_tellMacro_74 := s_icmp_le (tgt := 79) (off := 5) (by decide +kernel) (by decide) ok_X7_tellMacro_79 s_none
theorem ok_X7_tellMacro_71 : zOK l D tc A nS xs mM_X7_tellMacro 71 q_X7_tellMacro_71 := s_sipush (n := 3000) (by decide) (by decide +kernel) (by decide +kernel) ok_X7_tellMacro_74
theorem ok_X7_tellMacro_70 : zOK l D tc A nS xs mM_X7_tellMacro 70 q_X7_tellMacro_70 := s_iadd (by decide +kernel) ok_X7_tellMacro_71
theorem ok_X7_tellMacro_68 : zOK l D tc A nS xs mM_X7_tellMacro 68 q_X7_tellMacro_68 := s_iload (by decide +kernel) (by decide +kernel) ok_X7_tellMacro_70
theorem ok_X7_tellMacro_67 : zOK l D tc A nS xs mM_X7_tellMacro 67 q_X7_tellMacro_67 := s_isub (by decide +kernel) ok_X7_tellMacro_68
theorem ok_X7_tellMacro_66 : zOK l D tc A nS xs mM_X7_tellMacro 66 q_X7_tellMacro_66 := s_iald (t0 := 0) (by decide) (by decide) rfl (by decide +kernel) ok_X7_tellMacro_67
theorem ok_X7_tellMacro_65 : zOK l D tc A nS xs mM_X7_tellMacro 65 q_X7_tellMacro_65 := s_iload_n (q := 1) rfl (by decide +kernel) (by decide +kernel) ok_X7_tellMacro_66
theorem ok_X7_tellMacro_62 : zOK l D tc A nS xs mM_X7_tellMacro 62 q_X7_tellMacro_62 := r_getf kls_7 (by decide) tx_7_7 rfl w_359 (by decide +kernel) ok_X7_tellMacro_65
theorem ok_X7_tellMacro_61 : zOK l D tc A nS xs mM_X7_tellMacro 61 q_X7_tellMacro_61 := s_aload_n (q := 0) rfl (by decide +kernel) (by decide +kernel) ok_X7_tellMacro_62
theorem ok_X7_tellMacro_58 : zOK l D tc A nS xs mM_X7_tellMacro 58 q_X7_tellMacro_58 := r_getf kls_7 (by decide) tx_7_11 rfl w_356 (by decide +kernel) ok_X7_tellMacro_61
theorem ok_X7_tellMacro_57 : zOK l D tc A nS xs mM_X7_tellMacro 57 q_X7_tellMacro_57 := s_aload_n (q := 0) rfl (by decide +kernel) (by decide +kernel) ok_X7_tellMacro_58
theorem ok_X7_tellMacro_54 : zOK l D tc A nS xs mM_X7_tellMacro 54 q_X7_tellMacro_54 := s_icmp_ge (tgt := 77) (off := 23) (by decide +kernel) (by decide) s_none ok_X7_tellMacro_57
theorem ok_X7_tellMacro_52 : zOK l D tc A nS xs mM_X7_tellMacro 52 q_X7_tellMacro_52 := s_bipush (n := 60) (by decide) (by decide +kernel) (by decide +kernel) ok_X7_tellMacro_54
theorem ok_X7_tellMacro_49 : zOK l D tc A nS xs mM_X7_tellMacro 49 q_X7_tellMacro_49 := r_getf kls_7 (by decide) tx_7_10 rfl w_357 (by decide +kernel) ok_X7_tellMacro_52
theorem ok_X7_tellMacro_48 : zOK l D tc A nS xs mM_X7_tellMacro 48 q_X7_tellMacro_48 := s_aload_n (q := 0) rfl (by decide +kernel) (by decide +kernel) ok_X7_tellMacro_49
theorem ok_X7_tellMacro_45 : zOK l D tc A nS xs mM_X7_tellMacro 45 q_X7_tellMacro_45 := s_if_eq (tgt := 57) (off := 12) (by decide +kernel) (by decide) ok_X7_tellMacro_57 ok_X7_tellMacro_48
theorem ok_X7_tellMacro_44 : zOK l D tc A nS xs mM_X7_tellMacro 44 q_X7_tellMacro_44 := s_iload_n (q := 3) rfl (by decide +kernel) (by decide +kernel) ok_X7_tellMacro_45
theorem ok_X7_tellMacro_42 : zOK l D tc A nS xs mM_X7_tellMacro 42 q_X7_tellMacro_42 := s_istore (by decide +kernel) (by decide +kernel) ok_X7_tellMacro_44
theorem ok_X7_tellMacro_39 : zOK l D tc A nS xs mM_X7_tellMacro 39 q_X7_tellMacro_39 := r_callV zEE_ok zTw_gd kls_10 (M2 := mM_X10_measure) (na := 3) lb_134 calV_X10_measure rfl rfl w_390 (by decide +kernel) ok_X7_tellMacro_42
theorem ok_X7_tellMacro_37 : zOK l D tc A nS xs mM_X7_tellMacro 37 q_X7_tellMacro_37 := s_bipush (n := 110) (by decide) (by decide +kernel) (by decide +kernel) ok_X7_tellMacro_39
theorem ok_X7_tellMacro_34 : zOK l D tc A nS xs mM_X7_tellMacro 34 q_X7_tellMacro_34 := s_sipush (n := 3000) (by decide) (by decide +kernel) (by decide +kernel) ok_X7_tellMacro_37
theorem ok_X7_tellMacro_33 : zOK l D tc A nS xs mM_X7_tellMacro 33 q_X7_tellMacro_33 := s_iload_n (q := 2) rfl (by decide +kernel) (by decide +kernel) ok_X7_tellMacro_34
theorem ok_X7_tellMacro_30 : zOK l D tc A nS xs mM_X7_tellMacro 30 q_X7_tellMacro_30 := r_getf kls_7 (by decide) tx_7_0 rfl w_361 (by decide +kernel) ok_X7_tellMacro_33
theorem ok_X7_tellMacro_29 : zOK l D tc A nS xs mM_X7_tellMacro 29 q_X7_tellMacro_29 := s_aload_n (q := 0) rfl (by decide +kernel) (by decide +kernel) ok_X7_tellMacro_30
theorem ok_X7_tellMacro_28 : zOK l D tc A nS xs mM_X7_tellMacro 28 q_X7_tellMacro_28 := s_istore_n (q := 3) rfl (by decide +kernel) (by decide +kernel) ok_X7_tellMacro_29
theorem ok_X7_tellMacro_24 : zOK l D tc A nS xs mM_X7_tellMacro 24 q_X7_tellMacro_24 := s_goto (tgt := 28) (off := 4) (by decide +kernel) (by decide) ok_X7_tellMacro_28
theorem ok_X7_tellMacro_23 : zOK l D tc A nS xs mM_X7_tellMacro 23 q_X7_tellMacro_23 := s_iconst (n := 1) (by decide) (by decide +kernel) (by decide +kernel) ok_X7_tellMacro_24
theorem ok_X7_tellMacro_20 : zOK l D tc A nS xs mM_X7_tellMacro 20 q_X7_tellMacro_20 := s_icmp_ne (tgt := 27) (off := 7) (by decide +kernel) (by decide) s_none ok_X7_tellMacro_23
theorem ok_X7_tellMacro_19 : zOK l D tc A nS xs mM_X7_tellMacro 19 q_X7_tellMacro_19 := s_iconst (n := (-1)) (by decide) (by decide +kernel) (by decide +kernel) ok_X7_tellMacro_20
theorem ok_X7_tellMacro_18 : zOK l D tc A nS xs mM_X7_tellMacro 18 q_X7_tellMacro_18 := s_iald (t0 := 0) (by decide) (by decide) rfl (by decide +kernel) ok_X7_tellMacro_19
theorem ok_X7_tellMacro_17 : zOK l D tc A nS xs mM_X7_tellMacro 17 q_X7_tellMacro_17 := s_iload_n (q := 1) rfl (by decide +kernel) (by decide +kernel) ok_X7_tellMacro_18
theorem ok_X7_tellMacro_14 : zOK l D tc A nS xs mM_X7_tellMacro 14 q_X7_tellMacro_14 := r_getf kls_7 (by decide) tx_7_6 rfl w_360 (by decide +kernel) ok_X7_tellMacro_17
theorem ok_X7_tellMacro_13 : zOK l D tc A nS xs mM_X7_tellMacro 13 q_X7_tellMacro_13 := s_aload_n (q := 0) rfl (by decide +kernel) (by decide +kernel) ok_X7_tellMacro_14
theorem ok_X7_tellMacro_8 : zOK l D tc A nS xs mM_X7_tellMacro 8 q_X7_tellMacro_8 := s_icmp_lt (tgt := 13) (off := 5) (by decide +kernel) (by decide) ok_X7_tellMacro_13 s_none
theorem ok_X7_tellMacro_5 : zOK l D tc A nS xs mM_X7_tellMacro 5 q_X7_tellMacro_5 := s_sipush (n := 300) (by decide) (by decide +kernel) (by decide +kernel) ok_X7_tellMacro_8
theorem ok_X7_tellMacro_4 : zOK l D tc A nS xs mM_X7_tellMacro 4 q_X7_tellMacro_4 := s_iload_n (q := 1) rfl (by decide +kernel) (by decide +kernel) ok_X7_tellMacro_5
theorem ok_X7_tellMacro_1 : zOK l D tc A nS xs mM_X7_tellMacro 1 q_X7_tellMacro_1 := s_if_lt (tgt := 11) (off := 10) (by decide +kernel) (by decide) s_none ok_X7_tellMacro_4
theorem ok_X7_tellMacro_0 : zOK l D tc A nS xs mM_X7_tellMacro 0 q_X7_tellMacro_0 := s_iload_n (q := 1) rfl (by decide +kernel) (by decide +kernel) ok_X7_tellMacro_1
theorem ok_X8_begin_15 : zOK l D tc A nS xs mM_X8_begin 15 q_X8_begin_15 := s_vret rfl (by decide +kernel)
theorem ok_X8_begin_12 : zOK l D tc A nS xs mM_X8_begin 12 q_X8_begin_12 := r_putf kls_8 ty_8_5 zck_bool (by decide) tx_8_5 rfl w_394 (by decide +kernel) ok_X8_begin_15
theorem ok_X8_begin_11 : zOK l D tc A nS xs mM_X8_begin 11 q_X8_begin_11 := s_iconst (n := 0) (by decide) (by decide +kernel) (by decide +kernel) ok_X8_begin_12
theorem ok_X8_begin_10 : zOK l D tc A nS xs mM_X8_begin 10 q_X8_begin_10 := s_aload_n (q := 0) rfl (by decide +kernel) (by decide +kernel) ok_X8_begin_11
theorem ok_X8_begin_7 : zOK l D tc A nS xs mM_X8_begin 7 q_X8_begin_7 := r_putf kls_8 ty_8_4 zck_int (by decide) tx_8_4 rfl w_395 (by decide +kernel) ok_X8_begin_10
theorem ok_X8_begin_6 : zOK l D tc A nS xs mM_X8_begin 6 q_X8_begin_6 := s_iconst (n := 0) (by decide) (by decide +kernel) (by decide +kernel) ok_X8_begin_7
theorem ok_X8_begin_5 : zOK l D tc A nS xs mM_X8_begin 5 q_X8_begin_5 := s_aload_n (q := 0) rfl (by decide +kernel) (by decide +kernel) ok_X8_begin_6
theorem ok_X8_begin_2 : zOK l D tc A nS xs mM_X8_begin 2 q_X8_begin_2 := r_putf kls_8 ty_8_3 zck_int (by decide) tx_8_3 rfl w_396 (by decide +kernel) ok_X8_begin_5
theorem ok_X8_begin_1 : zOK l D tc A nS xs mM_X8_begin 1 q_X8_begin_1 := s_iconst (n := 0) (by decide) (by decide +kernel) (by decide +kernel) ok_X8_begin_2
theorem ok_X8_begin_0 : zOK l D tc A nS xs mM_X8_begin 0 q_X8_begin_0 := s_aload_n (q := 0) rfl (by decide +kernel) (by decide +kernel) ok_X8_begin_1
theorem ok_X8_clear_10 : zOK l D tc A nS xs mM_X8_clear 10 q_X8_clear_10 := s_vret rfl (by decide +kernel)
theorem ok_X8_clear_7 : zOK l D tc A nS xs mM_X8_clear 7 q_X8_clear_7 := r_putf kls_8 ty_8_8 zck_int (by decide) tx_8_8 rfl w_397 (by decide +kernel) ok_X8_clear_10
theorem ok_X8_clear_6 : zOK l D tc A nS xs mM_X8_clear 6 q_X8_clear_6 := s_iconst (n := 0) (by decide) (by decide +kernel) (by decide +kernel) ok_X8_clear_7
theorem ok_X8_clear_5 : zOK l D tc A nS xs mM_X8_clear 5 q_X8_clear_5 := s_aload_n (q := 0) rfl (by decide +kernel) (by decide +kernel) ok_X8_clear_6
theorem ok_X8_clear_2 : zOK l D tc A nS xs mM_X8_clear 2 q_X8_clear_2 := r_putf kls_8 ty_8_7 zck_int (by decide) tx_8_7 rfl w_398 (by decide +kernel) ok_X8_clear_5
theorem ok_X8_clear_1 : zOK l D tc A nS xs mM_X8_clear 1 q_X8_clear_1 := s_iconst (n := 0) (by decide) (by decide +kernel) (by decide +kernel) ok_X8_clear_2
theorem ok_X8_clear_0 : zOK l D tc A nS xs mM_X8_clear 0 q_X8_clear_0 := s_aload_n (q := 0) rfl (by decide +kernel) (by decide +kernel) ok_X8_clear_1
theorem ok_X8_init_32 : zOK l D tc A nS xs mM_X8_init 32 q_X8_init_32 := s_vret rfl (by decide +kernel)
theorem ok_X8_init_29 : zOK l D tc A nS xs mM_X8_init 29 q_X8_init_29 := r_putF kls_8 ty_8_1 (zck_obj _) (by decide) tx_8_1 rfl rfl rfl w_399 (by decide +kernel) ok_X8_init_32
theorem ok_X8_init_28 : zOK l D tc A nS xs mM_X8_init 28 q_X8_init_28 := s_aload_n (q := 2) rfl (by decide +kernel) (by decide +kernel) ok_X8_init_29
theorem ok_X8_init_27 : zOK l D tc A nS xs mM_X8_init 27 q_X8_init_27 := s_aload_n (q := 0) rfl (by decide +kernel) (by decide +kernel) ok_X8_init_28
theorem ok_X8_init_24 : zOK l D tc A nS xs mM_X8_init 24 q_X8_init_24 := r_putF kls_8 ty_8_0 (zck_obj _) (by decide) tx_8_0 rfl rfl rfl w_400 (by decide +kernel) ok_X8_init_27
theorem ok_X8_init_23 : zOK l D tc A nS xs mM_X8_init 23 q_X8_init_23 := s_aload_n (q := 1) rfl (by decide +kernel) (by decide +kernel) ok_X8_init_24
theorem ok_X8_init_22 : zOK l D tc A nS xs mM_X8_init 22 q_X8_init_22 := s_aload_n (q := 0) rfl (by decide +kernel) (by decide +kernel) ok_X8_init_23
theorem ok_X8_init_19 : zOK l D tc A nS xs mM_X8_init 19 q_X8_init_19 := r_putF kls_8 ty_8_6 (zck_arr _) (by decide) tx_8_6 rfl rfl rfl w_401 (by decide +kernel) ok_X8_init_22
theorem ok_X8_init_17 : zOK l D tc A nS xs mM_X8_init 17 q_X8_init_17 := r_newa (t0 := 0) (atype := .int) (ty := .int) rfl (by decide) rfl rfl z_RA_int rfl (by decide) w_109 (by decide +kernel) ok_X8_init_19
theorem ok_X8_init_14 : zOK l D tc A nS xs mM_X8_init 14 q_X8_init_14 := s_sipush (n := 2000) (by decide) (by decide +kernel) (by decide +kernel) ok_X8_init_17
theorem ok_X8_init_13 : zOK l D tc A nS xs mM_X8_init 13 q_X8_init_13 := s_aload_n (q := 0) rfl (by decide +kernel) (by decide +kernel) ok_X8_init_14
theorem ok_X8_init_10 : zOK l D tc A nS xs mM_X8_init 10 q_X8_init_10 := r_putF kls_8 ty_8_2 (zck_arr _) (by decide) tx_8_2 rfl rfl rfl w_402 (by decide +kernel) ok_X8_init_13
theorem ok_X8_init_8 : zOK l D tc A nS xs mM_X8_init 8 q_X8_init_8 := r_newa (t0 := 0) (atype := .int) (ty := .int) rfl (by decide) rfl rfl z_RA_int rfl (by decide) w_109 (by decide +kernel) ok_X8_init_10
theorem ok_X8_init_5 : zOK l D tc A nS xs mM_X8_init 5 q_X8_init_5 := s_sipush (n := 4096) (by decide) (by decide +kernel) (by decide +kernel) ok_X8_init_8
theorem ok_X8_init_4 : zOK l D tc A nS xs mM_X8_init 4 q_X8_init_4 := s_aload_n (q := 0) rfl (by decide +kernel) (by decide +kernel) ok_X8_init_5
theorem ok_X8_init_1 : zOK l D tc A nS xs mM_X8_init 1 q_X8_init_1 := s_oinit w_403 w_112 w_oi (by decide +kernel) ok_X8_init_4
theorem ok_X8_init_0 : zOK l D tc A nS xs mM_X8_init 0 q_X8_init_0 := s_aload_n (q := 0) rfl (by decide +kernel) (by decide +kernel) ok_X8_init_1
theorem ok_X8_mark_92 : zOK l D tc A nS xs mM_X8_mark 92 q_X8_mark_92 := s_vret rfl (by decide +kernel)
theorem ok_X8_mark_78 : zOK l D tc A nS xs mM_X8_mark 78 q_X8_mark_78 := s_if_eq (tgt := 92) (off := 14) (by decide +kernel) (by decide) ok_X8_mark_92 s_none
theorem ok_X8_mark_77 : zOK l D tc A nS xs mM_X8_mark 77 q_X8_mark_77 := s_iload_n (q := 3) rfl (by decide +kernel) (by decide +kernel) ok_X8_mark_78
theorem ok_X8_mark_59 : zOK l D tc A nS xs mM_X8_mark 59 q_X8_mark_59 := s_icmp_ne (tgt := 77) (off := 18) (by decide +kernel) (by decide) ok_X8_mark_77 s_none
theorem ok_X8_mark_57 : zOK l D tc A nS xs mM_X8_mark 57 q_X8_mark_57 := s_bipush (n := 6) (by decide) (by decide +kernel) (by decide +kernel) ok_X8_mark_59
theorem ok_X8_mark_56 : zOK l D tc A nS xs mM_X8_mark 56 q_X8_mark_56 := s_iload_n (q := 1) rfl (by decide +kernel) (by decide +kernel) ok_X8_mark_57
theorem ok_X8_mark_50 : zOK l D tc A nS xs mM_X8_mark 50 q_X8_mark_50 := s_icmp_ne (tgt := 56) (off := 6) (by decide +kernel) (by decide) ok_X8_mark_56 s_none
theorem ok_X8_mark_49 : zOK l D tc A nS xs mM_X8_mark 49 q_X8_mark_49 := s_iconst (n := 5) (by decide) (by decide +kernel) (by decide +kernel) ok_X8_mark_50
theorem ok_X8_mark_48 : zOK l D tc A nS xs mM_X8_mark 48 q_X8_mark_48 := s_iload_n (q := 2) rfl (by decide +kernel) (by decide +kernel) ok_X8_mark_49
theorem ok_X8_mark_45 : zOK l D tc A nS xs mM_X8_mark 45 q_X8_mark_45 := s_icmp_eq (tgt := 53) (off := 8) (by decide +kernel) (by decide) s_none ok_X8_mark_48
theorem ok_X8_mark_44 : zOK l D tc A nS xs mM_X8_mark 44 q_X8_mark_44 := s_iconst (n := 2) (by decide) (by decide +kernel) (by decide +kernel) ok_X8_mark_45
theorem ok_X8_mark_43 : zOK l D tc A nS xs mM_X8_mark 43 q_X8_mark_43 := s_iload_n (q := 2) rfl (by decide +kernel) (by decide +kernel) ok_X8_mark_44
theorem ok_X8_mark_40 : zOK l D tc A nS xs mM_X8_mark 40 q_X8_mark_40 := s_if_ne (tgt := 53) (off := 13) (by decide +kernel) (by decide) s_none ok_X8_mark_43
theorem ok_X8_mark_37 : zOK l D tc A nS xs mM_X8_mark 37 q_X8_mark_37 := r_callSN zEE_ok zTw_gd (M2 := mM_X11_isPrimitive) lb_154 calS_X11_isPrimitive rfl rfl (fun U f h => h.1 _ zNest_33) (by decide +kernel) ok_X8_mark_40
theorem ok_X8_mark_36 : zOK l D tc A nS xs mM_X8_mark 36 q_X8_mark_36 := s_iload_n (q := 1) rfl (by decide +kernel) (by decide +kernel) ok_X8_mark_37
theorem ok_X8_mark_27 : zOK l D tc A nS xs mM_X8_mark 27 q_X8_mark_27 := s_icmp_ne (tgt := 36) (off := 9) (by decide +kernel) (by decide) ok_X8_mark_36 s_none
theorem ok_X8_mark_25 : zOK l D tc A nS xs mM_X8_mark 25 q_X8_mark_25 := s_bipush (n := 8) (by decide) (by decide +kernel) (by decide +kernel) ok_X8_mark_27
theorem ok_X8_mark_24 : zOK l D tc A nS xs mM_X8_mark 24 q_X8_mark_24 := s_iload_n (q := 1) rfl (by decide +kernel) (by decide +kernel) ok_X8_mark_25
theorem ok_X8_mark_15 : zOK l D tc A nS xs mM_X8_mark 15 q_X8_mark_15 := s_icmp_ne (tgt := 24) (off := 9) (by decide +kernel) (by decide) ok_X8_mark_24 s_none
theorem ok_X8_mark_14 : zOK l D tc A nS xs mM_X8_mark 14 q_X8_mark_14 := s_iconst (n := 2) (by decide) (by decide +kernel) (by decide +kernel) ok_X8_mark_15
theorem ok_X8_mark_13 : zOK l D tc A nS xs mM_X8_mark 13 q_X8_mark_13 := s_iload_n (q := 1) rfl (by decide +kernel) (by decide +kernel) ok_X8_mark_14
theorem ok_X8_mark_4 : zOK l D tc A nS xs mM_X8_mark 4 q_X8_mark_4 := s_icmp_ne (tgt := 13) (off := 9) (by decide +kernel) (by decide) ok_X8_mark_13 s_none
theorem ok_X8_mark_3 : zOK l D tc A nS xs mM_X8_mark 3 q_X8_mark_3 := s_iconst (n := 4) (by decide) (by decide +kernel) (by decide +kernel) ok_X8_mark_4
theorem ok_X8_mark_2 : zOK l D tc A nS xs mM_X8_mark 2 q_X8_mark_2 := s_iload_n (q := 1) rfl (by decide +kernel) (by decide +kernel) ok_X8_mark_3
theorem ok_X8_mark_1 : zOK l D tc A nS xs mM_X8_mark 1 q_X8_mark_1 := s_istore_n (q := 3) rfl (by decide +kernel) (by decide +kernel) ok_X8_mark_2
theorem ok_X8_mark_0 : zOK l D tc A nS xs mM_X8_mark 0 q_X8_mark_0 := s_iconst (n := 0) (by decide) (by decide +kernel) (by decide +kernel) ok_X8_mark_1
theorem ok_X8_part_121 : zOK l D tc A nS xs mM_X8_part 121 q_X8_part_121 := s_vret rfl (by decide +kernel)
theorem ok_X8_part_118 : zOK l D tc A nS xs mM_X8_part 118 q_X8_part_118 := r_callV zEE_ok zTw_gd kls_8 (M2 := mM_X8_mark) (na := 2) lb_105 calV_X8_mark rfl rfl w_407 (by decide +kernel) ok_X8_part_121
theorem ok_X8_part_117 : zOK l D tc A nS xs mM_X8_part 117 q_X8_part_117 := s_iload_n (q := 3) rfl (by decide +kernel) (by decide +kernel) ok_X8_part_118
theorem ok_X8_part_116 : zOK l D tc A nS xs mM_X8_part 116 q_X8_part_116 := s_iload_n (q := 1) rfl (by decide +kernel) (by decide +kernel) ok_X8_part_117
theorem ok_X8_part_115 : zOK l D tc A nS xs mM_X8_part 115 q_X8_part_115 := s_aload_n (q := 0) rfl (by decide +kernel) (by decide +kernel) ok_X8_part_116
theorem ok_X8_part_92 : zOK l D tc A nS xs mM_X8_part 92 q_X8_part_92 := s_icmp_ne (tgt := 115) (off := 23) (by decide +kernel) (by decide) ok_X8_part_115 s_none
theorem ok_X8_part_90 : zOK l D tc A nS xs mM_X8_part 90 q_X8_part_90 := s_bipush (n := 6) (by decide) (by decide +kernel) (by decide +kernel) ok_X8_part_92
theorem ok_X8_part_89 : zOK l D tc A nS xs mM_X8_part 89 q_X8_part_89 := s_iload_n (q := 3) rfl (by decide +kernel) (by decide +kernel) ok_X8_part_90
theorem ok_X8_part_75 : zOK l D tc A nS xs mM_X8_part 75 q_X8_part_75 := s_if_eq (tgt := 89) (off := 14) (by decide +kernel) (by decide) ok_X8_part_89 s_none
theorem ok_X8_part_74 : zOK l D tc A nS xs mM_X8_part 74 q_X8_part_74 := s_iand (by decide +kernel) ok_X8_part_75
theorem ok_X8_part_73 : zOK l D tc A nS xs mM_X8_part 73 q_X8_part_73 := s_iconst (n := 1) (by decide) (by decide +kernel) (by decide +kernel) ok_X8_part_74
theorem ok_X8_part_72 : zOK l D tc A nS xs mM_X8_part 72 q_X8_part_72 := s_iload_n (q := 1) rfl (by decide +kernel) (by decide +kernel) ok_X8_part_73
theorem ok_X8_part_60 : zOK l D tc A nS xs mM_X8_part 60 q_X8_part_60 := s_icmp_ne (tgt := 72) (off := 12) (by decide +kernel) (by decide) ok_X8_part_72 s_none
theorem ok_X8_part_59 : zOK l D tc A nS xs mM_X8_part 59 q_X8_part_59 := s_iconst (n := 1) (by decide) (by decide +kernel) (by decide +kernel) ok_X8_part_60
theorem ok_X8_part_58 : zOK l D tc A nS xs mM_X8_part 58 q_X8_part_58 := s_iload_n (q := 3) rfl (by decide +kernel) (by decide +kernel) ok_X8_part_59
theorem ok_X8_part_55 : zOK l D tc A nS xs mM_X8_part 55 q_X8_part_55 := r_putf kls_8 ty_8_4 zck_int (by decide) tx_8_4 rfl w_395 (by decide +kernel) ok_X8_part_58
theorem ok_X8_part_54 : zOK l D tc A nS xs mM_X8_part 54 q_X8_part_54 := s_iadd (by decide +kernel) ok_X8_part_55
theorem ok_X8_part_53 : zOK l D tc A nS xs mM_X8_part 53 q_X8_part_53 := s_iconst (n := 1) (by decide) (by decide +kernel) (by decide +kernel) ok_X8_part_54
theorem ok_X8_part_50 : zOK l D tc A nS xs mM_X8_part 50 q_X8_part_50 := r_getf kls_8 (by decide) tx_8_4 rfl w_395 (by decide +kernel) ok_X8_part_53
theorem ok_X8_part_49 : zOK l D tc A nS xs mM_X8_part 49 q_X8_part_49 := s_dup (by decide +kernel) ok_X8_part_50
theorem ok_X8_part_48 : zOK l D tc A nS xs mM_X8_part 48 q_X8_part_48 := s_aload_n (q := 0) rfl (by decide +kernel) (by decide +kernel) ok_X8_part_49
theorem ok_X8_part_32 : zOK l D tc A nS xs mM_X8_part 32 q_X8_part_32 := s_icmp_ne (tgt := 48) (off := 16) (by decide +kernel) (by decide) ok_X8_part_48 s_none
theorem ok_X8_part_31 : zOK l D tc A nS xs mM_X8_part 31 q_X8_part_31 := s_iconst (n := 1) (by decide) (by decide +kernel) (by decide +kernel) ok_X8_part_32
theorem ok_X8_part_30 : zOK l D tc A nS xs mM_X8_part 30 q_X8_part_30 := s_iload_n (q := 3) rfl (by decide +kernel) (by decide +kernel) ok_X8_part_31
theorem ok_X8_part_15 : zOK l D tc A nS xs mM_X8_part 15 q_X8_part_15 := s_icmp_lt (tgt := 30) (off := 15) (by decide +kernel) (by decide) ok_X8_part_30 s_none
theorem ok_X8_part_13 : zOK l D tc A nS xs mM_X8_part 13 q_X8_part_13 := s_bipush (n := 60) (by decide) (by decide +kernel) (by decide +kernel) ok_X8_part_15
theorem ok_X8_part_10 : zOK l D tc A nS xs mM_X8_part 10 q_X8_part_10 := r_getf kls_8 (by decide) tx_8_4 rfl w_395 (by decide +kernel) ok_X8_part_13
theorem ok_X8_part_9 : zOK l D tc A nS xs mM_X8_part 9 q_X8_part_9 := s_aload_n (q := 0) rfl (by decide +kernel) (by decide +kernel) ok_X8_part_10
theorem ok_X8_part_8 : zOK l D tc A nS xs mM_X8_part 8 q_X8_part_8 := s_istore_n (q := 3) rfl (by decide +kernel) (by decide +kernel) ok_X8_part_9
theorem ok_X8_part_5 : zOK l D tc A nS xs mM_X8_part 5 q_X8_part_5 := r_callV zEE_ok zTw_gd kls_1 (M2 := mM_X1_kind) (na := 1) lb_30 calV_X1_kind rfl rfl w_411 (by decide +kernel) ok_X8_part_8
theorem ok_X8_part_4 : zOK l D tc A nS xs mM_X8_part 4 q_X8_part_4 := s_iload_n (q := 1) rfl (by decide +kernel) (by decide +kernel) ok_X8_part_5
theorem ok_X8_part_1 : zOK l D tc A nS xs mM_X8_part 1 q_X8_part_1 := r_getf kls_8 (by decide) tx_8_1 rfl w_399 (by decide +kernel) ok_X8_part_4
theorem ok_X8_part_0 : zOK l D tc A nS xs mM_X8_part 0 q_X8_part_0 := s_aload_n (q := 0) rfl (by decide +kernel) (by decide +kernel) ok_X8_part_1
theorem ok_X8_render_10 : zOK l D tc A nS xs mM_X8_render 10 q_X8_render_10 := s_vret rfl (by decide +kernel)
theorem ok_X8_render_7 : zOK l D tc A nS xs mM_X8_render 7 q_X8_render_7 := r_callV zEE_ok zTw_gd kls_8 (M2 := mM_X8_part) (na := 2) lb_106 calV_X8_part rfl rfl w_416 (by decide +kernel) ok_X8_render_10
theorem ok_X8_render_6 : zOK l D tc A nS xs mM_X8_render 6 q_X8_render_6 := s_iconst (n := 0) (by decide) (by decide +kernel) (by decide +kernel) ok_X8_render_7
theorem ok_X8_render_5 : zOK l D tc A nS xs mM_X8_render 5 q_X8_render_5 := s_iload_n (q := 1) rfl (by decide +kernel) (by decide +kernel) ok_X8_render_6
theorem ok_X8_render_4 : zOK l D tc A nS xs mM_X8_render 4 q_X8_render_4 := s_aload_n (q := 0) rfl (by decide +kernel) (by decide +kernel) ok_X8_render_5
theorem ok_X8_render_1 : zOK l D tc A nS xs mM_X8_render 1 q_X8_render_1 := r_callV zEE_ok zTw_gd kls_8 (M2 := mM_X8_begin) (na := 0) lb_102 calV_X8_begin rfl rfl w_419 (by decide +kernel) ok_X8_render_4
theorem ok_X8_render_0 : zOK l D tc A nS xs mM_X8_render 0 q_X8_render_0 := s_aload_n (q := 0) rfl (by decide +kernel) (by decide +kernel) ok_X8_render_1
theorem ok_X9_areNames_73 : zOK l D tc A nS xs mM_X9_areNames 73 q_X9_areNames_73 := s_zret rfl (by decide +kernel)
theorem ok_X9_areNames_69 : zOK l D tc A nS xs mM_X9_areNames 69 q_X9_areNames_69 := s_goto (tgt := 73) (off := 4) (by decide +kernel) (by decide) ok_X9_areNames_73
theorem ok_X9_areNames_68 : zOK l D tc A nS xs mM_X9_areNames 68 q_X9_areNames_68 := s_iconst (n := 1) (by decide) (by decide +kernel) (by decide +kernel) ok_X9_areNames_69
theorem ok_X9_areNames_65 : zOK l D tc A nS xs mM_X9_areNames 65 q_X9_areNames_65 := s_if_ne (tgt := 72) (off := 7) (by decide +kernel) (by decide) s_none ok_X9_areNames_68
theorem ok_X9_areNames_62 : zOK l D tc A nS xs mM_X9_areNames 62 q_X9_areNames_62 := r_callV zEE_ok zTw_gd kls_10 (M2 := mM_X10_kind) (na := 1) lb_133 calV_X10_kind rfl rfl w_422 (by decide +kernel) ok_X9_areNames_65
theorem ok_X9_areNames_61 : zOK l D tc A nS xs mM_X9_areNames 61 q_X9_areNames_61 := s_iload_n (q := 2) rfl (by decide +kernel) (by decide +kernel) ok_X9_areNames_62
theorem ok_X9_areNames_58 : zOK l D tc A nS xs mM_X9_areNames 58 q_X9_areNames_58 := r_getf kls_9 (by decide) tx_9_0 rfl w_423 (by decide +kernel) ok_X9_areNames_61
theorem ok_X9_areNames_57 : zOK l D tc A nS xs mM_X9_areNames 57 q_X9_areNames_57 := s_aload_n (q := 0) rfl (by decide +kernel) (by decide +kernel) ok_X9_areNames_58
theorem ok_X9_areNames_54 : zOK l D tc A nS xs mM_X9_areNames 54 q_X9_areNames_54 := s_goto (tgt := 4) (off := (-50)) (by decide +kernel) (by decide) (s_back lb_109)
theorem ok_X9_areNames_51 : zOK l D tc A nS xs mM_X9_areNames 51 q_X9_areNames_51 := s_iinc (n := 1) (by decide +kernel) (by decide +kernel) (by decide +kernel) ok_X9_areNames_54
theorem ok_X9_areNames_50 : zOK l D tc A nS xs mM_X9_areNames 50 q_X9_areNames_50 := s_istore_n (q := 2) rfl (by decide +kernel) (by decide +kernel) ok_X9_areNames_51
theorem ok_X9_areNames_47 : zOK l D tc A nS xs mM_X9_areNames 47 q_X9_areNames_47 := r_callV zEE_ok zTw_gd kls_10 (M2 := mM_X10_rest) (na := 1) lb_138 calV_X10_rest rfl rfl w_424 (by decide +kernel) ok_X9_areNames_50
theorem ok_X9_areNames_46 : zOK l D tc A nS xs mM_X9_areNames 46 q_X9_areNames_46 := s_iload_n (q := 2) rfl (by decide +kernel) (by decide +kernel) ok_X9_areNames_47
theorem ok_X9_areNames_43 : zOK l D tc A nS xs mM_X9_areNames 43 q_X9_areNames_43 := r_getf kls_9 (by decide) tx_9_0 rfl w_423 (by decide +kernel) ok_X9_areNames_46
theorem ok_X9_areNames_42 : zOK l D tc A nS xs mM_X9_areNames 42 q_X9_areNames_42 := s_aload_n (q := 0) rfl (by decide +kernel) (by decide +kernel) ok_X9_areNames_43
theorem ok_X9_areNames_37 : zOK l D tc A nS xs mM_X9_areNames 37 q_X9_areNames_37 := s_if_ne (tgt := 42) (off := 5) (by decide +kernel) (by decide) ok_X9_areNames_42 s_none
theorem ok_X9_areNames_34 : zOK l D tc A nS xs mM_X9_areNames 34 q_X9_areNames_34 := r_callV zEE_ok zTw_gd kls_10 (M2 := mM_X10_isName) (na := 1) lb_131 calV_X10_isName rfl rfl w_425 (by decide +kernel) ok_X9_areNames_37
theorem ok_X9_areNames_31 : zOK l D tc A nS xs mM_X9_areNames 31 q_X9_areNames_31 := r_callV zEE_ok zTw_gd kls_10 (M2 := mM_X10_first) (na := 1) lb_127 calV_X10_first rfl rfl w_426 (by decide +kernel) ok_X9_areNames_34
theorem ok_X9_areNames_30 : zOK l D tc A nS xs mM_X9_areNames 30 q_X9_areNames_30 := s_iload_n (q := 2) rfl (by decide +kernel) (by decide +kernel) ok_X9_areNames_31
theorem ok_X9_areNames_27 : zOK l D tc A nS xs mM_X9_areNames 27 q_X9_areNames_27 := r_getf kls_9 (by decide) tx_9_0 rfl w_423 (by decide +kernel) ok_X9_areNames_30
theorem ok_X9_areNames_26 : zOK l D tc A nS xs mM_X9_areNames 26 q_X9_areNames_26 := s_aload_n (q := 0) rfl (by decide +kernel) (by decide +kernel) ok_X9_areNames_27
theorem ok_X9_areNames_23 : zOK l D tc A nS xs mM_X9_areNames 23 q_X9_areNames_23 := r_getf kls_9 (by decide) tx_9_0 rfl w_423 (by decide +kernel) ok_X9_areNames_26
theorem ok_X9_areNames_22 : zOK l D tc A nS xs mM_X9_areNames 22 q_X9_areNames_22 := s_aload_n (q := 0) rfl (by decide +kernel) (by decide +kernel) ok_X9_areNames_23
theorem ok_X9_areNames_19 : zOK l D tc A nS xs mM_X9_areNames 19 q_X9_areNames_19 := s_if_eq (tgt := 57) (off := 38) (by decide +kernel) (by decide) ok_X9_areNames_57 ok_X9_areNames_22
theorem ok_X9_areNames_16 : zOK l D tc A nS xs mM_X9_areNames 16 q_X9_areNames_16 := r_callV zEE_ok zTw_gd kls_10 (M2 := mM_X10_isCons) (na := 1) lb_130 calV_X10_isCons rfl rfl w_427 (by decide +kernel) ok_X9_areNames_19
theorem ok_X9_areNames_15 : zOK l D tc A nS xs mM_X9_areNames 15 q_X9_areNames_15 := s_iload_n (q := 2) rfl (by decide +kernel) (by decide +kernel) ok_X9_areNames_16
theorem ok_X9_areNames_12 : zOK l D tc A nS xs mM_X9_areNames 12 q_X9_areNames_12 := r_getf kls_9 (by decide) tx_9_0 rfl w_423 (by decide +kernel) ok_X9_areNames_15
theorem ok_X9_areNames_11 : zOK l D tc A nS xs mM_X9_areNames 11 q_X9_areNames_11 := s_aload_n (q := 0) rfl (by decide +kernel) (by decide +kernel) ok_X9_areNames_12
theorem ok_X9_areNames_8 : zOK l D tc A nS xs mM_X9_areNames 8 q_X9_areNames_8 := s_icmp_ge (tgt := 57) (off := 49) (by decide +kernel) (by decide) ok_X9_areNames_57 ok_X9_areNames_11
theorem ok_X9_areNames_5 : zOK l D tc A nS xs mM_X9_areNames 5 q_X9_areNames_5 := s_sipush (n := 18120) (by decide) (by decide +kernel) (by decide +kernel) ok_X9_areNames_8
theorem ok_X9_areNames_4 : zOK l D tc A nS xs mM_X9_areNames 4 q_X9_areNames_4 := s_iload_n (q := 3) rfl (by decide +kernel) (by decide +kernel) ok_X9_areNames_5
theorem ok_X9_areNames_3 : zOK l D tc A nS xs mM_X9_areNames 3 q_X9_areNames_3 := s_istore_n (q := 3) rfl (by decide +kernel) (by decide +kernel) ok_X9_areNames_4
theorem ok_X9_areNames_2 : zOK l D tc A nS xs mM_X9_areNames 2 q_X9_areNames_2 := s_iconst (n := 0) (by decide) (by decide +kernel) (by decide +kernel) ok_X9_areNames_3
theorem ok_X9_areNames_1 : zOK l D tc A nS xs mM_X9_areNames 1 q_X9_areNames_1 := s_istore_n (q := 2) rfl (by decide +kernel) (by decide +kernel) ok_X9_areNames_2
theorem ok_X9_areNames_0 : zOK l D tc A nS xs mM_X9_areNames 0 q_X9_areNames_0 := s_iload_n (q := 1) rfl (by decide +kernel) (by decide +kernel) ok_X9_areNames_1
theorem ok_X9_begin_10 : zOK l D tc A nS xs mM_X9_begin 10 q_X9_begin_10 := s_vret rfl (by decide +kernel)
theorem ok_X9_begin_7 : zOK l D tc A nS xs mM_X9_begin 7 q_X9_begin_7 := r_putf kls_9 ty_9_4 zck_int (by decide) tx_9_4 rfl w_428 (by decide +kernel) ok_X9_begin_10
theorem ok_X9_begin_6 : zOK l D tc A nS xs mM_X9_begin 6 q_X9_begin_6 := s_iconst (n := 0) (by decide) (by decide +kernel) (by decide +kernel) ok_X9_begin_7
theorem ok_X9_begin_5 : zOK l D tc A nS xs mM_X9_begin 5 q_X9_begin_5 := s_aload_n (q := 0) rfl (by decide +kernel) (by decide +kernel) ok_X9_begin_6
theorem ok_X9_begin_2 : zOK l D tc A nS xs mM_X9_begin 2 q_X9_begin_2 := r_putf kls_9 ty_9_3 zck_int (by decide) tx_9_3 rfl w_429 (by decide +kernel) ok_X9_begin_5
theorem ok_X9_begin_1 : zOK l D tc A nS xs mM_X9_begin 1 q_X9_begin_1 := s_iconst (n := 0) (by decide) (by decide +kernel) (by decide +kernel) ok_X9_begin_2
theorem ok_X9_begin_0 : zOK l D tc A nS xs mM_X9_begin 0 q_X9_begin_0 := s_aload_n (q := 0) rfl (by decide +kernel) (by decide +kernel) ok_X9_begin_1
theorem ok_X9_init_35 : zOK l D tc A nS xs mM_X9_init 35 q_X9_init_35 := s_vret rfl (by decide +kernel)
theorem ok_X9_init_32 : zOK l D tc A nS xs mM_X9_init 32 q_X9_init_32 := r_putF kls_9 ty_9_2 (zck_obj _) (by decide) tx_9_2 rfl rfl rfl w_430 (by decide +kernel) ok_X9_init_35
theorem ok_X9_init_29 : zOK l D tc A nS xs mM_X9_init 29 q_X9_init_29 := r_callI zEE_ok zTw_gd (M2 := mM_X4_init) (na := 1) rfl lb_59 calI_X4_init rfl rfl w_431 (by decide +kernel) ok_X9_init_32
theorem ok_X9_init_28 : zOK l D tc A nS xs mM_X9_init 28 q_X9_init_28 := s_aload_n (q := 1) rfl (by decide +kernel) (by decide +kernel) ok_X9_init_29
theorem ok_X9_init_27 : zOK l D tc A nS xs mM_X9_init 27 q_X9_init_27 := s_dup (by decide +kernel) ok_X9_init_28
theorem ok_X9_init_24 : zOK l D tc A nS xs mM_X9_init 24 q_X9_init_24 := r_new (N := 19) rfl kls_4 rfl rfl (by decide) zdf_4 rfl w_434 w_435 w_230 (by decide +kernel) ok_X9_init_27
theorem ok_X9_init_23 : zOK l D tc A nS xs mM_X9_init 23 q_X9_init_23 := s_aload_n (q := 0) rfl (by decide +kernel) (by decide +kernel) ok_X9_init_24
theorem ok_X9_init_20 : zOK l D tc A nS xs mM_X9_init 20 q_X9_init_20 := r_putF kls_9 ty_9_1 (zck_obj _) (by decide) tx_9_1 rfl rfl rfl w_436 (by decide +kernel) ok_X9_init_23
theorem ok_X9_init_19 : zOK l D tc A nS xs mM_X9_init 19 q_X9_init_19 := s_aload_n (q := 2) rfl (by decide +kernel) (by decide +kernel) ok_X9_init_20
theorem ok_X9_init_18 : zOK l D tc A nS xs mM_X9_init 18 q_X9_init_18 := s_aload_n (q := 0) rfl (by decide +kernel) (by decide +kernel) ok_X9_init_19
theorem ok_X9_init_15 : zOK l D tc A nS xs mM_X9_init 15 q_X9_init_15 := r_putF kls_9 ty_9_0 (zck_obj _) (by decide) tx_9_0 rfl rfl rfl w_423 (by decide +kernel) ok_X9_init_18
theorem ok_X9_init_14 : zOK l D tc A nS xs mM_X9_init 14 q_X9_init_14 := s_aload_n (q := 1) rfl (by decide +kernel) (by decide +kernel) ok_X9_init_15
theorem ok_X9_init_13 : zOK l D tc A nS xs mM_X9_init 13 q_X9_init_13 := s_aload_n (q := 0) rfl (by decide +kernel) (by decide +kernel) ok_X9_init_14
theorem ok_X9_init_10 : zOK l D tc A nS xs mM_X9_init 10 q_X9_init_10 := r_putF kls_9 ty_9_9 (zck_arr _) (by decide) tx_9_9 rfl rfl rfl w_437 (by decide +kernel) ok_X9_init_13
theorem ok_X9_init_8 : zOK l D tc A nS xs mM_X9_init 8 q_X9_init_8 := r_newa (t0 := 0) (atype := .int) (ty := .int) rfl (by decide) rfl rfl z_RA_int rfl (by decide) w_109 (by decide +kernel) ok_X9_init_10
theorem ok_X9_init_5 : zOK l D tc A nS xs mM_X9_init 5 q_X9_init_5 := s_sipush (n := 4096) (by decide) (by decide +kernel) (by decide +kernel) ok_X9_init_8
theorem ok_X9_init_4 : zOK l D tc A nS xs mM_X9_init 4 q_X9_init_4 := s_aload_n (q := 0) rfl (by decide +kernel) (by decide +kernel) ok_X9_init_5
theorem ok_X9_init_1 : zOK l D tc A nS xs mM_X9_init 1 q_X9_init_1 := s_oinit w_438 w_112 w_oi (by decide +kernel) ok_X9_init_4
theorem ok_X9_init_0 : zOK l D tc A nS xs mM_X9_init 0 q_X9_init_0 := s_aload_n (q := 0) rfl (by decide +kernel) (by decide +kernel) ok_X9_init_1
theorem ok_X9_isRule_128 : zOK l D tc A nS xs mM_X9_isRule 128 q_X9_isRule_128 := s_zret rfl (by decide +kernel)
theorem ok_X9_isRule_124 : zOK l D tc A nS xs mM_X9_isRule 124 q_X9_isRule_124 := s_goto (tgt := 128) (off := 4) (by decide +kernel) (by decide) ok_X9_isRule_128
theorem ok_X9_isRule_123 : zOK l D tc A nS xs mM_X9_isRule 123 q_X9_isRule_123 := s_iconst (n := 1) (by decide) (by decide +kernel) (by decide +kernel) ok_X9_isRule_124
theorem ok_X9_isRule_120 : zOK l D tc A nS xs mM_X9_isRule 120 q_X9_isRule_120 := s_if_eq (tgt := 127) (off := 7) (by decide +kernel) (by decide) s_none ok_X9_isRule_123
theorem ok_X9_isRule_117 : zOK l D tc A nS xs mM_X9_isRule 117 q_X9_isRule_117 := r_callV zEE_ok zTw_gd kls_9 (M2 := mM_X9_isTemplate) (na := 3) lb_115 calV_X9_isTemplate rfl rfl w_439 (by decide +kernel) ok_X9_isRule_120
theorem ok_X9_isRule_116 : zOK l D tc A nS xs mM_X9_isRule 116 q_X9_isRule_116 := s_iconst (n := 0) (by decide) (by decide +kernel) (by decide +kernel) ok_X9_isRule_117
theorem ok_X9_isRule_115 : zOK l D tc A nS xs mM_X9_isRule 115 q_X9_isRule_115 := s_iconst (n := 0) (by decide) (by decide +kernel) (by decide +kernel) ok_X9_isRule_116
theorem ok_X9_isRule_112 : zOK l D tc A nS xs mM_X9_isRule 112 q_X9_isRule_112 := r_callV zEE_ok zTw_gd kls_10 (M2 := mM_X10_first) (na := 1) lb_127 calV_X10_first rfl rfl w_426 (by decide +kernel) ok_X9_isRule_115
theorem ok_X9_isRule_109 : zOK l D tc A nS xs mM_X9_isRule 109 q_X9_isRule_109 := r_callV zEE_ok zTw_gd kls_10 (M2 := mM_X10_rest) (na := 1) lb_138 calV_X10_rest rfl rfl w_424 (by decide +kernel) ok_X9_isRule_112
theorem ok_X9_isRule_108 : zOK l D tc A nS xs mM_X9_isRule 108 q_X9_isRule_108 := s_iload_n (q := 1) rfl (by decide +kernel) (by decide +kernel) ok_X9_isRule_109
theorem ok_X9_isRule_105 : zOK l D tc A nS xs mM_X9_isRule 105 q_X9_isRule_105 := r_getf kls_9 (by decide) tx_9_0 rfl w_423 (by decide +kernel) ok_X9_isRule_108
theorem ok_X9_isRule_104 : zOK l D tc A nS xs mM_X9_isRule 104 q_X9_isRule_104 := s_aload_n (q := 0) rfl (by decide +kernel) (by decide +kernel) ok_X9_isRule_105
theorem ok_X9_isRule_101 : zOK l D tc A nS xs mM_X9_isRule 101 q_X9_isRule_101 := r_getf kls_9 (by decide) tx_9_0 rfl w_423 (by decide +kernel) ok_X9_isRule_104
theorem ok_X9_isRule_100 : zOK l D tc A nS xs mM_X9_isRule 100 q_X9_isRule_100 := s_aload_n (q := 0) rfl (by decide +kernel) (by decide +kernel) ok_X9_isRule_101
theorem ok_X9_isRule_99 : zOK l D tc A nS xs mM_X9_isRule 99 q_X9_isRule_99 := s_aload_n (q := 0) rfl (by decide +kernel) (by decide +kernel) ok_X9_isRule_100
theorem ok_X9_isRule_96 : zOK l D tc A nS xs mM_X9_isRule 96 q_X9_isRule_96 := s_if_ne (tgt := 127) (off := 31) (by decide +kernel) (by decide) s_none ok_X9_isRule_99
theorem ok_X9_isRule_93 : zOK l D tc A nS xs mM_X9_isRule 93 q_X9_isRule_93 := r_callV zEE_ok zTw_gd kls_4 (M2 := mM_X4_hasTwins) (na := 0) lb_57 calV_X4_hasTwins rfl rfl w_442 (by decide +kernel) ok_X9_isRule_96
theorem ok_X9_isRule_90 : zOK l D tc A nS xs mM_X9_isRule 90 q_X9_isRule_90 := r_getf kls_9 (by decide) tx_9_2 rfl w_430 (by decide +kernel) ok_X9_isRule_93
theorem ok_X9_isRule_89 : zOK l D tc A nS xs mM_X9_isRule 89 q_X9_isRule_89 := s_aload_n (q := 0) rfl (by decide +kernel) (by decide +kernel) ok_X9_isRule_90
theorem ok_X9_isRule_86 : zOK l D tc A nS xs mM_X9_isRule 86 q_X9_isRule_86 := s_if_eq (tgt := 127) (off := 41) (by decide +kernel) (by decide) s_none ok_X9_isRule_89
theorem ok_X9_isRule_83 : zOK l D tc A nS xs mM_X9_isRule 83 q_X9_isRule_83 := r_callVN zEE_ok zTw_gd kls_4 (M2 := mM_X4_learn) (na := 4) lb_62 calV_X4_learn rfl rfl (fun U f h => h.1 _ zNest_31) (by decide +kernel) ok_X9_isRule_86
theorem ok_X9_isRule_82 : zOK l D tc A nS xs mM_X9_isRule 82 q_X9_isRule_82 := s_iconst (n := 0) (by decide) (by decide +kernel) (by decide +kernel) ok_X9_isRule_83
theorem ok_X9_isRule_81 : zOK l D tc A nS xs mM_X9_isRule 81 q_X9_isRule_81 := s_iconst (n := 0) (by decide) (by decide +kernel) (by decide +kernel) ok_X9_isRule_82
theorem ok_X9_isRule_80 : zOK l D tc A nS xs mM_X9_isRule 80 q_X9_isRule_80 := s_iconst (n := (-1)) (by decide) (by decide +kernel) (by decide +kernel) ok_X9_isRule_81
theorem ok_X9_isRule_77 : zOK l D tc A nS xs mM_X9_isRule 77 q_X9_isRule_77 := r_callV zEE_ok zTw_gd kls_10 (M2 := mM_X10_rest) (na := 1) lb_138 calV_X10_rest rfl rfl w_424 (by decide +kernel) ok_X9_isRule_80
theorem ok_X9_isRule_76 : zOK l D tc A nS xs mM_X9_isRule 76 q_X9_isRule_76 := s_iload_n (q := 3) rfl (by decide +kernel) (by decide +kernel) ok_X9_isRule_77
theorem ok_X9_isRule_73 : zOK l D tc A nS xs mM_X9_isRule 73 q_X9_isRule_73 := r_getf kls_9 (by decide) tx_9_0 rfl w_423 (by decide +kernel) ok_X9_isRule_76
theorem ok_X9_isRule_72 : zOK l D tc A nS xs mM_X9_isRule 72 q_X9_isRule_72 := s_aload_n (q := 0) rfl (by decide +kernel) (by decide +kernel) ok_X9_isRule_73
theorem ok_X9_isRule_69 : zOK l D tc A nS xs mM_X9_isRule 69 q_X9_isRule_69 := r_getf kls_9 (by decide) tx_9_2 rfl w_430 (by decide +kernel) ok_X9_isRule_72
theorem ok_X9_isRule_68 : zOK l D tc A nS xs mM_X9_isRule 68 q_X9_isRule_68 := s_aload_n (q := 0) rfl (by decide +kernel) (by decide +kernel) ok_X9_isRule_69
theorem ok_X9_isRule_65 : zOK l D tc A nS xs mM_X9_isRule 65 q_X9_isRule_65 := r_callV zEE_ok zTw_gd kls_4 (M2 := mM_X4_begin) (na := 1) lb_53 calV_X4_begin rfl rfl w_446 (by decide +kernel) ok_X9_isRule_68
theorem ok_X9_isRule_64 : zOK l D tc A nS xs mM_X9_isRule 64 q_X9_isRule_64 := s_iload_n (q := 2) rfl (by decide +kernel) (by decide +kernel) ok_X9_isRule_65
theorem ok_X9_isRule_61 : zOK l D tc A nS xs mM_X9_isRule 61 q_X9_isRule_61 := r_getf kls_9 (by decide) tx_9_2 rfl w_430 (by decide +kernel) ok_X9_isRule_64
theorem ok_X9_isRule_60 : zOK l D tc A nS xs mM_X9_isRule 60 q_X9_isRule_60 := s_aload_n (q := 0) rfl (by decide +kernel) (by decide +kernel) ok_X9_isRule_61
theorem ok_X9_isRule_57 : zOK l D tc A nS xs mM_X9_isRule 57 q_X9_isRule_57 := r_putf kls_9 ty_9_5 zck_int (by decide) tx_9_5 rfl w_450 (by decide +kernel) ok_X9_isRule_60
theorem ok_X9_isRule_56 : zOK l D tc A nS xs mM_X9_isRule 56 q_X9_isRule_56 := s_iconst (n := 0) (by decide) (by decide +kernel) (by decide +kernel) ok_X9_isRule_57
theorem ok_X9_isRule_55 : zOK l D tc A nS xs mM_X9_isRule 55 q_X9_isRule_55 := s_aload_n (q := 0) rfl (by decide +kernel) (by decide +kernel) ok_X9_isRule_56
theorem ok_X9_isRule_50 : zOK l D tc A nS xs mM_X9_isRule 50 q_X9_isRule_50 := s_if_ne (tgt := 55) (off := 5) (by decide +kernel) (by decide) ok_X9_isRule_55 s_none
theorem ok_X9_isRule_47 : zOK l D tc A nS xs mM_X9_isRule 47 q_X9_isRule_47 := r_callV zEE_ok zTw_gd kls_10 (M2 := mM_X10_isName) (na := 1) lb_131 calV_X10_isName rfl rfl w_425 (by decide +kernel) ok_X9_isRule_50
theorem ok_X9_isRule_44 : zOK l D tc A nS xs mM_X9_isRule 44 q_X9_isRule_44 := r_callV zEE_ok zTw_gd kls_10 (M2 := mM_X10_first) (na := 1) lb_127 calV_X10_first rfl rfl w_426 (by decide +kernel) ok_X9_isRule_47
theorem ok_X9_isRule_43 : zOK l D tc A nS xs mM_X9_isRule 43 q_X9_isRule_43 := s_iload_n (q := 3) rfl (by decide +kernel) (by decide +kernel) ok_X9_isRule_44
theorem ok_X9_isRule_40 : zOK l D tc A nS xs mM_X9_isRule 40 q_X9_isRule_40 := r_getf kls_9 (by decide) tx_9_0 rfl w_423 (by decide +kernel) ok_X9_isRule_43
theorem ok_X9_isRule_39 : zOK l D tc A nS xs mM_X9_isRule 39 q_X9_isRule_39 := s_aload_n (q := 0) rfl (by decide +kernel) (by decide +kernel) ok_X9_isRule_40
theorem ok_X9_isRule_36 : zOK l D tc A nS xs mM_X9_isRule 36 q_X9_isRule_36 := r_getf kls_9 (by decide) tx_9_0 rfl w_423 (by decide +kernel) ok_X9_isRule_39
theorem ok_X9_isRule_35 : zOK l D tc A nS xs mM_X9_isRule 35 q_X9_isRule_35 := s_aload_n (q := 0) rfl (by decide +kernel) (by decide +kernel) ok_X9_isRule_36
theorem ok_X9_isRule_32 : zOK l D tc A nS xs mM_X9_isRule 32 q_X9_isRule_32 := s_icmp_lt (tgt := 53) (off := 21) (by decide +kernel) (by decide) s_none ok_X9_isRule_35
theorem ok_X9_isRule_31 : zOK l D tc A nS xs mM_X9_isRule 31 q_X9_isRule_31 := s_iconst (n := 1) (by decide) (by decide +kernel) (by decide +kernel) ok_X9_isRule_32
theorem ok_X9_isRule_28 : zOK l D tc A nS xs mM_X9_isRule 28 q_X9_isRule_28 := r_callV zEE_ok zTw_gd kls_10 (M2 := mM_X10_count) (na := 1) lb_123 calV_X10_count rfl rfl w_451 (by decide +kernel) ok_X9_isRule_31
theorem ok_X9_isRule_27 : zOK l D tc A nS xs mM_X9_isRule 27 q_X9_isRule_27 := s_iload_n (q := 3) rfl (by decide +kernel) (by decide +kernel) ok_X9_isRule_28
theorem ok_X9_isRule_24 : zOK l D tc A nS xs mM_X9_isRule 24 q_X9_isRule_24 := r_getf kls_9 (by decide) tx_9_0 rfl w_423 (by decide +kernel) ok_X9_isRule_27
theorem ok_X9_isRule_23 : zOK l D tc A nS xs mM_X9_isRule 23 q_X9_isRule_23 := s_aload_n (q := 0) rfl (by decide +kernel) (by decide +kernel) ok_X9_isRule_24
theorem ok_X9_isRule_22 : zOK l D tc A nS xs mM_X9_isRule 22 q_X9_isRule_22 := s_istore_n (q := 3) rfl (by decide +kernel) (by decide +kernel) ok_X9_isRule_23
theorem ok_X9_isRule_19 : zOK l D tc A nS xs mM_X9_isRule 19 q_X9_isRule_19 := r_callV zEE_ok zTw_gd kls_10 (M2 := mM_X10_first) (na := 1) lb_127 calV_X10_first rfl rfl w_426 (by decide +kernel) ok_X9_isRule_22
theorem ok_X9_isRule_18 : zOK l D tc A nS xs mM_X9_isRule 18 q_X9_isRule_18 := s_iload_n (q := 1) rfl (by decide +kernel) (by decide +kernel) ok_X9_isRule_19
theorem ok_X9_isRule_15 : zOK l D tc A nS xs mM_X9_isRule 15 q_X9_isRule_15 := r_getf kls_9 (by decide) tx_9_0 rfl w_423 (by decide +kernel) ok_X9_isRule_18
theorem ok_X9_isRule_14 : zOK l D tc A nS xs mM_X9_isRule 14 q_X9_isRule_14 := s_aload_n (q := 0) rfl (by decide +kernel) (by decide +kernel) ok_X9_isRule_15
theorem ok_X9_isRule_9 : zOK l D tc A nS xs mM_X9_isRule 9 q_X9_isRule_9 := s_icmp_eq (tgt := 14) (off := 5) (by decide +kernel) (by decide) ok_X9_isRule_14 s_none
theorem ok_X9_isRule_8 : zOK l D tc A nS xs mM_X9_isRule 8 q_X9_isRule_8 := s_iconst (n := 2) (by decide) (by decide +kernel) (by decide +kernel) ok_X9_isRule_9
theorem ok_X9_isRule_5 : zOK l D tc A nS xs mM_X9_isRule 5 q_X9_isRule_5 := r_callV zEE_ok zTw_gd kls_10 (M2 := mM_X10_count) (na := 1) lb_123 calV_X10_count rfl rfl w_451 (by decide +kernel) ok_X9_isRule_8
theorem ok_X9_isRule_4 : zOK l D tc A nS xs mM_X9_isRule 4 q_X9_isRule_4 := s_iload_n (q := 1) rfl (by decide +kernel) (by decide +kernel) ok_X9_isRule_5
theorem ok_X9_isRule_1 : zOK l D tc A nS xs mM_X9_isRule 1 q_X9_isRule_1 := r_getf kls_9 (by decide) tx_9_0 rfl w_423 (by decide +kernel) ok_X9_isRule_4
theorem ok_X9_isRule_0 : zOK l D tc A nS xs mM_X9_isRule 0 q_X9_isRule_0 := s_aload_n (q := 0) rfl (by decide +kernel) (by decide +kernel) ok_X9_isRule_1
theorem ok_X9_isRules_130 : zOK l D tc A nS xs mM_X9_isRules 130 q_X9_isRules_130 := s_zret rfl (by decide +kernel)
theorem ok_X9_isRules_129 : zOK l D tc A nS xs mM_X9_isRules 129 q_X9_isRules_129 := s_iconst (n := 1) (by decide) (by decide +kernel) (by decide +kernel) ok_X9_isRules_130
theorem ok_X9_isRules_126 : zOK l D tc A nS xs mM_X9_isRules 126 q_X9_isRules_126 := s_goto (tgt := 77) (off := (-49)) (by decide +kernel) (by decide) (s_back lb_114)
theorem ok_X9_isRules_123 : zOK l D tc A nS xs mM_X9_isRules 123 q_X9_isRules_123 := s_iinc (n := 1) (by decide +kernel) (by decide +kernel) (by decide +kernel) ok_X9_isRules_126
theorem ok_X9_isRules_122 : zOK l D tc A nS xs mM_X9_isRules 122 q_X9_isRules_122 := s_istore_n (q := 3) rfl (by decide +kernel) (by decide +kernel) ok_X9_isRules_123
theorem ok_X9_isRules_119 : zOK l D tc A nS xs mM_X9_isRules 119 q_X9_isRules_119 := r_callV zEE_ok zTw_gd kls_10 (M2 := mM_X10_rest) (na := 1) lb_138 calV_X10_rest rfl rfl w_424 (by decide +kernel) ok_X9_isRules_122
theorem ok_X9_isRules_118 : zOK l D tc A nS xs mM_X9_isRules 118 q_X9_isRules_118 := s_iload_n (q := 3) rfl (by decide +kernel) (by decide +kernel) ok_X9_isRules_119
theorem ok_X9_isRules_115 : zOK l D tc A nS xs mM_X9_isRules 115 q_X9_isRules_115 := r_getf kls_9 (by decide) tx_9_0 rfl w_423 (by decide +kernel) ok_X9_isRules_118
theorem ok_X9_isRules_114 : zOK l D tc A nS xs mM_X9_isRules 114 q_X9_isRules_114 := s_aload_n (q := 0) rfl (by decide +kernel) (by decide +kernel) ok_X9_isRules_115
theorem ok_X9_isRules_109 : zOK l D tc A nS xs mM_X9_isRules 109 q_X9_isRules_109 := s_if_ne (tgt := 114) (off := 5) (by decide +kernel) (by decide) ok_X9_isRules_114 s_none
theorem ok_X9_isRules_106 : zOK l D tc A nS xs mM_X9_isRules 106 q_X9_isRules_106 := r_callV zEE_ok zTw_gd kls_9 (M2 := mM_X9_isRule) (na := 2) lb_112 calV_X9_isRule rfl rfl w_452 (by decide +kernel) ok_X9_isRules_109
theorem ok_X9_isRules_105 : zOK l D tc A nS xs mM_X9_isRules 105 q_X9_isRules_105 := s_iload_n (q := 2) rfl (by decide +kernel) (by decide +kernel) ok_X9_isRules_106
theorem ok_X9_isRules_102 : zOK l D tc A nS xs mM_X9_isRules 102 q_X9_isRules_102 := r_callV zEE_ok zTw_gd kls_10 (M2 := mM_X10_first) (na := 1) lb_127 calV_X10_first rfl rfl w_426 (by decide +kernel) ok_X9_isRules_105
theorem ok_X9_isRules_101 : zOK l D tc A nS xs mM_X9_isRules 101 q_X9_isRules_101 := s_iload_n (q := 3) rfl (by decide +kernel) (by decide +kernel) ok_X9_isRules_102
theorem ok_X9_isRules_98 : zOK l D tc A nS xs mM_X9_isRules 98 q_X9_isRules_98 := r_getf kls_9 (by decide) tx_9_0 rfl w_423 (by decide +kernel) ok_X9_isRules_101
theorem ok_X9_isRules_97 : zOK l D tc A nS xs mM_X9_isRules 97 q_X9_isRules_97 := s_aload_n (q := 0) rfl (by decide +kernel) (by decide +kernel) ok_X9_isRules_98
theorem ok_X9_isRules_96 : zOK l D tc A nS xs mM_X9_isRules 96 q_X9_isRules_96 := s_aload_n (q := 0) rfl (by decide +kernel) (by decide +kernel) ok_X9_isRules_97
theorem ok_X9_isRules_93 : zOK l D tc A nS xs mM_X9_isRules 93 q_X9_isRules_93 := s_if_eq (tgt := 129) (off := 36) (by decide +kernel) (by decide) ok_X9_isRules_129 ok_X9_isRules_96
theorem ok_X9_isRules_90 : zOK l D tc A nS xs mM_X9_isRules 90 q_X9_isRules_90 := r_callV zEE_ok zTw_gd kls_10 (M2 := mM_X10_isCons) (na := 1) lb_130 calV_X10_isCons rfl rfl w_427 (by decide +kernel) ok_X9_isRules_93
theorem ok_X9_isRules_89 : zOK l D tc A nS xs mM_X9_isRules 89 q_X9_isRules_89 := s_iload_n (q := 3) rfl (by decide +kernel) (by decide +kernel) ok_X9_isRules_90
theorem ok_X9_isRules_86 : zOK l D tc A nS xs mM_X9_isRules 86 q_X9_isRules_86 := r_getf kls_9 (by decide) tx_9_0 rfl w_423 (by decide +kernel) ok_X9_isRules_89
theorem ok_X9_isRules_85 : zOK l D tc A nS xs mM_X9_isRules 85 q_X9_isRules_85 := s_aload_n (q := 0) rfl (by decide +kernel) (by decide +kernel) ok_X9_isRules_86
theorem ok_X9_isRules_82 : zOK l D tc A nS xs mM_X9_isRules 82 q_X9_isRules_82 := s_icmp_ge (tgt := 129) (off := 47) (by decide +kernel) (by decide) ok_X9_isRules_129 ok_X9_isRules_85
theorem ok_X9_isRules_79 : zOK l D tc A nS xs mM_X9_isRules 79 q_X9_isRules_79 := s_sipush (n := 18120) (by decide) (by decide +kernel) (by decide +kernel) ok_X9_isRules_82
theorem ok_X9_isRules_77 : zOK l D tc A nS xs mM_X9_isRules 77 q_X9_isRules_77 := s_iload (by decide +kernel) (by decide +kernel) ok_X9_isRules_79
theorem ok_X9_isRules_75 : zOK l D tc A nS xs mM_X9_isRules 75 q_X9_isRules_75 := s_istore (by decide +kernel) (by decide +kernel) ok_X9_isRules_77
theorem ok_X9_isRules_74 : zOK l D tc A nS xs mM_X9_isRules 74 q_X9_isRules_74 := s_iconst (n := 0) (by decide) (by decide +kernel) (by decide +kernel) ok_X9_isRules_75
theorem ok_X9_isRules_73 : zOK l D tc A nS xs mM_X9_isRules 73 q_X9_isRules_73 := s_istore_n (q := 3) rfl (by decide +kernel) (by decide +kernel) ok_X9_isRules_74
theorem ok_X9_isRules_70 : zOK l D tc A nS xs mM_X9_isRules 70 q_X9_isRules_70 := r_callV zEE_ok zTw_gd kls_10 (M2 := mM_X10_rest) (na := 1) lb_138 calV_X10_rest rfl rfl w_424 (by decide +kernel) ok_X9_isRules_73
theorem ok_X9_isRules_67 : zOK l D tc A nS xs mM_X9_isRules 67 q_X9_isRules_67 := r_callV zEE_ok zTw_gd kls_10 (M2 := mM_X10_rest) (na := 1) lb_138 calV_X10_rest rfl rfl w_424 (by decide +kernel) ok_X9_isRules_70
theorem ok_X9_isRules_66 : zOK l D tc A nS xs mM_X9_isRules 66 q_X9_isRules_66 := s_iload_n (q := 1) rfl (by decide +kernel) (by decide +kernel) ok_X9_isRules_67
theorem ok_X9_isRules_63 : zOK l D tc A nS xs mM_X9_isRules 63 q_X9_isRules_63 := r_getf kls_9 (by decide) tx_9_0 rfl w_423 (by decide +kernel) ok_X9_isRules_66
theorem ok_X9_isRules_62 : zOK l D tc A nS xs mM_X9_isRules 62 q_X9_isRules_62 := s_aload_n (q := 0) rfl (by decide +kernel) (by decide +kernel) ok_X9_isRules_63
theorem ok_X9_isRules_59 : zOK l D tc A nS xs mM_X9_isRules 59 q_X9_isRules_59 := r_getf kls_9 (by decide) tx_9_0 rfl w_423 (by decide +kernel) ok_X9_isRules_62
theorem ok_X9_isRules_58 : zOK l D tc A nS xs mM_X9_isRules 58 q_X9_isRules_58 := s_aload_n (q := 0) rfl (by decide +kernel) (by decide +kernel) ok_X9_isRules_59
theorem ok_X9_isRules_53 : zOK l D tc A nS xs mM_X9_isRules 53 q_X9_isRules_53 := s_if_ne (tgt := 58) (off := 5) (by decide +kernel) (by decide) ok_X9_isRules_58 s_none
theorem ok_X9_isRules_50 : zOK l D tc A nS xs mM_X9_isRules 50 q_X9_isRules_50 := r_callV zEE_ok zTw_gd kls_9 (M2 := mM_X9_areNames) (na := 1) lb_108 calV_X9_areNames rfl rfl w_455 (by decide +kernel) ok_X9_isRules_53
theorem ok_X9_isRules_49 : zOK l D tc A nS xs mM_X9_isRules 49 q_X9_isRules_49 := s_iload_n (q := 2) rfl (by decide +kernel) (by decide +kernel) ok_X9_isRules_50
theorem ok_X9_isRules_48 : zOK l D tc A nS xs mM_X9_isRules 48 q_X9_isRules_48 := s_aload_n (q := 0) rfl (by decide +kernel) (by decide +kernel) ok_X9_isRules_49
theorem ok_X9_isRules_45 : zOK l D tc A nS xs mM_X9_isRules 45 q_X9_isRules_45 := s_icmp_ne (tgt := 56) (off := 11) (by decide +kernel) (by decide) s_none ok_X9_isRules_48
theorem ok_X9_isRules_43 : zOK l D tc A nS xs mM_X9_isRules 43 q_X9_isRules_43 := s_bipush (n := 8) (by decide) (by decide +kernel) (by decide +kernel) ok_X9_isRules_45
theorem ok_X9_isRules_40 : zOK l D tc A nS xs mM_X9_isRules 40 q_X9_isRules_40 := r_callV zEE_ok zTw_gd kls_10 (M2 := mM_X10_symbolAtLast) (na := 1) lb_141 calV_X10_symbolAtLast rfl rfl w_458 (by decide +kernel) ok_X9_isRules_43
theorem ok_X9_isRules_37 : zOK l D tc A nS xs mM_X9_isRules 37 q_X9_isRules_37 := r_callV zEE_ok zTw_gd kls_10 (M2 := mM_X10_first) (na := 1) lb_127 calV_X10_first rfl rfl w_426 (by decide +kernel) ok_X9_isRules_40
theorem ok_X9_isRules_36 : zOK l D tc A nS xs mM_X9_isRules 36 q_X9_isRules_36 := s_iload_n (q := 1) rfl (by decide +kernel) (by decide +kernel) ok_X9_isRules_37
theorem ok_X9_isRules_33 : zOK l D tc A nS xs mM_X9_isRules 33 q_X9_isRules_33 := r_getf kls_9 (by decide) tx_9_0 rfl w_423 (by decide +kernel) ok_X9_isRules_36
theorem ok_X9_isRules_32 : zOK l D tc A nS xs mM_X9_isRules 32 q_X9_isRules_32 := s_aload_n (q := 0) rfl (by decide +kernel) (by decide +kernel) ok_X9_isRules_33
theorem ok_X9_isRules_29 : zOK l D tc A nS xs mM_X9_isRules 29 q_X9_isRules_29 := r_getf kls_9 (by decide) tx_9_0 rfl w_423 (by decide +kernel) ok_X9_isRules_32
theorem ok_X9_isRules_28 : zOK l D tc A nS xs mM_X9_isRules 28 q_X9_isRules_28 := s_aload_n (q := 0) rfl (by decide +kernel) (by decide +kernel) ok_X9_isRules_29
theorem ok_X9_isRules_25 : zOK l D tc A nS xs mM_X9_isRules 25 q_X9_isRules_25 := s_icmp_lt (tgt := 56) (off := 31) (by decide +kernel) (by decide) s_none ok_X9_isRules_28
theorem ok_X9_isRules_24 : zOK l D tc A nS xs mM_X9_isRules 24 q_X9_isRules_24 := s_iconst (n := 2) (by decide) (by decide +kernel) (by decide +kernel) ok_X9_isRules_25
theorem ok_X9_isRules_21 : zOK l D tc A nS xs mM_X9_isRules 21 q_X9_isRules_21 := r_callV zEE_ok zTw_gd kls_10 (M2 := mM_X10_count) (na := 1) lb_123 calV_X10_count rfl rfl w_451 (by decide +kernel) ok_X9_isRules_24
theorem ok_X9_isRules_20 : zOK l D tc A nS xs mM_X9_isRules 20 q_X9_isRules_20 := s_iload_n (q := 1) rfl (by decide +kernel) (by decide +kernel) ok_X9_isRules_21
theorem ok_X9_isRules_17 : zOK l D tc A nS xs mM_X9_isRules 17 q_X9_isRules_17 := r_getf kls_9 (by decide) tx_9_0 rfl w_423 (by decide +kernel) ok_X9_isRules_20
theorem ok_X9_isRules_16 : zOK l D tc A nS xs mM_X9_isRules 16 q_X9_isRules_16 := s_aload_n (q := 0) rfl (by decide +kernel) (by decide +kernel) ok_X9_isRules_17
theorem ok_X9_isRules_15 : zOK l D tc A nS xs mM_X9_isRules 15 q_X9_isRules_15 := s_istore_n (q := 2) rfl (by decide +kernel) (by decide +kernel) ok_X9_isRules_16
theorem ok_X9_isRules_12 : zOK l D tc A nS xs mM_X9_isRules 12 q_X9_isRules_12 := r_callV zEE_ok zTw_gd kls_10 (M2 := mM_X10_first) (na := 1) lb_127 calV_X10_first rfl rfl w_426 (by decide +kernel) ok_X9_isRules_15
theorem ok_X9_isRules_9 : zOK l D tc A nS xs mM_X9_isRules 9 q_X9_isRules_9 := r_callV zEE_ok zTw_gd kls_10 (M2 := mM_X10_rest) (na := 1) lb_138 calV_X10_rest rfl rfl w_424 (by decide +kernel) ok_X9_isRules_12
theorem ok_X9_isRules_8 : zOK l D tc A nS xs mM_X9_isRules 8 q_X9_isRules_8 := s_iload_n (q := 1) rfl (by decide +kernel) (by decide +kernel) ok_X9_isRules_9
theorem ok_X9_isRules_5 : zOK l D tc A nS xs mM_X9_isRules 5 q_X9_isRules_5 := r_getf kls_9 (by decide) tx_9_0 rfl w_423 (by decide +kernel) ok_X9_isRules_8
theorem ok_X9_isRules_4 : zOK l D tc A nS xs mM_X9_isRules 4 q_X9_isRules_4 := s_aload_n (q := 0) rfl (by decide +kernel) (by decide +kernel) ok_X9_isRules_5
theorem ok_X9_isRules_1 : zOK l D tc A nS xs mM_X9_isRules 1 q_X9_isRules_1 := r_getf kls_9 (by decide) tx_9_0 rfl w_423 (by decide +kernel) ok_X9_isRules_4
theorem ok_X9_isRules_0 : zOK l D tc A nS xs mM_X9_isRules 0 q_X9_isRules_0 := s_aload_n (q := 0) rfl (by decide +kernel) (by decide +kernel) ok_X9_isRules_1
theorem ok_X9_isTemplate_213 : zOK l D tc A nS xs mM_X9_isTemplate 213 q_X9_isTemplate_213 := s_zret rfl (by decide +kernel)
theorem ok_X9_isTemplate_209 : zOK l D tc A nS xs mM_X9_isTemplate 209 q_X9_isTemplate_209 := s_goto (tgt := 213) (off := 4) (by decide +kernel) (by decide) ok_X9_isTemplate_213
theorem ok_X9_isTemplate_208 : zOK l D tc A nS xs mM_X9_isTemplate 208 q_X9_isTemplate_208 := s_iconst (n := 1) (by decide) (by decide +kernel) (by decide +kernel) ok_X9_isTemplate_209
theorem ok_X9_isTemplate_205 : zOK l D tc A nS xs mM_X9_isTemplate 205 q_X9_isTemplate_205 := s_icmp_ne (tgt := 212) (off := 7) (by decide +kernel) (by decide) s_none ok_X9_isTemplate_208
theorem ok_X9_isTemplate_204 : zOK l D tc A nS xs mM_X9_isTemplate 204 q_X9_isTemplate_204 := s_iload_n (q := 2) rfl (by decide +kernel) (by decide +kernel) ok_X9_isTemplate_205
theorem ok_X9_isTemplate_201 : zOK l D tc A nS xs mM_X9_isTemplate 201 q_X9_isTemplate_201 := r_callV zEE_ok zTw_gd kls_4 (M2 := mM_X4_depthOf) (na := 1) lb_54 calV_X4_depthOf rfl rfl w_459 (by decide +kernel) ok_X9_isTemplate_204
theorem ok_X9_isTemplate_199 : zOK l D tc A nS xs mM_X9_isTemplate 199 q_X9_isTemplate_199 := s_iload (by decide +kernel) (by decide +kernel) ok_X9_isTemplate_201
theorem ok_X9_isTemplate_196 : zOK l D tc A nS xs mM_X9_isTemplate 196 q_X9_isTemplate_196 := r_getf kls_9 (by decide) tx_9_2 rfl w_430 (by decide +kernel) ok_X9_isTemplate_199
theorem ok_X9_isTemplate_195 : zOK l D tc A nS xs mM_X9_isTemplate 195 q_X9_isTemplate_195 := s_aload_n (q := 0) rfl (by decide +kernel) (by decide +kernel) ok_X9_isTemplate_196
theorem ok_X9_isTemplate_192 : zOK l D tc A nS xs mM_X9_isTemplate 192 q_X9_isTemplate_192 := r_putf kls_9 ty_9_5 zck_int (by decide) tx_9_5 rfl w_450 (by decide +kernel) ok_X9_isTemplate_195
theorem ok_X9_isTemplate_191 : zOK l D tc A nS xs mM_X9_isTemplate 191 q_X9_isTemplate_191 := s_iadd (by decide +kernel) ok_X9_isTemplate_192
theorem ok_X9_isTemplate_190 : zOK l D tc A nS xs mM_X9_isTemplate 190 q_X9_isTemplate_190 := s_iconst (n := 1) (by decide) (by decide +kernel) (by decide +kernel) ok_X9_isTemplate_191
theorem ok_X9_isTemplate_187 : zOK l D tc A nS xs mM_X9_isTemplate 187 q_X9_isTemplate_187 := r_getf kls_9 (by decide) tx_9_5 rfl w_450 (by decide +kernel) ok_X9_isTemplate_190
theorem ok_X9_isTemplate_186 : zOK l D tc A nS xs mM_X9_isTemplate 186 q_X9_isTemplate_186 := s_dup (by decide +kernel) ok_X9_isTemplate_187
theorem ok_X9_isTemplate_185 : zOK l D tc A nS xs mM_X9_isTemplate 185 q_X9_isTemplate_185 := s_aload_n (q := 0) rfl (by decide +kernel) (by decide +kernel) ok_X9_isTemplate_186
theorem ok_X9_isTemplate_184 : zOK l D tc A nS xs mM_X9_isTemplate 184 q_X9_isTemplate_184 := s_zret rfl (by decide +kernel)
theorem ok_X9_isTemplate_180 : zOK l D tc A nS xs mM_X9_isTemplate 180 q_X9_isTemplate_180 := s_goto (tgt := 184) (off := 4) (by decide +kernel) (by decide) ok_X9_isTemplate_184
theorem ok_X9_isTemplate_179 : zOK l D tc A nS xs mM_X9_isTemplate 179 q_X9_isTemplate_179 := s_iconst (n := 1) (by decide) (by decide +kernel) (by decide +kernel) ok_X9_isTemplate_180
theorem ok_X9_isTemplate_176 : zOK l D tc A nS xs mM_X9_isTemplate 176 q_X9_isTemplate_176 := s_icmp_eq (tgt := 183) (off := 7) (by decide +kernel) (by decide) s_none ok_X9_isTemplate_179
theorem ok_X9_isTemplate_174 : zOK l D tc A nS xs mM_X9_isTemplate 174 q_X9_isTemplate_174 := s_bipush (n := 9) (by decide) (by decide +kernel) (by decide +kernel) ok_X9_isTemplate_176
theorem ok_X9_isTemplate_171 : zOK l D tc A nS xs mM_X9_isTemplate 171 q_X9_isTemplate_171 := r_callV zEE_ok zTw_gd kls_10 (M2 := mM_X10_symbolAtLast) (na := 1) lb_141 calV_X10_symbolAtLast rfl rfl w_458 (by decide +kernel) ok_X9_isTemplate_174
theorem ok_X9_isTemplate_169 : zOK l D tc A nS xs mM_X9_isTemplate 169 q_X9_isTemplate_169 := s_iload (by decide +kernel) (by decide +kernel) ok_X9_isTemplate_171
theorem ok_X9_isTemplate_166 : zOK l D tc A nS xs mM_X9_isTemplate 166 q_X9_isTemplate_166 := r_getf kls_9 (by decide) tx_9_0 rfl w_423 (by decide +kernel) ok_X9_isTemplate_169
theorem ok_X9_isTemplate_165 : zOK l D tc A nS xs mM_X9_isTemplate 165 q_X9_isTemplate_165 := s_aload_n (q := 0) rfl (by decide +kernel) (by decide +kernel) ok_X9_isTemplate_166
theorem ok_X9_isTemplate_162 : zOK l D tc A nS xs mM_X9_isTemplate 162 q_X9_isTemplate_162 := s_icmp_ne (tgt := 185) (off := 23) (by decide +kernel) (by decide) ok_X9_isTemplate_185 ok_X9_isTemplate_165
theorem ok_X9_isTemplate_161 : zOK l D tc A nS xs mM_X9_isTemplate 161 q_X9_isTemplate_161 := s_iconst (n := (-1)) (by decide) (by decide +kernel) (by decide +kernel) ok_X9_isTemplate_162
theorem ok_X9_isTemplate_159 : zOK l D tc A nS xs mM_X9_isTemplate 159 q_X9_isTemplate_159 := s_iload (by decide +kernel) (by decide +kernel) ok_X9_isTemplate_161
theorem ok_X9_isTemplate_157 : zOK l D tc A nS xs mM_X9_isTemplate 157 q_X9_isTemplate_157 := s_istore (by decide +kernel) (by decide +kernel) ok_X9_isTemplate_159
theorem ok_X9_isTemplate_154 : zOK l D tc A nS xs mM_X9_isTemplate 154 q_X9_isTemplate_154 := r_callV zEE_ok zTw_gd kls_4 (M2 := mM_X4_find) (na := 1) lb_55 calV_X4_find rfl rfl w_463 (by decide +kernel) ok_X9_isTemplate_157
theorem ok_X9_isTemplate_151 : zOK l D tc A nS xs mM_X9_isTemplate 151 q_X9_isTemplate_151 := r_callV zEE_ok zTw_gd kls_10 (M2 := mM_X10_nameOf) (na := 1) lb_135 calV_X10_nameOf rfl rfl w_464 (by decide +kernel) ok_X9_isTemplate_154
theorem ok_X9_isTemplate_149 : zOK l D tc A nS xs mM_X9_isTemplate 149 q_X9_isTemplate_149 := s_iload (by decide +kernel) (by decide +kernel) ok_X9_isTemplate_151
theorem ok_X9_isTemplate_146 : zOK l D tc A nS xs mM_X9_isTemplate 146 q_X9_isTemplate_146 := r_getf kls_9 (by decide) tx_9_0 rfl w_423 (by decide +kernel) ok_X9_isTemplate_149
theorem ok_X9_isTemplate_145 : zOK l D tc A nS xs mM_X9_isTemplate 145 q_X9_isTemplate_145 := s_aload_n (q := 0) rfl (by decide +kernel) (by decide +kernel) ok_X9_isTemplate_146
theorem ok_X9_isTemplate_142 : zOK l D tc A nS xs mM_X9_isTemplate 142 q_X9_isTemplate_142 := r_getf kls_9 (by decide) tx_9_2 rfl w_430 (by decide +kernel) ok_X9_isTemplate_145
theorem ok_X9_isTemplate_141 : zOK l D tc A nS xs mM_X9_isTemplate 141 q_X9_isTemplate_141 := s_aload_n (q := 0) rfl (by decide +kernel) (by decide +kernel) ok_X9_isTemplate_142
theorem ok_X9_isTemplate_138 : zOK l D tc A nS xs mM_X9_isTemplate 138 q_X9_isTemplate_138 := s_goto (tgt := 6) (off := (-132)) (by decide +kernel) (by decide) (s_back lb_116)
theorem ok_X9_isTemplate_135 : zOK l D tc A nS xs mM_X9_isTemplate 135 q_X9_isTemplate_135 := s_iinc (n := 1) (by decide +kernel) (by decide +kernel) (by decide +kernel) ok_X9_isTemplate_138
theorem ok_X9_isTemplate_133 : zOK l D tc A nS xs mM_X9_isTemplate 133 q_X9_isTemplate_133 := s_istore (by decide +kernel) (by decide +kernel) ok_X9_isTemplate_135
theorem ok_X9_isTemplate_130 : zOK l D tc A nS xs mM_X9_isTemplate 130 q_X9_isTemplate_130 := r_callV zEE_ok zTw_gd kls_10 (M2 := mM_X10_rest) (na := 1) lb_138 calV_X10_rest rfl rfl w_424 (by decide +kernel) ok_X9_isTemplate_133
theorem ok_X9_isTemplate_128 : zOK l D tc A nS xs mM_X9_isTemplate 128 q_X9_isTemplate_128 := s_iload (by decide +kernel) (by decide +kernel) ok_X9_isTemplate_130
theorem ok_X9_isTemplate_125 : zOK l D tc A nS xs mM_X9_isTemplate 125 q_X9_isTemplate_125 := r_getf kls_9 (by decide) tx_9_0 rfl w_423 (by decide +kernel) ok_X9_isTemplate_128
theorem ok_X9_isTemplate_124 : zOK l D tc A nS xs mM_X9_isTemplate 124 q_X9_isTemplate_124 := s_aload_n (q := 0) rfl (by decide +kernel) (by decide +kernel) ok_X9_isTemplate_125
theorem ok_X9_isTemplate_121 : zOK l D tc A nS xs mM_X9_isTemplate 121 q_X9_isTemplate_121 := s_goto (tgt := 133) (off := 12) (by decide +kernel) (by decide) ok_X9_isTemplate_133
theorem ok_X9_isTemplate_118 : zOK l D tc A nS xs mM_X9_isTemplate 118 q_X9_isTemplate_118 := r_callV zEE_ok zTw_gd kls_10 (M2 := mM_X10_rest) (na := 1) lb_138 calV_X10_rest rfl rfl w_424 (by decide +kernel) ok_X9_isTemplate_121
theorem ok_X9_isTemplate_115 : zOK l D tc A nS xs mM_X9_isTemplate 115 q_X9_isTemplate_115 := r_callV zEE_ok zTw_gd kls_10 (M2 := mM_X10_rest) (na := 1) lb_138 calV_X10_rest rfl rfl w_424 (by decide +kernel) ok_X9_isTemplate_118
theorem ok_X9_isTemplate_113 : zOK l D tc A nS xs mM_X9_isTemplate 113 q_X9_isTemplate_113 := s_iload (by decide +kernel) (by decide +kernel) ok_X9_isTemplate_115
theorem ok_X9_isTemplate_110 : zOK l D tc A nS xs mM_X9_isTemplate 110 q_X9_isTemplate_110 := r_getf kls_9 (by decide) tx_9_0 rfl w_423 (by decide +kernel) ok_X9_isTemplate_113
theorem ok_X9_isTemplate_109 : zOK l D tc A nS xs mM_X9_isTemplate 109 q_X9_isTemplate_109 := s_aload_n (q := 0) rfl (by decide +kernel) (by decide +kernel) ok_X9_isTemplate_110
theorem ok_X9_isTemplate_106 : zOK l D tc A nS xs mM_X9_isTemplate 106 q_X9_isTemplate_106 := r_getf kls_9 (by decide) tx_9_0 rfl w_423 (by decide +kernel) ok_X9_isTemplate_109
theorem ok_X9_isTemplate_105 : zOK l D tc A nS xs mM_X9_isTemplate 105 q_X9_isTemplate_105 := s_aload_n (q := 0) rfl (by decide +kernel) (by decide +kernel) ok_X9_isTemplate_106
theorem ok_X9_isTemplate_102 : zOK l D tc A nS xs mM_X9_isTemplate 102 q_X9_isTemplate_102 := s_if_eq (tgt := 124) (off := 22) (by decide +kernel) (by decide) ok_X9_isTemplate_124 ok_X9_isTemplate_105
theorem ok_X9_isTemplate_100 : zOK l D tc A nS xs mM_X9_isTemplate 100 q_X9_isTemplate_100 := s_iload (by decide +kernel) (by decide +kernel) ok_X9_isTemplate_102
theorem ok_X9_isTemplate_95 : zOK l D tc A nS xs mM_X9_isTemplate 95 q_X9_isTemplate_95 := s_icmp_ne (tgt := 100) (off := 5) (by decide +kernel) (by decide) ok_X9_isTemplate_100 s_none
theorem ok_X9_isTemplate_93 : zOK l D tc A nS xs mM_X9_isTemplate 93 q_X9_isTemplate_93 := s_iload (by decide +kernel) (by decide +kernel) ok_X9_isTemplate_95
theorem ok_X9_isTemplate_90 : zOK l D tc A nS xs mM_X9_isTemplate 90 q_X9_isTemplate_90 := r_getf kls_9 (by decide) tx_9_5 rfl w_450 (by decide +kernel) ok_X9_isTemplate_93
theorem ok_X9_isTemplate_89 : zOK l D tc A nS xs mM_X9_isTemplate 89 q_X9_isTemplate_89 := s_aload_n (q := 0) rfl (by decide +kernel) (by decide +kernel) ok_X9_isTemplate_90
theorem ok_X9_isTemplate_86 : zOK l D tc A nS xs mM_X9_isTemplate 86 q_X9_isTemplate_86 := s_if_eq (tgt := 100) (off := 14) (by decide +kernel) (by decide) ok_X9_isTemplate_100 ok_X9_isTemplate_89
theorem ok_X9_isTemplate_84 : zOK l D tc A nS xs mM_X9_isTemplate 84 q_X9_isTemplate_84 := s_iload (by decide +kernel) (by decide +kernel) ok_X9_isTemplate_86
theorem ok_X9_isTemplate_81 : zOK l D tc A nS xs mM_X9_isTemplate 81 q_X9_isTemplate_81 := s_if_eq (tgt := 98) (off := 17) (by decide +kernel) (by decide) s_none ok_X9_isTemplate_84
theorem ok_X9_isTemplate_79 : zOK l D tc A nS xs mM_X9_isTemplate 79 q_X9_isTemplate_79 := s_iload (by decide +kernel) (by decide +kernel) ok_X9_isTemplate_81
theorem ok_X9_isTemplate_77 : zOK l D tc A nS xs mM_X9_isTemplate 77 q_X9_isTemplate_77 := s_istore (by decide +kernel) (by decide +kernel) ok_X9_isTemplate_79
theorem ok_X9_isTemplate_74 : zOK l D tc A nS xs mM_X9_isTemplate 74 q_X9_isTemplate_74 := r_callV zEE_ok zTw_gd kls_9 (M2 := mM_X9_isTemplate) (na := 3) lb_115 calV_X9_isTemplate rfl rfl w_439 (by decide +kernel) ok_X9_isTemplate_77
theorem ok_X9_isTemplate_73 : zOK l D tc A nS xs mM_X9_isTemplate 73 q_X9_isTemplate_73 := s_iadd (by decide +kernel) ok_X9_isTemplate_74
theorem ok_X9_isTemplate_72 : zOK l D tc A nS xs mM_X9_isTemplate 72 q_X9_isTemplate_72 := s_iconst (n := 1) (by decide) (by decide +kernel) (by decide +kernel) ok_X9_isTemplate_73
theorem ok_X9_isTemplate_71 : zOK l D tc A nS xs mM_X9_isTemplate 71 q_X9_isTemplate_71 := s_iload_n (q := 3) rfl (by decide +kernel) (by decide +kernel) ok_X9_isTemplate_72
theorem ok_X9_isTemplate_70 : zOK l D tc A nS xs mM_X9_isTemplate 70 q_X9_isTemplate_70 := s_iload_n (q := 2) rfl (by decide +kernel) (by decide +kernel) ok_X9_isTemplate_71
theorem ok_X9_isTemplate_67 : zOK l D tc A nS xs mM_X9_isTemplate 67 q_X9_isTemplate_67 := s_goto (tgt := 71) (off := 4) (by decide +kernel) (by decide) ok_X9_isTemplate_71
theorem ok_X9_isTemplate_66 : zOK l D tc A nS xs mM_X9_isTemplate 66 q_X9_isTemplate_66 := s_iadd (by decide +kernel) ok_X9_isTemplate_67
theorem ok_X9_isTemplate_65 : zOK l D tc A nS xs mM_X9_isTemplate 65 q_X9_isTemplate_65 := s_iconst (n := 1) (by decide) (by decide +kernel) (by decide +kernel) ok_X9_isTemplate_66
theorem ok_X9_isTemplate_64 : zOK l D tc A nS xs mM_X9_isTemplate 64 q_X9_isTemplate_64 := s_iload_n (q := 2) rfl (by decide +kernel) (by decide +kernel) ok_X9_isTemplate_65
theorem ok_X9_isTemplate_61 : zOK l D tc A nS xs mM_X9_isTemplate 61 q_X9_isTemplate_61 := s_if_eq (tgt := 70) (off := 9) (by decide +kernel) (by decide) ok_X9_isTemplate_70 ok_X9_isTemplate_64
theorem ok_X9_isTemplate_59 : zOK l D tc A nS xs mM_X9_isTemplate 59 q_X9_isTemplate_59 := s_iload (by decide +kernel) (by decide +kernel) ok_X9_isTemplate_61
theorem ok_X9_isTemplate_56 : zOK l D tc A nS xs mM_X9_isTemplate 56 q_X9_isTemplate_56 := r_callV zEE_ok zTw_gd kls_10 (M2 := mM_X10_first) (na := 1) lb_127 calV_X10_first rfl rfl w_426 (by decide +kernel) ok_X9_isTemplate_59
theorem ok_X9_isTemplate_54 : zOK l D tc A nS xs mM_X9_isTemplate 54 q_X9_isTemplate_54 := s_iload (by decide +kernel) (by decide +kernel) ok_X9_isTemplate_56
theorem ok_X9_isTemplate_51 : zOK l D tc A nS xs mM_X9_isTemplate 51 q_X9_isTemplate_51 := r_getf kls_9 (by decide) tx_9_0 rfl w_423 (by decide +kernel) ok_X9_isTemplate_54
theorem ok_X9_isTemplate_50 : zOK l D tc A nS xs mM_X9_isTemplate 50 q_X9_isTemplate_50 := s_aload_n (q := 0) rfl (by decide +kernel) (by decide +kernel) ok_X9_isTemplate_51
theorem ok_X9_isTemplate_49 : zOK l D tc A nS xs mM_X9_isTemplate 49 q_X9_isTemplate_49 := s_aload_n (q := 0) rfl (by decide +kernel) (by decide +kernel) ok_X9_isTemplate_50
theorem ok_X9_isTemplate_47 : zOK l D tc A nS xs mM_X9_isTemplate 47 q_X9_isTemplate_47 := s_istore (by decide +kernel) (by decide +kernel) ok_X9_isTemplate_49
theorem ok_X9_isTemplate_44 : zOK l D tc A nS xs mM_X9_isTemplate 44 q_X9_isTemplate_44 := r_getf kls_9 (by decide) tx_9_5 rfl w_450 (by decide +kernel) ok_X9_isTemplate_47
theorem ok_X9_isTemplate_43 : zOK l D tc A nS xs mM_X9_isTemplate 43 q_X9_isTemplate_43 := s_aload_n (q := 0) rfl (by decide +kernel) (by decide +kernel) ok_X9_isTemplate_44
theorem ok_X9_isTemplate_41 : zOK l D tc A nS xs mM_X9_isTemplate 41 q_X9_isTemplate_41 := s_istore (by decide +kernel) (by decide +kernel) ok_X9_isTemplate_43
theorem ok_X9_isTemplate_38 : zOK l D tc A nS xs mM_X9_isTemplate 38 q_X9_isTemplate_38 := r_callV zEE_ok zTw_gd kls_10 (M2 := mM_X10_repeats) (na := 1) lb_137 calV_X10_repeats rfl rfl w_465 (by decide +kernel) ok_X9_isTemplate_41
theorem ok_X9_isTemplate_36 : zOK l D tc A nS xs mM_X9_isTemplate 36 q_X9_isTemplate_36 := s_iload (by decide +kernel) (by decide +kernel) ok_X9_isTemplate_38
theorem ok_X9_isTemplate_33 : zOK l D tc A nS xs mM_X9_isTemplate 33 q_X9_isTemplate_33 := r_getf kls_9 (by decide) tx_9_0 rfl w_423 (by decide +kernel) ok_X9_isTemplate_36
theorem ok_X9_isTemplate_32 : zOK l D tc A nS xs mM_X9_isTemplate 32 q_X9_isTemplate_32 := s_aload_n (q := 0) rfl (by decide +kernel) (by decide +kernel) ok_X9_isTemplate_33
theorem ok_X9_isTemplate_29 : zOK l D tc A nS xs mM_X9_isTemplate 29 q_X9_isTemplate_29 := s_if_eq (tgt := 141) (off := 112) (by decide +kernel) (by decide) ok_X9_isTemplate_141 ok_X9_isTemplate_32
theorem ok_X9_isTemplate_26 : zOK l D tc A nS xs mM_X9_isTemplate 26 q_X9_isTemplate_26 := r_callV zEE_ok zTw_gd kls_10 (M2 := mM_X10_isCons) (na := 1) lb_130 calV_X10_isCons rfl rfl w_427 (by decide +kernel) ok_X9_isTemplate_29
theorem ok_X9_isTemplate_24 : zOK l D tc A nS xs mM_X9_isTemplate 24 q_X9_isTemplate_24 := s_iload (by decide +kernel) (by decide +kernel) ok_X9_isTemplate_26
theorem ok_X9_isTemplate_21 : zOK l D tc A nS xs mM_X9_isTemplate 21 q_X9_isTemplate_21 := r_getf kls_9 (by decide) tx_9_0 rfl w_423 (by decide +kernel) ok_X9_isTemplate_24
theorem ok_X9_isTemplate_20 : zOK l D tc A nS xs mM_X9_isTemplate 20 q_X9_isTemplate_20 := s_aload_n (q := 0) rfl (by decide +kernel) (by decide +kernel) ok_X9_isTemplate_21
theorem ok_X9_isTemplate_17 : zOK l D tc A nS xs mM_X9_isTemplate 17 q_X9_isTemplate_17 := s_icmp_ge (tgt := 141) (off := 124) (by decide +kernel) (by decide) ok_X9_isTemplate_141 ok_X9_isTemplate_20
theorem ok_X9_isTemplate_15 : zOK l D tc A nS xs mM_X9_isTemplate 15 q_X9_isTemplate_15 := s_bipush (n := 110) (by decide) (by decide +kernel) (by decide +kernel) ok_X9_isTemplate_17
theorem ok_X9_isTemplate_14 : zOK l D tc A nS xs mM_X9_isTemplate 14 q_X9_isTemplate_14 := s_iload_n (q := 3) rfl (by decide +kernel) (by decide +kernel) ok_X9_isTemplate_15
theorem ok_X9_isTemplate_11 : zOK l D tc A nS xs mM_X9_isTemplate 11 q_X9_isTemplate_11 := s_icmp_ge (tgt := 141) (off := 130) (by decide +kernel) (by decide) ok_X9_isTemplate_141 ok_X9_isTemplate_14
theorem ok_X9_isTemplate_8 : zOK l D tc A nS xs mM_X9_isTemplate 8 q_X9_isTemplate_8 := s_sipush (n := 18120) (by decide) (by decide +kernel) (by decide +kernel) ok_X9_isTemplate_11
theorem ok_X9_isTemplate_6 : zOK l D tc A nS xs mM_X9_isTemplate 6 q_X9_isTemplate_6 := s_iload (by decide +kernel) (by decide +kernel) ok_X9_isTemplate_8
theorem ok_X9_isTemplate_4 : zOK l D tc A nS xs mM_X9_isTemplate 4 q_X9_isTemplate_4 := s_istore (by decide +kernel) (by decide +kernel) ok_X9_isTemplate_6
theorem ok_X9_isTemplate_3 : zOK l D tc A nS xs mM_X9_isTemplate 3 q_X9_isTemplate_3 := s_iconst (n := 0) (by decide) (by decide +kernel) (by decide +kernel) ok_X9_isTemplate_4
theorem ok_X9_isTemplate_1 : zOK l D tc A nS xs mM_X9_isTemplate 1 q_X9_isTemplate_1 := s_istore (by decide +kernel) (by decide +kernel) ok_X9_isTemplate_3
theorem ok_X9_isTemplate_0 : zOK l D tc A nS xs mM_X9_isTemplate 0 q_X9_isTemplate_0 := s_iload_n (q := 1) rfl (by decide +kernel) (by decide +kernel) ok_X9_isTemplate_1
theorem ok_X10_add_59 : zOK l D tc A nS xs mM_X10_add 59 q_X10_add_59 := s_iret rfl (by decide +kernel)
theorem ok_X10_add_57 : zOK l D tc A nS xs mM_X10_add 57 q_X10_add_57 := s_iload (by decide +kernel) (by decide +kernel) ok_X10_add_59
theorem ok_X10_add_54 : zOK l D tc A nS xs mM_X10_add 54 q_X10_add_54 := r_putf kls_10 ty_10_3 zck_int (by decide) tx_10_3 rfl w_466 (by decide +kernel) ok_X10_add_57
theorem ok_X10_add_53 : zOK l D tc A nS xs mM_X10_add 53 q_X10_add_53 := s_iadd (by decide +kernel) ok_X10_add_54
theorem ok_X10_add_52 : zOK l D tc A nS xs mM_X10_add 52 q_X10_add_52 := s_iconst (n := 1) (by decide) (by decide +kernel) (by decide +kernel) ok_X10_add_53
theorem ok_X10_add_50 : zOK l D tc A nS xs mM_X10_add 50 q_X10_add_50 := s_iload (by decide +kernel) (by decide +kernel) ok_X10_add_52
theorem ok_X10_add_49 : zOK l D tc A nS xs mM_X10_add 49 q_X10_add_49 := s_aload_n (q := 0) rfl (by decide +kernel) (by decide +kernel) ok_X10_add_50
theorem ok_X10_add_48 : zOK l D tc A nS xs mM_X10_add 48 q_X10_add_48 := s_iast (t0 := 0) (by decide) (by decide) rfl (by decide +kernel) ok_X10_add_49
theorem ok_X10_add_46 : zOK l D tc A nS xs mM_X10_add 46 q_X10_add_46 := s_iload (by decide +kernel) (by decide +kernel) ok_X10_add_48
theorem ok_X10_add_44 : zOK l D tc A nS xs mM_X10_add 44 q_X10_add_44 := s_iload (by decide +kernel) (by decide +kernel) ok_X10_add_46
theorem ok_X10_add_41 : zOK l D tc A nS xs mM_X10_add 41 q_X10_add_41 := r_getf kls_10 (by decide) tx_10_2 rfl w_467 (by decide +kernel) ok_X10_add_44
theorem ok_X10_add_40 : zOK l D tc A nS xs mM_X10_add 40 q_X10_add_40 := s_aload_n (q := 0) rfl (by decide +kernel) (by decide +kernel) ok_X10_add_41
theorem ok_X10_add_39 : zOK l D tc A nS xs mM_X10_add 39 q_X10_add_39 := s_iast (t0 := 0) (by decide) (by decide) rfl (by decide +kernel) ok_X10_add_40
theorem ok_X10_add_37 : zOK l D tc A nS xs mM_X10_add 37 q_X10_add_37 := s_iload (by decide +kernel) (by decide +kernel) ok_X10_add_39
theorem ok_X10_add_35 : zOK l D tc A nS xs mM_X10_add 35 q_X10_add_35 := s_iload (by decide +kernel) (by decide +kernel) ok_X10_add_37
theorem ok_X10_add_32 : zOK l D tc A nS xs mM_X10_add 32 q_X10_add_32 := r_getf kls_10 (by decide) tx_10_1 rfl w_468 (by decide +kernel) ok_X10_add_35
theorem ok_X10_add_31 : zOK l D tc A nS xs mM_X10_add 31 q_X10_add_31 := s_aload_n (q := 0) rfl (by decide +kernel) (by decide +kernel) ok_X10_add_32
theorem ok_X10_add_30 : zOK l D tc A nS xs mM_X10_add 30 q_X10_add_30 := s_iast (t0 := 0) (by decide) (by decide) rfl (by decide +kernel) ok_X10_add_31
theorem ok_X10_add_29 : zOK l D tc A nS xs mM_X10_add 29 q_X10_add_29 := s_iadd (by decide +kernel) ok_X10_add_30
theorem ok_X10_add_28 : zOK l D tc A nS xs mM_X10_add 28 q_X10_add_28 := s_imul (by decide +kernel) ok_X10_add_29
theorem ok_X10_add_27 : zOK l D tc A nS xs mM_X10_add 27 q_X10_add_27 := s_iload_n (q := 3) rfl (by decide +kernel) (by decide +kernel) ok_X10_add_28
theorem ok_X10_add_24 : zOK l D tc A nS xs mM_X10_add 24 q_X10_add_24 := s_sipush (n := 16384) (by decide) (by decide +kernel) (by decide +kernel) ok_X10_add_27
theorem ok_X10_add_23 : zOK l D tc A nS xs mM_X10_add 23 q_X10_add_23 := s_iadd (by decide +kernel) ok_X10_add_24
theorem ok_X10_add_22 : zOK l D tc A nS xs mM_X10_add 22 q_X10_add_22 := s_imul (by decide +kernel) ok_X10_add_23
theorem ok_X10_add_21 : zOK l D tc A nS xs mM_X10_add 21 q_X10_add_21 := s_iload_n (q := 2) rfl (by decide +kernel) (by decide +kernel) ok_X10_add_22
theorem ok_X10_add_19 : zOK l D tc A nS xs mM_X10_add 19 q_X10_add_19 := s_bipush (n := 8) (by decide) (by decide +kernel) (by decide +kernel) ok_X10_add_21
theorem ok_X10_add_18 : zOK l D tc A nS xs mM_X10_add 18 q_X10_add_18 := s_iload_n (q := 1) rfl (by decide +kernel) (by decide +kernel) ok_X10_add_19
theorem ok_X10_add_16 : zOK l D tc A nS xs mM_X10_add 16 q_X10_add_16 := s_iload (by decide +kernel) (by decide +kernel) ok_X10_add_18
theorem ok_X10_add_13 : zOK l D tc A nS xs mM_X10_add 13 q_X10_add_13 := r_getf kls_10 (by decide) tx_10_0 rfl w_469 (by decide +kernel) ok_X10_add_16
theorem ok_X10_add_12 : zOK l D tc A nS xs mM_X10_add 12 q_X10_add_12 := s_aload_n (q := 0) rfl (by decide +kernel) (by decide +kernel) ok_X10_add_13
theorem ok_X10_add_10 : zOK l D tc A nS xs mM_X10_add 10 q_X10_add_10 := s_istore (by decide +kernel) (by decide +kernel) ok_X10_add_12
theorem ok_X10_add_7 : zOK l D tc A nS xs mM_X10_add 7 q_X10_add_7 := s_mmin (by rw [show (mM_X10_add).1.cls = "SchemeEleven$Text" from rfl]; exact w_470) w_32 w_33 w_34 (by decide +kernel) ok_X10_add_10
theorem ok_X10_add_4 : zOK l D tc A nS xs mM_X10_add 4 q_X10_add_4 := s_sipush (n := 18119) (by decide) (by decide +kernel) (by decide +kernel) ok_X10_add_7
theorem ok_X10_add_1 : zOK l D tc A nS xs mM_X10_add 1 q_X10_add_1 := r_getf kls_10 (by decide) tx_10_3 rfl w_466 (by decide +kernel) ok_X10_add_4
theorem ok_X10_add_0 : zOK l D tc A nS xs mM_X10_add 0 q_X10_add_0 := s_aload_n (q := 0) rfl (by decide +kernel) (by decide +kernel) ok_X10_add_1
theorem ok_X10_addKept_108 : zOK l D tc A nS xs mM_X10_addKept 108 q_X10_addKept_108 := s_iret rfl (by decide +kernel)
theorem ok_X10_addKept_107 : zOK l D tc A nS xs mM_X10_addKept 107 q_X10_addKept_107 := s_iload_n (q := 2) rfl (by decide +kernel) (by decide +kernel) ok_X10_addKept_108
theorem ok_X10_addKept_106 : zOK l D tc A nS xs mM_X10_addKept 106 q_X10_addKept_106 := s_iast (t0 := 0) (by decide) (by decide) rfl (by decide +kernel) ok_X10_addKept_107
theorem ok_X10_addKept_102 : zOK l D tc A nS xs mM_X10_addKept 102 q_X10_addKept_102 := s_goto (tgt := 106) (off := 4) (by decide +kernel) (by decide) ok_X10_addKept_106
theorem ok_X10_addKept_101 : zOK l D tc A nS xs mM_X10_addKept 101 q_X10_addKept_101 := s_iald (t0 := 0) (by decide) (by decide) rfl (by decide +kernel) ok_X10_addKept_102
theorem ok_X10_addKept_100 : zOK l D tc A nS xs mM_X10_addKept 100 q_X10_addKept_100 := s_iload_n (q := 1) rfl (by decide +kernel) (by decide +kernel) ok_X10_addKept_101
theorem ok_X10_addKept_97 : zOK l D tc A nS xs mM_X10_addKept 97 q_X10_addKept_97 := r_getf kls_10 (by decide) tx_10_2 rfl w_467 (by decide +kernel) ok_X10_addKept_100
theorem ok_X10_addKept_96 : zOK l D tc A nS xs mM_X10_addKept 96 q_X10_addKept_96 := s_aload_n (q := 0) rfl (by decide +kernel) (by decide +kernel) ok_X10_addKept_97
theorem ok_X10_addKept_93 : zOK l D tc A nS xs mM_X10_addKept 93 q_X10_addKept_93 := s_if_eq (tgt := 105) (off := 12) (by decide +kernel) (by decide) s_none ok_X10_addKept_96
theorem ok_X10_addKept_92 : zOK l D tc A nS xs mM_X10_addKept 92 q_X10_addKept_92 := s_iload_n (q := 3) rfl (by decide +kernel) (by decide +kernel) ok_X10_addKept_93
theorem ok_X10_addKept_91 : zOK l D tc A nS xs mM_X10_addKept 91 q_X10_addKept_91 := s_iload_n (q := 2) rfl (by decide +kernel) (by decide +kernel) ok_X10_addKept_92
theorem ok_X10_addKept_88 : zOK l D tc A nS xs mM_X10_addKept 88 q_X10_addKept_88 := r_getf kls_10 (by decide) tx_10_2 rfl w_467 (by decide +kernel) ok_X10_addKept_91
theorem ok_X10_addKept_87 : zOK l D tc A nS xs mM_X10_addKept 87 q_X10_addKept_87 := s_aload_n (q := 0) rfl (by decide +kernel) (by decide +kernel) ok_X10_addKept_88
theorem ok_X10_addKept_86 : zOK l D tc A nS xs mM_X10_addKept 86 q_X10_addKept_86 := s_iast (t0 := 0) (by decide) (by decide) rfl (by decide +kernel) ok_X10_addKept_87
theorem ok_X10_addKept_82 : zOK l D tc A nS xs mM_X10_addKept 82 q_X10_addKept_82 := s_goto (tgt := 86) (off := 4) (by decide +kernel) (by decide) ok_X10_addKept_86
theorem ok_X10_addKept_81 : zOK l D tc A nS xs mM_X10_addKept 81 q_X10_addKept_81 := s_iald (t0 := 0) (by decide) (by decide) rfl (by decide +kernel) ok_X10_addKept_82
theorem ok_X10_addKept_80 : zOK l D tc A nS xs mM_X10_addKept 80 q_X10_addKept_80 := s_iload_n (q := 1) rfl (by decide +kernel) (by decide +kernel) ok_X10_addKept_81
theorem ok_X10_addKept_77 : zOK l D tc A nS xs mM_X10_addKept 77 q_X10_addKept_77 := r_getf kls_10 (by decide) tx_10_1 rfl w_468 (by decide +kernel) ok_X10_addKept_80
theorem ok_X10_addKept_76 : zOK l D tc A nS xs mM_X10_addKept 76 q_X10_addKept_76 := s_aload_n (q := 0) rfl (by decide +kernel) (by decide +kernel) ok_X10_addKept_77
theorem ok_X10_addKept_73 : zOK l D tc A nS xs mM_X10_addKept 73 q_X10_addKept_73 := s_if_eq (tgt := 85) (off := 12) (by decide +kernel) (by decide) s_none ok_X10_addKept_76
theorem ok_X10_addKept_72 : zOK l D tc A nS xs mM_X10_addKept 72 q_X10_addKept_72 := s_iload_n (q := 3) rfl (by decide +kernel) (by decide +kernel) ok_X10_addKept_73
theorem ok_X10_addKept_71 : zOK l D tc A nS xs mM_X10_addKept 71 q_X10_addKept_71 := s_iload_n (q := 2) rfl (by decide +kernel) (by decide +kernel) ok_X10_addKept_72
theorem ok_X10_addKept_68 : zOK l D tc A nS xs mM_X10_addKept 68 q_X10_addKept_68 := r_getf kls_10 (by decide) tx_10_1 rfl w_468 (by decide +kernel) ok_X10_addKept_71
theorem ok_X10_addKept_67 : zOK l D tc A nS xs mM_X10_addKept 67 q_X10_addKept_67 := s_aload_n (q := 0) rfl (by decide +kernel) (by decide +kernel) ok_X10_addKept_68
theorem ok_X10_addKept_66 : zOK l D tc A nS xs mM_X10_addKept 66 q_X10_addKept_66 := s_iast (t0 := 0) (by decide) (by decide) rfl (by decide +kernel) ok_X10_addKept_67
theorem ok_X10_addKept_62 : zOK l D tc A nS xs mM_X10_addKept 62 q_X10_addKept_62 := s_goto (tgt := 66) (off := 4) (by decide +kernel) (by decide) ok_X10_addKept_66
theorem ok_X10_addKept_61 : zOK l D tc A nS xs mM_X10_addKept 61 q_X10_addKept_61 := s_iald (t0 := 0) (by decide) (by decide) rfl (by decide +kernel) ok_X10_addKept_62
theorem ok_X10_addKept_60 : zOK l D tc A nS xs mM_X10_addKept 60 q_X10_addKept_60 := s_iload_n (q := 1) rfl (by decide +kernel) (by decide +kernel) ok_X10_addKept_61
theorem ok_X10_addKept_57 : zOK l D tc A nS xs mM_X10_addKept 57 q_X10_addKept_57 := r_getf kls_10 (by decide) tx_10_0 rfl w_469 (by decide +kernel) ok_X10_addKept_60
theorem ok_X10_addKept_56 : zOK l D tc A nS xs mM_X10_addKept 56 q_X10_addKept_56 := s_aload_n (q := 0) rfl (by decide +kernel) (by decide +kernel) ok_X10_addKept_57
theorem ok_X10_addKept_53 : zOK l D tc A nS xs mM_X10_addKept 53 q_X10_addKept_53 := s_if_eq (tgt := 65) (off := 12) (by decide +kernel) (by decide) s_none ok_X10_addKept_56
theorem ok_X10_addKept_52 : zOK l D tc A nS xs mM_X10_addKept 52 q_X10_addKept_52 := s_iload_n (q := 3) rfl (by decide +kernel) (by decide +kernel) ok_X10_addKept_53
theorem ok_X10_addKept_51 : zOK l D tc A nS xs mM_X10_addKept 51 q_X10_addKept_51 := s_iload_n (q := 2) rfl (by decide +kernel) (by decide +kernel) ok_X10_addKept_52
theorem ok_X10_addKept_48 : zOK l D tc A nS xs mM_X10_addKept 48 q_X10_addKept_48 := r_getf kls_10 (by decide) tx_10_0 rfl w_469 (by decide +kernel) ok_X10_addKept_51
theorem ok_X10_addKept_47 : zOK l D tc A nS xs mM_X10_addKept 47 q_X10_addKept_47 := s_aload_n (q := 0) rfl (by decide +kernel) (by decide +kernel) ok_X10_addKept_48
theorem ok_X10_addKept_46 : zOK l D tc A nS xs mM_X10_addKept 46 q_X10_addKept_46 := s_istore_n (q := 3) rfl (by decide +kernel) (by decide +kernel) ok_X10_addKept_47
theorem ok_X10_addKept_42 : zOK l D tc A nS xs mM_X10_addKept 42 q_X10_addKept_42 := s_goto (tgt := 46) (off := 4) (by decide +kernel) (by decide) ok_X10_addKept_46
theorem ok_X10_addKept_41 : zOK l D tc A nS xs mM_X10_addKept 41 q_X10_addKept_41 := s_iconst (n := 1) (by decide) (by decide +kernel) (by decide +kernel) ok_X10_addKept_42
theorem ok_X10_addKept_38 : zOK l D tc A nS xs mM_X10_addKept 38 q_X10_addKept_38 := s_icmp_ge (tgt := 45) (off := 7) (by decide +kernel) (by decide) s_none ok_X10_addKept_41
theorem ok_X10_addKept_35 : zOK l D tc A nS xs mM_X10_addKept 35 q_X10_addKept_35 := s_sipush (n := 18120) (by decide) (by decide +kernel) (by decide +kernel) ok_X10_addKept_38
theorem ok_X10_addKept_34 : zOK l D tc A nS xs mM_X10_addKept 34 q_X10_addKept_34 := s_iload_n (q := 1) rfl (by decide +kernel) (by decide +kernel) ok_X10_addKept_35
theorem ok_X10_addKept_31 : zOK l D tc A nS xs mM_X10_addKept 31 q_X10_addKept_31 := s_if_lt (tgt := 45) (off := 14) (by decide +kernel) (by decide) s_none ok_X10_addKept_34
theorem ok_X10_addKept_30 : zOK l D tc A nS xs mM_X10_addKept 30 q_X10_addKept_30 := s_iload_n (q := 1) rfl (by decide +kernel) (by decide +kernel) ok_X10_addKept_31
theorem ok_X10_addKept_27 : zOK l D tc A nS xs mM_X10_addKept 27 q_X10_addKept_27 := r_putf kls_10 ty_10_5 zck_int (by decide) tx_10_5 rfl w_471 (by decide +kernel) ok_X10_addKept_30
theorem ok_X10_addKept_26 : zOK l D tc A nS xs mM_X10_addKept 26 q_X10_addKept_26 := s_iadd (by decide +kernel) ok_X10_addKept_27
theorem ok_X10_addKept_25 : zOK l D tc A nS xs mM_X10_addKept 25 q_X10_addKept_25 := s_iconst (n := 1) (by decide) (by decide +kernel) (by decide +kernel) ok_X10_addKept_26
theorem ok_X10_addKept_22 : zOK l D tc A nS xs mM_X10_addKept 22 q_X10_addKept_22 := r_getf kls_10 (by decide) tx_10_5 rfl w_471 (by decide +kernel) ok_X10_addKept_25
theorem ok_X10_addKept_21 : zOK l D tc A nS xs mM_X10_addKept 21 q_X10_addKept_21 := s_dup (by decide +kernel) ok_X10_addKept_22
theorem ok_X10_addKept_20 : zOK l D tc A nS xs mM_X10_addKept 20 q_X10_addKept_20 := s_aload_n (q := 0) rfl (by decide +kernel) (by decide +kernel) ok_X10_addKept_21
theorem ok_X10_addKept_19 : zOK l D tc A nS xs mM_X10_addKept 19 q_X10_addKept_19 := s_istore_n (q := 2) rfl (by decide +kernel) (by decide +kernel) ok_X10_addKept_20
theorem ok_X10_addKept_18 : zOK l D tc A nS xs mM_X10_addKept 18 q_X10_addKept_18 := s_iadd (by decide +kernel) ok_X10_addKept_19
theorem ok_X10_addKept_15 : zOK l D tc A nS xs mM_X10_addKept 15 q_X10_addKept_15 := s_mmin (by rw [show (mM_X10_addKept).1.cls = "SchemeEleven$Text" from rfl]; exact w_470) w_32 w_33 w_34 (by decide +kernel) ok_X10_addKept_18
theorem ok_X10_addKept_12 : zOK l D tc A nS xs mM_X10_addKept 12 q_X10_addKept_12 := s_sipush (n := 2999) (by decide) (by decide +kernel) (by decide +kernel) ok_X10_addKept_15
theorem ok_X10_addKept_9 : zOK l D tc A nS xs mM_X10_addKept 9 q_X10_addKept_9 := r_getf kls_10 (by decide) tx_10_5 rfl w_471 (by decide +kernel) ok_X10_addKept_12
theorem ok_X10_addKept_8 : zOK l D tc A nS xs mM_X10_addKept 8 q_X10_addKept_8 := s_aload_n (q := 0) rfl (by decide +kernel) (by decide +kernel) ok_X10_addKept_9
theorem ok_X10_addKept_7 : zOK l D tc A nS xs mM_X10_addKept 7 q_X10_addKept_7 := s_imul (by decide +kernel) ok_X10_addKept_8
theorem ok_X10_addKept_4 : zOK l D tc A nS xs mM_X10_addKept 4 q_X10_addKept_4 := s_sipush (n := 3000) (by decide) (by decide +kernel) (by decide +kernel) ok_X10_addKept_7
theorem ok_X10_addKept_1 : zOK l D tc A nS xs mM_X10_addKept 1 q_X10_addKept_1 := r_getf kls_10 (by decide) tx_10_4 rfl w_472 (by decide +kernel) ok_X10_addKept_4
theorem ok_X10_addKept_0 : zOK l D tc A nS xs mM_X10_addKept 0 q_X10_addKept_0 := s_aload_n (q := 0) rfl (by decide +kernel) (by decide +kernel) ok_X10_addKept_1
end ZRows
