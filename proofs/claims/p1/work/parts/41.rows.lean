section ZRows
variable {l : Launch} {D : va_G} {tc : Nat → ClassId} {A : Nat → Prop} {nS : Nat} {xs : Nat → Int32}
theorem ok_X2_letterOf_39 : zOK l D tc A nS xs mM_X2_letterOf 39 q_X2_letterOf_39 := s_iret rfl (by decide +kernel)
theorem ok_X2_letterOf_38 : zOK l D tc A nS xs mM_X2_letterOf 38 q_X2_letterOf_38 := s_iald (t0 := 0) (by decide) (by decide) rfl (by decide +kernel) ok_X2_letterOf_39
theorem ok_X2_letterOf_37 : zOK l D tc A nS xs mM_X2_letterOf 37 q_X2_letterOf_37 := s_iadd (by decide +kernel) ok_X2_letterOf_38
theorem ok_X2_letterOf_36 : zOK l D tc A nS xs mM_X2_letterOf 36 q_X2_letterOf_36 := s_iload_n (q := 2) rfl (by decide +kernel) (by decide +kernel) ok_X2_letterOf_37
theorem ok_X2_letterOf_35 : zOK l D tc A nS xs mM_X2_letterOf 35 q_X2_letterOf_35 := s_imul (by decide +kernel) ok_X2_letterOf_36
theorem ok_X2_letterOf_33 : zOK l D tc A nS xs mM_X2_letterOf 33 q_X2_letterOf_33 := s_bipush (n := 13) (by decide) (by decide +kernel) (by decide +kernel) ok_X2_letterOf_35
theorem ok_X2_letterOf_32 : zOK l D tc A nS xs mM_X2_letterOf 32 q_X2_letterOf_32 := s_iload_n (q := 1) rfl (by decide +kernel) (by decide +kernel) ok_X2_letterOf_33
theorem ok_X2_letterOf_29 : zOK l D tc A nS xs mM_X2_letterOf 29 q_X2_letterOf_29 := r_getf kls_2 (by decide) tx_2_1 rfl w_177 (by decide +kernel) ok_X2_letterOf_32
theorem ok_X2_letterOf_28 : zOK l D tc A nS xs mM_X2_letterOf 28 q_X2_letterOf_28 := s_aload_n (q := 0) rfl (by decide +kernel) (by decide +kernel) ok_X2_letterOf_29
theorem ok_X2_letterOf_27 : zOK l D tc A nS xs mM_X2_letterOf 27 q_X2_letterOf_27 := s_iret rfl (by decide +kernel)
theorem ok_X2_letterOf_26 : zOK l D tc A nS xs mM_X2_letterOf 26 q_X2_letterOf_26 := s_iconst (n := (-1)) (by decide) (by decide +kernel) (by decide +kernel) ok_X2_letterOf_27
theorem ok_X2_letterOf_23 : zOK l D tc A nS xs mM_X2_letterOf 23 q_X2_letterOf_23 := s_icmp_lt (tgt := 28) (off := 5) (by decide +kernel) (by decide) ok_X2_letterOf_28 ok_X2_letterOf_26
theorem ok_X2_letterOf_22 : zOK l D tc A nS xs mM_X2_letterOf 22 q_X2_letterOf_22 := s_iald (t0 := 0) (by decide) (by decide) rfl (by decide +kernel) ok_X2_letterOf_23
theorem ok_X2_letterOf_21 : zOK l D tc A nS xs mM_X2_letterOf 21 q_X2_letterOf_21 := s_iload_n (q := 1) rfl (by decide +kernel) (by decide +kernel) ok_X2_letterOf_22
theorem ok_X2_letterOf_18 : zOK l D tc A nS xs mM_X2_letterOf 18 q_X2_letterOf_18 := r_getf kls_2 (by decide) tx_2_2 rfl w_176 (by decide +kernel) ok_X2_letterOf_21
theorem ok_X2_letterOf_17 : zOK l D tc A nS xs mM_X2_letterOf 17 q_X2_letterOf_17 := s_aload_n (q := 0) rfl (by decide +kernel) (by decide +kernel) ok_X2_letterOf_18
theorem ok_X2_letterOf_16 : zOK l D tc A nS xs mM_X2_letterOf 16 q_X2_letterOf_16 := s_iload_n (q := 2) rfl (by decide +kernel) (by decide +kernel) ok_X2_letterOf_17
theorem ok_X2_letterOf_13 : zOK l D tc A nS xs mM_X2_letterOf 13 q_X2_letterOf_13 := s_if_lt (tgt := 26) (off := 13) (by decide +kernel) (by decide) ok_X2_letterOf_26 ok_X2_letterOf_16
theorem ok_X2_letterOf_12 : zOK l D tc A nS xs mM_X2_letterOf 12 q_X2_letterOf_12 := s_iload_n (q := 2) rfl (by decide +kernel) (by decide +kernel) ok_X2_letterOf_13
theorem ok_X2_letterOf_9 : zOK l D tc A nS xs mM_X2_letterOf 9 q_X2_letterOf_9 := s_icmp_ge (tgt := 26) (off := 17) (by decide +kernel) (by decide) ok_X2_letterOf_26 ok_X2_letterOf_12
theorem ok_X2_letterOf_6 : zOK l D tc A nS xs mM_X2_letterOf 6 q_X2_letterOf_6 := r_getf kls_2 (by decide) tx_2_4 rfl w_174 (by decide +kernel) ok_X2_letterOf_9
theorem ok_X2_letterOf_5 : zOK l D tc A nS xs mM_X2_letterOf 5 q_X2_letterOf_5 := s_aload_n (q := 0) rfl (by decide +kernel) (by decide +kernel) ok_X2_letterOf_6
theorem ok_X2_letterOf_4 : zOK l D tc A nS xs mM_X2_letterOf 4 q_X2_letterOf_4 := s_iload_n (q := 1) rfl (by decide +kernel) (by decide +kernel) ok_X2_letterOf_5
theorem ok_X2_letterOf_1 : zOK l D tc A nS xs mM_X2_letterOf 1 q_X2_letterOf_1 := s_if_lt (tgt := 26) (off := 25) (by decide +kernel) (by decide) ok_X2_letterOf_26 ok_X2_letterOf_4
theorem ok_X2_letterOf_0 : zOK l D tc A nS xs mM_X2_letterOf 0 q_X2_letterOf_0 := s_iload_n (q := 1) rfl (by decide +kernel) (by decide +kernel) ok_X2_letterOf_1
theorem ok_X2_mark_24 : zOK l D tc A nS xs mM_X2_mark 24 q_X2_mark_24 := s_vret rfl (by decide +kernel)
theorem ok_X2_mark_21 : zOK l D tc A nS xs mM_X2_mark 21 q_X2_mark_21 := r_putf kls_2 ty_2_9 zck_int (by decide) tx_2_9 rfl w_188 (by decide +kernel) ok_X2_mark_24
theorem ok_X2_mark_18 : zOK l D tc A nS xs mM_X2_mark 18 q_X2_mark_18 := r_getf kls_2 (by decide) tx_2_6 rfl w_182 (by decide +kernel) ok_X2_mark_21
theorem ok_X2_mark_17 : zOK l D tc A nS xs mM_X2_mark 17 q_X2_mark_17 := s_aload_n (q := 0) rfl (by decide +kernel) (by decide +kernel) ok_X2_mark_18
theorem ok_X2_mark_16 : zOK l D tc A nS xs mM_X2_mark 16 q_X2_mark_16 := s_aload_n (q := 0) rfl (by decide +kernel) (by decide +kernel) ok_X2_mark_17
theorem ok_X2_mark_13 : zOK l D tc A nS xs mM_X2_mark 13 q_X2_mark_13 := r_putf kls_2 ty_2_8 zck_int (by decide) tx_2_8 rfl w_189 (by decide +kernel) ok_X2_mark_16
theorem ok_X2_mark_10 : zOK l D tc A nS xs mM_X2_mark 10 q_X2_mark_10 := r_getf kls_2 (by decide) tx_2_5 rfl w_167 (by decide +kernel) ok_X2_mark_13
theorem ok_X2_mark_9 : zOK l D tc A nS xs mM_X2_mark 9 q_X2_mark_9 := s_aload_n (q := 0) rfl (by decide +kernel) (by decide +kernel) ok_X2_mark_10
theorem ok_X2_mark_8 : zOK l D tc A nS xs mM_X2_mark 8 q_X2_mark_8 := s_aload_n (q := 0) rfl (by decide +kernel) (by decide +kernel) ok_X2_mark_9
theorem ok_X2_mark_5 : zOK l D tc A nS xs mM_X2_mark 5 q_X2_mark_5 := r_putf kls_2 ty_2_7 zck_int (by decide) tx_2_7 rfl w_190 (by decide +kernel) ok_X2_mark_8
theorem ok_X2_mark_2 : zOK l D tc A nS xs mM_X2_mark 2 q_X2_mark_2 := r_getf kls_2 (by decide) tx_2_4 rfl w_174 (by decide +kernel) ok_X2_mark_5
theorem ok_X2_mark_1 : zOK l D tc A nS xs mM_X2_mark 1 q_X2_mark_1 := s_aload_n (q := 0) rfl (by decide +kernel) (by decide +kernel) ok_X2_mark_2
theorem ok_X2_mark_0 : zOK l D tc A nS xs mM_X2_mark 0 q_X2_mark_0 := s_aload_n (q := 0) rfl (by decide +kernel) (by decide +kernel) ok_X2_mark_1
theorem ok_X2_placeOf_22 : zOK l D tc A nS xs mM_X2_placeOf 22 q_X2_placeOf_22 := s_iret rfl (by decide +kernel)
theorem ok_X2_placeOf_18 : zOK l D tc A nS xs mM_X2_placeOf 18 q_X2_placeOf_18 := s_goto (tgt := 22) (off := 4) (by decide +kernel) (by decide) ok_X2_placeOf_22
theorem ok_X2_placeOf_17 : zOK l D tc A nS xs mM_X2_placeOf 17 q_X2_placeOf_17 := s_iald (t0 := 0) (by decide) (by decide) rfl (by decide +kernel) ok_X2_placeOf_18
theorem ok_X2_placeOf_16 : zOK l D tc A nS xs mM_X2_placeOf 16 q_X2_placeOf_16 := s_iload_n (q := 1) rfl (by decide +kernel) (by decide +kernel) ok_X2_placeOf_17
theorem ok_X2_placeOf_13 : zOK l D tc A nS xs mM_X2_placeOf 13 q_X2_placeOf_13 := r_getf kls_2 (by decide) tx_2_3 rfl w_175 (by decide +kernel) ok_X2_placeOf_16
theorem ok_X2_placeOf_12 : zOK l D tc A nS xs mM_X2_placeOf 12 q_X2_placeOf_12 := s_aload_n (q := 0) rfl (by decide +kernel) (by decide +kernel) ok_X2_placeOf_13
theorem ok_X2_placeOf_9 : zOK l D tc A nS xs mM_X2_placeOf 9 q_X2_placeOf_9 := s_icmp_ge (tgt := 21) (off := 12) (by decide +kernel) (by decide) s_none ok_X2_placeOf_12
theorem ok_X2_placeOf_6 : zOK l D tc A nS xs mM_X2_placeOf 6 q_X2_placeOf_6 := r_getf kls_2 (by decide) tx_2_4 rfl w_174 (by decide +kernel) ok_X2_placeOf_9
theorem ok_X2_placeOf_5 : zOK l D tc A nS xs mM_X2_placeOf 5 q_X2_placeOf_5 := s_aload_n (q := 0) rfl (by decide +kernel) (by decide +kernel) ok_X2_placeOf_6
theorem ok_X2_placeOf_4 : zOK l D tc A nS xs mM_X2_placeOf 4 q_X2_placeOf_4 := s_iload_n (q := 1) rfl (by decide +kernel) (by decide +kernel) ok_X2_placeOf_5
theorem ok_X2_placeOf_1 : zOK l D tc A nS xs mM_X2_placeOf 1 q_X2_placeOf_1 := s_if_lt (tgt := 21) (off := 20) (by decide +kernel) (by decide) s_none ok_X2_placeOf_4
theorem ok_X2_placeOf_0 : zOK l D tc A nS xs mM_X2_placeOf 0 q_X2_placeOf_0 := s_iload_n (q := 1) rfl (by decide +kernel) (by decide +kernel) ok_X2_placeOf_1
theorem ok_X2_same_46 : zOK l D tc A nS xs mM_X2_same 46 q_X2_same_46 := s_zret rfl (by decide +kernel)
theorem ok_X2_same_45 : zOK l D tc A nS xs mM_X2_same 45 q_X2_same_45 := s_iconst (n := 1) (by decide) (by decide +kernel) (by decide +kernel) ok_X2_same_46
theorem ok_X2_same_42 : zOK l D tc A nS xs mM_X2_same 42 q_X2_same_42 := s_goto (tgt := 3) (off := (-39)) (by decide +kernel) (by decide) (s_back lb_43)
theorem ok_X2_same_39 : zOK l D tc A nS xs mM_X2_same 39 q_X2_same_39 := s_iinc (n := 1) (by decide +kernel) (by decide +kernel) (by decide +kernel) ok_X2_same_42
theorem ok_X2_same_38 : zOK l D tc A nS xs mM_X2_same 38 q_X2_same_38 := s_zret rfl (by decide +kernel)
theorem ok_X2_same_37 : zOK l D tc A nS xs mM_X2_same 37 q_X2_same_37 := s_iconst (n := 0) (by decide) (by decide +kernel) (by decide +kernel) ok_X2_same_38
theorem ok_X2_same_34 : zOK l D tc A nS xs mM_X2_same 34 q_X2_same_34 := s_icmp_eq (tgt := 39) (off := 5) (by decide +kernel) (by decide) ok_X2_same_39 ok_X2_same_37
theorem ok_X2_same_33 : zOK l D tc A nS xs mM_X2_same 33 q_X2_same_33 := s_iald (t0 := 0) (by decide) (by decide) rfl (by decide +kernel) ok_X2_same_34
theorem ok_X2_same_32 : zOK l D tc A nS xs mM_X2_same 32 q_X2_same_32 := s_iadd (by decide +kernel) ok_X2_same_33
theorem ok_X2_same_30 : zOK l D tc A nS xs mM_X2_same 30 q_X2_same_30 := s_iload (by decide +kernel) (by decide +kernel) ok_X2_same_32
theorem ok_X2_same_29 : zOK l D tc A nS xs mM_X2_same 29 q_X2_same_29 := s_iload_n (q := 3) rfl (by decide +kernel) (by decide +kernel) ok_X2_same_30
theorem ok_X2_same_28 : zOK l D tc A nS xs mM_X2_same 28 q_X2_same_28 := s_aload_n (q := 2) rfl (by decide +kernel) (by decide +kernel) ok_X2_same_29
theorem ok_X2_same_27 : zOK l D tc A nS xs mM_X2_same 27 q_X2_same_27 := s_iald (t0 := 0) (by decide) (by decide) rfl (by decide +kernel) ok_X2_same_28
theorem ok_X2_same_26 : zOK l D tc A nS xs mM_X2_same 26 q_X2_same_26 := s_iadd (by decide +kernel) ok_X2_same_27
theorem ok_X2_same_24 : zOK l D tc A nS xs mM_X2_same 24 q_X2_same_24 := s_iload (by decide +kernel) (by decide +kernel) ok_X2_same_26
theorem ok_X2_same_23 : zOK l D tc A nS xs mM_X2_same 23 q_X2_same_23 := s_iload_n (q := 1) rfl (by decide +kernel) (by decide +kernel) ok_X2_same_24
theorem ok_X2_same_20 : zOK l D tc A nS xs mM_X2_same 20 q_X2_same_20 := r_getf kls_2 (by decide) tx_2_1 rfl w_177 (by decide +kernel) ok_X2_same_23
theorem ok_X2_same_19 : zOK l D tc A nS xs mM_X2_same 19 q_X2_same_19 := s_aload_n (q := 0) rfl (by decide +kernel) (by decide +kernel) ok_X2_same_20
theorem ok_X2_same_16 : zOK l D tc A nS xs mM_X2_same 16 q_X2_same_16 := s_icmp_ge (tgt := 37) (off := 21) (by decide +kernel) (by decide) ok_X2_same_37 ok_X2_same_19
theorem ok_X2_same_15 : zOK l D tc A nS xs mM_X2_same 15 q_X2_same_15 := s_len (t0 := 0) (ty := .int) (by decide) (by decide) rfl (by decide +kernel) ok_X2_same_16
theorem ok_X2_same_14 : zOK l D tc A nS xs mM_X2_same 14 q_X2_same_14 := s_aload_n (q := 2) rfl (by decide +kernel) (by decide +kernel) ok_X2_same_15
theorem ok_X2_same_13 : zOK l D tc A nS xs mM_X2_same 13 q_X2_same_13 := s_iadd (by decide +kernel) ok_X2_same_14
theorem ok_X2_same_11 : zOK l D tc A nS xs mM_X2_same 11 q_X2_same_11 := s_iload (by decide +kernel) (by decide +kernel) ok_X2_same_13
theorem ok_X2_same_10 : zOK l D tc A nS xs mM_X2_same 10 q_X2_same_10 := s_iload_n (q := 3) rfl (by decide +kernel) (by decide +kernel) ok_X2_same_11
theorem ok_X2_same_7 : zOK l D tc A nS xs mM_X2_same 7 q_X2_same_7 := s_icmp_ge (tgt := 45) (off := 38) (by decide +kernel) (by decide) ok_X2_same_45 ok_X2_same_10
theorem ok_X2_same_5 : zOK l D tc A nS xs mM_X2_same 5 q_X2_same_5 := s_iload (by decide +kernel) (by decide +kernel) ok_X2_same_7
theorem ok_X2_same_3 : zOK l D tc A nS xs mM_X2_same 3 q_X2_same_3 := s_iload (by decide +kernel) (by decide +kernel) ok_X2_same_5
theorem ok_X2_same_1 : zOK l D tc A nS xs mM_X2_same 1 q_X2_same_1 := s_istore (by decide +kernel) (by decide +kernel) ok_X2_same_3
theorem ok_X2_same_0 : zOK l D tc A nS xs mM_X2_same 0 q_X2_same_0 := s_iconst (n := 0) (by decide) (by decide +kernel) (by decide +kernel) ok_X2_same_1
theorem ok_X3_at_33 : zOK l D tc A nS xs mM_X3_at 33 q_X3_at_33 := s_iret rfl (by decide +kernel)
theorem ok_X3_at_29 : zOK l D tc A nS xs mM_X3_at 29 q_X3_at_29 := s_goto (tgt := 33) (off := 4) (by decide +kernel) (by decide) ok_X3_at_33
theorem ok_X3_at_28 : zOK l D tc A nS xs mM_X3_at 28 q_X3_at_28 := s_iald (t0 := 0) (by decide) (by decide) rfl (by decide +kernel) ok_X3_at_29
theorem ok_X3_at_27 : zOK l D tc A nS xs mM_X3_at 27 q_X3_at_27 := s_iload_n (q := 2) rfl (by decide +kernel) (by decide +kernel) ok_X3_at_28
theorem ok_X3_at_24 : zOK l D tc A nS xs mM_X3_at 24 q_X3_at_24 := r_getf kls_3 (by decide) tx_3_0 rfl w_191 (by decide +kernel) ok_X3_at_27
theorem ok_X3_at_23 : zOK l D tc A nS xs mM_X3_at 23 q_X3_at_23 := s_aload_n (q := 0) rfl (by decide +kernel) (by decide +kernel) ok_X3_at_24
theorem ok_X3_at_20 : zOK l D tc A nS xs mM_X3_at 20 q_X3_at_20 := s_icmp_ge (tgt := 32) (off := 12) (by decide +kernel) (by decide) s_none ok_X3_at_23
theorem ok_X3_at_19 : zOK l D tc A nS xs mM_X3_at 19 q_X3_at_19 := s_len (t0 := 0) (ty := .int) (by decide) (by decide) rfl (by decide +kernel) ok_X3_at_20
theorem ok_X3_at_16 : zOK l D tc A nS xs mM_X3_at 16 q_X3_at_16 := r_getf kls_3 (by decide) tx_3_0 rfl w_191 (by decide +kernel) ok_X3_at_19
theorem ok_X3_at_15 : zOK l D tc A nS xs mM_X3_at 15 q_X3_at_15 := s_aload_n (q := 0) rfl (by decide +kernel) (by decide +kernel) ok_X3_at_16
theorem ok_X3_at_14 : zOK l D tc A nS xs mM_X3_at 14 q_X3_at_14 := s_iload_n (q := 2) rfl (by decide +kernel) (by decide +kernel) ok_X3_at_15
theorem ok_X3_at_11 : zOK l D tc A nS xs mM_X3_at 11 q_X3_at_11 := s_if_lt (tgt := 32) (off := 21) (by decide +kernel) (by decide) s_none ok_X3_at_14
theorem ok_X3_at_10 : zOK l D tc A nS xs mM_X3_at 10 q_X3_at_10 := s_iload_n (q := 2) rfl (by decide +kernel) (by decide +kernel) ok_X3_at_11
theorem ok_X3_at_7 : zOK l D tc A nS xs mM_X3_at 7 q_X3_at_7 := s_if_ne (tgt := 32) (off := 25) (by decide +kernel) (by decide) s_none ok_X3_at_10
theorem ok_X3_at_6 : zOK l D tc A nS xs mM_X3_at 6 q_X3_at_6 := s_iand (by decide +kernel) ok_X3_at_7
theorem ok_X3_at_5 : zOK l D tc A nS xs mM_X3_at 5 q_X3_at_5 := s_iconst (n := 1) (by decide) (by decide +kernel) (by decide +kernel) ok_X3_at_6
theorem ok_X3_at_4 : zOK l D tc A nS xs mM_X3_at 4 q_X3_at_4 := s_iload_n (q := 1) rfl (by decide +kernel) (by decide +kernel) ok_X3_at_5
theorem ok_X3_at_3 : zOK l D tc A nS xs mM_X3_at 3 q_X3_at_3 := s_istore_n (q := 2) rfl (by decide +kernel) (by decide +kernel) ok_X3_at_4
theorem ok_X3_at_2 : zOK l D tc A nS xs mM_X3_at 2 q_X3_at_2 := s_ishr (by decide +kernel) ok_X3_at_3
theorem ok_X3_at_1 : zOK l D tc A nS xs mM_X3_at 1 q_X3_at_1 := s_iconst (n := 1) (by decide) (by decide +kernel) (by decide +kernel) ok_X3_at_2
theorem ok_X3_at_0 : zOK l D tc A nS xs mM_X3_at 0 q_X3_at_0 := s_iload_n (q := 1) rfl (by decide +kernel) (by decide +kernel) ok_X3_at_1
theorem ok_X3_clear_21 : zOK l D tc A nS xs mM_X3_clear 21 q_X3_clear_21 := s_vret rfl (by decide +kernel)
theorem ok_X3_clear_18 : zOK l D tc A nS xs mM_X3_clear 18 q_X3_clear_18 := r_callV zEE_ok zTw_gd kls_3 (M2 := mM_X3_putFlags) (na := 1) lb_50 calV_X3_putFlags rfl rfl w_192 (by decide +kernel) ok_X3_clear_21
theorem ok_X3_clear_17 : zOK l D tc A nS xs mM_X3_clear 17 q_X3_clear_17 := s_iconst (n := 0) (by decide) (by decide +kernel) (by decide +kernel) ok_X3_clear_18
theorem ok_X3_clear_16 : zOK l D tc A nS xs mM_X3_clear 16 q_X3_clear_16 := s_aload_n (q := 0) rfl (by decide +kernel) (by decide +kernel) ok_X3_clear_17
theorem ok_X3_clear_13 : zOK l D tc A nS xs mM_X3_clear 13 q_X3_clear_13 := r_callS zEE_ok zTw_gd (M2 := mM_J7_fill_53178) lb_11 calS_J7_fill_53178 rfl rfl w_196 (by decide +kernel) ok_X3_clear_16
theorem ok_X3_clear_12 : zOK l D tc A nS xs mM_X3_clear 12 q_X3_clear_12 := s_iconst (n := 0) (by decide) (by decide +kernel) (by decide +kernel) ok_X3_clear_13
theorem ok_X3_clear_9 : zOK l D tc A nS xs mM_X3_clear 9 q_X3_clear_9 := r_getf kls_3 (by decide) tx_3_1 rfl w_200 (by decide +kernel) ok_X3_clear_12
theorem ok_X3_clear_8 : zOK l D tc A nS xs mM_X3_clear 8 q_X3_clear_8 := s_aload_n (q := 0) rfl (by decide +kernel) (by decide +kernel) ok_X3_clear_9
theorem ok_X3_clear_5 : zOK l D tc A nS xs mM_X3_clear 5 q_X3_clear_5 := r_callS zEE_ok zTw_gd (M2 := mM_J7_fill_53178) lb_11 calS_J7_fill_53178 rfl rfl w_196 (by decide +kernel) ok_X3_clear_8
theorem ok_X3_clear_4 : zOK l D tc A nS xs mM_X3_clear 4 q_X3_clear_4 := s_iconst (n := 0) (by decide) (by decide +kernel) (by decide +kernel) ok_X3_clear_5
theorem ok_X3_clear_1 : zOK l D tc A nS xs mM_X3_clear 1 q_X3_clear_1 := r_getf kls_3 (by decide) tx_3_0 rfl w_191 (by decide +kernel) ok_X3_clear_4
theorem ok_X3_clear_0 : zOK l D tc A nS xs mM_X3_clear 0 q_X3_clear_0 := s_aload_n (q := 0) rfl (by decide +kernel) (by decide +kernel) ok_X3_clear_1
theorem ok_X3_holds_26 : zOK l D tc A nS xs mM_X3_holds 26 q_X3_holds_26 := s_zret rfl (by decide +kernel)
theorem ok_X3_holds_25 : zOK l D tc A nS xs mM_X3_holds 25 q_X3_holds_25 := s_iconst (n := 0) (by decide) (by decide +kernel) (by decide +kernel) ok_X3_holds_26
theorem ok_X3_holds_22 : zOK l D tc A nS xs mM_X3_holds 22 q_X3_holds_22 := s_goto (tgt := 26) (off := 4) (by decide +kernel) (by decide) ok_X3_holds_26
theorem ok_X3_holds_21 : zOK l D tc A nS xs mM_X3_holds 21 q_X3_holds_21 := s_iconst (n := 1) (by decide) (by decide +kernel) (by decide +kernel) ok_X3_holds_22
theorem ok_X3_holds_18 : zOK l D tc A nS xs mM_X3_holds 18 q_X3_holds_18 := s_icmp_ge (tgt := 25) (off := 7) (by decide +kernel) (by decide) ok_X3_holds_25 ok_X3_holds_21
theorem ok_X3_holds_17 : zOK l D tc A nS xs mM_X3_holds 17 q_X3_holds_17 := s_len (t0 := 0) (ty := .int) (by decide) (by decide) rfl (by decide +kernel) ok_X3_holds_18
theorem ok_X3_holds_14 : zOK l D tc A nS xs mM_X3_holds 14 q_X3_holds_14 := r_getf kls_3 (by decide) tx_3_0 rfl w_191 (by decide +kernel) ok_X3_holds_17
theorem ok_X3_holds_13 : zOK l D tc A nS xs mM_X3_holds 13 q_X3_holds_13 := s_aload_n (q := 0) rfl (by decide +kernel) (by decide +kernel) ok_X3_holds_14
theorem ok_X3_holds_12 : zOK l D tc A nS xs mM_X3_holds 12 q_X3_holds_12 := s_ishr (by decide +kernel) ok_X3_holds_13
theorem ok_X3_holds_11 : zOK l D tc A nS xs mM_X3_holds 11 q_X3_holds_11 := s_iconst (n := 1) (by decide) (by decide +kernel) (by decide +kernel) ok_X3_holds_12
theorem ok_X3_holds_10 : zOK l D tc A nS xs mM_X3_holds 10 q_X3_holds_10 := s_iload_n (q := 1) rfl (by decide +kernel) (by decide +kernel) ok_X3_holds_11
theorem ok_X3_holds_7 : zOK l D tc A nS xs mM_X3_holds 7 q_X3_holds_7 := s_if_ne (tgt := 25) (off := 18) (by decide +kernel) (by decide) ok_X3_holds_25 ok_X3_holds_10
theorem ok_X3_holds_6 : zOK l D tc A nS xs mM_X3_holds 6 q_X3_holds_6 := s_iand (by decide +kernel) ok_X3_holds_7
theorem ok_X3_holds_5 : zOK l D tc A nS xs mM_X3_holds 5 q_X3_holds_5 := s_iconst (n := 1) (by decide) (by decide +kernel) (by decide +kernel) ok_X3_holds_6
theorem ok_X3_holds_4 : zOK l D tc A nS xs mM_X3_holds 4 q_X3_holds_4 := s_iload_n (q := 1) rfl (by decide +kernel) (by decide +kernel) ok_X3_holds_5
theorem ok_X3_holds_1 : zOK l D tc A nS xs mM_X3_holds 1 q_X3_holds_1 := s_if_lt (tgt := 25) (off := 24) (by decide +kernel) (by decide) ok_X3_holds_25 ok_X3_holds_4
theorem ok_X3_holds_0 : zOK l D tc A nS xs mM_X3_holds 0 q_X3_holds_0 := s_iload_n (q := 1) rfl (by decide +kernel) (by decide +kernel) ok_X3_holds_1
theorem ok_X3_init_25 : zOK l D tc A nS xs mM_X3_init 25 q_X3_init_25 := s_vret rfl (by decide +kernel)
theorem ok_X3_init_22 : zOK l D tc A nS xs mM_X3_init 22 q_X3_init_22 := r_putF kls_3 ty_3_0 (zck_arr _) (by decide) tx_3_0 rfl rfl rfl w_191 (by decide +kernel) ok_X3_init_25
theorem ok_X3_init_20 : zOK l D tc A nS xs mM_X3_init 20 q_X3_init_20 := r_newa (t0 := 0) (atype := .int) (ty := .int) rfl (by decide) rfl rfl z_RA_int rfl (by decide) w_109 (by decide +kernel) ok_X3_init_22
theorem ok_X3_init_19 : zOK l D tc A nS xs mM_X3_init 19 q_X3_init_19 := s_ishr (by decide +kernel) ok_X3_init_20
theorem ok_X3_init_18 : zOK l D tc A nS xs mM_X3_init 18 q_X3_init_18 := s_iconst (n := 1) (by decide) (by decide +kernel) (by decide +kernel) ok_X3_init_19
theorem ok_X3_init_15 : zOK l D tc A nS xs mM_X3_init 15 q_X3_init_15 := s_mmax (by rw [show (mM_X3_init).1.cls = "SchemeEleven$Machine" from rfl]; exact w_201) w_36 w_33 w_37 (by decide +kernel) ok_X3_init_18
theorem ok_X3_init_14 : zOK l D tc A nS xs mM_X3_init 14 q_X3_init_14 := s_iconst (n := 2) (by decide) (by decide +kernel) (by decide +kernel) ok_X3_init_15
theorem ok_X3_init_13 : zOK l D tc A nS xs mM_X3_init 13 q_X3_init_13 := s_iload_n (q := 1) rfl (by decide +kernel) (by decide +kernel) ok_X3_init_14
theorem ok_X3_init_12 : zOK l D tc A nS xs mM_X3_init 12 q_X3_init_12 := s_aload_n (q := 0) rfl (by decide +kernel) (by decide +kernel) ok_X3_init_13
theorem ok_X3_init_9 : zOK l D tc A nS xs mM_X3_init 9 q_X3_init_9 := r_putF kls_3 ty_3_1 (zck_arr _) (by decide) tx_3_1 rfl rfl rfl w_200 (by decide +kernel) ok_X3_init_12
theorem ok_X3_init_7 : zOK l D tc A nS xs mM_X3_init 7 q_X3_init_7 := r_newa (t0 := 0) (atype := .int) (ty := .int) rfl (by decide) rfl rfl z_RA_int rfl (by decide) w_109 (by decide +kernel) ok_X3_init_9
theorem ok_X3_init_5 : zOK l D tc A nS xs mM_X3_init 5 q_X3_init_5 := s_bipush (n := 8) (by decide) (by decide +kernel) (by decide +kernel) ok_X3_init_7
theorem ok_X3_init_4 : zOK l D tc A nS xs mM_X3_init 4 q_X3_init_4 := s_aload_n (q := 0) rfl (by decide +kernel) (by decide +kernel) ok_X3_init_5
theorem ok_X3_init_1 : zOK l D tc A nS xs mM_X3_init 1 q_X3_init_1 := s_oinit w_202 w_112 w_oi (by decide +kernel) ok_X3_init_4
theorem ok_X3_init_0 : zOK l D tc A nS xs mM_X3_init 0 q_X3_init_0 := s_aload_n (q := 0) rfl (by decide +kernel) (by decide +kernel) ok_X3_init_1
theorem ok_X3_low_157 : zOK l D tc A nS xs mM_X3_low 157 q_X3_low_157 := s_iret rfl (by decide +kernel)
theorem ok_X3_low_153 : zOK l D tc A nS xs mM_X3_low 153 q_X3_low_153 := s_goto (tgt := 157) (off := 4) (by decide +kernel) (by decide) ok_X3_low_157
theorem ok_X3_low_152 : zOK l D tc A nS xs mM_X3_low 152 q_X3_low_152 := s_iconst (n := 1) (by decide) (by decide +kernel) (by decide +kernel) ok_X3_low_153
theorem ok_X3_low_149 : zOK l D tc A nS xs mM_X3_low 149 q_X3_low_149 := s_if_ne (tgt := 156) (off := 7) (by decide +kernel) (by decide) s_none ok_X3_low_152
theorem ok_X3_low_148 : zOK l D tc A nS xs mM_X3_low 148 q_X3_low_148 := s_iload_n (q := 1) rfl (by decide +kernel) (by decide +kernel) ok_X3_low_149
theorem ok_X3_low_69 : zOK l D tc A nS xs mM_X3_low 69 q_X3_low_69 := s_lsw (qs := [(1, 43, 112, o_none), (2, 52, 121, o_none), (3, 61, 130, o_none), (55, 70, 139, o_none)]) (dflt := 79) (ps := #[(1, 43), (2, 52), (3, 61), (55, 70)]) (len := 43) (tgt := 148) (by decide +kernel) (by decide +kernel) (by decide +kernel) (by decide) ok_X3_low_148 (List.forall_mem_cons.mpr ⟨⟨by decide, by decide, s_none⟩, (List.forall_mem_cons.mpr ⟨⟨by decide, by decide, s_none⟩, (List.forall_mem_cons.mpr ⟨⟨by decide, by decide, s_none⟩, (List.forall_mem_cons.mpr ⟨⟨by decide, by decide, s_none⟩, fun _ h => absurd h List.not_mem_nil⟩)⟩)⟩)⟩)
theorem ok_X3_low_68 : zOK l D tc A nS xs mM_X3_low 68 q_X3_low_68 := s_iload_n (q := 2) rfl (by decide +kernel) (by decide +kernel) ok_X3_low_69
theorem ok_X3_low_46 : zOK l D tc A nS xs mM_X3_low 46 q_X3_low_46 := s_icmp_lt (tgt := 68) (off := 22) (by decide +kernel) (by decide) ok_X3_low_68 s_none
theorem ok_X3_low_44 : zOK l D tc A nS xs mM_X3_low 44 q_X3_low_44 := s_bipush (n := 32) (by decide) (by decide +kernel) (by decide +kernel) ok_X3_low_46
theorem ok_X3_low_43 : zOK l D tc A nS xs mM_X3_low 43 q_X3_low_43 := s_iload_n (q := 2) rfl (by decide +kernel) (by decide +kernel) ok_X3_low_44
theorem ok_X3_low_28 : zOK l D tc A nS xs mM_X3_low 28 q_X3_low_28 := s_icmp_lt (tgt := 43) (off := 15) (by decide +kernel) (by decide) ok_X3_low_43 s_none
theorem ok_X3_low_26 : zOK l D tc A nS xs mM_X3_low 26 q_X3_low_26 := s_bipush (n := 40) (by decide) (by decide +kernel) (by decide +kernel) ok_X3_low_28
theorem ok_X3_low_25 : zOK l D tc A nS xs mM_X3_low 25 q_X3_low_25 := s_iload_n (q := 2) rfl (by decide +kernel) (by decide +kernel) ok_X3_low_26
theorem ok_X3_low_24 : zOK l D tc A nS xs mM_X3_low 24 q_X3_low_24 := s_istore_n (q := 2) rfl (by decide +kernel) (by decide +kernel) ok_X3_low_25
theorem ok_X3_low_23 : zOK l D tc A nS xs mM_X3_low 23 q_X3_low_23 := s_ishr (by decide +kernel) ok_X3_low_24
theorem ok_X3_low_21 : zOK l D tc A nS xs mM_X3_low 21 q_X3_low_21 := s_bipush (n := 6) (by decide) (by decide +kernel) (by decide +kernel) ok_X3_low_23
theorem ok_X3_low_20 : zOK l D tc A nS xs mM_X3_low 20 q_X3_low_20 := s_iload_n (q := 1) rfl (by decide +kernel) (by decide +kernel) ok_X3_low_21
theorem ok_X3_low_4 : zOK l D tc A nS xs mM_X3_low 4 q_X3_low_4 := s_icmp_lt (tgt := 20) (off := 16) (by decide +kernel) (by decide) ok_X3_low_20 s_none
theorem ok_X3_low_1 : zOK l D tc A nS xs mM_X3_low 1 q_X3_low_1 := s_sipush (n := 256) (by decide) (by decide +kernel) (by decide +kernel) ok_X3_low_4
theorem ok_X3_low_0 : zOK l D tc A nS xs mM_X3_low 0 q_X3_low_0 := s_iload_n (q := 1) rfl (by decide +kernel) (by decide +kernel) ok_X3_low_1
theorem ok_X3_put_33 : zOK l D tc A nS xs mM_X3_put 33 q_X3_put_33 := s_vret rfl (by decide +kernel)
theorem ok_X3_put_32 : zOK l D tc A nS xs mM_X3_put 32 q_X3_put_32 := s_iast (t0 := 0) (by decide) (by decide) rfl (by decide +kernel) ok_X3_put_33
theorem ok_X3_put_31 : zOK l D tc A nS xs mM_X3_put 31 q_X3_put_31 := s_iand (by decide +kernel) ok_X3_put_32
theorem ok_X3_put_29 : zOK l D tc A nS xs mM_X3_put 29 q_X3_put_29 := r_ldc (by decide) (x := (65535 : Int32)) (by decide +kernel) rfl w_203 (by decide +kernel) ok_X3_put_31
theorem ok_X3_put_28 : zOK l D tc A nS xs mM_X3_put 28 q_X3_put_28 := s_iload_n (q := 2) rfl (by decide +kernel) (by decide +kernel) ok_X3_put_29
theorem ok_X3_put_27 : zOK l D tc A nS xs mM_X3_put 27 q_X3_put_27 := s_iload_n (q := 3) rfl (by decide +kernel) (by decide +kernel) ok_X3_put_28
theorem ok_X3_put_24 : zOK l D tc A nS xs mM_X3_put 24 q_X3_put_24 := r_getf kls_3 (by decide) tx_3_0 rfl w_191 (by decide +kernel) ok_X3_put_27
theorem ok_X3_put_23 : zOK l D tc A nS xs mM_X3_put 23 q_X3_put_23 := s_aload_n (q := 0) rfl (by decide +kernel) (by decide +kernel) ok_X3_put_24
theorem ok_X3_put_20 : zOK l D tc A nS xs mM_X3_put 20 q_X3_put_20 := s_icmp_ge (tgt := 33) (off := 13) (by decide +kernel) (by decide) ok_X3_put_33 ok_X3_put_23
theorem ok_X3_put_19 : zOK l D tc A nS xs mM_X3_put 19 q_X3_put_19 := s_len (t0 := 0) (ty := .int) (by decide) (by decide) rfl (by decide +kernel) ok_X3_put_20
theorem ok_X3_put_16 : zOK l D tc A nS xs mM_X3_put 16 q_X3_put_16 := r_getf kls_3 (by decide) tx_3_0 rfl w_191 (by decide +kernel) ok_X3_put_19
theorem ok_X3_put_15 : zOK l D tc A nS xs mM_X3_put 15 q_X3_put_15 := s_aload_n (q := 0) rfl (by decide +kernel) (by decide +kernel) ok_X3_put_16
theorem ok_X3_put_14 : zOK l D tc A nS xs mM_X3_put 14 q_X3_put_14 := s_iload_n (q := 3) rfl (by decide +kernel) (by decide +kernel) ok_X3_put_15
theorem ok_X3_put_11 : zOK l D tc A nS xs mM_X3_put 11 q_X3_put_11 := s_if_lt (tgt := 33) (off := 22) (by decide +kernel) (by decide) ok_X3_put_33 ok_X3_put_14
theorem ok_X3_put_10 : zOK l D tc A nS xs mM_X3_put 10 q_X3_put_10 := s_iload_n (q := 3) rfl (by decide +kernel) (by decide +kernel) ok_X3_put_11
theorem ok_X3_put_7 : zOK l D tc A nS xs mM_X3_put 7 q_X3_put_7 := s_if_ne (tgt := 33) (off := 26) (by decide +kernel) (by decide) ok_X3_put_33 ok_X3_put_10
theorem ok_X3_put_6 : zOK l D tc A nS xs mM_X3_put 6 q_X3_put_6 := s_iand (by decide +kernel) ok_X3_put_7
theorem ok_X3_put_5 : zOK l D tc A nS xs mM_X3_put 5 q_X3_put_5 := s_iconst (n := 1) (by decide) (by decide +kernel) (by decide +kernel) ok_X3_put_6
theorem ok_X3_put_4 : zOK l D tc A nS xs mM_X3_put 4 q_X3_put_4 := s_iload_n (q := 1) rfl (by decide +kernel) (by decide +kernel) ok_X3_put_5
theorem ok_X3_put_3 : zOK l D tc A nS xs mM_X3_put 3 q_X3_put_3 := s_istore_n (q := 3) rfl (by decide +kernel) (by decide +kernel) ok_X3_put_4
theorem ok_X3_put_2 : zOK l D tc A nS xs mM_X3_put 2 q_X3_put_2 := s_ishr (by decide +kernel) ok_X3_put_3
theorem ok_X3_put_1 : zOK l D tc A nS xs mM_X3_put 1 q_X3_put_1 := s_iconst (n := 1) (by decide) (by decide +kernel) (by decide +kernel) ok_X3_put_2
theorem ok_X3_put_0 : zOK l D tc A nS xs mM_X3_put 0 q_X3_put_0 := s_iload_n (q := 1) rfl (by decide +kernel) (by decide +kernel) ok_X3_put_1
theorem ok_X3_putFlags_61 : zOK l D tc A nS xs mM_X3_putFlags 61 q_X3_putFlags_61 := s_vret rfl (by decide +kernel)
theorem ok_X3_putFlags_58 : zOK l D tc A nS xs mM_X3_putFlags 58 q_X3_putFlags_58 := r_putf kls_3 ty_3_5 zck_bool (by decide) tx_3_5 rfl w_204 (by decide +kernel) ok_X3_putFlags_61
theorem ok_X3_putFlags_57 : zOK l D tc A nS xs mM_X3_putFlags 57 q_X3_putFlags_57 := s_iconst (n := 0) (by decide) (by decide +kernel) (by decide +kernel) ok_X3_putFlags_58
theorem ok_X3_putFlags_54 : zOK l D tc A nS xs mM_X3_putFlags 54 q_X3_putFlags_54 := s_goto (tgt := 58) (off := 4) (by decide +kernel) (by decide) ok_X3_putFlags_58
theorem ok_X3_putFlags_53 : zOK l D tc A nS xs mM_X3_putFlags 53 q_X3_putFlags_53 := s_iconst (n := 1) (by decide) (by decide +kernel) (by decide +kernel) ok_X3_putFlags_54
theorem ok_X3_putFlags_50 : zOK l D tc A nS xs mM_X3_putFlags 50 q_X3_putFlags_50 := s_if_eq (tgt := 57) (off := 7) (by decide +kernel) (by decide) ok_X3_putFlags_57 ok_X3_putFlags_53
theorem ok_X3_putFlags_49 : zOK l D tc A nS xs mM_X3_putFlags 49 q_X3_putFlags_49 := s_iand (by decide +kernel) ok_X3_putFlags_50
theorem ok_X3_putFlags_48 : zOK l D tc A nS xs mM_X3_putFlags 48 q_X3_putFlags_48 := s_iconst (n := 1) (by decide) (by decide +kernel) (by decide +kernel) ok_X3_putFlags_49
theorem ok_X3_putFlags_47 : zOK l D tc A nS xs mM_X3_putFlags 47 q_X3_putFlags_47 := s_iload_n (q := 1) rfl (by decide +kernel) (by decide +kernel) ok_X3_putFlags_48
theorem ok_X3_putFlags_46 : zOK l D tc A nS xs mM_X3_putFlags 46 q_X3_putFlags_46 := s_aload_n (q := 0) rfl (by decide +kernel) (by decide +kernel) ok_X3_putFlags_47
theorem ok_X3_putFlags_43 : zOK l D tc A nS xs mM_X3_putFlags 43 q_X3_putFlags_43 := r_putf kls_3 ty_3_4 zck_bool (by decide) tx_3_4 rfl w_205 (by decide +kernel) ok_X3_putFlags_46
theorem ok_X3_putFlags_42 : zOK l D tc A nS xs mM_X3_putFlags 42 q_X3_putFlags_42 := s_iconst (n := 0) (by decide) (by decide +kernel) (by decide +kernel) ok_X3_putFlags_43
theorem ok_X3_putFlags_39 : zOK l D tc A nS xs mM_X3_putFlags 39 q_X3_putFlags_39 := s_goto (tgt := 43) (off := 4) (by decide +kernel) (by decide) ok_X3_putFlags_43
theorem ok_X3_putFlags_38 : zOK l D tc A nS xs mM_X3_putFlags 38 q_X3_putFlags_38 := s_iconst (n := 1) (by decide) (by decide +kernel) (by decide +kernel) ok_X3_putFlags_39
theorem ok_X3_putFlags_35 : zOK l D tc A nS xs mM_X3_putFlags 35 q_X3_putFlags_35 := s_if_eq (tgt := 42) (off := 7) (by decide +kernel) (by decide) ok_X3_putFlags_42 ok_X3_putFlags_38
theorem ok_X3_putFlags_34 : zOK l D tc A nS xs mM_X3_putFlags 34 q_X3_putFlags_34 := s_iand (by decide +kernel) ok_X3_putFlags_35
theorem ok_X3_putFlags_33 : zOK l D tc A nS xs mM_X3_putFlags 33 q_X3_putFlags_33 := s_iconst (n := 2) (by decide) (by decide +kernel) (by decide +kernel) ok_X3_putFlags_34
theorem ok_X3_putFlags_32 : zOK l D tc A nS xs mM_X3_putFlags 32 q_X3_putFlags_32 := s_iload_n (q := 1) rfl (by decide +kernel) (by decide +kernel) ok_X3_putFlags_33
theorem ok_X3_putFlags_31 : zOK l D tc A nS xs mM_X3_putFlags 31 q_X3_putFlags_31 := s_aload_n (q := 0) rfl (by decide +kernel) (by decide +kernel) ok_X3_putFlags_32
theorem ok_X3_putFlags_28 : zOK l D tc A nS xs mM_X3_putFlags 28 q_X3_putFlags_28 := r_putf kls_3 ty_3_3 zck_bool (by decide) tx_3_3 rfl w_206 (by decide +kernel) ok_X3_putFlags_31
theorem ok_X3_putFlags_27 : zOK l D tc A nS xs mM_X3_putFlags 27 q_X3_putFlags_27 := s_iconst (n := 0) (by decide) (by decide +kernel) (by decide +kernel) ok_X3_putFlags_28
theorem ok_X3_putFlags_24 : zOK l D tc A nS xs mM_X3_putFlags 24 q_X3_putFlags_24 := s_goto (tgt := 28) (off := 4) (by decide +kernel) (by decide) ok_X3_putFlags_28
theorem ok_X3_putFlags_23 : zOK l D tc A nS xs mM_X3_putFlags 23 q_X3_putFlags_23 := s_iconst (n := 1) (by decide) (by decide +kernel) (by decide +kernel) ok_X3_putFlags_24
theorem ok_X3_putFlags_20 : zOK l D tc A nS xs mM_X3_putFlags 20 q_X3_putFlags_20 := s_if_eq (tgt := 27) (off := 7) (by decide +kernel) (by decide) ok_X3_putFlags_27 ok_X3_putFlags_23
theorem ok_X3_putFlags_19 : zOK l D tc A nS xs mM_X3_putFlags 19 q_X3_putFlags_19 := s_iand (by decide +kernel) ok_X3_putFlags_20
theorem ok_X3_putFlags_18 : zOK l D tc A nS xs mM_X3_putFlags 18 q_X3_putFlags_18 := s_iconst (n := 4) (by decide) (by decide +kernel) (by decide +kernel) ok_X3_putFlags_19
theorem ok_X3_putFlags_17 : zOK l D tc A nS xs mM_X3_putFlags 17 q_X3_putFlags_17 := s_iload_n (q := 1) rfl (by decide +kernel) (by decide +kernel) ok_X3_putFlags_18
theorem ok_X3_putFlags_16 : zOK l D tc A nS xs mM_X3_putFlags 16 q_X3_putFlags_16 := s_aload_n (q := 0) rfl (by decide +kernel) (by decide +kernel) ok_X3_putFlags_17
theorem ok_X3_putFlags_13 : zOK l D tc A nS xs mM_X3_putFlags 13 q_X3_putFlags_13 := r_putf kls_3 ty_3_2 zck_bool (by decide) tx_3_2 rfl w_207 (by decide +kernel) ok_X3_putFlags_16
theorem ok_X3_putFlags_12 : zOK l D tc A nS xs mM_X3_putFlags 12 q_X3_putFlags_12 := s_iconst (n := 0) (by decide) (by decide +kernel) (by decide +kernel) ok_X3_putFlags_13
theorem ok_X3_putFlags_9 : zOK l D tc A nS xs mM_X3_putFlags 9 q_X3_putFlags_9 := s_goto (tgt := 13) (off := 4) (by decide +kernel) (by decide) ok_X3_putFlags_13
theorem ok_X3_putFlags_8 : zOK l D tc A nS xs mM_X3_putFlags 8 q_X3_putFlags_8 := s_iconst (n := 1) (by decide) (by decide +kernel) (by decide +kernel) ok_X3_putFlags_9
theorem ok_X3_putFlags_5 : zOK l D tc A nS xs mM_X3_putFlags 5 q_X3_putFlags_5 := s_if_eq (tgt := 12) (off := 7) (by decide +kernel) (by decide) ok_X3_putFlags_12 ok_X3_putFlags_8
theorem ok_X3_putFlags_4 : zOK l D tc A nS xs mM_X3_putFlags 4 q_X3_putFlags_4 := s_iand (by decide +kernel) ok_X3_putFlags_5
theorem ok_X3_putFlags_2 : zOK l D tc A nS xs mM_X3_putFlags 2 q_X3_putFlags_2 := s_bipush (n := 8) (by decide) (by decide +kernel) (by decide +kernel) ok_X3_putFlags_4
theorem ok_X3_putFlags_1 : zOK l D tc A nS xs mM_X3_putFlags 1 q_X3_putFlags_1 := s_iload_n (q := 1) rfl (by decide +kernel) (by decide +kernel) ok_X3_putFlags_2
theorem ok_X3_putFlags_0 : zOK l D tc A nS xs mM_X3_putFlags 0 q_X3_putFlags_0 := s_aload_n (q := 0) rfl (by decide +kernel) (by decide +kernel) ok_X3_putFlags_1
theorem ok_X3_step_148 : zOK l D tc A nS xs mM_X3_step 148 q_X3_step_148 := s_iret rfl (by decide +kernel)
theorem ok_X3_step_145 : zOK l D tc A nS xs mM_X3_step 145 q_X3_step_145 := r_callV zEE_ok zTw_gd kls_3 (M2 := mM_X3_low) (na := 1) lb_48 calV_X3_low rfl rfl w_208 (by decide +kernel) ok_X3_step_148
theorem ok_X3_step_142 : zOK l D tc A nS xs mM_X3_step 142 q_X3_step_142 := r_getf kls_3 (by decide) tx_3_6 rfl w_211 (by decide +kernel) ok_X3_step_145
theorem ok_X3_step_141 : zOK l D tc A nS xs mM_X3_step 141 q_X3_step_141 := s_aload_n (q := 0) rfl (by decide +kernel) (by decide +kernel) ok_X3_step_142
theorem ok_X3_step_140 : zOK l D tc A nS xs mM_X3_step 140 q_X3_step_140 := s_aload_n (q := 0) rfl (by decide +kernel) (by decide +kernel) ok_X3_step_141
theorem ok_X3_step_60 : zOK l D tc A nS xs mM_X3_step 60 q_X3_step_60 := r_tsw (ts := [(80, 140, q_X3_step_140), (118, 178, o_none), (118, 178, o_none), (118, 178, o_none), (118, 178, o_none), (118, 178, o_none), (89, 149, o_none), (98, 158, o_none), (107, 167, o_none), (118, 178, o_none), (118, 178, o_none), (118, 178, o_none), (118, 178, o_none), (118, 178, o_none), (89, 149, o_none), (116, 176, o_none)]) (dflt := 118) (hi := 15) (offs := #[80, 118, 118, 118, 118, 118, 89, 98, 107, 118, 118, 118, 118, 118, 89, 116]) (len := 80) (tgt := 178) (by decide +kernel) (by decide +kernel) (by decide) (by decide) (by decide) s_none (List.forall_mem_cons.mpr ⟨⟨by decide, ok_X3_step_140⟩, (List.forall_mem_cons.mpr ⟨⟨by decide, s_none⟩, (List.forall_mem_cons.mpr ⟨⟨by decide, s_none⟩, (List.forall_mem_cons.mpr ⟨⟨by decide, s_none⟩, (List.forall_mem_cons.mpr ⟨⟨by decide, s_none⟩, (List.forall_mem_cons.mpr ⟨⟨by decide, s_none⟩, (List.forall_mem_cons.mpr ⟨⟨by decide, s_none⟩, (List.forall_mem_cons.mpr ⟨⟨by decide, s_none⟩, (List.forall_mem_cons.mpr ⟨⟨by decide, s_none⟩, (List.forall_mem_cons.mpr ⟨⟨by decide, s_none⟩, (List.forall_mem_cons.mpr ⟨⟨by decide, s_none⟩, (List.forall_mem_cons.mpr ⟨⟨by decide, s_none⟩, (List.forall_mem_cons.mpr ⟨⟨by decide, s_none⟩, (List.forall_mem_cons.mpr ⟨⟨by decide, s_none⟩, (List.forall_mem_cons.mpr ⟨⟨by decide, s_none⟩, (List.forall_mem_cons.mpr ⟨⟨by decide, s_none⟩, fun _ h => absurd h List.not_mem_nil⟩)⟩)⟩)⟩)⟩)⟩)⟩)⟩)⟩)⟩)⟩)⟩)⟩)⟩)⟩)⟩)
theorem ok_X3_step_59 : zOK l D tc A nS xs mM_X3_step 59 q_X3_step_59 := s_ishr (by decide +kernel) ok_X3_step_60
theorem ok_X3_step_57 : zOK l D tc A nS xs mM_X3_step 57 q_X3_step_57 := s_bipush (n := 12) (by decide) (by decide +kernel) (by decide +kernel) ok_X3_step_59
theorem ok_X3_step_54 : zOK l D tc A nS xs mM_X3_step 54 q_X3_step_54 := r_getf kls_3 (by decide) tx_3_6 rfl w_211 (by decide +kernel) ok_X3_step_57
theorem ok_X3_step_53 : zOK l D tc A nS xs mM_X3_step 53 q_X3_step_53 := s_aload_n (q := 0) rfl (by decide +kernel) (by decide +kernel) ok_X3_step_54
theorem ok_X3_step_52 : zOK l D tc A nS xs mM_X3_step 52 q_X3_step_52 := s_iast (t0 := 0) (by decide) (by decide) rfl (by decide +kernel) ok_X3_step_53
theorem ok_X3_step_51 : zOK l D tc A nS xs mM_X3_step 51 q_X3_step_51 := s_iand (by decide +kernel) ok_X3_step_52
theorem ok_X3_step_49 : zOK l D tc A nS xs mM_X3_step 49 q_X3_step_49 := r_ldc (by decide) (x := (65535 : Int32)) (by decide +kernel) rfl w_203 (by decide +kernel) ok_X3_step_51
theorem ok_X3_step_48 : zOK l D tc A nS xs mM_X3_step 48 q_X3_step_48 := s_iadd (by decide +kernel) ok_X3_step_49
theorem ok_X3_step_47 : zOK l D tc A nS xs mM_X3_step 47 q_X3_step_47 := s_iconst (n := 2) (by decide) (by decide +kernel) (by decide +kernel) ok_X3_step_48
theorem ok_X3_step_46 : zOK l D tc A nS xs mM_X3_step 46 q_X3_step_46 := s_iald (t0 := 0) (by decide) (by decide) rfl (by decide +kernel) ok_X3_step_47
theorem ok_X3_step_44 : zOK l D tc A nS xs mM_X3_step 44 q_X3_step_44 := s_bipush (n := 7) (by decide) (by decide +kernel) (by decide +kernel) ok_X3_step_46
theorem ok_X3_step_41 : zOK l D tc A nS xs mM_X3_step 41 q_X3_step_41 := r_getf kls_3 (by decide) tx_3_1 rfl w_200 (by decide +kernel) ok_X3_step_44
theorem ok_X3_step_40 : zOK l D tc A nS xs mM_X3_step 40 q_X3_step_40 := s_aload_n (q := 0) rfl (by decide +kernel) (by decide +kernel) ok_X3_step_41
theorem ok_X3_step_38 : zOK l D tc A nS xs mM_X3_step 38 q_X3_step_38 := s_bipush (n := 7) (by decide) (by decide +kernel) (by decide +kernel) ok_X3_step_40
theorem ok_X3_step_35 : zOK l D tc A nS xs mM_X3_step 35 q_X3_step_35 := r_getf kls_3 (by decide) tx_3_1 rfl w_200 (by decide +kernel) ok_X3_step_38
theorem ok_X3_step_34 : zOK l D tc A nS xs mM_X3_step 34 q_X3_step_34 := s_aload_n (q := 0) rfl (by decide +kernel) (by decide +kernel) ok_X3_step_35
theorem ok_X3_step_31 : zOK l D tc A nS xs mM_X3_step 31 q_X3_step_31 := r_putf kls_3 ty_3_6 zck_int (by decide) tx_3_6 rfl w_211 (by decide +kernel) ok_X3_step_34
theorem ok_X3_step_30 : zOK l D tc A nS xs mM_X3_step 30 q_X3_step_30 := s_iald (t0 := 0) (by decide) (by decide) rfl (by decide +kernel) ok_X3_step_31
theorem ok_X3_step_29 : zOK l D tc A nS xs mM_X3_step 29 q_X3_step_29 := s_ishr (by decide +kernel) ok_X3_step_30
theorem ok_X3_step_28 : zOK l D tc A nS xs mM_X3_step 28 q_X3_step_28 := s_iconst (n := 1) (by decide) (by decide +kernel) (by decide +kernel) ok_X3_step_29
theorem ok_X3_step_27 : zOK l D tc A nS xs mM_X3_step 27 q_X3_step_27 := s_iald (t0 := 0) (by decide) (by decide) rfl (by decide +kernel) ok_X3_step_28
theorem ok_X3_step_25 : zOK l D tc A nS xs mM_X3_step 25 q_X3_step_25 := s_bipush (n := 7) (by decide) (by decide +kernel) (by decide +kernel) ok_X3_step_27
theorem ok_X3_step_22 : zOK l D tc A nS xs mM_X3_step 22 q_X3_step_22 := r_getf kls_3 (by decide) tx_3_1 rfl w_200 (by decide +kernel) ok_X3_step_25
theorem ok_X3_step_21 : zOK l D tc A nS xs mM_X3_step 21 q_X3_step_21 := s_aload_n (q := 0) rfl (by decide +kernel) (by decide +kernel) ok_X3_step_22
theorem ok_X3_step_18 : zOK l D tc A nS xs mM_X3_step 18 q_X3_step_18 := r_getf kls_3 (by decide) tx_3_0 rfl w_191 (by decide +kernel) ok_X3_step_21
theorem ok_X3_step_17 : zOK l D tc A nS xs mM_X3_step 17 q_X3_step_17 := s_aload_n (q := 0) rfl (by decide +kernel) (by decide +kernel) ok_X3_step_18
theorem ok_X3_step_16 : zOK l D tc A nS xs mM_X3_step 16 q_X3_step_16 := s_aload_n (q := 0) rfl (by decide +kernel) (by decide +kernel) ok_X3_step_17
theorem ok_X3_step_11 : zOK l D tc A nS xs mM_X3_step 11 q_X3_step_11 := s_if_ne (tgt := 16) (off := 5) (by decide +kernel) (by decide) ok_X3_step_16 s_none
theorem ok_X3_step_8 : zOK l D tc A nS xs mM_X3_step 8 q_X3_step_8 := r_callV zEE_ok zTw_gd kls_3 (M2 := mM_X3_holds) (na := 1) lb_46 calV_X3_holds rfl rfl w_212 (by decide +kernel) ok_X3_step_11
theorem ok_X3_step_7 : zOK l D tc A nS xs mM_X3_step 7 q_X3_step_7 := s_iald (t0 := 0) (by decide) (by decide) rfl (by decide +kernel) ok_X3_step_8
theorem ok_X3_step_5 : zOK l D tc A nS xs mM_X3_step 5 q_X3_step_5 := s_bipush (n := 7) (by decide) (by decide +kernel) (by decide +kernel) ok_X3_step_7
theorem ok_X3_step_2 : zOK l D tc A nS xs mM_X3_step 2 q_X3_step_2 := r_getf kls_3 (by decide) tx_3_1 rfl w_200 (by decide +kernel) ok_X3_step_5
theorem ok_X3_step_1 : zOK l D tc A nS xs mM_X3_step 1 q_X3_step_1 := s_aload_n (q := 0) rfl (by decide +kernel) (by decide +kernel) ok_X3_step_2
theorem ok_X3_step_0 : zOK l D tc A nS xs mM_X3_step 0 q_X3_step_0 := s_aload_n (q := 0) rfl (by decide +kernel) (by decide +kernel) ok_X3_step_1
theorem ok_X3_told_79 : zOK l D tc A nS xs mM_X3_told 79 q_X3_told_79 := s_iret rfl (by decide +kernel)
theorem ok_X3_told_78 : zOK l D tc A nS xs mM_X3_told 78 q_X3_told_78 := s_iconst (n := (-1)) (by decide) (by decide +kernel) (by decide +kernel) ok_X3_told_79
theorem ok_X3_told_75 : zOK l D tc A nS xs mM_X3_told 75 q_X3_told_75 := s_goto (tgt := 79) (off := 4) (by decide +kernel) (by decide) ok_X3_told_79
theorem ok_X3_told_74 : zOK l D tc A nS xs mM_X3_told 74 q_X3_told_74 := s_iald (t0 := 0) (by decide) (by decide) rfl (by decide +kernel) ok_X3_told_75
theorem ok_X3_told_73 : zOK l D tc A nS xs mM_X3_told 73 q_X3_told_73 := s_iload_n (q := 1) rfl (by decide +kernel) (by decide +kernel) ok_X3_told_74
theorem ok_X3_told_70 : zOK l D tc A nS xs mM_X3_told 70 q_X3_told_70 := r_getf kls_3 (by decide) tx_3_1 rfl w_200 (by decide +kernel) ok_X3_told_73
theorem ok_X3_told_69 : zOK l D tc A nS xs mM_X3_told 69 q_X3_told_69 := s_aload_n (q := 0) rfl (by decide +kernel) (by decide +kernel) ok_X3_told_70
theorem ok_X3_told_66 : zOK l D tc A nS xs mM_X3_told 66 q_X3_told_66 := s_icmp_ge (tgt := 78) (off := 12) (by decide +kernel) (by decide) ok_X3_told_78 ok_X3_told_69
theorem ok_X3_told_64 : zOK l D tc A nS xs mM_X3_told 64 q_X3_told_64 := s_bipush (n := 8) (by decide) (by decide +kernel) (by decide +kernel) ok_X3_told_66
theorem ok_X3_told_63 : zOK l D tc A nS xs mM_X3_told 63 q_X3_told_63 := s_iload_n (q := 1) rfl (by decide +kernel) (by decide +kernel) ok_X3_told_64
theorem ok_X3_told_60 : zOK l D tc A nS xs mM_X3_told 60 q_X3_told_60 := s_if_lt (tgt := 78) (off := 18) (by decide +kernel) (by decide) ok_X3_told_78 ok_X3_told_63
theorem ok_X3_told_59 : zOK l D tc A nS xs mM_X3_told 59 q_X3_told_59 := s_iload_n (q := 1) rfl (by decide +kernel) (by decide +kernel) ok_X3_told_60
theorem ok_X3_told_58 : zOK l D tc A nS xs mM_X3_told 58 q_X3_told_58 := s_iret rfl (by decide +kernel)
theorem ok_X3_told_57 : zOK l D tc A nS xs mM_X3_told 57 q_X3_told_57 := s_iadd (by decide +kernel) ok_X3_told_58
theorem ok_X3_told_56 : zOK l D tc A nS xs mM_X3_told 56 q_X3_told_56 := s_iconst (n := 0) (by decide) (by decide +kernel) (by decide +kernel) ok_X3_told_57
theorem ok_X3_told_49 : zOK l D tc A nS xs mM_X3_told 49 q_X3_told_49 := s_if_eq (tgt := 56) (off := 7) (by decide +kernel) (by decide) ok_X3_told_56 s_none
theorem ok_X3_told_46 : zOK l D tc A nS xs mM_X3_told 46 q_X3_told_46 := r_getf kls_3 (by decide) tx_3_5 rfl w_204 (by decide +kernel) ok_X3_told_49
theorem ok_X3_told_45 : zOK l D tc A nS xs mM_X3_told 45 q_X3_told_45 := s_aload_n (q := 0) rfl (by decide +kernel) (by decide +kernel) ok_X3_told_46
theorem ok_X3_told_44 : zOK l D tc A nS xs mM_X3_told 44 q_X3_told_44 := s_iadd (by decide +kernel) ok_X3_told_45
theorem ok_X3_told_43 : zOK l D tc A nS xs mM_X3_told 43 q_X3_told_43 := s_iconst (n := 0) (by decide) (by decide +kernel) (by decide +kernel) ok_X3_told_44
theorem ok_X3_told_36 : zOK l D tc A nS xs mM_X3_told 36 q_X3_told_36 := s_if_eq (tgt := 43) (off := 7) (by decide +kernel) (by decide) ok_X3_told_43 s_none
theorem ok_X3_told_33 : zOK l D tc A nS xs mM_X3_told 33 q_X3_told_33 := r_getf kls_3 (by decide) tx_3_4 rfl w_205 (by decide +kernel) ok_X3_told_36
theorem ok_X3_told_32 : zOK l D tc A nS xs mM_X3_told 32 q_X3_told_32 := s_aload_n (q := 0) rfl (by decide +kernel) (by decide +kernel) ok_X3_told_33
theorem ok_X3_told_31 : zOK l D tc A nS xs mM_X3_told 31 q_X3_told_31 := s_iadd (by decide +kernel) ok_X3_told_32
theorem ok_X3_told_30 : zOK l D tc A nS xs mM_X3_told 30 q_X3_told_30 := s_iconst (n := 0) (by decide) (by decide +kernel) (by decide +kernel) ok_X3_told_31
theorem ok_X3_told_23 : zOK l D tc A nS xs mM_X3_told 23 q_X3_told_23 := s_if_eq (tgt := 30) (off := 7) (by decide +kernel) (by decide) ok_X3_told_30 s_none
theorem ok_X3_told_20 : zOK l D tc A nS xs mM_X3_told 20 q_X3_told_20 := r_getf kls_3 (by decide) tx_3_3 rfl w_206 (by decide +kernel) ok_X3_told_23
theorem ok_X3_told_19 : zOK l D tc A nS xs mM_X3_told 19 q_X3_told_19 := s_aload_n (q := 0) rfl (by decide +kernel) (by decide +kernel) ok_X3_told_20
theorem ok_X3_told_18 : zOK l D tc A nS xs mM_X3_told 18 q_X3_told_18 := s_iconst (n := 0) (by decide) (by decide +kernel) (by decide +kernel) ok_X3_told_19
theorem ok_X3_told_10 : zOK l D tc A nS xs mM_X3_told 10 q_X3_told_10 := s_if_eq (tgt := 18) (off := 8) (by decide +kernel) (by decide) ok_X3_told_18 s_none
theorem ok_X3_told_7 : zOK l D tc A nS xs mM_X3_told 7 q_X3_told_7 := r_getf kls_3 (by decide) tx_3_2 rfl w_207 (by decide +kernel) ok_X3_told_10
theorem ok_X3_told_6 : zOK l D tc A nS xs mM_X3_told 6 q_X3_told_6 := s_aload_n (q := 0) rfl (by decide +kernel) (by decide +kernel) ok_X3_told_7
theorem ok_X3_told_3 : zOK l D tc A nS xs mM_X3_told 3 q_X3_told_3 := s_icmp_ne (tgt := 59) (off := 56) (by decide +kernel) (by decide) ok_X3_told_59 ok_X3_told_6
theorem ok_X3_told_1 : zOK l D tc A nS xs mM_X3_told 1 q_X3_told_1 := s_bipush (n := 8) (by decide) (by decide +kernel) (by decide +kernel) ok_X3_told_3
theorem ok_X3_told_0 : zOK l D tc A nS xs mM_X3_told 0 q_X3_told_0 := s_iload_n (q := 1) rfl (by decide +kernel) (by decide +kernel) ok_X3_told_1
theorem ok_X4_begin_20 : zOK l D tc A nS xs mM_X4_begin 20 q_X4_begin_20 := s_vret rfl (by decide +kernel)
theorem ok_X4_begin_17 : zOK l D tc A nS xs mM_X4_begin 17 q_X4_begin_17 := r_putf kls_4 ty_4_14 zck_int (by decide) tx_4_14 rfl w_216 (by decide +kernel) ok_X4_begin_20
theorem ok_X4_begin_16 : zOK l D tc A nS xs mM_X4_begin 16 q_X4_begin_16 := s_iconst (n := (-1)) (by decide) (by decide +kernel) (by decide +kernel) ok_X4_begin_17
theorem ok_X4_begin_15 : zOK l D tc A nS xs mM_X4_begin 15 q_X4_begin_15 := s_aload_n (q := 0) rfl (by decide +kernel) (by decide +kernel) ok_X4_begin_16
theorem ok_X4_begin_12 : zOK l D tc A nS xs mM_X4_begin 12 q_X4_begin_12 := r_putf kls_4 ty_4_13 zck_int (by decide) tx_4_13 rfl w_217 (by decide +kernel) ok_X4_begin_15
theorem ok_X4_begin_11 : zOK l D tc A nS xs mM_X4_begin 11 q_X4_begin_11 := s_iconst (n := 0) (by decide) (by decide +kernel) (by decide +kernel) ok_X4_begin_12
theorem ok_X4_begin_10 : zOK l D tc A nS xs mM_X4_begin 10 q_X4_begin_10 := s_aload_n (q := 0) rfl (by decide +kernel) (by decide +kernel) ok_X4_begin_11
theorem ok_X4_begin_7 : zOK l D tc A nS xs mM_X4_begin 7 q_X4_begin_7 := r_putf kls_4 ty_4_6 zck_int (by decide) tx_4_6 rfl w_218 (by decide +kernel) ok_X4_begin_10
theorem ok_X4_begin_6 : zOK l D tc A nS xs mM_X4_begin 6 q_X4_begin_6 := s_iconst (n := 0) (by decide) (by decide +kernel) (by decide +kernel) ok_X4_begin_7
theorem ok_X4_begin_5 : zOK l D tc A nS xs mM_X4_begin 5 q_X4_begin_5 := s_aload_n (q := 0) rfl (by decide +kernel) (by decide +kernel) ok_X4_begin_6
theorem ok_X4_begin_2 : zOK l D tc A nS xs mM_X4_begin 2 q_X4_begin_2 := r_putf kls_4 ty_4_1 zck_int (by decide) tx_4_1 rfl w_219 (by decide +kernel) ok_X4_begin_5
theorem ok_X4_begin_1 : zOK l D tc A nS xs mM_X4_begin 1 q_X4_begin_1 := s_iload_n (q := 1) rfl (by decide +kernel) (by decide +kernel) ok_X4_begin_2
theorem ok_X4_begin_0 : zOK l D tc A nS xs mM_X4_begin 0 q_X4_begin_0 := s_aload_n (q := 0) rfl (by decide +kernel) (by decide +kernel) ok_X4_begin_1
theorem ok_X4_depthOf_39 : zOK l D tc A nS xs mM_X4_depthOf 39 q_X4_depthOf_39 := s_iret rfl (by decide +kernel)
theorem ok_X4_depthOf_35 : zOK l D tc A nS xs mM_X4_depthOf 35 q_X4_depthOf_35 := s_goto (tgt := 39) (off := 4) (by decide +kernel) (by decide) ok_X4_depthOf_39
theorem ok_X4_depthOf_34 : zOK l D tc A nS xs mM_X4_depthOf 34 q_X4_depthOf_34 := s_iconst (n := 1) (by decide) (by decide +kernel) (by decide +kernel) ok_X4_depthOf_35
theorem ok_X4_depthOf_31 : zOK l D tc A nS xs mM_X4_depthOf 31 q_X4_depthOf_31 := s_icmp_ne (tgt := 38) (off := 7) (by decide +kernel) (by decide) s_none ok_X4_depthOf_34
theorem ok_X4_depthOf_30 : zOK l D tc A nS xs mM_X4_depthOf 30 q_X4_depthOf_30 := s_iconst (n := (-1)) (by decide) (by decide +kernel) (by decide +kernel) ok_X4_depthOf_31
theorem ok_X4_depthOf_29 : zOK l D tc A nS xs mM_X4_depthOf 29 q_X4_depthOf_29 := s_iald (t0 := 0) (by decide) (by decide) rfl (by decide +kernel) ok_X4_depthOf_30
theorem ok_X4_depthOf_28 : zOK l D tc A nS xs mM_X4_depthOf 28 q_X4_depthOf_28 := s_iload_n (q := 1) rfl (by decide +kernel) (by decide +kernel) ok_X4_depthOf_29
theorem ok_X4_depthOf_25 : zOK l D tc A nS xs mM_X4_depthOf 25 q_X4_depthOf_25 := r_getf kls_4 (by decide) tx_4_5 rfl w_220 (by decide +kernel) ok_X4_depthOf_28
theorem ok_X4_depthOf_24 : zOK l D tc A nS xs mM_X4_depthOf 24 q_X4_depthOf_24 := s_aload_n (q := 0) rfl (by decide +kernel) (by decide +kernel) ok_X4_depthOf_25
theorem ok_X4_depthOf_23 : zOK l D tc A nS xs mM_X4_depthOf 23 q_X4_depthOf_23 := s_iret rfl (by decide +kernel)
theorem ok_X4_depthOf_22 : zOK l D tc A nS xs mM_X4_depthOf 22 q_X4_depthOf_22 := s_iconst (n := 0) (by decide) (by decide +kernel) (by decide +kernel) ok_X4_depthOf_23
theorem ok_X4_depthOf_19 : zOK l D tc A nS xs mM_X4_depthOf 19 q_X4_depthOf_19 := s_icmp_ne (tgt := 24) (off := 5) (by decide +kernel) (by decide) ok_X4_depthOf_24 ok_X4_depthOf_22
theorem ok_X4_depthOf_18 : zOK l D tc A nS xs mM_X4_depthOf 18 q_X4_depthOf_18 := s_iconst (n := (-1)) (by decide) (by decide +kernel) (by decide +kernel) ok_X4_depthOf_19
theorem ok_X4_depthOf_17 : zOK l D tc A nS xs mM_X4_depthOf 17 q_X4_depthOf_17 := s_iald (t0 := 0) (by decide) (by decide) rfl (by decide +kernel) ok_X4_depthOf_18
theorem ok_X4_depthOf_16 : zOK l D tc A nS xs mM_X4_depthOf 16 q_X4_depthOf_16 := s_iload_n (q := 1) rfl (by decide +kernel) (by decide +kernel) ok_X4_depthOf_17
theorem ok_X4_depthOf_13 : zOK l D tc A nS xs mM_X4_depthOf 13 q_X4_depthOf_13 := r_getf kls_4 (by decide) tx_4_4 rfl w_221 (by decide +kernel) ok_X4_depthOf_16
theorem ok_X4_depthOf_12 : zOK l D tc A nS xs mM_X4_depthOf 12 q_X4_depthOf_12 := s_aload_n (q := 0) rfl (by decide +kernel) (by decide +kernel) ok_X4_depthOf_13
theorem ok_X4_depthOf_9 : zOK l D tc A nS xs mM_X4_depthOf 9 q_X4_depthOf_9 := s_icmp_ge (tgt := 22) (off := 13) (by decide +kernel) (by decide) ok_X4_depthOf_22 ok_X4_depthOf_12
theorem ok_X4_depthOf_6 : zOK l D tc A nS xs mM_X4_depthOf 6 q_X4_depthOf_6 := r_getf kls_4 (by decide) tx_4_6 rfl w_218 (by decide +kernel) ok_X4_depthOf_9
theorem ok_X4_depthOf_5 : zOK l D tc A nS xs mM_X4_depthOf 5 q_X4_depthOf_5 := s_aload_n (q := 0) rfl (by decide +kernel) (by decide +kernel) ok_X4_depthOf_6
theorem ok_X4_depthOf_4 : zOK l D tc A nS xs mM_X4_depthOf 4 q_X4_depthOf_4 := s_iload_n (q := 1) rfl (by decide +kernel) (by decide +kernel) ok_X4_depthOf_5
theorem ok_X4_depthOf_1 : zOK l D tc A nS xs mM_X4_depthOf 1 q_X4_depthOf_1 := s_if_lt (tgt := 22) (off := 21) (by decide +kernel) (by decide) ok_X4_depthOf_22 ok_X4_depthOf_4
theorem ok_X4_depthOf_0 : zOK l D tc A nS xs mM_X4_depthOf 0 q_X4_depthOf_0 := s_iload_n (q := 1) rfl (by decide +kernel) (by decide +kernel) ok_X4_depthOf_1
theorem ok_X4_find_41 : zOK l D tc A nS xs mM_X4_find 41 q_X4_find_41 := s_iret rfl (by decide +kernel)
theorem ok_X4_find_40 : zOK l D tc A nS xs mM_X4_find 40 q_X4_find_40 := s_iconst (n := (-1)) (by decide) (by decide +kernel) (by decide +kernel) ok_X4_find_41
theorem ok_X4_find_37 : zOK l D tc A nS xs mM_X4_find 37 q_X4_find_37 := s_goto (tgt := 2) (off := (-35)) (by decide +kernel) (by decide) (s_back lb_56)
theorem ok_X4_find_34 : zOK l D tc A nS xs mM_X4_find 34 q_X4_find_34 := s_iinc (n := 1) (by decide +kernel) (by decide +kernel) (by decide +kernel) ok_X4_find_37
theorem ok_X4_find_33 : zOK l D tc A nS xs mM_X4_find 33 q_X4_find_33 := s_iret rfl (by decide +kernel)
theorem ok_X4_find_32 : zOK l D tc A nS xs mM_X4_find 32 q_X4_find_32 := s_iload_n (q := 2) rfl (by decide +kernel) (by decide +kernel) ok_X4_find_33
theorem ok_X4_find_29 : zOK l D tc A nS xs mM_X4_find 29 q_X4_find_29 := s_icmp_ne (tgt := 34) (off := 5) (by decide +kernel) (by decide) ok_X4_find_34 ok_X4_find_32
theorem ok_X4_find_28 : zOK l D tc A nS xs mM_X4_find 28 q_X4_find_28 := s_iload_n (q := 1) rfl (by decide +kernel) (by decide +kernel) ok_X4_find_29
theorem ok_X4_find_25 : zOK l D tc A nS xs mM_X4_find 25 q_X4_find_25 := r_callV zEE_ok zTw_gd kls_10 (M2 := mM_X10_nameOf) (na := 1) lb_135 calV_X10_nameOf rfl rfl w_222 (by decide +kernel) ok_X4_find_28
theorem ok_X4_find_24 : zOK l D tc A nS xs mM_X4_find 24 q_X4_find_24 := s_iald (t0 := 0) (by decide) (by decide) rfl (by decide +kernel) ok_X4_find_25
theorem ok_X4_find_23 : zOK l D tc A nS xs mM_X4_find 23 q_X4_find_23 := s_iload_n (q := 2) rfl (by decide +kernel) (by decide +kernel) ok_X4_find_24
theorem ok_X4_find_20 : zOK l D tc A nS xs mM_X4_find 20 q_X4_find_20 := r_getf kls_4 (by decide) tx_4_2 rfl w_226 (by decide +kernel) ok_X4_find_23
theorem ok_X4_find_19 : zOK l D tc A nS xs mM_X4_find 19 q_X4_find_19 := s_aload_n (q := 0) rfl (by decide +kernel) (by decide +kernel) ok_X4_find_20
theorem ok_X4_find_16 : zOK l D tc A nS xs mM_X4_find 16 q_X4_find_16 := r_getf kls_4 (by decide) tx_4_0 rfl w_227 (by decide +kernel) ok_X4_find_19
theorem ok_X4_find_15 : zOK l D tc A nS xs mM_X4_find 15 q_X4_find_15 := s_aload_n (q := 0) rfl (by decide +kernel) (by decide +kernel) ok_X4_find_16
theorem ok_X4_find_12 : zOK l D tc A nS xs mM_X4_find 12 q_X4_find_12 := s_icmp_eq (tgt := 40) (off := 28) (by decide +kernel) (by decide) ok_X4_find_40 ok_X4_find_15
theorem ok_X4_find_11 : zOK l D tc A nS xs mM_X4_find 11 q_X4_find_11 := s_iconst (n := (-1)) (by decide) (by decide +kernel) (by decide +kernel) ok_X4_find_12
theorem ok_X4_find_10 : zOK l D tc A nS xs mM_X4_find 10 q_X4_find_10 := s_iload_n (q := 1) rfl (by decide +kernel) (by decide +kernel) ok_X4_find_11
theorem ok_X4_find_7 : zOK l D tc A nS xs mM_X4_find 7 q_X4_find_7 := s_icmp_ge (tgt := 40) (off := 33) (by decide +kernel) (by decide) ok_X4_find_40 ok_X4_find_10
theorem ok_X4_find_4 : zOK l D tc A nS xs mM_X4_find 4 q_X4_find_4 := r_getf kls_4 (by decide) tx_4_6 rfl w_218 (by decide +kernel) ok_X4_find_7
theorem ok_X4_find_3 : zOK l D tc A nS xs mM_X4_find 3 q_X4_find_3 := s_aload_n (q := 0) rfl (by decide +kernel) (by decide +kernel) ok_X4_find_4
theorem ok_X4_find_2 : zOK l D tc A nS xs mM_X4_find 2 q_X4_find_2 := s_iload_n (q := 2) rfl (by decide +kernel) (by decide +kernel) ok_X4_find_3
theorem ok_X4_find_1 : zOK l D tc A nS xs mM_X4_find 1 q_X4_find_1 := s_istore_n (q := 2) rfl (by decide +kernel) (by decide +kernel) ok_X4_find_2
theorem ok_X4_find_0 : zOK l D tc A nS xs mM_X4_find 0 q_X4_find_0 := s_iconst (n := 0) (by decide) (by decide +kernel) (by decide +kernel) ok_X4_find_1
theorem ok_X4_hasTwins_40 : zOK l D tc A nS xs mM_X4_hasTwins 40 q_X4_hasTwins_40 := s_zret rfl (by decide +kernel)
theorem ok_X4_hasTwins_39 : zOK l D tc A nS xs mM_X4_hasTwins 39 q_X4_hasTwins_39 := s_iconst (n := 0) (by decide) (by decide +kernel) (by decide +kernel) ok_X4_hasTwins_40
theorem ok_X4_hasTwins_36 : zOK l D tc A nS xs mM_X4_hasTwins 36 q_X4_hasTwins_36 := s_goto (tgt := 2) (off := (-34)) (by decide +kernel) (by decide) (s_back lb_58)
theorem ok_X4_hasTwins_33 : zOK l D tc A nS xs mM_X4_hasTwins 33 q_X4_hasTwins_33 := s_iinc (n := 1) (by decide +kernel) (by decide +kernel) (by decide +kernel) ok_X4_hasTwins_36
theorem ok_X4_hasTwins_28 : zOK l D tc A nS xs mM_X4_hasTwins 28 q_X4_hasTwins_28 := s_icmp_eq (tgt := 33) (off := 5) (by decide +kernel) (by decide) ok_X4_hasTwins_33 s_none
theorem ok_X4_hasTwins_27 : zOK l D tc A nS xs mM_X4_hasTwins 27 q_X4_hasTwins_27 := s_iload_n (q := 1) rfl (by decide +kernel) (by decide +kernel) ok_X4_hasTwins_28
theorem ok_X4_hasTwins_24 : zOK l D tc A nS xs mM_X4_hasTwins 24 q_X4_hasTwins_24 := r_callV zEE_ok zTw_gd kls_4 (M2 := mM_X4_find) (na := 1) lb_55 calV_X4_find rfl rfl w_228 (by decide +kernel) ok_X4_hasTwins_27
theorem ok_X4_hasTwins_21 : zOK l D tc A nS xs mM_X4_hasTwins 21 q_X4_hasTwins_21 := r_callV zEE_ok zTw_gd kls_10 (M2 := mM_X10_nameOf) (na := 1) lb_135 calV_X10_nameOf rfl rfl w_222 (by decide +kernel) ok_X4_hasTwins_24
theorem ok_X4_hasTwins_20 : zOK l D tc A nS xs mM_X4_hasTwins 20 q_X4_hasTwins_20 := s_iald (t0 := 0) (by decide) (by decide) rfl (by decide +kernel) ok_X4_hasTwins_21
theorem ok_X4_hasTwins_19 : zOK l D tc A nS xs mM_X4_hasTwins 19 q_X4_hasTwins_19 := s_iload_n (q := 1) rfl (by decide +kernel) (by decide +kernel) ok_X4_hasTwins_20
theorem ok_X4_hasTwins_16 : zOK l D tc A nS xs mM_X4_hasTwins 16 q_X4_hasTwins_16 := r_getf kls_4 (by decide) tx_4_2 rfl w_226 (by decide +kernel) ok_X4_hasTwins_19
theorem ok_X4_hasTwins_15 : zOK l D tc A nS xs mM_X4_hasTwins 15 q_X4_hasTwins_15 := s_aload_n (q := 0) rfl (by decide +kernel) (by decide +kernel) ok_X4_hasTwins_16
theorem ok_X4_hasTwins_12 : zOK l D tc A nS xs mM_X4_hasTwins 12 q_X4_hasTwins_12 := r_getf kls_4 (by decide) tx_4_0 rfl w_227 (by decide +kernel) ok_X4_hasTwins_15
theorem ok_X4_hasTwins_11 : zOK l D tc A nS xs mM_X4_hasTwins 11 q_X4_hasTwins_11 := s_aload_n (q := 0) rfl (by decide +kernel) (by decide +kernel) ok_X4_hasTwins_12
theorem ok_X4_hasTwins_10 : zOK l D tc A nS xs mM_X4_hasTwins 10 q_X4_hasTwins_10 := s_aload_n (q := 0) rfl (by decide +kernel) (by decide +kernel) ok_X4_hasTwins_11
theorem ok_X4_hasTwins_7 : zOK l D tc A nS xs mM_X4_hasTwins 7 q_X4_hasTwins_7 := s_icmp_ge (tgt := 39) (off := 32) (by decide +kernel) (by decide) ok_X4_hasTwins_39 ok_X4_hasTwins_10
theorem ok_X4_hasTwins_4 : zOK l D tc A nS xs mM_X4_hasTwins 4 q_X4_hasTwins_4 := r_getf kls_4 (by decide) tx_4_6 rfl w_218 (by decide +kernel) ok_X4_hasTwins_7
theorem ok_X4_hasTwins_3 : zOK l D tc A nS xs mM_X4_hasTwins 3 q_X4_hasTwins_3 := s_aload_n (q := 0) rfl (by decide +kernel) (by decide +kernel) ok_X4_hasTwins_4
theorem ok_X4_hasTwins_2 : zOK l D tc A nS xs mM_X4_hasTwins 2 q_X4_hasTwins_2 := s_iload_n (q := 1) rfl (by decide +kernel) (by decide +kernel) ok_X4_hasTwins_3
theorem ok_X4_hasTwins_1 : zOK l D tc A nS xs mM_X4_hasTwins 1 q_X4_hasTwins_1 := s_istore_n (q := 1) rfl (by decide +kernel) (by decide +kernel) ok_X4_hasTwins_2
theorem ok_X4_hasTwins_0 : zOK l D tc A nS xs mM_X4_hasTwins 0 q_X4_hasTwins_0 := s_iconst (n := 0) (by decide) (by decide +kernel) (by decide +kernel) ok_X4_hasTwins_1
theorem ok_X4_init_120 : zOK l D tc A nS xs mM_X4_init 120 q_X4_init_120 := s_vret rfl (by decide +kernel)
theorem ok_X4_init_117 : zOK l D tc A nS xs mM_X4_init 117 q_X4_init_117 := r_putF kls_4 ty_4_0 (zck_obj _) (by decide) tx_4_0 rfl rfl rfl w_227 (by decide +kernel) ok_X4_init_120
theorem ok_X4_init_116 : zOK l D tc A nS xs mM_X4_init 116 q_X4_init_116 := s_aload_n (q := 1) rfl (by decide +kernel) (by decide +kernel) ok_X4_init_117
theorem ok_X4_init_115 : zOK l D tc A nS xs mM_X4_init 115 q_X4_init_115 := s_aload_n (q := 0) rfl (by decide +kernel) (by decide +kernel) ok_X4_init_116
theorem ok_X4_init_112 : zOK l D tc A nS xs mM_X4_init 112 q_X4_init_112 := r_putF kls_4 ty_4_18 (zck_arr _) (by decide) tx_4_18 rfl rfl rfl w_233 (by decide +kernel) ok_X4_init_115
theorem ok_X4_init_110 : zOK l D tc A nS xs mM_X4_init 110 q_X4_init_110 := r_newa (t0 := 0) (atype := .int) (ty := .int) rfl (by decide) rfl rfl z_RA_int rfl (by decide) w_109 (by decide +kernel) ok_X4_init_112
theorem ok_X4_init_109 : zOK l D tc A nS xs mM_X4_init 109 q_X4_init_109 := s_iconst (n := 2) (by decide) (by decide +kernel) (by decide +kernel) ok_X4_init_110
theorem ok_X4_init_108 : zOK l D tc A nS xs mM_X4_init 108 q_X4_init_108 := s_aload_n (q := 0) rfl (by decide +kernel) (by decide +kernel) ok_X4_init_109
theorem ok_X4_init_105 : zOK l D tc A nS xs mM_X4_init 105 q_X4_init_105 := r_putF kls_4 ty_4_17 (zck_arr _) (by decide) tx_4_17 rfl rfl rfl w_234 (by decide +kernel) ok_X4_init_108
theorem ok_X4_init_103 : zOK l D tc A nS xs mM_X4_init 103 q_X4_init_103 := r_newa (t0 := 0) (atype := .int) (ty := .int) rfl (by decide) rfl rfl z_RA_int rfl (by decide) w_109 (by decide +kernel) ok_X4_init_105
theorem ok_X4_init_100 : zOK l D tc A nS xs mM_X4_init 100 q_X4_init_100 := s_sipush (n := 2048) (by decide) (by decide +kernel) (by decide +kernel) ok_X4_init_103
theorem ok_X4_init_99 : zOK l D tc A nS xs mM_X4_init 99 q_X4_init_99 := s_aload_n (q := 0) rfl (by decide +kernel) (by decide +kernel) ok_X4_init_100
theorem ok_X4_init_96 : zOK l D tc A nS xs mM_X4_init 96 q_X4_init_96 := r_putF kls_4 ty_4_12 (zck_arr _) (by decide) tx_4_12 rfl rfl rfl w_235 (by decide +kernel) ok_X4_init_99
theorem ok_X4_init_94 : zOK l D tc A nS xs mM_X4_init 94 q_X4_init_94 := r_newa (t0 := 0) (atype := .int) (ty := .int) rfl (by decide) rfl rfl z_RA_int rfl (by decide) w_109 (by decide +kernel) ok_X4_init_96
theorem ok_X4_init_91 : zOK l D tc A nS xs mM_X4_init 91 q_X4_init_91 := s_sipush (n := 1024) (by decide) (by decide +kernel) (by decide +kernel) ok_X4_init_94
theorem ok_X4_init_90 : zOK l D tc A nS xs mM_X4_init 90 q_X4_init_90 := s_aload_n (q := 0) rfl (by decide +kernel) (by decide +kernel) ok_X4_init_91
theorem ok_X4_init_87 : zOK l D tc A nS xs mM_X4_init 87 q_X4_init_87 := r_putF kls_4 ty_4_11 (zck_arr _) (by decide) tx_4_11 rfl rfl rfl w_236 (by decide +kernel) ok_X4_init_90
theorem ok_X4_init_85 : zOK l D tc A nS xs mM_X4_init 85 q_X4_init_85 := r_newa (t0 := 0) (atype := .int) (ty := .int) rfl (by decide) rfl rfl z_RA_int rfl (by decide) w_109 (by decide +kernel) ok_X4_init_87
theorem ok_X4_init_82 : zOK l D tc A nS xs mM_X4_init 82 q_X4_init_82 := s_sipush (n := 1024) (by decide) (by decide +kernel) (by decide +kernel) ok_X4_init_85
theorem ok_X4_init_81 : zOK l D tc A nS xs mM_X4_init 81 q_X4_init_81 := s_aload_n (q := 0) rfl (by decide +kernel) (by decide +kernel) ok_X4_init_82
theorem ok_X4_init_78 : zOK l D tc A nS xs mM_X4_init 78 q_X4_init_78 := r_putF kls_4 ty_4_10 (zck_arr _) (by decide) tx_4_10 rfl rfl rfl w_237 (by decide +kernel) ok_X4_init_81
theorem ok_X4_init_76 : zOK l D tc A nS xs mM_X4_init 76 q_X4_init_76 := r_newa (t0 := 0) (atype := .int) (ty := .int) rfl (by decide) rfl rfl z_RA_int rfl (by decide) w_109 (by decide +kernel) ok_X4_init_78
theorem ok_X4_init_73 : zOK l D tc A nS xs mM_X4_init 73 q_X4_init_73 := s_sipush (n := 1024) (by decide) (by decide +kernel) (by decide +kernel) ok_X4_init_76
theorem ok_X4_init_72 : zOK l D tc A nS xs mM_X4_init 72 q_X4_init_72 := s_aload_n (q := 0) rfl (by decide +kernel) (by decide +kernel) ok_X4_init_73
theorem ok_X4_init_69 : zOK l D tc A nS xs mM_X4_init 69 q_X4_init_69 := r_putF kls_4 ty_4_9 (zck_arr _) (by decide) tx_4_9 rfl rfl rfl w_238 (by decide +kernel) ok_X4_init_72
theorem ok_X4_init_67 : zOK l D tc A nS xs mM_X4_init 67 q_X4_init_67 := r_newa (t0 := 0) (atype := .int) (ty := .int) rfl (by decide) rfl rfl z_RA_int rfl (by decide) w_109 (by decide +kernel) ok_X4_init_69
theorem ok_X4_init_64 : zOK l D tc A nS xs mM_X4_init 64 q_X4_init_64 := s_sipush (n := 1024) (by decide) (by decide +kernel) (by decide +kernel) ok_X4_init_67
theorem ok_X4_init_63 : zOK l D tc A nS xs mM_X4_init 63 q_X4_init_63 := s_aload_n (q := 0) rfl (by decide +kernel) (by decide +kernel) ok_X4_init_64
theorem ok_X4_init_60 : zOK l D tc A nS xs mM_X4_init 60 q_X4_init_60 := r_putF kls_4 ty_4_8 (zck_arr _) (by decide) tx_4_8 rfl rfl rfl w_239 (by decide +kernel) ok_X4_init_63
theorem ok_X4_init_58 : zOK l D tc A nS xs mM_X4_init 58 q_X4_init_58 := r_newa (t0 := 0) (atype := .int) (ty := .int) rfl (by decide) rfl rfl z_RA_int rfl (by decide) w_109 (by decide +kernel) ok_X4_init_60
theorem ok_X4_init_55 : zOK l D tc A nS xs mM_X4_init 55 q_X4_init_55 := s_sipush (n := 1024) (by decide) (by decide +kernel) (by decide +kernel) ok_X4_init_58
theorem ok_X4_init_54 : zOK l D tc A nS xs mM_X4_init 54 q_X4_init_54 := s_aload_n (q := 0) rfl (by decide +kernel) (by decide +kernel) ok_X4_init_55
theorem ok_X4_init_51 : zOK l D tc A nS xs mM_X4_init 51 q_X4_init_51 := r_putF kls_4 ty_4_7 (zck_arr _) (by decide) tx_4_7 rfl rfl rfl w_240 (by decide +kernel) ok_X4_init_54
theorem ok_X4_init_49 : zOK l D tc A nS xs mM_X4_init 49 q_X4_init_49 := r_newa (t0 := 0) (atype := .int) (ty := .int) rfl (by decide) rfl rfl z_RA_int rfl (by decide) w_109 (by decide +kernel) ok_X4_init_51
theorem ok_X4_init_46 : zOK l D tc A nS xs mM_X4_init 46 q_X4_init_46 := s_sipush (n := 1024) (by decide) (by decide +kernel) (by decide +kernel) ok_X4_init_49
theorem ok_X4_init_45 : zOK l D tc A nS xs mM_X4_init 45 q_X4_init_45 := s_aload_n (q := 0) rfl (by decide +kernel) (by decide +kernel) ok_X4_init_46
theorem ok_X4_init_42 : zOK l D tc A nS xs mM_X4_init 42 q_X4_init_42 := r_putF kls_4 ty_4_5 (zck_arr _) (by decide) tx_4_5 rfl rfl rfl w_220 (by decide +kernel) ok_X4_init_45
theorem ok_X4_init_40 : zOK l D tc A nS xs mM_X4_init 40 q_X4_init_40 := r_newa (t0 := 0) (atype := .int) (ty := .int) rfl (by decide) rfl rfl z_RA_int rfl (by decide) w_109 (by decide +kernel) ok_X4_init_42
theorem ok_X4_init_37 : zOK l D tc A nS xs mM_X4_init 37 q_X4_init_37 := s_sipush (n := 2048) (by decide) (by decide +kernel) (by decide +kernel) ok_X4_init_40
theorem ok_X4_init_36 : zOK l D tc A nS xs mM_X4_init 36 q_X4_init_36 := s_aload_n (q := 0) rfl (by decide +kernel) (by decide +kernel) ok_X4_init_37
theorem ok_X4_init_33 : zOK l D tc A nS xs mM_X4_init 33 q_X4_init_33 := r_putF kls_4 ty_4_4 (zck_arr _) (by decide) tx_4_4 rfl rfl rfl w_221 (by decide +kernel) ok_X4_init_36
theorem ok_X4_init_31 : zOK l D tc A nS xs mM_X4_init 31 q_X4_init_31 := r_newa (t0 := 0) (atype := .int) (ty := .int) rfl (by decide) rfl rfl z_RA_int rfl (by decide) w_109 (by decide +kernel) ok_X4_init_33
theorem ok_X4_init_28 : zOK l D tc A nS xs mM_X4_init 28 q_X4_init_28 := s_sipush (n := 2048) (by decide) (by decide +kernel) (by decide +kernel) ok_X4_init_31
theorem ok_X4_init_27 : zOK l D tc A nS xs mM_X4_init 27 q_X4_init_27 := s_aload_n (q := 0) rfl (by decide +kernel) (by decide +kernel) ok_X4_init_28
theorem ok_X4_init_24 : zOK l D tc A nS xs mM_X4_init 24 q_X4_init_24 := r_putF kls_4 ty_4_3 (zck_arr _) (by decide) tx_4_3 rfl rfl rfl w_241 (by decide +kernel) ok_X4_init_27
theorem ok_X4_init_22 : zOK l D tc A nS xs mM_X4_init 22 q_X4_init_22 := r_newa (t0 := 0) (atype := .int) (ty := .int) rfl (by decide) rfl rfl z_RA_int rfl (by decide) w_109 (by decide +kernel) ok_X4_init_24
theorem ok_X4_init_19 : zOK l D tc A nS xs mM_X4_init 19 q_X4_init_19 := s_sipush (n := 2048) (by decide) (by decide +kernel) (by decide +kernel) ok_X4_init_22
theorem ok_X4_init_18 : zOK l D tc A nS xs mM_X4_init 18 q_X4_init_18 := s_aload_n (q := 0) rfl (by decide +kernel) (by decide +kernel) ok_X4_init_19
theorem ok_X4_init_15 : zOK l D tc A nS xs mM_X4_init 15 q_X4_init_15 := r_putF kls_4 ty_4_2 (zck_arr _) (by decide) tx_4_2 rfl rfl rfl w_226 (by decide +kernel) ok_X4_init_18
theorem ok_X4_init_13 : zOK l D tc A nS xs mM_X4_init 13 q_X4_init_13 := r_newa (t0 := 0) (atype := .int) (ty := .int) rfl (by decide) rfl rfl z_RA_int rfl (by decide) w_109 (by decide +kernel) ok_X4_init_15
theorem ok_X4_init_10 : zOK l D tc A nS xs mM_X4_init 10 q_X4_init_10 := s_sipush (n := 2048) (by decide) (by decide +kernel) (by decide +kernel) ok_X4_init_13
theorem ok_X4_init_9 : zOK l D tc A nS xs mM_X4_init 9 q_X4_init_9 := s_aload_n (q := 0) rfl (by decide +kernel) (by decide +kernel) ok_X4_init_10
theorem ok_X4_init_6 : zOK l D tc A nS xs mM_X4_init 6 q_X4_init_6 := r_putf kls_4 ty_4_1 zck_int (by decide) tx_4_1 rfl w_219 (by decide +kernel) ok_X4_init_9
theorem ok_X4_init_5 : zOK l D tc A nS xs mM_X4_init 5 q_X4_init_5 := s_iconst (n := (-1)) (by decide) (by decide +kernel) (by decide +kernel) ok_X4_init_6
theorem ok_X4_init_4 : zOK l D tc A nS xs mM_X4_init 4 q_X4_init_4 := s_aload_n (q := 0) rfl (by decide +kernel) (by decide +kernel) ok_X4_init_5
theorem ok_X4_init_1 : zOK l D tc A nS xs mM_X4_init 1 q_X4_init_1 := s_oinit w_242 w_112 w_oi (by decide +kernel) ok_X4_init_4
theorem ok_X4_init_0 : zOK l D tc A nS xs mM_X4_init 0 q_X4_init_0 := s_aload_n (q := 0) rfl (by decide +kernel) (by decide +kernel) ok_X4_init_1
theorem ok_X4_isLiteral_73 : zOK l D tc A nS xs mM_X4_isLiteral 73 q_X4_isLiteral_73 := s_zret rfl (by decide +kernel)
theorem ok_X4_isLiteral_72 : zOK l D tc A nS xs mM_X4_isLiteral 72 q_X4_isLiteral_72 := s_iconst (n := 0) (by decide) (by decide +kernel) (by decide +kernel) ok_X4_isLiteral_73
theorem ok_X4_isLiteral_69 : zOK l D tc A nS xs mM_X4_isLiteral 69 q_X4_isLiteral_69 := s_goto (tgt := 17) (off := (-52)) (by decide +kernel) (by decide) (s_back lb_61)
theorem ok_X4_isLiteral_66 : zOK l D tc A nS xs mM_X4_isLiteral 66 q_X4_isLiteral_66 := s_iinc (n := 1) (by decide +kernel) (by decide +kernel) (by decide +kernel) ok_X4_isLiteral_69
theorem ok_X4_isLiteral_65 : zOK l D tc A nS xs mM_X4_isLiteral 65 q_X4_isLiteral_65 := s_istore_n (q := 3) rfl (by decide +kernel) (by decide +kernel) ok_X4_isLiteral_66
theorem ok_X4_isLiteral_62 : zOK l D tc A nS xs mM_X4_isLiteral 62 q_X4_isLiteral_62 := r_callV zEE_ok zTw_gd kls_10 (M2 := mM_X10_rest) (na := 1) lb_138 calV_X10_rest rfl rfl w_243 (by decide +kernel) ok_X4_isLiteral_65
theorem ok_X4_isLiteral_61 : zOK l D tc A nS xs mM_X4_isLiteral 61 q_X4_isLiteral_61 := s_iload_n (q := 3) rfl (by decide +kernel) (by decide +kernel) ok_X4_isLiteral_62
theorem ok_X4_isLiteral_58 : zOK l D tc A nS xs mM_X4_isLiteral 58 q_X4_isLiteral_58 := r_getf kls_4 (by decide) tx_4_0 rfl w_227 (by decide +kernel) ok_X4_isLiteral_61
theorem ok_X4_isLiteral_57 : zOK l D tc A nS xs mM_X4_isLiteral 57 q_X4_isLiteral_57 := s_aload_n (q := 0) rfl (by decide +kernel) (by decide +kernel) ok_X4_isLiteral_58
theorem ok_X4_isLiteral_56 : zOK l D tc A nS xs mM_X4_isLiteral 56 q_X4_isLiteral_56 := s_zret rfl (by decide +kernel)
theorem ok_X4_isLiteral_55 : zOK l D tc A nS xs mM_X4_isLiteral 55 q_X4_isLiteral_55 := s_iconst (n := 1) (by decide) (by decide +kernel) (by decide +kernel) ok_X4_isLiteral_56
theorem ok_X4_isLiteral_52 : zOK l D tc A nS xs mM_X4_isLiteral 52 q_X4_isLiteral_52 := s_icmp_ne (tgt := 57) (off := 5) (by decide +kernel) (by decide) ok_X4_isLiteral_57 ok_X4_isLiteral_55
theorem ok_X4_isLiteral_51 : zOK l D tc A nS xs mM_X4_isLiteral 51 q_X4_isLiteral_51 := s_iload_n (q := 2) rfl (by decide +kernel) (by decide +kernel) ok_X4_isLiteral_52
theorem ok_X4_isLiteral_48 : zOK l D tc A nS xs mM_X4_isLiteral 48 q_X4_isLiteral_48 := r_callV zEE_ok zTw_gd kls_10 (M2 := mM_X10_nameOf) (na := 1) lb_135 calV_X10_nameOf rfl rfl w_222 (by decide +kernel) ok_X4_isLiteral_51
theorem ok_X4_isLiteral_45 : zOK l D tc A nS xs mM_X4_isLiteral 45 q_X4_isLiteral_45 := r_callV zEE_ok zTw_gd kls_10 (M2 := mM_X10_first) (na := 1) lb_127 calV_X10_first rfl rfl w_244 (by decide +kernel) ok_X4_isLiteral_48
theorem ok_X4_isLiteral_44 : zOK l D tc A nS xs mM_X4_isLiteral 44 q_X4_isLiteral_44 := s_iload_n (q := 3) rfl (by decide +kernel) (by decide +kernel) ok_X4_isLiteral_45
theorem ok_X4_isLiteral_41 : zOK l D tc A nS xs mM_X4_isLiteral 41 q_X4_isLiteral_41 := r_getf kls_4 (by decide) tx_4_0 rfl w_227 (by decide +kernel) ok_X4_isLiteral_44
theorem ok_X4_isLiteral_40 : zOK l D tc A nS xs mM_X4_isLiteral 40 q_X4_isLiteral_40 := s_aload_n (q := 0) rfl (by decide +kernel) (by decide +kernel) ok_X4_isLiteral_41
theorem ok_X4_isLiteral_37 : zOK l D tc A nS xs mM_X4_isLiteral 37 q_X4_isLiteral_37 := r_getf kls_4 (by decide) tx_4_0 rfl w_227 (by decide +kernel) ok_X4_isLiteral_40
theorem ok_X4_isLiteral_36 : zOK l D tc A nS xs mM_X4_isLiteral 36 q_X4_isLiteral_36 := s_aload_n (q := 0) rfl (by decide +kernel) (by decide +kernel) ok_X4_isLiteral_37
theorem ok_X4_isLiteral_33 : zOK l D tc A nS xs mM_X4_isLiteral 33 q_X4_isLiteral_33 := s_if_eq (tgt := 72) (off := 39) (by decide +kernel) (by decide) ok_X4_isLiteral_72 ok_X4_isLiteral_36
theorem ok_X4_isLiteral_30 : zOK l D tc A nS xs mM_X4_isLiteral 30 q_X4_isLiteral_30 := r_callV zEE_ok zTw_gd kls_10 (M2 := mM_X10_isCons) (na := 1) lb_130 calV_X10_isCons rfl rfl w_245 (by decide +kernel) ok_X4_isLiteral_33
theorem ok_X4_isLiteral_29 : zOK l D tc A nS xs mM_X4_isLiteral 29 q_X4_isLiteral_29 := s_iload_n (q := 3) rfl (by decide +kernel) (by decide +kernel) ok_X4_isLiteral_30
theorem ok_X4_isLiteral_26 : zOK l D tc A nS xs mM_X4_isLiteral 26 q_X4_isLiteral_26 := r_getf kls_4 (by decide) tx_4_0 rfl w_227 (by decide +kernel) ok_X4_isLiteral_29
theorem ok_X4_isLiteral_25 : zOK l D tc A nS xs mM_X4_isLiteral 25 q_X4_isLiteral_25 := s_aload_n (q := 0) rfl (by decide +kernel) (by decide +kernel) ok_X4_isLiteral_26
theorem ok_X4_isLiteral_22 : zOK l D tc A nS xs mM_X4_isLiteral 22 q_X4_isLiteral_22 := s_icmp_ge (tgt := 72) (off := 50) (by decide +kernel) (by decide) ok_X4_isLiteral_72 ok_X4_isLiteral_25
theorem ok_X4_isLiteral_19 : zOK l D tc A nS xs mM_X4_isLiteral 19 q_X4_isLiteral_19 := s_sipush (n := 18120) (by decide) (by decide +kernel) (by decide +kernel) ok_X4_isLiteral_22
theorem ok_X4_isLiteral_17 : zOK l D tc A nS xs mM_X4_isLiteral 17 q_X4_isLiteral_17 := s_iload (by decide +kernel) (by decide +kernel) ok_X4_isLiteral_19
theorem ok_X4_isLiteral_15 : zOK l D tc A nS xs mM_X4_isLiteral 15 q_X4_isLiteral_15 := s_istore (by decide +kernel) (by decide +kernel) ok_X4_isLiteral_17
theorem ok_X4_isLiteral_14 : zOK l D tc A nS xs mM_X4_isLiteral 14 q_X4_isLiteral_14 := s_iconst (n := 0) (by decide) (by decide +kernel) (by decide +kernel) ok_X4_isLiteral_15
theorem ok_X4_isLiteral_13 : zOK l D tc A nS xs mM_X4_isLiteral 13 q_X4_isLiteral_13 := s_istore_n (q := 3) rfl (by decide +kernel) (by decide +kernel) ok_X4_isLiteral_14
theorem ok_X4_isLiteral_10 : zOK l D tc A nS xs mM_X4_isLiteral 10 q_X4_isLiteral_10 := r_getf kls_4 (by decide) tx_4_1 rfl w_219 (by decide +kernel) ok_X4_isLiteral_13
theorem ok_X4_isLiteral_9 : zOK l D tc A nS xs mM_X4_isLiteral 9 q_X4_isLiteral_9 := s_aload_n (q := 0) rfl (by decide +kernel) (by decide +kernel) ok_X4_isLiteral_10
theorem ok_X4_isLiteral_8 : zOK l D tc A nS xs mM_X4_isLiteral 8 q_X4_isLiteral_8 := s_istore_n (q := 2) rfl (by decide +kernel) (by decide +kernel) ok_X4_isLiteral_9
theorem ok_X4_isLiteral_5 : zOK l D tc A nS xs mM_X4_isLiteral 5 q_X4_isLiteral_5 := r_callV zEE_ok zTw_gd kls_10 (M2 := mM_X10_nameOf) (na := 1) lb_135 calV_X10_nameOf rfl rfl w_222 (by decide +kernel) ok_X4_isLiteral_8
theorem ok_X4_isLiteral_4 : zOK l D tc A nS xs mM_X4_isLiteral 4 q_X4_isLiteral_4 := s_iload_n (q := 1) rfl (by decide +kernel) (by decide +kernel) ok_X4_isLiteral_5
theorem ok_X4_isLiteral_1 : zOK l D tc A nS xs mM_X4_isLiteral 1 q_X4_isLiteral_1 := r_getf kls_4 (by decide) tx_4_0 rfl w_227 (by decide +kernel) ok_X4_isLiteral_4
theorem ok_X4_isLiteral_0 : zOK l D tc A nS xs mM_X4_isLiteral 0 q_X4_isLiteral_0 := s_aload_n (q := 0) rfl (by decide +kernel) (by decide +kernel) ok_X4_isLiteral_1
theorem ok_X4_learn_227 : zOK l D tc A nS xs mM_X4_learn 227 q_X4_learn_227 := s_zret rfl (by decide +kernel)
theorem ok_X4_learn_223 : zOK l D tc A nS xs mM_X4_learn 223 q_X4_learn_223 := s_goto (tgt := 227) (off := 4) (by decide +kernel) (by decide) ok_X4_learn_227
theorem ok_X4_learn_222 : zOK l D tc A nS xs mM_X4_learn 222 q_X4_learn_222 := s_iconst (n := 1) (by decide) (by decide +kernel) (by decide +kernel) ok_X4_learn_223
theorem ok_X4_learn_219 : zOK l D tc A nS xs mM_X4_learn 219 q_X4_learn_219 := s_icmp_eq (tgt := 226) (off := 7) (by decide +kernel) (by decide) s_none ok_X4_learn_222
theorem ok_X4_learn_217 : zOK l D tc A nS xs mM_X4_learn 217 q_X4_learn_217 := s_bipush (n := 9) (by decide) (by decide +kernel) (by decide +kernel) ok_X4_learn_219
theorem ok_X4_learn_215 : zOK l D tc A nS xs mM_X4_learn 215 q_X4_learn_215 := s_iload (by decide +kernel) (by decide +kernel) ok_X4_learn_217
theorem ok_X4_learn_212 : zOK l D tc A nS xs mM_X4_learn 212 q_X4_learn_212 := r_callV zEE_ok zTw_gd kls_4 (M2 := mM_X4_learnVariable) (na := 3) lb_65 calV_X4_learnVariable rfl rfl w_249 (by decide +kernel) ok_X4_learn_215
theorem ok_X4_learn_211 : zOK l D tc A nS xs mM_X4_learn 211 q_X4_learn_211 := s_iload_n (q := 3) rfl (by decide +kernel) (by decide +kernel) ok_X4_learn_212
theorem ok_X4_learn_210 : zOK l D tc A nS xs mM_X4_learn 210 q_X4_learn_210 := s_iload_n (q := 2) rfl (by decide +kernel) (by decide +kernel) ok_X4_learn_211
theorem ok_X4_learn_208 : zOK l D tc A nS xs mM_X4_learn 208 q_X4_learn_208 := s_iload (by decide +kernel) (by decide +kernel) ok_X4_learn_210
theorem ok_X4_learn_207 : zOK l D tc A nS xs mM_X4_learn 207 q_X4_learn_207 := s_aload_n (q := 0) rfl (by decide +kernel) (by decide +kernel) ok_X4_learn_208
theorem ok_X4_learn_204 : zOK l D tc A nS xs mM_X4_learn 204 q_X4_learn_204 := s_if_ne (tgt := 215) (off := 11) (by decide +kernel) (by decide) ok_X4_learn_215 ok_X4_learn_207
theorem ok_X4_learn_201 : zOK l D tc A nS xs mM_X4_learn 201 q_X4_learn_201 := r_callV zEE_ok zTw_gd kls_4 (M2 := mM_X4_isLiteral) (na := 1) lb_60 calV_X4_isLiteral rfl rfl w_252 (by decide +kernel) ok_X4_learn_204
theorem ok_X4_learn_199 : zOK l D tc A nS xs mM_X4_learn 199 q_X4_learn_199 := s_iload (by decide +kernel) (by decide +kernel) ok_X4_learn_201
theorem ok_X4_learn_198 : zOK l D tc A nS xs mM_X4_learn 198 q_X4_learn_198 := s_aload_n (q := 0) rfl (by decide +kernel) (by decide +kernel) ok_X4_learn_199
theorem ok_X4_learn_195 : zOK l D tc A nS xs mM_X4_learn 195 q_X4_learn_195 := s_icmp_eq (tgt := 215) (off := 20) (by decide +kernel) (by decide) ok_X4_learn_215 ok_X4_learn_198
theorem ok_X4_learn_193 : zOK l D tc A nS xs mM_X4_learn 193 q_X4_learn_193 := s_bipush (n := 9) (by decide) (by decide +kernel) (by decide +kernel) ok_X4_learn_195
theorem ok_X4_learn_191 : zOK l D tc A nS xs mM_X4_learn 191 q_X4_learn_191 := s_iload (by decide +kernel) (by decide +kernel) ok_X4_learn_193
theorem ok_X4_learn_188 : zOK l D tc A nS xs mM_X4_learn 188 q_X4_learn_188 := s_icmp_eq (tgt := 215) (off := 27) (by decide +kernel) (by decide) ok_X4_learn_215 ok_X4_learn_191
theorem ok_X4_learn_186 : zOK l D tc A nS xs mM_X4_learn 186 q_X4_learn_186 := s_bipush (n := 10) (by decide) (by decide +kernel) (by decide +kernel) ok_X4_learn_188
theorem ok_X4_learn_184 : zOK l D tc A nS xs mM_X4_learn 184 q_X4_learn_184 := s_iload (by decide +kernel) (by decide +kernel) ok_X4_learn_186
theorem ok_X4_learn_181 : zOK l D tc A nS xs mM_X4_learn 181 q_X4_learn_181 := s_icmp_eq (tgt := 215) (off := 34) (by decide +kernel) (by decide) ok_X4_learn_215 ok_X4_learn_184
theorem ok_X4_learn_180 : zOK l D tc A nS xs mM_X4_learn 180 q_X4_learn_180 := s_iconst (n := (-1)) (by decide) (by decide +kernel) (by decide +kernel) ok_X4_learn_181
theorem ok_X4_learn_178 : zOK l D tc A nS xs mM_X4_learn 178 q_X4_learn_178 := s_iload (by decide +kernel) (by decide +kernel) ok_X4_learn_180
theorem ok_X4_learn_176 : zOK l D tc A nS xs mM_X4_learn 176 q_X4_learn_176 := s_istore (by decide +kernel) (by decide +kernel) ok_X4_learn_178
theorem ok_X4_learn_173 : zOK l D tc A nS xs mM_X4_learn 173 q_X4_learn_173 := r_callV zEE_ok zTw_gd kls_10 (M2 := mM_X10_symbolAtLast) (na := 1) lb_141 calV_X10_symbolAtLast rfl rfl w_256 (by decide +kernel) ok_X4_learn_176
theorem ok_X4_learn_171 : zOK l D tc A nS xs mM_X4_learn 171 q_X4_learn_171 := s_iload (by decide +kernel) (by decide +kernel) ok_X4_learn_173
theorem ok_X4_learn_168 : zOK l D tc A nS xs mM_X4_learn 168 q_X4_learn_168 := r_getf kls_4 (by decide) tx_4_0 rfl w_227 (by decide +kernel) ok_X4_learn_171
theorem ok_X4_learn_167 : zOK l D tc A nS xs mM_X4_learn 167 q_X4_learn_167 := s_aload_n (q := 0) rfl (by decide +kernel) (by decide +kernel) ok_X4_learn_168
theorem ok_X4_learn_164 : zOK l D tc A nS xs mM_X4_learn 164 q_X4_learn_164 := s_goto (tgt := 6) (off := (-158)) (by decide +kernel) (by decide) (s_back lb_63)
theorem ok_X4_learn_161 : zOK l D tc A nS xs mM_X4_learn 161 q_X4_learn_161 := s_iinc (n := 1) (by decide +kernel) (by decide +kernel) (by decide +kernel) ok_X4_learn_164
theorem ok_X4_learn_159 : zOK l D tc A nS xs mM_X4_learn 159 q_X4_learn_159 := s_istore (by decide +kernel) (by decide +kernel) ok_X4_learn_161
theorem ok_X4_learn_156 : zOK l D tc A nS xs mM_X4_learn 156 q_X4_learn_156 := r_callV zEE_ok zTw_gd kls_10 (M2 := mM_X10_rest) (na := 1) lb_138 calV_X10_rest rfl rfl w_243 (by decide +kernel) ok_X4_learn_159
theorem ok_X4_learn_154 : zOK l D tc A nS xs mM_X4_learn 154 q_X4_learn_154 := s_iload (by decide +kernel) (by decide +kernel) ok_X4_learn_156
theorem ok_X4_learn_151 : zOK l D tc A nS xs mM_X4_learn 151 q_X4_learn_151 := r_getf kls_4 (by decide) tx_4_0 rfl w_227 (by decide +kernel) ok_X4_learn_154
theorem ok_X4_learn_150 : zOK l D tc A nS xs mM_X4_learn 150 q_X4_learn_150 := s_aload_n (q := 0) rfl (by decide +kernel) (by decide +kernel) ok_X4_learn_151
theorem ok_X4_learn_145 : zOK l D tc A nS xs mM_X4_learn 145 q_X4_learn_145 := s_if_ne (tgt := 150) (off := 5) (by decide +kernel) (by decide) ok_X4_learn_150 s_none
theorem ok_X4_learn_142 : zOK l D tc A nS xs mM_X4_learn 142 q_X4_learn_142 := r_callV zEE_ok zTw_gd kls_4 (M2 := mM_X4_learn) (na := 4) lb_62 calV_X4_learn rfl rfl w_257 (by decide +kernel) ok_X4_learn_145
theorem ok_X4_learn_141 : zOK l D tc A nS xs mM_X4_learn 141 q_X4_learn_141 := s_iadd (by decide +kernel) ok_X4_learn_142
theorem ok_X4_learn_140 : zOK l D tc A nS xs mM_X4_learn 140 q_X4_learn_140 := s_iconst (n := 1) (by decide) (by decide +kernel) (by decide +kernel) ok_X4_learn_141
theorem ok_X4_learn_138 : zOK l D tc A nS xs mM_X4_learn 138 q_X4_learn_138 := s_iload (by decide +kernel) (by decide +kernel) ok_X4_learn_140
theorem ok_X4_learn_137 : zOK l D tc A nS xs mM_X4_learn 137 q_X4_learn_137 := s_iload_n (q := 3) rfl (by decide +kernel) (by decide +kernel) ok_X4_learn_138
theorem ok_X4_learn_136 : zOK l D tc A nS xs mM_X4_learn 136 q_X4_learn_136 := s_iload_n (q := 2) rfl (by decide +kernel) (by decide +kernel) ok_X4_learn_137
theorem ok_X4_learn_134 : zOK l D tc A nS xs mM_X4_learn 134 q_X4_learn_134 := s_iload (by decide +kernel) (by decide +kernel) ok_X4_learn_136
theorem ok_X4_learn_133 : zOK l D tc A nS xs mM_X4_learn 133 q_X4_learn_133 := s_aload_n (q := 0) rfl (by decide +kernel) (by decide +kernel) ok_X4_learn_134
theorem ok_X4_learn_132 : zOK l D tc A nS xs mM_X4_learn 132 q_X4_learn_132 := s_zret rfl (by decide +kernel)
theorem ok_X4_learn_128 : zOK l D tc A nS xs mM_X4_learn 128 q_X4_learn_128 := s_goto (tgt := 132) (off := 4) (by decide +kernel) (by decide) ok_X4_learn_132
theorem ok_X4_learn_127 : zOK l D tc A nS xs mM_X4_learn 127 q_X4_learn_127 := s_iconst (n := 1) (by decide) (by decide +kernel) (by decide +kernel) ok_X4_learn_128
theorem ok_X4_learn_124 : zOK l D tc A nS xs mM_X4_learn 124 q_X4_learn_124 := s_if_eq (tgt := 131) (off := 7) (by decide +kernel) (by decide) s_none ok_X4_learn_127
theorem ok_X4_learn_121 : zOK l D tc A nS xs mM_X4_learn 121 q_X4_learn_121 := r_callV zEE_ok zTw_gd kls_4 (M2 := mM_X4_learnGroup) (na := 3) lb_64 calV_X4_learnGroup rfl rfl w_260 (by decide +kernel) ok_X4_learn_124
theorem ok_X4_learn_119 : zOK l D tc A nS xs mM_X4_learn 119 q_X4_learn_119 := s_iload (by decide +kernel) (by decide +kernel) ok_X4_learn_121
theorem ok_X4_learn_118 : zOK l D tc A nS xs mM_X4_learn 118 q_X4_learn_118 := s_iload_n (q := 3) rfl (by decide +kernel) (by decide +kernel) ok_X4_learn_119
theorem ok_X4_learn_116 : zOK l D tc A nS xs mM_X4_learn 116 q_X4_learn_116 := s_iload (by decide +kernel) (by decide +kernel) ok_X4_learn_118
theorem ok_X4_learn_115 : zOK l D tc A nS xs mM_X4_learn 115 q_X4_learn_115 := s_aload_n (q := 0) rfl (by decide +kernel) (by decide +kernel) ok_X4_learn_116
theorem ok_X4_learn_112 : zOK l D tc A nS xs mM_X4_learn 112 q_X4_learn_112 := s_icmp_ge (tgt := 131) (off := 19) (by decide +kernel) (by decide) s_none ok_X4_learn_115
theorem ok_X4_learn_111 : zOK l D tc A nS xs mM_X4_learn 111 q_X4_learn_111 := s_iconst (n := 2) (by decide) (by decide +kernel) (by decide +kernel) ok_X4_learn_112
theorem ok_X4_learn_110 : zOK l D tc A nS xs mM_X4_learn 110 q_X4_learn_110 := s_iload_n (q := 3) rfl (by decide +kernel) (by decide +kernel) ok_X4_learn_111
theorem ok_X4_learn_107 : zOK l D tc A nS xs mM_X4_learn 107 q_X4_learn_107 := s_if_eq (tgt := 131) (off := 24) (by decide +kernel) (by decide) s_none ok_X4_learn_110
theorem ok_X4_learn_105 : zOK l D tc A nS xs mM_X4_learn 105 q_X4_learn_105 := s_iload (by decide +kernel) (by decide +kernel) ok_X4_learn_107
theorem ok_X4_learn_103 : zOK l D tc A nS xs mM_X4_learn 103 q_X4_learn_103 := s_istore (by decide +kernel) (by decide +kernel) ok_X4_learn_105
theorem ok_X4_learn_99 : zOK l D tc A nS xs mM_X4_learn 99 q_X4_learn_99 := s_goto (tgt := 103) (off := 4) (by decide +kernel) (by decide) ok_X4_learn_103
theorem ok_X4_learn_98 : zOK l D tc A nS xs mM_X4_learn 98 q_X4_learn_98 := s_iconst (n := 1) (by decide) (by decide +kernel) (by decide +kernel) ok_X4_learn_99
theorem ok_X4_learn_95 : zOK l D tc A nS xs mM_X4_learn 95 q_X4_learn_95 := s_if_ne (tgt := 102) (off := 7) (by decide +kernel) (by decide) s_none ok_X4_learn_98
theorem ok_X4_learn_92 : zOK l D tc A nS xs mM_X4_learn 92 q_X4_learn_92 := r_callV zEE_ok zTw_gd kls_10 (M2 := mM_X10_kind) (na := 1) lb_133 calV_X10_kind rfl rfl w_263 (by decide +kernel) ok_X4_learn_95
theorem ok_X4_learn_89 : zOK l D tc A nS xs mM_X4_learn 89 q_X4_learn_89 := r_callV zEE_ok zTw_gd kls_10 (M2 := mM_X10_rest) (na := 1) lb_138 calV_X10_rest rfl rfl w_243 (by decide +kernel) ok_X4_learn_92
theorem ok_X4_learn_86 : zOK l D tc A nS xs mM_X4_learn 86 q_X4_learn_86 := r_callV zEE_ok zTw_gd kls_10 (M2 := mM_X10_rest) (na := 1) lb_138 calV_X10_rest rfl rfl w_243 (by decide +kernel) ok_X4_learn_89
theorem ok_X4_learn_84 : zOK l D tc A nS xs mM_X4_learn 84 q_X4_learn_84 := s_iload (by decide +kernel) (by decide +kernel) ok_X4_learn_86
theorem ok_X4_learn_81 : zOK l D tc A nS xs mM_X4_learn 81 q_X4_learn_81 := r_getf kls_4 (by decide) tx_4_0 rfl w_227 (by decide +kernel) ok_X4_learn_84
theorem ok_X4_learn_80 : zOK l D tc A nS xs mM_X4_learn 80 q_X4_learn_80 := s_aload_n (q := 0) rfl (by decide +kernel) (by decide +kernel) ok_X4_learn_81
theorem ok_X4_learn_77 : zOK l D tc A nS xs mM_X4_learn 77 q_X4_learn_77 := r_getf kls_4 (by decide) tx_4_0 rfl w_227 (by decide +kernel) ok_X4_learn_80
theorem ok_X4_learn_76 : zOK l D tc A nS xs mM_X4_learn 76 q_X4_learn_76 := s_aload_n (q := 0) rfl (by decide +kernel) (by decide +kernel) ok_X4_learn_77
theorem ok_X4_learn_73 : zOK l D tc A nS xs mM_X4_learn 73 q_X4_learn_73 := r_getf kls_4 (by decide) tx_4_0 rfl w_227 (by decide +kernel) ok_X4_learn_76
theorem ok_X4_learn_72 : zOK l D tc A nS xs mM_X4_learn 72 q_X4_learn_72 := s_aload_n (q := 0) rfl (by decide +kernel) (by decide +kernel) ok_X4_learn_73
theorem ok_X4_learn_69 : zOK l D tc A nS xs mM_X4_learn 69 q_X4_learn_69 := s_if_eq (tgt := 133) (off := 64) (by decide +kernel) (by decide) ok_X4_learn_133 ok_X4_learn_72
theorem ok_X4_learn_66 : zOK l D tc A nS xs mM_X4_learn 66 q_X4_learn_66 := r_callV zEE_ok zTw_gd kls_10 (M2 := mM_X10_repeats) (na := 1) lb_137 calV_X10_repeats rfl rfl w_264 (by decide +kernel) ok_X4_learn_69
theorem ok_X4_learn_64 : zOK l D tc A nS xs mM_X4_learn 64 q_X4_learn_64 := s_iload (by decide +kernel) (by decide +kernel) ok_X4_learn_66
theorem ok_X4_learn_61 : zOK l D tc A nS xs mM_X4_learn 61 q_X4_learn_61 := r_getf kls_4 (by decide) tx_4_0 rfl w_227 (by decide +kernel) ok_X4_learn_64
theorem ok_X4_learn_60 : zOK l D tc A nS xs mM_X4_learn 60 q_X4_learn_60 := s_aload_n (q := 0) rfl (by decide +kernel) (by decide +kernel) ok_X4_learn_61
theorem ok_X4_learn_55 : zOK l D tc A nS xs mM_X4_learn 55 q_X4_learn_55 := s_icmp_ne (tgt := 60) (off := 5) (by decide +kernel) (by decide) ok_X4_learn_60 s_none
theorem ok_X4_learn_53 : zOK l D tc A nS xs mM_X4_learn 53 q_X4_learn_53 := s_bipush (n := 9) (by decide) (by decide +kernel) (by decide +kernel) ok_X4_learn_55
theorem ok_X4_learn_50 : zOK l D tc A nS xs mM_X4_learn 50 q_X4_learn_50 := r_callV zEE_ok zTw_gd kls_10 (M2 := mM_X10_symbolAtLast) (na := 1) lb_141 calV_X10_symbolAtLast rfl rfl w_256 (by decide +kernel) ok_X4_learn_53
theorem ok_X4_learn_48 : zOK l D tc A nS xs mM_X4_learn 48 q_X4_learn_48 := s_iload (by decide +kernel) (by decide +kernel) ok_X4_learn_50
theorem ok_X4_learn_45 : zOK l D tc A nS xs mM_X4_learn 45 q_X4_learn_45 := r_getf kls_4 (by decide) tx_4_0 rfl w_227 (by decide +kernel) ok_X4_learn_48
theorem ok_X4_learn_44 : zOK l D tc A nS xs mM_X4_learn 44 q_X4_learn_44 := s_aload_n (q := 0) rfl (by decide +kernel) (by decide +kernel) ok_X4_learn_45
theorem ok_X4_learn_42 : zOK l D tc A nS xs mM_X4_learn 42 q_X4_learn_42 := s_istore (by decide +kernel) (by decide +kernel) ok_X4_learn_44
theorem ok_X4_learn_39 : zOK l D tc A nS xs mM_X4_learn 39 q_X4_learn_39 := r_callV zEE_ok zTw_gd kls_10 (M2 := mM_X10_first) (na := 1) lb_127 calV_X10_first rfl rfl w_244 (by decide +kernel) ok_X4_learn_42
theorem ok_X4_learn_37 : zOK l D tc A nS xs mM_X4_learn 37 q_X4_learn_37 := s_iload (by decide +kernel) (by decide +kernel) ok_X4_learn_39
theorem ok_X4_learn_34 : zOK l D tc A nS xs mM_X4_learn 34 q_X4_learn_34 := r_getf kls_4 (by decide) tx_4_0 rfl w_227 (by decide +kernel) ok_X4_learn_37
theorem ok_X4_learn_33 : zOK l D tc A nS xs mM_X4_learn 33 q_X4_learn_33 := s_aload_n (q := 0) rfl (by decide +kernel) (by decide +kernel) ok_X4_learn_34
theorem ok_X4_learn_30 : zOK l D tc A nS xs mM_X4_learn 30 q_X4_learn_30 := s_if_eq (tgt := 167) (off := 137) (by decide +kernel) (by decide) ok_X4_learn_167 ok_X4_learn_33
theorem ok_X4_learn_27 : zOK l D tc A nS xs mM_X4_learn 27 q_X4_learn_27 := r_callV zEE_ok zTw_gd kls_10 (M2 := mM_X10_isCons) (na := 1) lb_130 calV_X10_isCons rfl rfl w_245 (by decide +kernel) ok_X4_learn_30
theorem ok_X4_learn_25 : zOK l D tc A nS xs mM_X4_learn 25 q_X4_learn_25 := s_iload (by decide +kernel) (by decide +kernel) ok_X4_learn_27
theorem ok_X4_learn_22 : zOK l D tc A nS xs mM_X4_learn 22 q_X4_learn_22 := r_getf kls_4 (by decide) tx_4_0 rfl w_227 (by decide +kernel) ok_X4_learn_25
theorem ok_X4_learn_21 : zOK l D tc A nS xs mM_X4_learn 21 q_X4_learn_21 := s_aload_n (q := 0) rfl (by decide +kernel) (by decide +kernel) ok_X4_learn_22
theorem ok_X4_learn_18 : zOK l D tc A nS xs mM_X4_learn 18 q_X4_learn_18 := s_icmp_ge (tgt := 167) (off := 149) (by decide +kernel) (by decide) ok_X4_learn_167 ok_X4_learn_21
theorem ok_X4_learn_16 : zOK l D tc A nS xs mM_X4_learn 16 q_X4_learn_16 := s_bipush (n := 110) (by decide) (by decide +kernel) (by decide +kernel) ok_X4_learn_18
theorem ok_X4_learn_14 : zOK l D tc A nS xs mM_X4_learn 14 q_X4_learn_14 := s_iload (by decide +kernel) (by decide +kernel) ok_X4_learn_16
theorem ok_X4_learn_11 : zOK l D tc A nS xs mM_X4_learn 11 q_X4_learn_11 := s_icmp_ge (tgt := 167) (off := 156) (by decide +kernel) (by decide) ok_X4_learn_167 ok_X4_learn_14
theorem ok_X4_learn_8 : zOK l D tc A nS xs mM_X4_learn 8 q_X4_learn_8 := s_sipush (n := 18120) (by decide) (by decide +kernel) (by decide +kernel) ok_X4_learn_11
theorem ok_X4_learn_6 : zOK l D tc A nS xs mM_X4_learn 6 q_X4_learn_6 := s_iload (by decide +kernel) (by decide +kernel) ok_X4_learn_8
theorem ok_X4_learn_4 : zOK l D tc A nS xs mM_X4_learn 4 q_X4_learn_4 := s_istore (by decide +kernel) (by decide +kernel) ok_X4_learn_6
theorem ok_X4_learn_3 : zOK l D tc A nS xs mM_X4_learn 3 q_X4_learn_3 := s_iconst (n := 0) (by decide) (by decide +kernel) (by decide +kernel) ok_X4_learn_4
theorem ok_X4_learn_1 : zOK l D tc A nS xs mM_X4_learn 1 q_X4_learn_1 := s_istore (by decide +kernel) (by decide +kernel) ok_X4_learn_3
theorem ok_X4_learn_0 : zOK l D tc A nS xs mM_X4_learn 0 q_X4_learn_0 := s_iload_n (q := 1) rfl (by decide +kernel) (by decide +kernel) ok_X4_learn_1
theorem ok_X4_learnGroup_103 : zOK l D tc A nS xs mM_X4_learnGroup 103 q_X4_learnGroup_103 := s_zret rfl (by decide +kernel)
theorem ok_X4_learnGroup_101 : zOK l D tc A nS xs mM_X4_learnGroup 101 q_X4_learnGroup_101 := s_iload (by decide +kernel) (by decide +kernel) ok_X4_learnGroup_103
theorem ok_X4_learnGroup_100 : zOK l D tc A nS xs mM_X4_learnGroup 100 q_X4_learnGroup_100 := s_iast (t0 := 0) (by decide) (by decide) rfl (by decide +kernel) ok_X4_learnGroup_101
theorem ok_X4_learnGroup_97 : zOK l D tc A nS xs mM_X4_learnGroup 97 q_X4_learnGroup_97 := r_getf kls_4 (by decide) tx_4_13 rfl w_217 (by decide +kernel) ok_X4_learnGroup_100
theorem ok_X4_learnGroup_96 : zOK l D tc A nS xs mM_X4_learnGroup 96 q_X4_learnGroup_96 := s_aload_n (q := 0) rfl (by decide +kernel) (by decide +kernel) ok_X4_learnGroup_97
theorem ok_X4_learnGroup_94 : zOK l D tc A nS xs mM_X4_learnGroup 94 q_X4_learnGroup_94 := s_iload (by decide +kernel) (by decide +kernel) ok_X4_learnGroup_96
theorem ok_X4_learnGroup_91 : zOK l D tc A nS xs mM_X4_learnGroup 91 q_X4_learnGroup_91 := r_getf kls_4 (by decide) tx_4_12 rfl w_235 (by decide +kernel) ok_X4_learnGroup_94
theorem ok_X4_learnGroup_90 : zOK l D tc A nS xs mM_X4_learnGroup 90 q_X4_learnGroup_90 := s_aload_n (q := 0) rfl (by decide +kernel) (by decide +kernel) ok_X4_learnGroup_91
theorem ok_X4_learnGroup_89 : zOK l D tc A nS xs mM_X4_learnGroup 89 q_X4_learnGroup_89 := s_iast (t0 := 0) (by decide) (by decide) rfl (by decide +kernel) ok_X4_learnGroup_90
theorem ok_X4_learnGroup_86 : zOK l D tc A nS xs mM_X4_learnGroup 86 q_X4_learnGroup_86 := r_getf kls_4 (by decide) tx_4_6 rfl w_218 (by decide +kernel) ok_X4_learnGroup_89
theorem ok_X4_learnGroup_85 : zOK l D tc A nS xs mM_X4_learnGroup 85 q_X4_learnGroup_85 := s_aload_n (q := 0) rfl (by decide +kernel) (by decide +kernel) ok_X4_learnGroup_86
theorem ok_X4_learnGroup_83 : zOK l D tc A nS xs mM_X4_learnGroup 83 q_X4_learnGroup_83 := s_iload (by decide +kernel) (by decide +kernel) ok_X4_learnGroup_85
theorem ok_X4_learnGroup_80 : zOK l D tc A nS xs mM_X4_learnGroup 80 q_X4_learnGroup_80 := r_getf kls_4 (by decide) tx_4_11 rfl w_236 (by decide +kernel) ok_X4_learnGroup_83
theorem ok_X4_learnGroup_79 : zOK l D tc A nS xs mM_X4_learnGroup 79 q_X4_learnGroup_79 := s_aload_n (q := 0) rfl (by decide +kernel) (by decide +kernel) ok_X4_learnGroup_80
theorem ok_X4_learnGroup_77 : zOK l D tc A nS xs mM_X4_learnGroup 77 q_X4_learnGroup_77 := s_istore (by decide +kernel) (by decide +kernel) ok_X4_learnGroup_79
theorem ok_X4_learnGroup_74 : zOK l D tc A nS xs mM_X4_learnGroup 74 q_X4_learnGroup_74 := r_callV zEE_ok zTw_gd kls_4 (M2 := mM_X4_learn) (na := 4) lb_62 calV_X4_learn rfl rfl w_257 (by decide +kernel) ok_X4_learnGroup_77
theorem ok_X4_learnGroup_73 : zOK l D tc A nS xs mM_X4_learnGroup 73 q_X4_learnGroup_73 := s_iadd (by decide +kernel) ok_X4_learnGroup_74
theorem ok_X4_learnGroup_72 : zOK l D tc A nS xs mM_X4_learnGroup 72 q_X4_learnGroup_72 := s_iconst (n := 1) (by decide) (by decide +kernel) (by decide +kernel) ok_X4_learnGroup_73
theorem ok_X4_learnGroup_71 : zOK l D tc A nS xs mM_X4_learnGroup 71 q_X4_learnGroup_71 := s_iload_n (q := 3) rfl (by decide +kernel) (by decide +kernel) ok_X4_learnGroup_72
theorem ok_X4_learnGroup_70 : zOK l D tc A nS xs mM_X4_learnGroup 70 q_X4_learnGroup_70 := s_iadd (by decide +kernel) ok_X4_learnGroup_71
theorem ok_X4_learnGroup_69 : zOK l D tc A nS xs mM_X4_learnGroup 69 q_X4_learnGroup_69 := s_iconst (n := 1) (by decide) (by decide +kernel) (by decide +kernel) ok_X4_learnGroup_70
theorem ok_X4_learnGroup_68 : zOK l D tc A nS xs mM_X4_learnGroup 68 q_X4_learnGroup_68 := s_iload_n (q := 2) rfl (by decide +kernel) (by decide +kernel) ok_X4_learnGroup_69
theorem ok_X4_learnGroup_66 : zOK l D tc A nS xs mM_X4_learnGroup 66 q_X4_learnGroup_66 := s_iload (by decide +kernel) (by decide +kernel) ok_X4_learnGroup_68
theorem ok_X4_learnGroup_65 : zOK l D tc A nS xs mM_X4_learnGroup 65 q_X4_learnGroup_65 := s_iload_n (q := 1) rfl (by decide +kernel) (by decide +kernel) ok_X4_learnGroup_66
theorem ok_X4_learnGroup_64 : zOK l D tc A nS xs mM_X4_learnGroup 64 q_X4_learnGroup_64 := s_aload_n (q := 0) rfl (by decide +kernel) (by decide +kernel) ok_X4_learnGroup_65
theorem ok_X4_learnGroup_63 : zOK l D tc A nS xs mM_X4_learnGroup 63 q_X4_learnGroup_63 := s_iast (t0 := 0) (by decide) (by decide) rfl (by decide +kernel) ok_X4_learnGroup_64
theorem ok_X4_learnGroup_60 : zOK l D tc A nS xs mM_X4_learnGroup 60 q_X4_learnGroup_60 := r_getf kls_4 (by decide) tx_4_6 rfl w_218 (by decide +kernel) ok_X4_learnGroup_63
theorem ok_X4_learnGroup_59 : zOK l D tc A nS xs mM_X4_learnGroup 59 q_X4_learnGroup_59 := s_aload_n (q := 0) rfl (by decide +kernel) (by decide +kernel) ok_X4_learnGroup_60
theorem ok_X4_learnGroup_57 : zOK l D tc A nS xs mM_X4_learnGroup 57 q_X4_learnGroup_57 := s_iload (by decide +kernel) (by decide +kernel) ok_X4_learnGroup_59
theorem ok_X4_learnGroup_54 : zOK l D tc A nS xs mM_X4_learnGroup 54 q_X4_learnGroup_54 := r_getf kls_4 (by decide) tx_4_10 rfl w_237 (by decide +kernel) ok_X4_learnGroup_57
theorem ok_X4_learnGroup_53 : zOK l D tc A nS xs mM_X4_learnGroup 53 q_X4_learnGroup_53 := s_aload_n (q := 0) rfl (by decide +kernel) (by decide +kernel) ok_X4_learnGroup_54
theorem ok_X4_learnGroup_52 : zOK l D tc A nS xs mM_X4_learnGroup 52 q_X4_learnGroup_52 := s_iast (t0 := 0) (by decide) (by decide) rfl (by decide +kernel) ok_X4_learnGroup_53
theorem ok_X4_learnGroup_51 : zOK l D tc A nS xs mM_X4_learnGroup 51 q_X4_learnGroup_51 := s_iload_n (q := 1) rfl (by decide +kernel) (by decide +kernel) ok_X4_learnGroup_52
theorem ok_X4_learnGroup_49 : zOK l D tc A nS xs mM_X4_learnGroup 49 q_X4_learnGroup_49 := s_iload (by decide +kernel) (by decide +kernel) ok_X4_learnGroup_51
theorem ok_X4_learnGroup_46 : zOK l D tc A nS xs mM_X4_learnGroup 46 q_X4_learnGroup_46 := r_getf kls_4 (by decide) tx_4_7 rfl w_240 (by decide +kernel) ok_X4_learnGroup_49
theorem ok_X4_learnGroup_45 : zOK l D tc A nS xs mM_X4_learnGroup 45 q_X4_learnGroup_45 := s_aload_n (q := 0) rfl (by decide +kernel) (by decide +kernel) ok_X4_learnGroup_46
theorem ok_X4_learnGroup_42 : zOK l D tc A nS xs mM_X4_learnGroup 42 q_X4_learnGroup_42 := r_putf kls_4 ty_4_14 zck_int (by decide) tx_4_14 rfl w_216 (by decide +kernel) ok_X4_learnGroup_45
theorem ok_X4_learnGroup_35 : zOK l D tc A nS xs mM_X4_learnGroup 35 q_X4_learnGroup_35 := s_goto (tgt := 42) (off := 7) (by decide +kernel) (by decide) ok_X4_learnGroup_42
theorem ok_X4_learnGroup_33 : zOK l D tc A nS xs mM_X4_learnGroup 33 q_X4_learnGroup_33 := s_iload (by decide +kernel) (by decide +kernel) ok_X4_learnGroup_35
theorem ok_X4_learnGroup_30 : zOK l D tc A nS xs mM_X4_learnGroup 30 q_X4_learnGroup_30 := s_if_ne (tgt := 38) (off := 8) (by decide +kernel) (by decide) s_none ok_X4_learnGroup_33
theorem ok_X4_learnGroup_29 : zOK l D tc A nS xs mM_X4_learnGroup 29 q_X4_learnGroup_29 := s_iload_n (q := 2) rfl (by decide +kernel) (by decide +kernel) ok_X4_learnGroup_30
theorem ok_X4_learnGroup_28 : zOK l D tc A nS xs mM_X4_learnGroup 28 q_X4_learnGroup_28 := s_aload_n (q := 0) rfl (by decide +kernel) (by decide +kernel) ok_X4_learnGroup_29
theorem ok_X4_learnGroup_25 : zOK l D tc A nS xs mM_X4_learnGroup 25 q_X4_learnGroup_25 := r_putf kls_4 ty_4_13 zck_int (by decide) tx_4_13 rfl w_217 (by decide +kernel) ok_X4_learnGroup_28
theorem ok_X4_learnGroup_24 : zOK l D tc A nS xs mM_X4_learnGroup 24 q_X4_learnGroup_24 := s_iadd (by decide +kernel) ok_X4_learnGroup_25
theorem ok_X4_learnGroup_23 : zOK l D tc A nS xs mM_X4_learnGroup 23 q_X4_learnGroup_23 := s_iconst (n := 1) (by decide) (by decide +kernel) (by decide +kernel) ok_X4_learnGroup_24
theorem ok_X4_learnGroup_20 : zOK l D tc A nS xs mM_X4_learnGroup 20 q_X4_learnGroup_20 := r_getf kls_4 (by decide) tx_4_13 rfl w_217 (by decide +kernel) ok_X4_learnGroup_23
theorem ok_X4_learnGroup_19 : zOK l D tc A nS xs mM_X4_learnGroup 19 q_X4_learnGroup_19 := s_dup (by decide +kernel) ok_X4_learnGroup_20
theorem ok_X4_learnGroup_18 : zOK l D tc A nS xs mM_X4_learnGroup 18 q_X4_learnGroup_18 := s_aload_n (q := 0) rfl (by decide +kernel) (by decide +kernel) ok_X4_learnGroup_19
theorem ok_X4_learnGroup_16 : zOK l D tc A nS xs mM_X4_learnGroup 16 q_X4_learnGroup_16 := s_istore (by decide +kernel) (by decide +kernel) ok_X4_learnGroup_18
theorem ok_X4_learnGroup_13 : zOK l D tc A nS xs mM_X4_learnGroup 13 q_X4_learnGroup_13 := r_getf kls_4 (by decide) tx_4_13 rfl w_217 (by decide +kernel) ok_X4_learnGroup_16
theorem ok_X4_learnGroup_12 : zOK l D tc A nS xs mM_X4_learnGroup 12 q_X4_learnGroup_12 := s_aload_n (q := 0) rfl (by decide +kernel) (by decide +kernel) ok_X4_learnGroup_13
theorem ok_X4_learnGroup_7 : zOK l D tc A nS xs mM_X4_learnGroup 7 q_X4_learnGroup_7 := s_icmp_lt (tgt := 12) (off := 5) (by decide +kernel) (by decide) ok_X4_learnGroup_12 s_none
theorem ok_X4_learnGroup_4 : zOK l D tc A nS xs mM_X4_learnGroup 4 q_X4_learnGroup_4 := s_sipush (n := 1024) (by decide) (by decide +kernel) (by decide +kernel) ok_X4_learnGroup_7
theorem ok_X4_learnGroup_1 : zOK l D tc A nS xs mM_X4_learnGroup 1 q_X4_learnGroup_1 := r_getf kls_4 (by decide) tx_4_13 rfl w_217 (by decide +kernel) ok_X4_learnGroup_4
theorem ok_X4_learnGroup_0 : zOK l D tc A nS xs mM_X4_learnGroup 0 q_X4_learnGroup_0 := s_aload_n (q := 0) rfl (by decide +kernel) (by decide +kernel) ok_X4_learnGroup_1
theorem ok_X4_learnVariable_70 : zOK l D tc A nS xs mM_X4_learnVariable 70 q_X4_learnVariable_70 := s_vret rfl (by decide +kernel)
theorem ok_X4_learnVariable_67 : zOK l D tc A nS xs mM_X4_learnVariable 67 q_X4_learnVariable_67 := r_putf kls_4 ty_4_6 zck_int (by decide) tx_4_6 rfl w_218 (by decide +kernel) ok_X4_learnVariable_70
theorem ok_X4_learnVariable_66 : zOK l D tc A nS xs mM_X4_learnVariable 66 q_X4_learnVariable_66 := s_iadd (by decide +kernel) ok_X4_learnVariable_67
theorem ok_X4_learnVariable_65 : zOK l D tc A nS xs mM_X4_learnVariable 65 q_X4_learnVariable_65 := s_iconst (n := 1) (by decide) (by decide +kernel) (by decide +kernel) ok_X4_learnVariable_66
theorem ok_X4_learnVariable_62 : zOK l D tc A nS xs mM_X4_learnVariable 62 q_X4_learnVariable_62 := r_getf kls_4 (by decide) tx_4_6 rfl w_218 (by decide +kernel) ok_X4_learnVariable_65
theorem ok_X4_learnVariable_61 : zOK l D tc A nS xs mM_X4_learnVariable 61 q_X4_learnVariable_61 := s_dup (by decide +kernel) ok_X4_learnVariable_62
theorem ok_X4_learnVariable_60 : zOK l D tc A nS xs mM_X4_learnVariable 60 q_X4_learnVariable_60 := s_aload_n (q := 0) rfl (by decide +kernel) (by decide +kernel) ok_X4_learnVariable_61
theorem ok_X4_learnVariable_59 : zOK l D tc A nS xs mM_X4_learnVariable 59 q_X4_learnVariable_59 := s_iast (t0 := 0) (by decide) (by decide) rfl (by decide +kernel) ok_X4_learnVariable_60
theorem ok_X4_learnVariable_58 : zOK l D tc A nS xs mM_X4_learnVariable 58 q_X4_learnVariable_58 := s_iconst (n := (-1)) (by decide) (by decide +kernel) (by decide +kernel) ok_X4_learnVariable_59
theorem ok_X4_learnVariable_51 : zOK l D tc A nS xs mM_X4_learnVariable 51 q_X4_learnVariable_51 := s_icmp_le (tgt := 58) (off := 7) (by decide +kernel) (by decide) ok_X4_learnVariable_58 s_none
theorem ok_X4_learnVariable_50 : zOK l D tc A nS xs mM_X4_learnVariable 50 q_X4_learnVariable_50 := s_iconst (n := 1) (by decide) (by decide +kernel) (by decide +kernel) ok_X4_learnVariable_51
theorem ok_X4_learnVariable_49 : zOK l D tc A nS xs mM_X4_learnVariable 49 q_X4_learnVariable_49 := s_iload_n (q := 3) rfl (by decide +kernel) (by decide +kernel) ok_X4_learnVariable_50
theorem ok_X4_learnVariable_46 : zOK l D tc A nS xs mM_X4_learnVariable 46 q_X4_learnVariable_46 := r_getf kls_4 (by decide) tx_4_6 rfl w_218 (by decide +kernel) ok_X4_learnVariable_49
theorem ok_X4_learnVariable_45 : zOK l D tc A nS xs mM_X4_learnVariable 45 q_X4_learnVariable_45 := s_aload_n (q := 0) rfl (by decide +kernel) (by decide +kernel) ok_X4_learnVariable_46
theorem ok_X4_learnVariable_42 : zOK l D tc A nS xs mM_X4_learnVariable 42 q_X4_learnVariable_42 := r_getf kls_4 (by decide) tx_4_5 rfl w_220 (by decide +kernel) ok_X4_learnVariable_45
theorem ok_X4_learnVariable_41 : zOK l D tc A nS xs mM_X4_learnVariable 41 q_X4_learnVariable_41 := s_aload_n (q := 0) rfl (by decide +kernel) (by decide +kernel) ok_X4_learnVariable_42
theorem ok_X4_learnVariable_40 : zOK l D tc A nS xs mM_X4_learnVariable 40 q_X4_learnVariable_40 := s_iast (t0 := 0) (by decide) (by decide) rfl (by decide +kernel) ok_X4_learnVariable_41
theorem ok_X4_learnVariable_39 : zOK l D tc A nS xs mM_X4_learnVariable 39 q_X4_learnVariable_39 := s_iconst (n := (-1)) (by decide) (by decide +kernel) (by decide +kernel) ok_X4_learnVariable_40
theorem ok_X4_learnVariable_36 : zOK l D tc A nS xs mM_X4_learnVariable 36 q_X4_learnVariable_36 := s_goto (tgt := 40) (off := 4) (by decide +kernel) (by decide) ok_X4_learnVariable_40
theorem ok_X4_learnVariable_33 : zOK l D tc A nS xs mM_X4_learnVariable 33 q_X4_learnVariable_33 := r_getf kls_4 (by decide) tx_4_14 rfl w_216 (by decide +kernel) ok_X4_learnVariable_36
theorem ok_X4_learnVariable_32 : zOK l D tc A nS xs mM_X4_learnVariable 32 q_X4_learnVariable_32 := s_aload_n (q := 0) rfl (by decide +kernel) (by decide +kernel) ok_X4_learnVariable_33
theorem ok_X4_learnVariable_29 : zOK l D tc A nS xs mM_X4_learnVariable 29 q_X4_learnVariable_29 := s_if_le (tgt := 39) (off := 10) (by decide +kernel) (by decide) ok_X4_learnVariable_39 ok_X4_learnVariable_32
theorem ok_X4_learnVariable_28 : zOK l D tc A nS xs mM_X4_learnVariable 28 q_X4_learnVariable_28 := s_iload_n (q := 3) rfl (by decide +kernel) (by decide +kernel) ok_X4_learnVariable_29
theorem ok_X4_learnVariable_25 : zOK l D tc A nS xs mM_X4_learnVariable 25 q_X4_learnVariable_25 := r_getf kls_4 (by decide) tx_4_6 rfl w_218 (by decide +kernel) ok_X4_learnVariable_28
theorem ok_X4_learnVariable_24 : zOK l D tc A nS xs mM_X4_learnVariable 24 q_X4_learnVariable_24 := s_aload_n (q := 0) rfl (by decide +kernel) (by decide +kernel) ok_X4_learnVariable_25
theorem ok_X4_learnVariable_21 : zOK l D tc A nS xs mM_X4_learnVariable 21 q_X4_learnVariable_21 := r_getf kls_4 (by decide) tx_4_4 rfl w_221 (by decide +kernel) ok_X4_learnVariable_24
theorem ok_X4_learnVariable_20 : zOK l D tc A nS xs mM_X4_learnVariable 20 q_X4_learnVariable_20 := s_aload_n (q := 0) rfl (by decide +kernel) (by decide +kernel) ok_X4_learnVariable_21
theorem ok_X4_learnVariable_19 : zOK l D tc A nS xs mM_X4_learnVariable 19 q_X4_learnVariable_19 := s_iast (t0 := 0) (by decide) (by decide) rfl (by decide +kernel) ok_X4_learnVariable_20
theorem ok_X4_learnVariable_18 : zOK l D tc A nS xs mM_X4_learnVariable 18 q_X4_learnVariable_18 := s_iload_n (q := 1) rfl (by decide +kernel) (by decide +kernel) ok_X4_learnVariable_19
theorem ok_X4_learnVariable_15 : zOK l D tc A nS xs mM_X4_learnVariable 15 q_X4_learnVariable_15 := r_getf kls_4 (by decide) tx_4_6 rfl w_218 (by decide +kernel) ok_X4_learnVariable_18
theorem ok_X4_learnVariable_14 : zOK l D tc A nS xs mM_X4_learnVariable 14 q_X4_learnVariable_14 := s_aload_n (q := 0) rfl (by decide +kernel) (by decide +kernel) ok_X4_learnVariable_15
theorem ok_X4_learnVariable_11 : zOK l D tc A nS xs mM_X4_learnVariable 11 q_X4_learnVariable_11 := r_getf kls_4 (by decide) tx_4_2 rfl w_226 (by decide +kernel) ok_X4_learnVariable_14
theorem ok_X4_learnVariable_10 : zOK l D tc A nS xs mM_X4_learnVariable 10 q_X4_learnVariable_10 := s_aload_n (q := 0) rfl (by decide +kernel) (by decide +kernel) ok_X4_learnVariable_11
theorem ok_X4_learnVariable_7 : zOK l D tc A nS xs mM_X4_learnVariable 7 q_X4_learnVariable_7 := s_icmp_ge (tgt := 70) (off := 63) (by decide +kernel) (by decide) ok_X4_learnVariable_70 ok_X4_learnVariable_10
theorem ok_X4_learnVariable_4 : zOK l D tc A nS xs mM_X4_learnVariable 4 q_X4_learnVariable_4 := s_sipush (n := 2048) (by decide) (by decide +kernel) (by decide +kernel) ok_X4_learnVariable_7
theorem ok_X4_learnVariable_1 : zOK l D tc A nS xs mM_X4_learnVariable 1 q_X4_learnVariable_1 := r_getf kls_4 (by decide) tx_4_6 rfl w_218 (by decide +kernel) ok_X4_learnVariable_4
theorem ok_X4_learnVariable_0 : zOK l D tc A nS xs mM_X4_learnVariable 0 q_X4_learnVariable_0 := s_aload_n (q := 0) rfl (by decide +kernel) (by decide +kernel) ok_X4_learnVariable_1
theorem ok_X5_append_120 : zOK l D tc A nS xs mM_X5_append 120 q_X5_append_120 := s_vret rfl (by decide +kernel)
theorem ok_X5_append_119 : zOK l D tc A nS xs mM_X5_append 119 q_X5_append_119 := s_iast (t0 := 0) (by decide) (by decide) rfl (by decide +kernel) ok_X5_append_120
theorem ok_X5_append_117 : zOK l D tc A nS xs mM_X5_append 117 q_X5_append_117 := s_iload (by decide +kernel) (by decide +kernel) ok_X5_append_119
theorem ok_X5_append_116 : zOK l D tc A nS xs mM_X5_append 116 q_X5_append_116 := s_iload_n (q := 1) rfl (by decide +kernel) (by decide +kernel) ok_X5_append_117
theorem ok_X5_append_113 : zOK l D tc A nS xs mM_X5_append 113 q_X5_append_113 := r_getf kls_5 (by decide) tx_5_7 rfl w_268 (by decide +kernel) ok_X5_append_116
theorem ok_X5_append_112 : zOK l D tc A nS xs mM_X5_append 112 q_X5_append_112 := s_aload_n (q := 0) rfl (by decide +kernel) (by decide +kernel) ok_X5_append_113
theorem ok_X5_append_109 : zOK l D tc A nS xs mM_X5_append 109 q_X5_append_109 := r_callV zEE_ok zTw_gd kls_10 (M2 := mM_X10_setRest) (na := 2) lb_140 calV_X10_setRest rfl rfl w_269 (by decide +kernel) ok_X5_append_112
theorem ok_X5_append_107 : zOK l D tc A nS xs mM_X5_append 107 q_X5_append_107 := s_iload (by decide +kernel) (by decide +kernel) ok_X5_append_109
theorem ok_X5_append_106 : zOK l D tc A nS xs mM_X5_append 106 q_X5_append_106 := s_iald (t0 := 0) (by decide) (by decide) rfl (by decide +kernel) ok_X5_append_107
theorem ok_X5_append_105 : zOK l D tc A nS xs mM_X5_append 105 q_X5_append_105 := s_iload_n (q := 1) rfl (by decide +kernel) (by decide +kernel) ok_X5_append_106
theorem ok_X5_append_102 : zOK l D tc A nS xs mM_X5_append 102 q_X5_append_102 := r_getf kls_5 (by decide) tx_5_7 rfl w_268 (by decide +kernel) ok_X5_append_105
theorem ok_X5_append_101 : zOK l D tc A nS xs mM_X5_append 101 q_X5_append_101 := s_aload_n (q := 0) rfl (by decide +kernel) (by decide +kernel) ok_X5_append_102
theorem ok_X5_append_98 : zOK l D tc A nS xs mM_X5_append 98 q_X5_append_98 := r_getf kls_5 (by decide) tx_5_0 rfl w_273 (by decide +kernel) ok_X5_append_101
theorem ok_X5_append_97 : zOK l D tc A nS xs mM_X5_append 97 q_X5_append_97 := s_aload_n (q := 0) rfl (by decide +kernel) (by decide +kernel) ok_X5_append_98
theorem ok_X5_append_94 : zOK l D tc A nS xs mM_X5_append 94 q_X5_append_94 := s_goto (tgt := 112) (off := 18) (by decide +kernel) (by decide) ok_X5_append_112
theorem ok_X5_append_93 : zOK l D tc A nS xs mM_X5_append 93 q_X5_append_93 := s_iast (t0 := 0) (by decide) (by decide) rfl (by decide +kernel) ok_X5_append_94
theorem ok_X5_append_91 : zOK l D tc A nS xs mM_X5_append 91 q_X5_append_91 := s_iload (by decide +kernel) (by decide +kernel) ok_X5_append_93
theorem ok_X5_append_90 : zOK l D tc A nS xs mM_X5_append 90 q_X5_append_90 := s_iload_n (q := 1) rfl (by decide +kernel) (by decide +kernel) ok_X5_append_91
theorem ok_X5_append_87 : zOK l D tc A nS xs mM_X5_append 87 q_X5_append_87 := r_getf kls_5 (by decide) tx_5_6 rfl w_274 (by decide +kernel) ok_X5_append_90
theorem ok_X5_append_86 : zOK l D tc A nS xs mM_X5_append 86 q_X5_append_86 := s_aload_n (q := 0) rfl (by decide +kernel) (by decide +kernel) ok_X5_append_87
theorem ok_X5_append_83 : zOK l D tc A nS xs mM_X5_append 83 q_X5_append_83 := s_if_eq (tgt := 97) (off := 14) (by decide +kernel) (by decide) ok_X5_append_97 ok_X5_append_86
theorem ok_X5_append_82 : zOK l D tc A nS xs mM_X5_append 82 q_X5_append_82 := s_iload_n (q := 3) rfl (by decide +kernel) (by decide +kernel) ok_X5_append_83
theorem ok_X5_append_80 : zOK l D tc A nS xs mM_X5_append 80 q_X5_append_80 := s_istore (by decide +kernel) (by decide +kernel) ok_X5_append_82
theorem ok_X5_append_77 : zOK l D tc A nS xs mM_X5_append 77 q_X5_append_77 := r_callV zEE_ok zTw_gd kls_10 (M2 := mM_X10_add) (na := 5) lb_117 calV_X10_add rfl rfl w_275 (by decide +kernel) ok_X5_append_80
theorem ok_X5_append_76 : zOK l D tc A nS xs mM_X5_append 76 q_X5_append_76 := s_iconst (n := (-1)) (by decide) (by decide +kernel) (by decide +kernel) ok_X5_append_77
theorem ok_X5_append_75 : zOK l D tc A nS xs mM_X5_append 75 q_X5_append_75 := s_iload_n (q := 2) rfl (by decide +kernel) (by decide +kernel) ok_X5_append_76
theorem ok_X5_append_74 : zOK l D tc A nS xs mM_X5_append 74 q_X5_append_74 := s_iconst (n := 0) (by decide) (by decide +kernel) (by decide +kernel) ok_X5_append_75
theorem ok_X5_append_71 : zOK l D tc A nS xs mM_X5_append 71 q_X5_append_71 := r_callV zEE_ok zTw_gd kls_10 (M2 := mM_X10_place) (na := 1) lb_136 calV_X10_place rfl rfl w_279 (by decide +kernel) ok_X5_append_74
theorem ok_X5_append_70 : zOK l D tc A nS xs mM_X5_append 70 q_X5_append_70 := s_iload_n (q := 2) rfl (by decide +kernel) (by decide +kernel) ok_X5_append_71
theorem ok_X5_append_67 : zOK l D tc A nS xs mM_X5_append 67 q_X5_append_67 := r_getf kls_5 (by decide) tx_5_0 rfl w_273 (by decide +kernel) ok_X5_append_70
theorem ok_X5_append_66 : zOK l D tc A nS xs mM_X5_append 66 q_X5_append_66 := s_aload_n (q := 0) rfl (by decide +kernel) (by decide +kernel) ok_X5_append_67
theorem ok_X5_append_63 : zOK l D tc A nS xs mM_X5_append 63 q_X5_append_63 := s_goto (tgt := 74) (off := 11) (by decide +kernel) (by decide) ok_X5_append_74
theorem ok_X5_append_62 : zOK l D tc A nS xs mM_X5_append 62 q_X5_append_62 := s_iald (t0 := 0) (by decide) (by decide) rfl (by decide +kernel) ok_X5_append_63
theorem ok_X5_append_61 : zOK l D tc A nS xs mM_X5_append 61 q_X5_append_61 := s_iload_n (q := 1) rfl (by decide +kernel) (by decide +kernel) ok_X5_append_62
theorem ok_X5_append_58 : zOK l D tc A nS xs mM_X5_append 58 q_X5_append_58 := r_getf kls_5 (by decide) tx_5_5 rfl w_283 (by decide +kernel) ok_X5_append_61
theorem ok_X5_append_57 : zOK l D tc A nS xs mM_X5_append 57 q_X5_append_57 := s_aload_n (q := 0) rfl (by decide +kernel) (by decide +kernel) ok_X5_append_58
theorem ok_X5_append_54 : zOK l D tc A nS xs mM_X5_append 54 q_X5_append_54 := s_if_eq (tgt := 66) (off := 12) (by decide +kernel) (by decide) ok_X5_append_66 ok_X5_append_57
theorem ok_X5_append_53 : zOK l D tc A nS xs mM_X5_append 53 q_X5_append_53 := s_iload_n (q := 3) rfl (by decide +kernel) (by decide +kernel) ok_X5_append_54
theorem ok_X5_append_52 : zOK l D tc A nS xs mM_X5_append 52 q_X5_append_52 := s_iconst (n := 4) (by decide) (by decide +kernel) (by decide +kernel) ok_X5_append_53
theorem ok_X5_append_49 : zOK l D tc A nS xs mM_X5_append 49 q_X5_append_49 := r_getf kls_5 (by decide) tx_5_0 rfl w_273 (by decide +kernel) ok_X5_append_52
theorem ok_X5_append_48 : zOK l D tc A nS xs mM_X5_append 48 q_X5_append_48 := s_aload_n (q := 0) rfl (by decide +kernel) (by decide +kernel) ok_X5_append_49
theorem ok_X5_append_47 : zOK l D tc A nS xs mM_X5_append 47 q_X5_append_47 := s_istore_n (q := 3) rfl (by decide +kernel) (by decide +kernel) ok_X5_append_48
theorem ok_X5_append_46 : zOK l D tc A nS xs mM_X5_append 46 q_X5_append_46 := s_iconst (n := 0) (by decide) (by decide +kernel) (by decide +kernel) ok_X5_append_47
theorem ok_X5_append_43 : zOK l D tc A nS xs mM_X5_append 43 q_X5_append_43 := s_goto (tgt := 47) (off := 4) (by decide +kernel) (by decide) ok_X5_append_47
theorem ok_X5_append_42 : zOK l D tc A nS xs mM_X5_append 42 q_X5_append_42 := s_iconst (n := 1) (by decide) (by decide +kernel) (by decide +kernel) ok_X5_append_43
theorem ok_X5_append_39 : zOK l D tc A nS xs mM_X5_append 39 q_X5_append_39 := s_icmp_ne (tgt := 46) (off := 7) (by decide +kernel) (by decide) ok_X5_append_46 ok_X5_append_42
theorem ok_X5_append_38 : zOK l D tc A nS xs mM_X5_append 38 q_X5_append_38 := s_iconst (n := (-1)) (by decide) (by decide +kernel) (by decide +kernel) ok_X5_append_39
theorem ok_X5_append_37 : zOK l D tc A nS xs mM_X5_append 37 q_X5_append_37 := s_iald (t0 := 0) (by decide) (by decide) rfl (by decide +kernel) ok_X5_append_38
theorem ok_X5_append_36 : zOK l D tc A nS xs mM_X5_append 36 q_X5_append_36 := s_iload_n (q := 1) rfl (by decide +kernel) (by decide +kernel) ok_X5_append_37
theorem ok_X5_append_33 : zOK l D tc A nS xs mM_X5_append 33 q_X5_append_33 := r_getf kls_5 (by decide) tx_5_6 rfl w_274 (by decide +kernel) ok_X5_append_36
theorem ok_X5_append_32 : zOK l D tc A nS xs mM_X5_append 32 q_X5_append_32 := s_aload_n (q := 0) rfl (by decide +kernel) (by decide +kernel) ok_X5_append_33
theorem ok_X5_append_7 : zOK l D tc A nS xs mM_X5_append 7 q_X5_append_7 := s_icmp_ne (tgt := 32) (off := 25) (by decide +kernel) (by decide) ok_X5_append_32 s_none
theorem ok_X5_append_6 : zOK l D tc A nS xs mM_X5_append 6 q_X5_append_6 := s_iconst (n := 2) (by decide) (by decide +kernel) (by decide +kernel) ok_X5_append_7
theorem ok_X5_append_5 : zOK l D tc A nS xs mM_X5_append 5 q_X5_append_5 := s_iald (t0 := 0) (by decide) (by decide) rfl (by decide +kernel) ok_X5_append_6
theorem ok_X5_append_4 : zOK l D tc A nS xs mM_X5_append 4 q_X5_append_4 := s_iload_n (q := 1) rfl (by decide +kernel) (by decide +kernel) ok_X5_append_5
theorem ok_X5_append_1 : zOK l D tc A nS xs mM_X5_append 1 q_X5_append_1 := r_getf kls_5 (by decide) tx_5_4 rfl w_284 (by decide +kernel) ok_X5_append_4
theorem ok_X5_append_0 : zOK l D tc A nS xs mM_X5_append 0 q_X5_append_0 := s_aload_n (q := 0) rfl (by decide +kernel) (by decide +kernel) ok_X5_append_1
end ZRows
