section ZRows
variable {l : Launch} {D : va_G} {tc : Nat → ClassId} {A : Nat → Prop} {nS : Nat} {xs : Nat → Int32}
theorem ok_J0_coder_7d493_14 : zOK l D tc A nS xs mM_J0_coder_7d493 14 q_J0_coder_7d493_14 := s_bret rfl (by decide +kernel)
theorem ok_J0_coder_7d493_10 : zOK l D tc A nS xs mM_J0_coder_7d493 10 q_J0_coder_7d493_10 := s_goto (tgt := 14) (off := 4) (by decide +kernel) (by decide) ok_J0_coder_7d493_14
theorem ok_J0_coder_7d493_7 : zOK l D tc A nS xs mM_J0_coder_7d493 7 q_J0_coder_7d493_7 := s_scod (fun U f h => h.2.1) w_10 (by decide +kernel) ok_J0_coder_7d493_10
theorem ok_J0_coder_7d493_6 : zOK l D tc A nS xs mM_J0_coder_7d493 6 q_J0_coder_7d493_6 := s_aload_n (q := 0) rfl (by decide +kernel) (by decide +kernel) ok_J0_coder_7d493_7
theorem ok_J0_coder_7d493_3 : zOK l D tc A nS xs mM_J0_coder_7d493 3 q_J0_coder_7d493_3 := s_if_eq (tgt := 13) (off := 10) (by decide +kernel) (by decide) s_none ok_J0_coder_7d493_6
theorem ok_J0_coder_7d493_0 : zOK l D tc A nS xs mM_J0_coder_7d493 0 q_J0_coder_7d493_0 := s_gets (fun U f h => h.2.2.2.1) w_11 (by decide +kernel) ok_J0_coder_7d493_3
theorem ok_J0_isLatin1_aae02_18 : zOK l D tc A nS xs mM_J0_isLatin1_aae02 18 q_J0_isLatin1_aae02_18 := s_zret rfl (by decide +kernel)
theorem ok_J0_isLatin1_aae02_14 : zOK l D tc A nS xs mM_J0_isLatin1_aae02 14 q_J0_isLatin1_aae02_14 := s_goto (tgt := 18) (off := 4) (by decide +kernel) (by decide) ok_J0_isLatin1_aae02_18
theorem ok_J0_isLatin1_aae02_13 : zOK l D tc A nS xs mM_J0_isLatin1_aae02 13 q_J0_isLatin1_aae02_13 := s_iconst (n := 1) (by decide) (by decide +kernel) (by decide +kernel) ok_J0_isLatin1_aae02_14
theorem ok_J0_isLatin1_aae02_10 : zOK l D tc A nS xs mM_J0_isLatin1_aae02 10 q_J0_isLatin1_aae02_10 := s_if_ne (tgt := 17) (off := 7) (by decide +kernel) (by decide) s_none ok_J0_isLatin1_aae02_13
theorem ok_J0_isLatin1_aae02_7 : zOK l D tc A nS xs mM_J0_isLatin1_aae02 7 q_J0_isLatin1_aae02_7 := s_scod (fun U f h => h.2.1) w_10 (by decide +kernel) ok_J0_isLatin1_aae02_10
theorem ok_J0_isLatin1_aae02_6 : zOK l D tc A nS xs mM_J0_isLatin1_aae02 6 q_J0_isLatin1_aae02_6 := s_aload_n (q := 0) rfl (by decide +kernel) (by decide +kernel) ok_J0_isLatin1_aae02_7
theorem ok_J0_isLatin1_aae02_3 : zOK l D tc A nS xs mM_J0_isLatin1_aae02 3 q_J0_isLatin1_aae02_3 := s_if_eq (tgt := 17) (off := 14) (by decide +kernel) (by decide) s_none ok_J0_isLatin1_aae02_6
theorem ok_J0_isLatin1_aae02_0 : zOK l D tc A nS xs mM_J0_isLatin1_aae02 0 q_J0_isLatin1_aae02_0 := s_gets (fun U f h => h.2.2.2.1) w_11 (by decide +kernel) ok_J0_isLatin1_aae02_3
theorem ok_J0_length_8abf5_10 : zOK l D tc A nS xs mM_J0_length_8abf5 10 q_J0_length_8abf5_10 := s_iret rfl (by decide +kernel)
theorem ok_J0_length_8abf5_9 : zOK l D tc A nS xs mM_J0_length_8abf5 9 q_J0_length_8abf5_9 := s_ishr (by decide +kernel) ok_J0_length_8abf5_10
theorem ok_J0_length_8abf5_6 : zOK l D tc A nS xs mM_J0_length_8abf5 6 q_J0_length_8abf5_6 := r_callT zEE_ok zTw_gd (fun U f h => h.2.1) (M2 := mM_J0_coder_7d493) (na := 0) lb_1 calV_J0_coder_7d493 rfl rfl w_23 (by decide +kernel) ok_J0_length_8abf5_9
theorem ok_J0_length_8abf5_5 : zOK l D tc A nS xs mM_J0_length_8abf5 5 q_J0_length_8abf5_5 := s_aload_n (q := 0) rfl (by decide +kernel) (by decide +kernel) ok_J0_length_8abf5_6
theorem ok_J0_length_8abf5_4 : zOK l D tc A nS xs mM_J0_length_8abf5 4 q_J0_length_8abf5_4 := s_tlen (fun U f h => h.2.1) zTok_ok (by decide +kernel) ok_J0_length_8abf5_5
theorem ok_J0_length_8abf5_1 : zOK l D tc A nS xs mM_J0_length_8abf5 1 q_J0_length_8abf5_1 := s_sval (fun U f h => h.2.1) w_4 (by decide +kernel) ok_J0_length_8abf5_4
theorem ok_J0_length_8abf5_0 : zOK l D tc A nS xs mM_J0_length_8abf5 0 q_J0_length_8abf5_0 := s_aload_n (q := 0) rfl (by decide +kernel) (by decide +kernel) ok_J0_length_8abf5_1
theorem ok_J1_charAt_3b067_14 : zOK l D tc A nS xs mM_J1_charAt_3b067 14 q_J1_charAt_3b067_14 := s_cret rfl (by decide +kernel)
theorem ok_J1_charAt_3b067_13 : zOK l D tc A nS xs mM_J1_charAt_3b067 13 q_J1_charAt_3b067_13 := s_i2c (by decide +kernel) ok_J1_charAt_3b067_14
theorem ok_J1_charAt_3b067_12 : zOK l D tc A nS xs mM_J1_charAt_3b067 12 q_J1_charAt_3b067_12 := s_iand (by decide +kernel) ok_J1_charAt_3b067_13
theorem ok_J1_charAt_3b067_9 : zOK l D tc A nS xs mM_J1_charAt_3b067 9 q_J1_charAt_3b067_9 := s_sipush (n := 255) (by decide) (by decide +kernel) (by decide +kernel) ok_J1_charAt_3b067_12
theorem ok_J1_charAt_3b067_8 : zOK l D tc A nS xs mM_J1_charAt_3b067 8 q_J1_charAt_3b067_8 := s_tald (fun U f h => h.2.1) zTok_ok (by decide +kernel) ok_J1_charAt_3b067_9
theorem ok_J1_charAt_3b067_7 : zOK l D tc A nS xs mM_J1_charAt_3b067 7 q_J1_charAt_3b067_7 := s_iload_n (q := 1) rfl (by decide +kernel) (by decide +kernel) ok_J1_charAt_3b067_8
theorem ok_J1_charAt_3b067_6 : zOK l D tc A nS xs mM_J1_charAt_3b067 6 q_J1_charAt_3b067_6 := s_aload_n (q := 0) rfl (by decide +kernel) (by decide +kernel) ok_J1_charAt_3b067_7
theorem ok_J1_charAt_3b067_3 : zOK l D tc A nS xs mM_J1_charAt_3b067 3 q_J1_charAt_3b067_3 := s_chk zEE_ok (fun U f h => h.2.2.2.2.1) zChk_ok w_27 (by decide +kernel) ok_J1_charAt_3b067_6
theorem ok_J1_charAt_3b067_2 : zOK l D tc A nS xs mM_J1_charAt_3b067 2 q_J1_charAt_3b067_2 := s_tlen (fun U f h => h.2.1) zTok_ok (by decide +kernel) ok_J1_charAt_3b067_3
theorem ok_J1_charAt_3b067_1 : zOK l D tc A nS xs mM_J1_charAt_3b067 1 q_J1_charAt_3b067_1 := s_aload_n (q := 0) rfl (by decide +kernel) (by decide +kernel) ok_J1_charAt_3b067_2
theorem ok_J1_charAt_3b067_0 : zOK l D tc A nS xs mM_J1_charAt_3b067 0 q_J1_charAt_3b067_0 := s_iload_n (q := 1) rfl (by decide +kernel) (by decide +kernel) ok_J1_charAt_3b067_1
theorem ok_J0_charAt_5068e_15 : zOK l D tc A nS xs mM_J0_charAt_5068e 15 q_J0_charAt_5068e_15 := s_cret rfl (by decide +kernel)
theorem ok_J0_charAt_5068e_12 : zOK l D tc A nS xs mM_J0_charAt_5068e 12 q_J0_charAt_5068e_12 := r_callS zEE_ok zTw_gd (M2 := mM_J1_charAt_3b067) lb_7 calS_J1_charAt_3b067 rfl rfl w_0 (by decide +kernel) ok_J0_charAt_5068e_15
theorem ok_J0_charAt_5068e_11 : zOK l D tc A nS xs mM_J0_charAt_5068e 11 q_J0_charAt_5068e_11 := s_iload_n (q := 1) rfl (by decide +kernel) (by decide +kernel) ok_J0_charAt_5068e_12
theorem ok_J0_charAt_5068e_8 : zOK l D tc A nS xs mM_J0_charAt_5068e 8 q_J0_charAt_5068e_8 := s_sval (fun U f h => h.2.1) w_4 (by decide +kernel) ok_J0_charAt_5068e_11
theorem ok_J0_charAt_5068e_7 : zOK l D tc A nS xs mM_J0_charAt_5068e 7 q_J0_charAt_5068e_7 := s_aload_n (q := 0) rfl (by decide +kernel) (by decide +kernel) ok_J0_charAt_5068e_8
theorem ok_J0_charAt_5068e_4 : zOK l D tc A nS xs mM_J0_charAt_5068e 4 q_J0_charAt_5068e_4 := s_if_eq (tgt := 16) (off := 12) (by decide +kernel) (by decide) s_none ok_J0_charAt_5068e_7
theorem ok_J0_charAt_5068e_1 : zOK l D tc A nS xs mM_J0_charAt_5068e 1 q_J0_charAt_5068e_1 := r_callT zEE_ok zTw_gd (fun U f h => h.2.1) (M2 := mM_J0_isLatin1_aae02) (na := 0) lb_4 calV_J0_isLatin1_aae02 rfl rfl w_5 (by decide +kernel) ok_J0_charAt_5068e_4
theorem ok_J0_charAt_5068e_0 : zOK l D tc A nS xs mM_J0_charAt_5068e 0 q_J0_charAt_5068e_0 := s_aload_n (q := 0) rfl (by decide +kernel) (by decide +kernel) ok_J0_charAt_5068e_1
theorem ok_X12_wordAt_67 : zOK l D tc A nS xs mM_X12_wordAt 67 q_X12_wordAt_67 := s_iret rfl (by decide +kernel)
theorem ok_X12_wordAt_66 : zOK l D tc A nS xs mM_X12_wordAt 66 q_X12_wordAt_66 := s_ior (by decide +kernel) ok_X12_wordAt_67
theorem ok_X12_wordAt_65 : zOK l D tc A nS xs mM_X12_wordAt 65 q_X12_wordAt_65 := s_ishl (by decide +kernel) ok_X12_wordAt_66
theorem ok_X12_wordAt_63 : zOK l D tc A nS xs mM_X12_wordAt 63 q_X12_wordAt_63 := s_bipush (n := 8) (by decide) (by decide +kernel) (by decide +kernel) ok_X12_wordAt_65
theorem ok_X12_wordAt_62 : zOK l D tc A nS xs mM_X12_wordAt 62 q_X12_wordAt_62 := s_iald (t0 := 0) (by decide) (by decide) rfl (by decide +kernel) ok_X12_wordAt_63
theorem ok_X12_wordAt_61 : zOK l D tc A nS xs mM_X12_wordAt 61 q_X12_wordAt_61 := s_iadd (by decide +kernel) ok_X12_wordAt_62
theorem ok_X12_wordAt_60 : zOK l D tc A nS xs mM_X12_wordAt 60 q_X12_wordAt_60 := s_iconst (n := 1) (by decide) (by decide +kernel) (by decide +kernel) ok_X12_wordAt_61
theorem ok_X12_wordAt_59 : zOK l D tc A nS xs mM_X12_wordAt 59 q_X12_wordAt_59 := s_iload_n (q := 1) rfl (by decide +kernel) (by decide +kernel) ok_X12_wordAt_60
theorem ok_X12_wordAt_58 : zOK l D tc A nS xs mM_X12_wordAt 58 q_X12_wordAt_58 := s_aald (t0 := 2) (ty := .array .int) rfl rfl (by decide +kernel) ok_X12_wordAt_59
theorem ok_X12_wordAt_55 : zOK l D tc A nS xs mM_X12_wordAt 55 q_X12_wordAt_55 := r_getf kls_12 (by decide) tx_12_3 rfl w_821 (by decide +kernel) ok_X12_wordAt_58
theorem ok_X12_wordAt_54 : zOK l D tc A nS xs mM_X12_wordAt 54 q_X12_wordAt_54 := s_aload_n (q := 0) rfl (by decide +kernel) (by decide +kernel) ok_X12_wordAt_55
theorem ok_X12_wordAt_51 : zOK l D tc A nS xs mM_X12_wordAt 51 q_X12_wordAt_51 := r_getf kls_12 (by decide) tx_12_0 rfl w_871 (by decide +kernel) ok_X12_wordAt_54
theorem ok_X12_wordAt_50 : zOK l D tc A nS xs mM_X12_wordAt 50 q_X12_wordAt_50 := s_aload_n (q := 0) rfl (by decide +kernel) (by decide +kernel) ok_X12_wordAt_51
theorem ok_X12_wordAt_49 : zOK l D tc A nS xs mM_X12_wordAt 49 q_X12_wordAt_49 := s_iald (t0 := 0) (by decide) (by decide) rfl (by decide +kernel) ok_X12_wordAt_50
theorem ok_X12_wordAt_48 : zOK l D tc A nS xs mM_X12_wordAt 48 q_X12_wordAt_48 := s_iload_n (q := 1) rfl (by decide +kernel) (by decide +kernel) ok_X12_wordAt_49
theorem ok_X12_wordAt_47 : zOK l D tc A nS xs mM_X12_wordAt 47 q_X12_wordAt_47 := s_aald (t0 := 2) (ty := .array .int) rfl rfl (by decide +kernel) ok_X12_wordAt_48
theorem ok_X12_wordAt_44 : zOK l D tc A nS xs mM_X12_wordAt 44 q_X12_wordAt_44 := r_getf kls_12 (by decide) tx_12_3 rfl w_821 (by decide +kernel) ok_X12_wordAt_47
theorem ok_X12_wordAt_43 : zOK l D tc A nS xs mM_X12_wordAt 43 q_X12_wordAt_43 := s_aload_n (q := 0) rfl (by decide +kernel) (by decide +kernel) ok_X12_wordAt_44
theorem ok_X12_wordAt_40 : zOK l D tc A nS xs mM_X12_wordAt 40 q_X12_wordAt_40 := r_getf kls_12 (by decide) tx_12_0 rfl w_871 (by decide +kernel) ok_X12_wordAt_43
theorem ok_X12_wordAt_39 : zOK l D tc A nS xs mM_X12_wordAt 39 q_X12_wordAt_39 := s_aload_n (q := 0) rfl (by decide +kernel) (by decide +kernel) ok_X12_wordAt_40
theorem ok_X12_wordAt_29 : zOK l D tc A nS xs mM_X12_wordAt 29 q_X12_wordAt_29 := s_icmp_lt (tgt := 39) (off := 10) (by decide +kernel) (by decide) ok_X12_wordAt_39 s_none
theorem ok_X12_wordAt_28 : zOK l D tc A nS xs mM_X12_wordAt 28 q_X12_wordAt_28 := s_len (t0 := 0) (ty := .int) (by decide) (by decide) rfl (by decide +kernel) ok_X12_wordAt_29
theorem ok_X12_wordAt_27 : zOK l D tc A nS xs mM_X12_wordAt 27 q_X12_wordAt_27 := s_aald (t0 := 2) (ty := .array .int) rfl rfl (by decide +kernel) ok_X12_wordAt_28
theorem ok_X12_wordAt_24 : zOK l D tc A nS xs mM_X12_wordAt 24 q_X12_wordAt_24 := r_getf kls_12 (by decide) tx_12_3 rfl w_821 (by decide +kernel) ok_X12_wordAt_27
theorem ok_X12_wordAt_23 : zOK l D tc A nS xs mM_X12_wordAt 23 q_X12_wordAt_23 := s_aload_n (q := 0) rfl (by decide +kernel) (by decide +kernel) ok_X12_wordAt_24
theorem ok_X12_wordAt_20 : zOK l D tc A nS xs mM_X12_wordAt 20 q_X12_wordAt_20 := r_getf kls_12 (by decide) tx_12_0 rfl w_871 (by decide +kernel) ok_X12_wordAt_23
theorem ok_X12_wordAt_19 : zOK l D tc A nS xs mM_X12_wordAt 19 q_X12_wordAt_19 := s_aload_n (q := 0) rfl (by decide +kernel) (by decide +kernel) ok_X12_wordAt_20
theorem ok_X12_wordAt_18 : zOK l D tc A nS xs mM_X12_wordAt 18 q_X12_wordAt_18 := s_iadd (by decide +kernel) ok_X12_wordAt_19
theorem ok_X12_wordAt_17 : zOK l D tc A nS xs mM_X12_wordAt 17 q_X12_wordAt_17 := s_iconst (n := 1) (by decide) (by decide +kernel) (by decide +kernel) ok_X12_wordAt_18
theorem ok_X12_wordAt_16 : zOK l D tc A nS xs mM_X12_wordAt 16 q_X12_wordAt_16 := s_iload_n (q := 1) rfl (by decide +kernel) (by decide +kernel) ok_X12_wordAt_17
theorem ok_X12_wordAt_13 : zOK l D tc A nS xs mM_X12_wordAt 13 q_X12_wordAt_13 := s_icmp_eq (tgt := 32) (off := 19) (by decide +kernel) (by decide) s_none ok_X12_wordAt_16
theorem ok_X12_wordAt_12 : zOK l D tc A nS xs mM_X12_wordAt 12 q_X12_wordAt_12 := s_iconst (n := 1) (by decide) (by decide +kernel) (by decide +kernel) ok_X12_wordAt_13
theorem ok_X12_wordAt_11 : zOK l D tc A nS xs mM_X12_wordAt 11 q_X12_wordAt_11 := s_iand (by decide +kernel) ok_X12_wordAt_12
theorem ok_X12_wordAt_10 : zOK l D tc A nS xs mM_X12_wordAt 10 q_X12_wordAt_10 := s_iconst (n := 1) (by decide) (by decide +kernel) (by decide +kernel) ok_X12_wordAt_11
theorem ok_X12_wordAt_9 : zOK l D tc A nS xs mM_X12_wordAt 9 q_X12_wordAt_9 := s_iload_n (q := 1) rfl (by decide +kernel) (by decide +kernel) ok_X12_wordAt_10
theorem ok_X12_wordAt_4 : zOK l D tc A nS xs mM_X12_wordAt 4 q_X12_wordAt_4 := s_if_le (tgt := 9) (off := 5) (by decide +kernel) (by decide) ok_X12_wordAt_9 s_none
theorem ok_X12_wordAt_1 : zOK l D tc A nS xs mM_X12_wordAt 1 q_X12_wordAt_1 := r_getf kls_12 (by decide) tx_12_4 rfl w_785 (by decide +kernel) ok_X12_wordAt_4
theorem ok_X12_wordAt_0 : zOK l D tc A nS xs mM_X12_wordAt 0 q_X12_wordAt_0 := s_aload_n (q := 0) rfl (by decide +kernel) (by decide +kernel) ok_X12_wordAt_1
theorem ok_X12_setR_15 : zOK l D tc A nS xs mM_X12_setR 15 q_X12_setR_15 := s_vret rfl (by decide +kernel)
theorem ok_X12_setR_14 : zOK l D tc A nS xs mM_X12_setR 14 q_X12_setR_14 := s_iast (t0 := 0) (by decide) (by decide) rfl (by decide +kernel) ok_X12_setR_15
theorem ok_X12_setR_13 : zOK l D tc A nS xs mM_X12_setR 13 q_X12_setR_13 := s_iand (by decide +kernel) ok_X12_setR_14
theorem ok_X12_setR_11 : zOK l D tc A nS xs mM_X12_setR 11 q_X12_setR_11 := r_ldc (by decide) (x := (65535 : Int32)) (by decide +kernel) rfl w_935 (by decide +kernel) ok_X12_setR_13
theorem ok_X12_setR_10 : zOK l D tc A nS xs mM_X12_setR 10 q_X12_setR_10 := s_iload_n (q := 2) rfl (by decide +kernel) (by decide +kernel) ok_X12_setR_11
theorem ok_X12_setR_9 : zOK l D tc A nS xs mM_X12_setR 9 q_X12_setR_9 := s_iload_n (q := 1) rfl (by decide +kernel) (by decide +kernel) ok_X12_setR_10
theorem ok_X12_setR_8 : zOK l D tc A nS xs mM_X12_setR 8 q_X12_setR_8 := s_aald (t0 := 2) (ty := .array .int) rfl rfl (by decide +kernel) ok_X12_setR_9
theorem ok_X12_setR_5 : zOK l D tc A nS xs mM_X12_setR 5 q_X12_setR_5 := r_getf kls_12 (by decide) tx_12_3 rfl w_821 (by decide +kernel) ok_X12_setR_8
theorem ok_X12_setR_4 : zOK l D tc A nS xs mM_X12_setR 4 q_X12_setR_4 := s_aload_n (q := 0) rfl (by decide +kernel) (by decide +kernel) ok_X12_setR_5
theorem ok_X12_setR_1 : zOK l D tc A nS xs mM_X12_setR 1 q_X12_setR_1 := r_getf kls_12 (by decide) tx_12_1 rfl w_870 (by decide +kernel) ok_X12_setR_4
theorem ok_X12_setR_0 : zOK l D tc A nS xs mM_X12_setR 0 q_X12_setR_0 := s_aload_n (q := 0) rfl (by decide +kernel) (by decide +kernel) ok_X12_setR_1
theorem ok_X12_r_11 : zOK l D tc A nS xs mM_X12_r 11 q_X12_r_11 := s_iret rfl (by decide +kernel)
theorem ok_X12_r_10 : zOK l D tc A nS xs mM_X12_r 10 q_X12_r_10 := s_iald (t0 := 0) (by decide) (by decide) rfl (by decide +kernel) ok_X12_r_11
theorem ok_X12_r_9 : zOK l D tc A nS xs mM_X12_r 9 q_X12_r_9 := s_iload_n (q := 1) rfl (by decide +kernel) (by decide +kernel) ok_X12_r_10
theorem ok_X12_r_8 : zOK l D tc A nS xs mM_X12_r 8 q_X12_r_8 := s_aald (t0 := 2) (ty := .array .int) rfl rfl (by decide +kernel) ok_X12_r_9
theorem ok_X12_r_5 : zOK l D tc A nS xs mM_X12_r 5 q_X12_r_5 := r_getf kls_12 (by decide) tx_12_3 rfl w_821 (by decide +kernel) ok_X12_r_8
theorem ok_X12_r_4 : zOK l D tc A nS xs mM_X12_r 4 q_X12_r_4 := s_aload_n (q := 0) rfl (by decide +kernel) (by decide +kernel) ok_X12_r_5
theorem ok_X12_r_1 : zOK l D tc A nS xs mM_X12_r 1 q_X12_r_1 := r_getf kls_12 (by decide) tx_12_1 rfl w_870 (by decide +kernel) ok_X12_r_4
theorem ok_X12_r_0 : zOK l D tc A nS xs mM_X12_r 0 q_X12_r_0 := s_aload_n (q := 0) rfl (by decide +kernel) (by decide +kernel) ok_X12_r_1
theorem ok_X11_init_231 : zOK l D tc A nS xs mM_X11_init 231 q_X11_init_231 := s_vret rfl (by decide +kernel)
theorem ok_X11_init_230 : zOK l D tc A nS xs mM_X11_init 230 q_X11_init_230 := s_pop (by decide +kernel) ok_X11_init_231
theorem ok_X11_init_227 : zOK l D tc A nS xs mM_X11_init 227 q_X11_init_227 := r_callV zEE_ok zTw_gd kls_11 (M2 := mM_X11_takeText) (na := 2) lb_169 calV_X11_takeText rfl rfl w_552 (by decide +kernel) ok_X11_init_230
theorem ok_X11_init_224 : zOK l D tc A nS xs mM_X11_init 224 q_X11_init_224 := r_getf kls_11 (by decide) tx_11_15 rfl w_555 (by decide +kernel) ok_X11_init_227
theorem ok_X11_init_223 : zOK l D tc A nS xs mM_X11_init 223 q_X11_init_223 := s_aload_n (q := 0) rfl (by decide +kernel) (by decide +kernel) ok_X11_init_224
theorem ok_X11_init_220 : zOK l D tc A nS xs mM_X11_init 220 q_X11_init_220 := r_getf kls_11 (by decide) tx_11_14 rfl w_556 (by decide +kernel) ok_X11_init_223
theorem ok_X11_init_219 : zOK l D tc A nS xs mM_X11_init 219 q_X11_init_219 := s_aload_n (q := 0) rfl (by decide +kernel) (by decide +kernel) ok_X11_init_220
theorem ok_X11_init_218 : zOK l D tc A nS xs mM_X11_init 218 q_X11_init_218 := s_aload_n (q := 0) rfl (by decide +kernel) (by decide +kernel) ok_X11_init_219
theorem ok_X11_init_215 : zOK l D tc A nS xs mM_X11_init 215 q_X11_init_215 := r_callV zEE_ok zTw_gd kls_11 (M2 := mM_X11_writePrelude) (na := 0) lb_177 calV_X11_writePrelude rfl rfl w_557 (by decide +kernel) ok_X11_init_218
theorem ok_X11_init_214 : zOK l D tc A nS xs mM_X11_init 214 q_X11_init_214 := s_aload_n (q := 0) rfl (by decide +kernel) (by decide +kernel) ok_X11_init_215
theorem ok_X11_init_211 : zOK l D tc A nS xs mM_X11_init 211 q_X11_init_211 := r_callV zEE_ok zTw_gd kls_11 (M2 := mM_X11_readNames) (na := 0) lb_162 calV_X11_readNames rfl rfl w_560 (by decide +kernel) ok_X11_init_214
theorem ok_X11_init_210 : zOK l D tc A nS xs mM_X11_init 210 q_X11_init_210 := s_aload_n (q := 0) rfl (by decide +kernel) (by decide +kernel) ok_X11_init_211
theorem ok_X11_init_207 : zOK l D tc A nS xs mM_X11_init 207 q_X11_init_207 := r_callV zEE_ok zTw_gd kls_11 (M2 := mM_X11_clearScheme) (na := 0) lb_145 calV_X11_clearScheme rfl rfl w_563 (by decide +kernel) ok_X11_init_210
theorem ok_X11_init_206 : zOK l D tc A nS xs mM_X11_init 206 q_X11_init_206 := s_aload_n (q := 0) rfl (by decide +kernel) (by decide +kernel) ok_X11_init_207
theorem ok_X11_init_203 : zOK l D tc A nS xs mM_X11_init 203 q_X11_init_203 := r_putf kls_11 ty_11_17 zck_int (by decide) tx_11_17 rfl w_500 (by decide +kernel) ok_X11_init_206
theorem ok_X11_init_202 : zOK l D tc A nS xs mM_X11_init 202 q_X11_init_202 := s_iconst (n := (-1)) (by decide) (by decide +kernel) (by decide +kernel) ok_X11_init_203
theorem ok_X11_init_201 : zOK l D tc A nS xs mM_X11_init 201 q_X11_init_201 := s_aload_n (q := 0) rfl (by decide +kernel) (by decide +kernel) ok_X11_init_202
theorem ok_X11_init_198 : zOK l D tc A nS xs mM_X11_init 198 q_X11_init_198 := r_putF kls_11 ty_11_14 (zck_arr _) (by decide) tx_11_14 rfl rfl rfl w_556 (by decide +kernel) ok_X11_init_201
theorem ok_X11_init_196 : zOK l D tc A nS xs mM_X11_init 196 q_X11_init_196 := r_newa (t0 := 0) (atype := .int) (ty := .int) rfl (by decide) rfl rfl z_RA_int rfl (by decide) w_109 (by decide +kernel) ok_X11_init_198
theorem ok_X11_init_193 : zOK l D tc A nS xs mM_X11_init 193 q_X11_init_193 := s_sipush (n := 2000) (by decide) (by decide +kernel) (by decide +kernel) ok_X11_init_196
theorem ok_X11_init_192 : zOK l D tc A nS xs mM_X11_init 192 q_X11_init_192 := s_aload_n (q := 0) rfl (by decide +kernel) (by decide +kernel) ok_X11_init_193
theorem ok_X11_init_189 : zOK l D tc A nS xs mM_X11_init 189 q_X11_init_189 := r_putF kls_11 ty_11_13 (zck_arr _) (by decide) tx_11_13 rfl rfl rfl w_566 (by decide +kernel) ok_X11_init_192
theorem ok_X11_init_187 : zOK l D tc A nS xs mM_X11_init 187 q_X11_init_187 := r_newa (t0 := 0) (atype := .int) (ty := .int) rfl (by decide) rfl rfl z_RA_int rfl (by decide) w_109 (by decide +kernel) ok_X11_init_189
theorem ok_X11_init_185 : zOK l D tc A nS xs mM_X11_init 185 q_X11_init_185 := s_bipush (n := 40) (by decide) (by decide +kernel) (by decide +kernel) ok_X11_init_187
theorem ok_X11_init_184 : zOK l D tc A nS xs mM_X11_init 184 q_X11_init_184 := s_aload_n (q := 0) rfl (by decide +kernel) (by decide +kernel) ok_X11_init_185
theorem ok_X11_init_181 : zOK l D tc A nS xs mM_X11_init 181 q_X11_init_181 := r_putF kls_11 ty_11_12 (zck_obj _) (by decide) tx_11_12 rfl rfl rfl w_567 (by decide +kernel) ok_X11_init_184
theorem ok_X11_init_178 : zOK l D tc A nS xs mM_X11_init 178 q_X11_init_178 := r_callI zEE_ok zTw_gd (M2 := mM_X0_init) (na := 3) rfl lb_20 calI_X0_init rfl rfl w_568 (by decide +kernel) ok_X11_init_181
theorem ok_X11_init_175 : zOK l D tc A nS xs mM_X11_init 175 q_X11_init_175 := r_getf kls_11 (by decide) tx_11_10 rfl w_506 (by decide +kernel) ok_X11_init_178
theorem ok_X11_init_174 : zOK l D tc A nS xs mM_X11_init 174 q_X11_init_174 := s_aload_n (q := 0) rfl (by decide +kernel) (by decide +kernel) ok_X11_init_175
theorem ok_X11_init_171 : zOK l D tc A nS xs mM_X11_init 171 q_X11_init_171 := r_getf kls_11 (by decide) tx_11_5 rfl w_532 (by decide +kernel) ok_X11_init_174
theorem ok_X11_init_170 : zOK l D tc A nS xs mM_X11_init 170 q_X11_init_170 := s_aload_n (q := 0) rfl (by decide +kernel) (by decide +kernel) ok_X11_init_171
theorem ok_X11_init_167 : zOK l D tc A nS xs mM_X11_init 167 q_X11_init_167 := r_getf kls_11 (by decide) tx_11_9 rfl w_511 (by decide +kernel) ok_X11_init_170
theorem ok_X11_init_166 : zOK l D tc A nS xs mM_X11_init 166 q_X11_init_166 := s_aload_n (q := 0) rfl (by decide +kernel) (by decide +kernel) ok_X11_init_167
theorem ok_X11_init_165 : zOK l D tc A nS xs mM_X11_init 165 q_X11_init_165 := s_dup (by decide +kernel) ok_X11_init_166
theorem ok_X11_init_162 : zOK l D tc A nS xs mM_X11_init 162 q_X11_init_162 := r_new (N := 14) rfl kls_0 rfl rfl (by decide) zdf_0 rfl w_571 w_572 w_49 (by decide +kernel) ok_X11_init_165
theorem ok_X11_init_161 : zOK l D tc A nS xs mM_X11_init 161 q_X11_init_161 := s_aload_n (q := 0) rfl (by decide +kernel) (by decide +kernel) ok_X11_init_162
theorem ok_X11_init_158 : zOK l D tc A nS xs mM_X11_init 158 q_X11_init_158 := r_putF kls_11 ty_11_11 (zck_obj _) (by decide) tx_11_11 rfl rfl rfl w_573 (by decide +kernel) ok_X11_init_161
theorem ok_X11_init_155 : zOK l D tc A nS xs mM_X11_init 155 q_X11_init_155 := r_callI zEE_ok zTw_gd (M2 := mM_X5_init) (na := 2) rfl lb_73 calI_X5_init rfl rfl w_574 (by decide +kernel) ok_X11_init_158
theorem ok_X11_init_152 : zOK l D tc A nS xs mM_X11_init 152 q_X11_init_152 := r_getf kls_11 (by decide) tx_11_5 rfl w_532 (by decide +kernel) ok_X11_init_155
theorem ok_X11_init_151 : zOK l D tc A nS xs mM_X11_init 151 q_X11_init_151 := s_aload_n (q := 0) rfl (by decide +kernel) (by decide +kernel) ok_X11_init_152
theorem ok_X11_init_148 : zOK l D tc A nS xs mM_X11_init 148 q_X11_init_148 := r_getf kls_11 (by decide) tx_11_9 rfl w_511 (by decide +kernel) ok_X11_init_151
theorem ok_X11_init_147 : zOK l D tc A nS xs mM_X11_init 147 q_X11_init_147 := s_aload_n (q := 0) rfl (by decide +kernel) (by decide +kernel) ok_X11_init_148
theorem ok_X11_init_146 : zOK l D tc A nS xs mM_X11_init 146 q_X11_init_146 := s_dup (by decide +kernel) ok_X11_init_147
theorem ok_X11_init_143 : zOK l D tc A nS xs mM_X11_init 143 q_X11_init_143 := r_new (N := 10) rfl kls_5 rfl rfl (by decide) zdf_5 rfl w_577 w_578 w_291 (by decide +kernel) ok_X11_init_146
theorem ok_X11_init_142 : zOK l D tc A nS xs mM_X11_init 142 q_X11_init_142 := s_aload_n (q := 0) rfl (by decide +kernel) (by decide +kernel) ok_X11_init_143
theorem ok_X11_init_139 : zOK l D tc A nS xs mM_X11_init 139 q_X11_init_139 := r_putF kls_11 ty_11_10 (zck_obj _) (by decide) tx_11_10 rfl rfl rfl w_506 (by decide +kernel) ok_X11_init_142
theorem ok_X11_init_136 : zOK l D tc A nS xs mM_X11_init 136 q_X11_init_136 := r_callI zEE_ok zTw_gd (M2 := mM_X7_init) (na := 1) rfl lb_92 calI_X7_init rfl rfl w_579 (by decide +kernel) ok_X11_init_139
theorem ok_X11_init_133 : zOK l D tc A nS xs mM_X11_init 133 q_X11_init_133 := r_getf kls_11 (by decide) tx_11_9 rfl w_511 (by decide +kernel) ok_X11_init_136
theorem ok_X11_init_132 : zOK l D tc A nS xs mM_X11_init 132 q_X11_init_132 := s_aload_n (q := 0) rfl (by decide +kernel) (by decide +kernel) ok_X11_init_133
theorem ok_X11_init_131 : zOK l D tc A nS xs mM_X11_init 131 q_X11_init_131 := s_dup (by decide +kernel) ok_X11_init_132
theorem ok_X11_init_128 : zOK l D tc A nS xs mM_X11_init 128 q_X11_init_128 := r_new (N := 15) rfl kls_7 rfl rfl (by decide) zdf_7 rfl w_582 w_583 w_86 (by decide +kernel) ok_X11_init_131
theorem ok_X11_init_127 : zOK l D tc A nS xs mM_X11_init 127 q_X11_init_127 := s_aload_n (q := 0) rfl (by decide +kernel) (by decide +kernel) ok_X11_init_128
theorem ok_X11_init_124 : zOK l D tc A nS xs mM_X11_init 124 q_X11_init_124 := r_putF kls_11 ty_11_9 (zck_obj _) (by decide) tx_11_9 rfl rfl rfl w_511 (by decide +kernel) ok_X11_init_127
theorem ok_X11_init_121 : zOK l D tc A nS xs mM_X11_init 121 q_X11_init_121 := r_callIN zEE_ok zTw_gd (M2 := mM_X10_init) (na := 0) rfl lb_129 calI_X10_init rfl rfl (fun U f h => h.1 _ zNest_23) (by decide +kernel) ok_X11_init_124
theorem ok_X11_init_120 : zOK l D tc A nS xs mM_X11_init 120 q_X11_init_120 := s_dup (by decide +kernel) ok_X11_init_121
theorem ok_X11_init_117 : zOK l D tc A nS xs mM_X11_init 117 q_X11_init_117 := r_new (N := 9) rfl kls_10 rfl rfl (by decide) zdf_10 rfl w_586 w_587 w_69 (by decide +kernel) ok_X11_init_120
theorem ok_X11_init_116 : zOK l D tc A nS xs mM_X11_init 116 q_X11_init_116 := s_aload_n (q := 0) rfl (by decide +kernel) (by decide +kernel) ok_X11_init_117
theorem ok_X11_init_113 : zOK l D tc A nS xs mM_X11_init 113 q_X11_init_113 := r_putF kls_11 ty_11_8 (zck_obj _) (by decide) tx_11_8 rfl rfl rfl w_517 (by decide +kernel) ok_X11_init_116
theorem ok_X11_init_110 : zOK l D tc A nS xs mM_X11_init 110 q_X11_init_110 := r_callI zEE_ok zTw_gd (M2 := mM_X6_init) (na := 3) rfl lb_88 calI_X6_init rfl rfl w_588 (by decide +kernel) ok_X11_init_113
theorem ok_X11_init_107 : zOK l D tc A nS xs mM_X11_init 107 q_X11_init_107 := r_getf kls_11 (by decide) tx_11_7 rfl w_522 (by decide +kernel) ok_X11_init_110
theorem ok_X11_init_106 : zOK l D tc A nS xs mM_X11_init 106 q_X11_init_106 := s_aload_n (q := 0) rfl (by decide +kernel) (by decide +kernel) ok_X11_init_107
theorem ok_X11_init_103 : zOK l D tc A nS xs mM_X11_init 103 q_X11_init_103 := r_getf kls_11 (by decide) tx_11_6 rfl w_527 (by decide +kernel) ok_X11_init_106
theorem ok_X11_init_102 : zOK l D tc A nS xs mM_X11_init 102 q_X11_init_102 := s_aload_n (q := 0) rfl (by decide +kernel) (by decide +kernel) ok_X11_init_103
theorem ok_X11_init_99 : zOK l D tc A nS xs mM_X11_init 99 q_X11_init_99 := r_getf kls_11 (by decide) tx_11_4 rfl w_537 (by decide +kernel) ok_X11_init_102
theorem ok_X11_init_98 : zOK l D tc A nS xs mM_X11_init 98 q_X11_init_98 := s_aload_n (q := 0) rfl (by decide +kernel) (by decide +kernel) ok_X11_init_99
theorem ok_X11_init_97 : zOK l D tc A nS xs mM_X11_init 97 q_X11_init_97 := s_dup (by decide +kernel) ok_X11_init_98
theorem ok_X11_init_94 : zOK l D tc A nS xs mM_X11_init 94 q_X11_init_94 := r_new (N := 15) rfl kls_6 rfl rfl (by decide) zdf_6 rfl w_591 w_592 w_514 (by decide +kernel) ok_X11_init_97
theorem ok_X11_init_93 : zOK l D tc A nS xs mM_X11_init 93 q_X11_init_93 := s_aload_n (q := 0) rfl (by decide +kernel) (by decide +kernel) ok_X11_init_94
theorem ok_X11_init_90 : zOK l D tc A nS xs mM_X11_init 90 q_X11_init_90 := r_putF kls_11 ty_11_7 (zck_obj _) (by decide) tx_11_7 rfl rfl rfl w_522 (by decide +kernel) ok_X11_init_93
theorem ok_X11_init_87 : zOK l D tc A nS xs mM_X11_init 87 q_X11_init_87 := r_callI zEE_ok zTw_gd (M2 := mM_X8_init) (na := 2) rfl lb_104 calI_X8_init rfl rfl w_593 (by decide +kernel) ok_X11_init_90
theorem ok_X11_init_84 : zOK l D tc A nS xs mM_X11_init 84 q_X11_init_84 := r_getf kls_11 (by decide) tx_11_6 rfl w_527 (by decide +kernel) ok_X11_init_87
theorem ok_X11_init_83 : zOK l D tc A nS xs mM_X11_init 83 q_X11_init_83 := s_aload_n (q := 0) rfl (by decide +kernel) (by decide +kernel) ok_X11_init_84
theorem ok_X11_init_80 : zOK l D tc A nS xs mM_X11_init 80 q_X11_init_80 := r_getf kls_11 (by decide) tx_11_5 rfl w_532 (by decide +kernel) ok_X11_init_83
theorem ok_X11_init_79 : zOK l D tc A nS xs mM_X11_init 79 q_X11_init_79 := s_aload_n (q := 0) rfl (by decide +kernel) (by decide +kernel) ok_X11_init_80
theorem ok_X11_init_78 : zOK l D tc A nS xs mM_X11_init 78 q_X11_init_78 := s_dup (by decide +kernel) ok_X11_init_79
theorem ok_X11_init_75 : zOK l D tc A nS xs mM_X11_init 75 q_X11_init_75 := r_new (N := 9) rfl kls_8 rfl rfl (by decide) zdf_8 rfl w_596 w_597 w_409 (by decide +kernel) ok_X11_init_78
theorem ok_X11_init_74 : zOK l D tc A nS xs mM_X11_init 74 q_X11_init_74 := s_aload_n (q := 0) rfl (by decide +kernel) (by decide +kernel) ok_X11_init_75
theorem ok_X11_init_71 : zOK l D tc A nS xs mM_X11_init 71 q_X11_init_71 := r_putF kls_11 ty_11_6 (zck_obj _) (by decide) tx_11_6 rfl rfl rfl w_527 (by decide +kernel) ok_X11_init_74
theorem ok_X11_init_68 : zOK l D tc A nS xs mM_X11_init 68 q_X11_init_68 := r_callI zEE_ok zTw_gd (M2 := mM_X1_init) (na := 2) rfl lb_29 calI_X1_init rfl rfl w_598 (by decide +kernel) ok_X11_init_71
theorem ok_X11_init_65 : zOK l D tc A nS xs mM_X11_init 65 q_X11_init_65 := r_getf kls_11 (by decide) tx_11_5 rfl w_532 (by decide +kernel) ok_X11_init_68
theorem ok_X11_init_64 : zOK l D tc A nS xs mM_X11_init 64 q_X11_init_64 := s_aload_n (q := 0) rfl (by decide +kernel) (by decide +kernel) ok_X11_init_65
theorem ok_X11_init_61 : zOK l D tc A nS xs mM_X11_init 61 q_X11_init_61 := r_getf kls_11 (by decide) tx_11_4 rfl w_537 (by decide +kernel) ok_X11_init_64
theorem ok_X11_init_60 : zOK l D tc A nS xs mM_X11_init 60 q_X11_init_60 := s_aload_n (q := 0) rfl (by decide +kernel) (by decide +kernel) ok_X11_init_61
theorem ok_X11_init_59 : zOK l D tc A nS xs mM_X11_init 59 q_X11_init_59 := s_dup (by decide +kernel) ok_X11_init_60
theorem ok_X11_init_56 : zOK l D tc A nS xs mM_X11_init 56 q_X11_init_56 := r_new (N := 7) rfl kls_1 rfl rfl (by decide) zdf_1 rfl w_601 w_602 w_413 (by decide +kernel) ok_X11_init_59
theorem ok_X11_init_55 : zOK l D tc A nS xs mM_X11_init 55 q_X11_init_55 := s_aload_n (q := 0) rfl (by decide +kernel) (by decide +kernel) ok_X11_init_56
theorem ok_X11_init_52 : zOK l D tc A nS xs mM_X11_init 52 q_X11_init_52 := r_putF kls_11 ty_11_5 (zck_obj _) (by decide) tx_11_5 rfl rfl rfl w_532 (by decide +kernel) ok_X11_init_55
theorem ok_X11_init_49 : zOK l D tc A nS xs mM_X11_init 49 q_X11_init_49 := r_callI zEE_ok zTw_gd (M2 := mM_X2_init) (na := 1) rfl lb_38 calI_X2_init rfl rfl w_603 (by decide +kernel) ok_X11_init_52
theorem ok_X11_init_46 : zOK l D tc A nS xs mM_X11_init 46 q_X11_init_46 := r_getf kls_11 (by decide) tx_11_4 rfl w_537 (by decide +kernel) ok_X11_init_49
theorem ok_X11_init_45 : zOK l D tc A nS xs mM_X11_init 45 q_X11_init_45 := s_aload_n (q := 0) rfl (by decide +kernel) (by decide +kernel) ok_X11_init_46
theorem ok_X11_init_44 : zOK l D tc A nS xs mM_X11_init 44 q_X11_init_44 := s_dup (by decide +kernel) ok_X11_init_45
theorem ok_X11_init_41 : zOK l D tc A nS xs mM_X11_init 41 q_X11_init_41 := r_new (N := 10) rfl kls_2 rfl rfl (by decide) zdf_2 rfl w_606 w_607 w_99 (by decide +kernel) ok_X11_init_44
theorem ok_X11_init_40 : zOK l D tc A nS xs mM_X11_init 40 q_X11_init_40 := s_aload_n (q := 0) rfl (by decide +kernel) (by decide +kernel) ok_X11_init_41
theorem ok_X11_init_37 : zOK l D tc A nS xs mM_X11_init 37 q_X11_init_37 := r_putF kls_11 ty_11_4 (zck_obj _) (by decide) tx_11_4 rfl rfl rfl w_537 (by decide +kernel) ok_X11_init_40
theorem ok_X11_init_34 : zOK l D tc A nS xs mM_X11_init 34 q_X11_init_34 := r_callI zEE_ok zTw_gd (M2 := mM_X3_init) (na := 1) rfl lb_47 calI_X3_init rfl rfl w_608 (by decide +kernel) ok_X11_init_37
theorem ok_X11_init_32 : zOK l D tc A nS xs mM_X11_init 32 q_X11_init_32 := r_ldc (by decide) (x := (65536 : Int32)) (by decide +kernel) rfl w_611 (by decide +kernel) ok_X11_init_34
theorem ok_X11_init_31 : zOK l D tc A nS xs mM_X11_init 31 q_X11_init_31 := s_dup (by decide +kernel) ok_X11_init_32
theorem ok_X11_init_28 : zOK l D tc A nS xs mM_X11_init 28 q_X11_init_28 := r_new (N := 7) rfl kls_3 rfl rfl (by decide) zdf_3 rfl w_612 w_613 w_170 (by decide +kernel) ok_X11_init_31
theorem ok_X11_init_27 : zOK l D tc A nS xs mM_X11_init 27 q_X11_init_27 := s_aload_n (q := 0) rfl (by decide +kernel) (by decide +kernel) ok_X11_init_28
theorem ok_X11_init_24 : zOK l D tc A nS xs mM_X11_init 24 q_X11_init_24 := r_putF kls_11 ty_11_2 (zck_obj _) (by decide) tx_11_2 rfl rfl rfl w_547 (by decide +kernel) ok_X11_init_27
theorem ok_X11_init_21 : zOK l D tc A nS xs mM_X11_init 21 q_X11_init_21 := r_callI zEE_ok zTw_gd (M2 := mM_X3_init) (na := 1) rfl lb_47 calI_X3_init rfl rfl w_608 (by decide +kernel) ok_X11_init_24
theorem ok_X11_init_18 : zOK l D tc A nS xs mM_X11_init 18 q_X11_init_18 := s_sipush (n := 8192) (by decide) (by decide +kernel) (by decide +kernel) ok_X11_init_21
theorem ok_X11_init_17 : zOK l D tc A nS xs mM_X11_init 17 q_X11_init_17 := s_dup (by decide +kernel) ok_X11_init_18
theorem ok_X11_init_14 : zOK l D tc A nS xs mM_X11_init 14 q_X11_init_14 := r_new (N := 7) rfl kls_3 rfl rfl (by decide) zdf_3 rfl w_612 w_613 w_170 (by decide +kernel) ok_X11_init_17
theorem ok_X11_init_13 : zOK l D tc A nS xs mM_X11_init 13 q_X11_init_13 := s_aload_n (q := 0) rfl (by decide +kernel) (by decide +kernel) ok_X11_init_14
theorem ok_X11_init_10 : zOK l D tc A nS xs mM_X11_init 10 q_X11_init_10 := r_putF kls_11 ty_11_0 (zck_arr _) (by decide) tx_11_0 rfl rfl rfl w_614 (by decide +kernel) ok_X11_init_13
theorem ok_X11_init_8 : zOK l D tc A nS xs mM_X11_init 8 q_X11_init_8 := r_newa (t0 := 0) (atype := .int) (ty := .int) rfl (by decide) rfl rfl z_RA_int rfl (by decide) w_109 (by decide +kernel) ok_X11_init_10
theorem ok_X11_init_5 : zOK l D tc A nS xs mM_X11_init 5 q_X11_init_5 := s_sipush (n := 2000) (by decide) (by decide +kernel) (by decide +kernel) ok_X11_init_8
theorem ok_X11_init_4 : zOK l D tc A nS xs mM_X11_init 4 q_X11_init_4 := s_aload_n (q := 0) rfl (by decide +kernel) (by decide +kernel) ok_X11_init_5
theorem ok_X11_init_1 : zOK l D tc A nS xs mM_X11_init 1 q_X11_init_1 := s_oinit w_615 w_112 w_oi (by decide +kernel) ok_X11_init_4
theorem ok_X11_init_0 : zOK l D tc A nS xs mM_X11_init 0 q_X11_init_0 := s_aload_n (q := 0) rfl (by decide +kernel) (by decide +kernel) ok_X11_init_1
theorem ok_X5_isSign_126 : zOK l D tc A nS xs mM_X5_isSign 126 q_X5_isSign_126 := s_zret rfl (by decide +kernel)
theorem ok_X5_isSign_125 : zOK l D tc A nS xs mM_X5_isSign 125 q_X5_isSign_125 := s_iconst (n := 0) (by decide) (by decide +kernel) (by decide +kernel) ok_X5_isSign_126
theorem ok_X5_isSign_122 : zOK l D tc A nS xs mM_X5_isSign 122 q_X5_isSign_122 := s_goto (tgt := 126) (off := 4) (by decide +kernel) (by decide) ok_X5_isSign_126
theorem ok_X5_isSign_121 : zOK l D tc A nS xs mM_X5_isSign 121 q_X5_isSign_121 := s_iconst (n := 1) (by decide) (by decide +kernel) (by decide +kernel) ok_X5_isSign_122
theorem ok_X5_isSign_118 : zOK l D tc A nS xs mM_X5_isSign 118 q_X5_isSign_118 := s_icmp_gt (tgt := 125) (off := 7) (by decide +kernel) (by decide) ok_X5_isSign_125 ok_X5_isSign_121
theorem ok_X5_isSign_116 : zOK l D tc A nS xs mM_X5_isSign 116 q_X5_isSign_116 := s_bipush (n := 122) (by decide) (by decide +kernel) (by decide +kernel) ok_X5_isSign_118
theorem ok_X5_isSign_115 : zOK l D tc A nS xs mM_X5_isSign 115 q_X5_isSign_115 := s_iload_n (q := 0) rfl (by decide +kernel) (by decide +kernel) ok_X5_isSign_116
theorem ok_X5_isSign_112 : zOK l D tc A nS xs mM_X5_isSign 112 q_X5_isSign_112 := s_icmp_lt (tgt := 125) (off := 13) (by decide +kernel) (by decide) ok_X5_isSign_125 ok_X5_isSign_115
theorem ok_X5_isSign_110 : zOK l D tc A nS xs mM_X5_isSign 110 q_X5_isSign_110 := s_bipush (n := 97) (by decide) (by decide +kernel) (by decide +kernel) ok_X5_isSign_112
theorem ok_X5_isSign_109 : zOK l D tc A nS xs mM_X5_isSign 109 q_X5_isSign_109 := s_iload_n (q := 0) rfl (by decide +kernel) (by decide +kernel) ok_X5_isSign_110
theorem ok_X5_isSign_106 : zOK l D tc A nS xs mM_X5_isSign 106 q_X5_isSign_106 := s_if_ne (tgt := 121) (off := 15) (by decide +kernel) (by decide) ok_X5_isSign_121 ok_X5_isSign_109
theorem ok_X5_isSign_103 : zOK l D tc A nS xs mM_X5_isSign 103 q_X5_isSign_103 := r_callS zEE_ok zTw_gd (M2 := mM_X5_isDigit) lb_74 calS_X5_isDigit rfl rfl w_298 (by decide +kernel) ok_X5_isSign_106
theorem ok_X5_isSign_102 : zOK l D tc A nS xs mM_X5_isSign 102 q_X5_isSign_102 := s_iload_n (q := 0) rfl (by decide +kernel) (by decide +kernel) ok_X5_isSign_103
theorem ok_X5_isSign_101 : zOK l D tc A nS xs mM_X5_isSign 101 q_X5_isSign_101 := s_zret rfl (by decide +kernel)
theorem ok_X5_isSign_100 : zOK l D tc A nS xs mM_X5_isSign 100 q_X5_isSign_100 := s_iconst (n := 1) (by decide) (by decide +kernel) (by decide +kernel) ok_X5_isSign_101
theorem ok_X5_isSign_1 : zOK l D tc A nS xs mM_X5_isSign 1 q_X5_isSign_1 := s_lsw (qs := [(33, 99, 100, q_X5_isSign_100), (42, 99, 100, q_X5_isSign_100), (43, 99, 100, q_X5_isSign_100), (45, 99, 100, q_X5_isSign_100), (46, 99, 100, q_X5_isSign_100), (47, 99, 100, q_X5_isSign_100), (60, 99, 100, q_X5_isSign_100), (61, 99, 100, q_X5_isSign_100), (62, 99, 100, q_X5_isSign_100), (63, 99, 100, q_X5_isSign_100), (95, 99, 100, q_X5_isSign_100)]) (dflt := 101) (ps := #[(33, 99), (42, 99), (43, 99), (45, 99), (46, 99), (47, 99), (60, 99), (61, 99), (62, 99), (63, 99), (95, 99)]) (len := 99) (tgt := 102) (by decide +kernel) (by decide +kernel) (by decide +kernel) (by decide) ok_X5_isSign_102 (List.forall_mem_cons.mpr ⟨⟨by decide, by decide, ok_X5_isSign_100⟩, (List.forall_mem_cons.mpr ⟨⟨by decide, by decide, ok_X5_isSign_100⟩, (List.forall_mem_cons.mpr ⟨⟨by decide, by decide, ok_X5_isSign_100⟩, (List.forall_mem_cons.mpr ⟨⟨by decide, by decide, ok_X5_isSign_100⟩, (List.forall_mem_cons.mpr ⟨⟨by decide, by decide, ok_X5_isSign_100⟩, (List.forall_mem_cons.mpr ⟨⟨by decide, by decide, ok_X5_isSign_100⟩, (List.forall_mem_cons.mpr ⟨⟨by decide, by decide, ok_X5_isSign_100⟩, (List.forall_mem_cons.mpr ⟨⟨by decide, by decide, ok_X5_isSign_100⟩, (List.forall_mem_cons.mpr ⟨⟨by decide, by decide, ok_X5_isSign_100⟩, (List.forall_mem_cons.mpr ⟨⟨by decide, by decide, ok_X5_isSign_100⟩, (List.forall_mem_cons.mpr ⟨⟨by decide, by decide, ok_X5_isSign_100⟩, fun _ h => absurd h List.not_mem_nil⟩)⟩)⟩)⟩)⟩)⟩)⟩)⟩)⟩)⟩)⟩)
theorem ok_X5_isSign_0 : zOK l D tc A nS xs mM_X5_isSign 0 q_X5_isSign_0 := s_iload_n (q := 0) rfl (by decide +kernel) (by decide +kernel) ok_X5_isSign_1
theorem ok_X9_areNames_73 : zOK l D tc A nS xs mM_X9_areNames 73 q_X9_areNames_73 := s_zret rfl (by decide +kernel)
theorem ok_X9_areNames_69 : zOK l D tc A nS xs mM_X9_areNames 69 q_X9_areNames_69 := s_goto (tgt := 73) (off := 4) (by decide +kernel) (by decide) ok_X9_areNames_73
theorem ok_X9_areNames_68 : zOK l D tc A nS xs mM_X9_areNames 68 q_X9_areNames_68 := s_iconst (n := 1) (by decide) (by decide +kernel) (by decide +kernel) ok_X9_areNames_69
theorem ok_X9_areNames_65 : zOK l D tc A nS xs mM_X9_areNames 65 q_X9_areNames_65 := s_if_ne (tgt := 72) (off := 7) (by decide +kernel) (by decide) s_none ok_X9_areNames_68
theorem ok_X9_areNames_62 : zOK l D tc A nS xs mM_X9_areNames 62 q_X9_areNames_62 := r_callV zEE_ok zTw_gd kls_10 (M2 := mM_X10_kind) (na := 1) lb_133 calV_X10_kind rfl rfl w_422 (by decide +kernel) ok_X9_areNames_65
theorem ok_X9_areNames_61 : zOK l D tc A nS xs mM_X9_areNames 61 q_X9_areNames_61 := s_iload_n (q := 2) rfl (by decide +kernel) (by decide +kernel) ok_X9_areNames_62
theorem ok_X9_areNames_58 : zOK l D tc A nS xs mM_X9_areNames 58 q_X9_areNames_58 := r_getf kls_9 (by decide) tx_9_0 rfl w_423 (by decide +kernel) ok_X9_areNames_61
theorem ok_X9_areNames_57 : zOK l D tc A nS xs mM_X9_areNames 57 q_X9_areNames_57 := s_aload_n (q := 0) rfl (by decide +kernel) (by decide +kernel) ok_X9_areNames_58
theorem ok_X9_areNames_54 : zOK l D tc A nS xs mM_X9_areNames 54 q_X9_areNames_54 := s_goto (tgt := 4) (off := (-50)) (by decide +kernel) (by decide) (s_back lb_109)
theorem ok_X9_areNames_51 : zOK l D tc A nS xs mM_X9_areNames 51 q_X9_areNames_51 := s_iinc (n := 1) (by decide +kernel) (by decide +kernel) (by decide +kernel) ok_X9_areNames_54
theorem ok_X9_areNames_50 : zOK l D tc A nS xs mM_X9_areNames 50 q_X9_areNames_50 := s_istore_n (q := 2) rfl (by decide +kernel) (by decide +kernel) ok_X9_areNames_51
theorem ok_X9_areNames_47 : zOK l D tc A nS xs mM_X9_areNames 47 q_X9_areNames_47 := r_callV zEE_ok zTw_gd kls_10 (M2 := mM_X10_rest) (na := 1) lb_138 calV_X10_rest rfl rfl w_424 (by decide +kernel) ok_X9_areNames_50
theorem ok_X9_areNames_46 : zOK l D tc A nS xs mM_X9_areNames 46 q_X9_areNames_46 := s_iload_n (q := 2) rfl (by decide +kernel) (by decide +kernel) ok_X9_areNames_47
theorem ok_X9_areNames_43 : zOK l D tc A nS xs mM_X9_areNames 43 q_X9_areNames_43 := r_getf kls_9 (by decide) tx_9_0 rfl w_423 (by decide +kernel) ok_X9_areNames_46
theorem ok_X9_areNames_42 : zOK l D tc A nS xs mM_X9_areNames 42 q_X9_areNames_42 := s_aload_n (q := 0) rfl (by decide +kernel) (by decide +kernel) ok_X9_areNames_43
theorem ok_X9_areNames_37 : zOK l D tc A nS xs mM_X9_areNames 37 q_X9_areNames_37 := s_if_ne (tgt := 42) (off := 5) (by decide +kernel) (by decide) ok_X9_areNames_42 s_none
theorem ok_X9_areNames_34 : zOK l D tc A nS xs mM_X9_areNames 34 q_X9_areNames_34 := r_callV zEE_ok zTw_gd kls_10 (M2 := mM_X10_isName) (na := 1) lb_131 calV_X10_isName rfl rfl w_425 (by decide +kernel) ok_X9_areNames_37
theorem ok_X9_areNames_31 : zOK l D tc A nS xs mM_X9_areNames 31 q_X9_areNames_31 := r_callV zEE_ok zTw_gd kls_10 (M2 := mM_X10_first) (na := 1) lb_127 calV_X10_first rfl rfl w_426 (by decide +kernel) ok_X9_areNames_34
theorem ok_X9_areNames_30 : zOK l D tc A nS xs mM_X9_areNames 30 q_X9_areNames_30 := s_iload_n (q := 2) rfl (by decide +kernel) (by decide +kernel) ok_X9_areNames_31
theorem ok_X9_areNames_27 : zOK l D tc A nS xs mM_X9_areNames 27 q_X9_areNames_27 := r_getf kls_9 (by decide) tx_9_0 rfl w_423 (by decide +kernel) ok_X9_areNames_30
theorem ok_X9_areNames_26 : zOK l D tc A nS xs mM_X9_areNames 26 q_X9_areNames_26 := s_aload_n (q := 0) rfl (by decide +kernel) (by decide +kernel) ok_X9_areNames_27
theorem ok_X9_areNames_23 : zOK l D tc A nS xs mM_X9_areNames 23 q_X9_areNames_23 := r_getf kls_9 (by decide) tx_9_0 rfl w_423 (by decide +kernel) ok_X9_areNames_26
theorem ok_X9_areNames_22 : zOK l D tc A nS xs mM_X9_areNames 22 q_X9_areNames_22 := s_aload_n (q := 0) rfl (by decide +kernel) (by decide +kernel) ok_X9_areNames_23
theorem ok_X9_areNames_19 : zOK l D tc A nS xs mM_X9_areNames 19 q_X9_areNames_19 := s_if_eq (tgt := 57) (off := 38) (by decide +kernel) (by decide) ok_X9_areNames_57 ok_X9_areNames_22
theorem ok_X9_areNames_16 : zOK l D tc A nS xs mM_X9_areNames 16 q_X9_areNames_16 := r_callV zEE_ok zTw_gd kls_10 (M2 := mM_X10_isCons) (na := 1) lb_130 calV_X10_isCons rfl rfl w_427 (by decide +kernel) ok_X9_areNames_19
theorem ok_X9_areNames_15 : zOK l D tc A nS xs mM_X9_areNames 15 q_X9_areNames_15 := s_iload_n (q := 2) rfl (by decide +kernel) (by decide +kernel) ok_X9_areNames_16
theorem ok_X9_areNames_12 : zOK l D tc A nS xs mM_X9_areNames 12 q_X9_areNames_12 := r_getf kls_9 (by decide) tx_9_0 rfl w_423 (by decide +kernel) ok_X9_areNames_15
theorem ok_X9_areNames_11 : zOK l D tc A nS xs mM_X9_areNames 11 q_X9_areNames_11 := s_aload_n (q := 0) rfl (by decide +kernel) (by decide +kernel) ok_X9_areNames_12
theorem ok_X9_areNames_8 : zOK l D tc A nS xs mM_X9_areNames 8 q_X9_areNames_8 := s_icmp_ge (tgt := 57) (off := 49) (by decide +kernel) (by decide) ok_X9_areNames_57 ok_X9_areNames_11
theorem ok_X9_areNames_5 : zOK l D tc A nS xs mM_X9_areNames 5 q_X9_areNames_5 := s_sipush (n := 18120) (by decide) (by decide +kernel) (by decide +kernel) ok_X9_areNames_8
theorem ok_X9_areNames_4 : zOK l D tc A nS xs mM_X9_areNames 4 q_X9_areNames_4 := s_iload_n (q := 3) rfl (by decide +kernel) (by decide +kernel) ok_X9_areNames_5
theorem ok_X9_areNames_3 : zOK l D tc A nS xs mM_X9_areNames 3 q_X9_areNames_3 := s_istore_n (q := 3) rfl (by decide +kernel) (by decide +kernel) ok_X9_areNames_4
theorem ok_X9_areNames_2 : zOK l D tc A nS xs mM_X9_areNames 2 q_X9_areNames_2 := s_iconst (n := 0) (by decide) (by decide +kernel) (by decide +kernel) ok_X9_areNames_3
theorem ok_X9_areNames_1 : zOK l D tc A nS xs mM_X9_areNames 1 q_X9_areNames_1 := s_istore_n (q := 2) rfl (by decide +kernel) (by decide +kernel) ok_X9_areNames_2
theorem ok_X9_areNames_0 : zOK l D tc A nS xs mM_X9_areNames 0 q_X9_areNames_0 := s_iload_n (q := 1) rfl (by decide +kernel) (by decide +kernel) ok_X9_areNames_1
theorem ok_X12_init_560 : zOK l D tc A nS xs mM_X12_init 560 q_X12_init_560 := s_vret rfl (by decide +kernel)
theorem ok_X12_init_557 : zOK l D tc A nS xs mM_X12_init 557 q_X12_init_557 := r_callV zEE_ok zTw_gd kls_12 (M2 := mM_X12_reset) (na := 0) lb_257 calV_X12_reset rfl rfl w_828 (by decide +kernel) ok_X12_init_560
theorem ok_X12_init_556 : zOK l D tc A nS xs mM_X12_init 556 q_X12_init_556 := s_aload_n (q := 0) rfl (by decide +kernel) (by decide +kernel) ok_X12_init_557
theorem ok_X12_init_553 : zOK l D tc A nS xs mM_X12_init 553 q_X12_init_553 := r_putF kls_12 ty_12_113 (zck_arr _) (by decide) tx_12_113 rfl rfl rfl w_832 (by decide +kernel) ok_X12_init_556
theorem ok_X12_init_551 : zOK l D tc A nS xs mM_X12_init 551 q_X12_init_551 := r_newa (t0 := 0) (atype := .int) (ty := .int) rfl (by decide) rfl rfl z_RA_int rfl (by decide) w_109 (by decide +kernel) ok_X12_init_553
theorem ok_X12_init_548 : zOK l D tc A nS xs mM_X12_init 548 q_X12_init_548 := s_sipush (n := 1000) (by decide) (by decide +kernel) (by decide +kernel) ok_X12_init_551
theorem ok_X12_init_547 : zOK l D tc A nS xs mM_X12_init 547 q_X12_init_547 := s_aload_n (q := 0) rfl (by decide +kernel) (by decide +kernel) ok_X12_init_548
theorem ok_X12_init_544 : zOK l D tc A nS xs mM_X12_init 544 q_X12_init_544 := r_putF kls_12 ty_12_112 (zck_arr _) (by decide) tx_12_112 rfl rfl rfl w_833 (by decide +kernel) ok_X12_init_547
theorem ok_X12_init_542 : zOK l D tc A nS xs mM_X12_init 542 q_X12_init_542 := r_newa (t0 := 0) (atype := .int) (ty := .int) rfl (by decide) rfl rfl z_RA_int rfl (by decide) w_109 (by decide +kernel) ok_X12_init_544
theorem ok_X12_init_540 : zOK l D tc A nS xs mM_X12_init 540 q_X12_init_540 := s_bipush (n := 60) (by decide) (by decide +kernel) (by decide +kernel) ok_X12_init_542
theorem ok_X12_init_539 : zOK l D tc A nS xs mM_X12_init 539 q_X12_init_539 := s_aload_n (q := 0) rfl (by decide +kernel) (by decide +kernel) ok_X12_init_540
theorem ok_X12_init_536 : zOK l D tc A nS xs mM_X12_init 536 q_X12_init_536 := r_putF kls_12 ty_12_111 (zck_arr _) (by decide) tx_12_111 rfl rfl rfl w_834 (by decide +kernel) ok_X12_init_539
theorem ok_X12_init_534 : zOK l D tc A nS xs mM_X12_init 534 q_X12_init_534 := r_newa (t0 := 0) (atype := .int) (ty := .int) rfl (by decide) rfl rfl z_RA_int rfl (by decide) w_109 (by decide +kernel) ok_X12_init_536
theorem ok_X12_init_532 : zOK l D tc A nS xs mM_X12_init 532 q_X12_init_532 := s_bipush (n := 60) (by decide) (by decide +kernel) (by decide +kernel) ok_X12_init_534
theorem ok_X12_init_531 : zOK l D tc A nS xs mM_X12_init 531 q_X12_init_531 := s_aload_n (q := 0) rfl (by decide +kernel) (by decide +kernel) ok_X12_init_532
theorem ok_X12_init_528 : zOK l D tc A nS xs mM_X12_init 528 q_X12_init_528 := r_putF kls_12 ty_12_110 (zck_arr _) (by decide) tx_12_110 rfl rfl rfl w_835 (by decide +kernel) ok_X12_init_531
theorem ok_X12_init_527 : zOK l D tc A nS xs mM_X12_init 527 q_X12_init_527 := s_aast (fun U f h => h.2.2.2.2.2.2.1) (by decide +kernel) ok_X12_init_528
theorem ok_X12_init_524 : zOK l D tc A nS xs mM_X12_init 524 q_X12_init_524 := r_getf kls_12 (by decide) tx_12_38 rfl w_715 (by decide +kernel) ok_X12_init_527
theorem ok_X12_init_523 : zOK l D tc A nS xs mM_X12_init 523 q_X12_init_523 := s_aload_n (q := 0) rfl (by decide +kernel) (by decide +kernel) ok_X12_init_524
theorem ok_X12_init_522 : zOK l D tc A nS xs mM_X12_init 522 q_X12_init_522 := s_iconst (n := 5) (by decide) (by decide +kernel) (by decide +kernel) ok_X12_init_523
theorem ok_X12_init_521 : zOK l D tc A nS xs mM_X12_init 521 q_X12_init_521 := s_dup (by decide +kernel) ok_X12_init_522
theorem ok_X12_init_520 : zOK l D tc A nS xs mM_X12_init 520 q_X12_init_520 := s_aast (fun U f h => h.2.2.2.2.2.2.1) (by decide +kernel) ok_X12_init_521
theorem ok_X12_init_517 : zOK l D tc A nS xs mM_X12_init 517 q_X12_init_517 := r_getf kls_12 (by decide) tx_12_37 rfl w_716 (by decide +kernel) ok_X12_init_520
theorem ok_X12_init_516 : zOK l D tc A nS xs mM_X12_init 516 q_X12_init_516 := s_aload_n (q := 0) rfl (by decide +kernel) (by decide +kernel) ok_X12_init_517
theorem ok_X12_init_515 : zOK l D tc A nS xs mM_X12_init 515 q_X12_init_515 := s_iconst (n := 4) (by decide) (by decide +kernel) (by decide +kernel) ok_X12_init_516
theorem ok_X12_init_514 : zOK l D tc A nS xs mM_X12_init 514 q_X12_init_514 := s_dup (by decide +kernel) ok_X12_init_515
theorem ok_X12_init_513 : zOK l D tc A nS xs mM_X12_init 513 q_X12_init_513 := s_aast (fun U f h => h.2.2.2.2.2.2.1) (by decide +kernel) ok_X12_init_514
theorem ok_X12_init_510 : zOK l D tc A nS xs mM_X12_init 510 q_X12_init_510 := r_getf kls_12 (by decide) tx_12_36 rfl w_717 (by decide +kernel) ok_X12_init_513
theorem ok_X12_init_509 : zOK l D tc A nS xs mM_X12_init 509 q_X12_init_509 := s_aload_n (q := 0) rfl (by decide +kernel) (by decide +kernel) ok_X12_init_510
theorem ok_X12_init_508 : zOK l D tc A nS xs mM_X12_init 508 q_X12_init_508 := s_iconst (n := 3) (by decide) (by decide +kernel) (by decide +kernel) ok_X12_init_509
theorem ok_X12_init_507 : zOK l D tc A nS xs mM_X12_init 507 q_X12_init_507 := s_dup (by decide +kernel) ok_X12_init_508
theorem ok_X12_init_506 : zOK l D tc A nS xs mM_X12_init 506 q_X12_init_506 := s_aast (fun U f h => h.2.2.2.2.2.2.1) (by decide +kernel) ok_X12_init_507
theorem ok_X12_init_503 : zOK l D tc A nS xs mM_X12_init 503 q_X12_init_503 := r_getf kls_12 (by decide) tx_12_35 rfl w_687 (by decide +kernel) ok_X12_init_506
theorem ok_X12_init_502 : zOK l D tc A nS xs mM_X12_init 502 q_X12_init_502 := s_aload_n (q := 0) rfl (by decide +kernel) (by decide +kernel) ok_X12_init_503
theorem ok_X12_init_501 : zOK l D tc A nS xs mM_X12_init 501 q_X12_init_501 := s_iconst (n := 2) (by decide) (by decide +kernel) (by decide +kernel) ok_X12_init_502
theorem ok_X12_init_500 : zOK l D tc A nS xs mM_X12_init 500 q_X12_init_500 := s_dup (by decide +kernel) ok_X12_init_501
theorem ok_X12_init_499 : zOK l D tc A nS xs mM_X12_init 499 q_X12_init_499 := s_aast (fun U f h => h.2.2.2.2.2.2.1) (by decide +kernel) ok_X12_init_500
theorem ok_X12_init_496 : zOK l D tc A nS xs mM_X12_init 496 q_X12_init_496 := r_getf kls_12 (by decide) tx_12_34 rfl w_701 (by decide +kernel) ok_X12_init_499
theorem ok_X12_init_495 : zOK l D tc A nS xs mM_X12_init 495 q_X12_init_495 := s_aload_n (q := 0) rfl (by decide +kernel) (by decide +kernel) ok_X12_init_496
theorem ok_X12_init_494 : zOK l D tc A nS xs mM_X12_init 494 q_X12_init_494 := s_iconst (n := 1) (by decide) (by decide +kernel) (by decide +kernel) ok_X12_init_495
theorem ok_X12_init_493 : zOK l D tc A nS xs mM_X12_init 493 q_X12_init_493 := s_dup (by decide +kernel) ok_X12_init_494
theorem ok_X12_init_492 : zOK l D tc A nS xs mM_X12_init 492 q_X12_init_492 := s_aast (fun U f h => h.2.2.2.2.2.2.1) (by decide +kernel) ok_X12_init_493
theorem ok_X12_init_489 : zOK l D tc A nS xs mM_X12_init 489 q_X12_init_489 := r_getf kls_12 (by decide) tx_12_33 rfl w_702 (by decide +kernel) ok_X12_init_492
theorem ok_X12_init_488 : zOK l D tc A nS xs mM_X12_init 488 q_X12_init_488 := s_aload_n (q := 0) rfl (by decide +kernel) (by decide +kernel) ok_X12_init_489
theorem ok_X12_init_487 : zOK l D tc A nS xs mM_X12_init 487 q_X12_init_487 := s_iconst (n := 0) (by decide) (by decide +kernel) (by decide +kernel) ok_X12_init_488
theorem ok_X12_init_486 : zOK l D tc A nS xs mM_X12_init 486 q_X12_init_486 := s_dup (by decide +kernel) ok_X12_init_487
theorem ok_X12_init_483 : zOK l D tc A nS xs mM_X12_init 483 q_X12_init_483 := r_anew (t0 := 2) rfl rfl (by decide) (by decide +kernel) (fun U f h => h.2.2.2.2.2.1) rfl rfl w_836 (by decide +kernel) ok_X12_init_486
theorem ok_X12_init_481 : zOK l D tc A nS xs mM_X12_init 481 q_X12_init_481 := s_bipush (n := 6) (by decide) (by decide +kernel) (by decide +kernel) ok_X12_init_483
theorem ok_X12_init_480 : zOK l D tc A nS xs mM_X12_init 480 q_X12_init_480 := s_aload_n (q := 0) rfl (by decide +kernel) (by decide +kernel) ok_X12_init_481
theorem ok_X12_init_477 : zOK l D tc A nS xs mM_X12_init 477 q_X12_init_477 := r_putF kls_12 ty_12_109 (zck_arr _) (by decide) tx_12_109 rfl rfl rfl w_837 (by decide +kernel) ok_X12_init_480
theorem ok_X12_init_473 : zOK l D tc A nS xs mM_X12_init 473 q_X12_init_473 := r_mnew (t0 := 2) (t1 := 0) rfl (by decide) (fun U f h => h.2.2.2.2.2.1) w_109 rfl rfl rfl w_838 (by decide +kernel) ok_X12_init_477
theorem ok_X12_init_470 : zOK l D tc A nS xs mM_X12_init 470 q_X12_init_470 := s_sipush (n := 6200) (by decide) (by decide +kernel) (by decide +kernel) ok_X12_init_473
theorem ok_X12_init_468 : zOK l D tc A nS xs mM_X12_init 468 q_X12_init_468 := s_bipush (n := 6) (by decide) (by decide +kernel) (by decide +kernel) ok_X12_init_470
theorem ok_X12_init_467 : zOK l D tc A nS xs mM_X12_init 467 q_X12_init_467 := s_aload_n (q := 0) rfl (by decide +kernel) (by decide +kernel) ok_X12_init_468
theorem ok_X12_init_464 : zOK l D tc A nS xs mM_X12_init 464 q_X12_init_464 := r_putF kls_12 ty_12_105 (zck_arr _) (by decide) tx_12_105 rfl rfl rfl w_790 (by decide +kernel) ok_X12_init_467
theorem ok_X12_init_462 : zOK l D tc A nS xs mM_X12_init 462 q_X12_init_462 := r_newa (t0 := 0) (atype := .int) (ty := .int) rfl (by decide) rfl rfl z_RA_int rfl (by decide) w_109 (by decide +kernel) ok_X12_init_464
theorem ok_X12_init_460 : zOK l D tc A nS xs mM_X12_init 460 q_X12_init_460 := s_bipush (n := 41) (by decide) (by decide +kernel) (by decide +kernel) ok_X12_init_462
theorem ok_X12_init_459 : zOK l D tc A nS xs mM_X12_init 459 q_X12_init_459 := s_aload_n (q := 0) rfl (by decide +kernel) (by decide +kernel) ok_X12_init_460
theorem ok_X12_init_456 : zOK l D tc A nS xs mM_X12_init 456 q_X12_init_456 := r_putF kls_12 ty_12_99 (zck_arr _) (by decide) tx_12_99 rfl rfl rfl w_839 (by decide +kernel) ok_X12_init_459
theorem ok_X12_init_454 : zOK l D tc A nS xs mM_X12_init 454 q_X12_init_454 := r_newa (t0 := 0) (atype := .int) (ty := .int) rfl (by decide) rfl rfl z_RA_int rfl (by decide) w_109 (by decide +kernel) ok_X12_init_456
theorem ok_X12_init_451 : zOK l D tc A nS xs mM_X12_init 451 q_X12_init_451 := s_sipush (n := 4200) (by decide) (by decide +kernel) (by decide +kernel) ok_X12_init_454
theorem ok_X12_init_450 : zOK l D tc A nS xs mM_X12_init 450 q_X12_init_450 := s_aload_n (q := 0) rfl (by decide +kernel) (by decide +kernel) ok_X12_init_451
theorem ok_X12_init_447 : zOK l D tc A nS xs mM_X12_init 447 q_X12_init_447 := r_putF kls_12 ty_12_98 (zck_arr _) (by decide) tx_12_98 rfl rfl rfl w_840 (by decide +kernel) ok_X12_init_450
theorem ok_X12_init_445 : zOK l D tc A nS xs mM_X12_init 445 q_X12_init_445 := r_newa (t0 := 0) (atype := .int) (ty := .int) rfl (by decide) rfl rfl z_RA_int rfl (by decide) w_109 (by decide +kernel) ok_X12_init_447
theorem ok_X12_init_442 : zOK l D tc A nS xs mM_X12_init 442 q_X12_init_442 := s_sipush (n := 4000) (by decide) (by decide +kernel) (by decide +kernel) ok_X12_init_445
theorem ok_X12_init_441 : zOK l D tc A nS xs mM_X12_init 441 q_X12_init_441 := s_aload_n (q := 0) rfl (by decide +kernel) (by decide +kernel) ok_X12_init_442
theorem ok_X12_init_438 : zOK l D tc A nS xs mM_X12_init 438 q_X12_init_438 := r_putF kls_12 ty_12_97 (zck_arr _) (by decide) tx_12_97 rfl rfl rfl w_841 (by decide +kernel) ok_X12_init_441
theorem ok_X12_init_436 : zOK l D tc A nS xs mM_X12_init 436 q_X12_init_436 := r_newa (t0 := 0) (atype := .int) (ty := .int) rfl (by decide) rfl rfl z_RA_int rfl (by decide) w_109 (by decide +kernel) ok_X12_init_438
theorem ok_X12_init_433 : zOK l D tc A nS xs mM_X12_init 433 q_X12_init_433 := s_sipush (n := 4000) (by decide) (by decide +kernel) (by decide +kernel) ok_X12_init_436
theorem ok_X12_init_432 : zOK l D tc A nS xs mM_X12_init 432 q_X12_init_432 := s_aload_n (q := 0) rfl (by decide +kernel) (by decide +kernel) ok_X12_init_433
theorem ok_X12_init_429 : zOK l D tc A nS xs mM_X12_init 429 q_X12_init_429 := r_putF kls_12 ty_12_94 (zck_arr _) (by decide) tx_12_94 rfl rfl rfl w_842 (by decide +kernel) ok_X12_init_432
theorem ok_X12_init_427 : zOK l D tc A nS xs mM_X12_init 427 q_X12_init_427 := r_newa (t0 := 0) (atype := .int) (ty := .int) rfl (by decide) rfl rfl z_RA_int rfl (by decide) w_109 (by decide +kernel) ok_X12_init_429
theorem ok_X12_init_425 : zOK l D tc A nS xs mM_X12_init 425 q_X12_init_425 := s_bipush (n := 21) (by decide) (by decide +kernel) (by decide +kernel) ok_X12_init_427
theorem ok_X12_init_424 : zOK l D tc A nS xs mM_X12_init 424 q_X12_init_424 := s_aload_n (q := 0) rfl (by decide +kernel) (by decide +kernel) ok_X12_init_425
theorem ok_X12_init_421 : zOK l D tc A nS xs mM_X12_init 421 q_X12_init_421 := r_putF kls_12 ty_12_92 (zck_arr _) (by decide) tx_12_92 rfl rfl rfl w_843 (by decide +kernel) ok_X12_init_424
theorem ok_X12_init_419 : zOK l D tc A nS xs mM_X12_init 419 q_X12_init_419 := r_newa (t0 := 0) (atype := .int) (ty := .int) rfl (by decide) rfl rfl z_RA_int rfl (by decide) w_109 (by decide +kernel) ok_X12_init_421
theorem ok_X12_init_416 : zOK l D tc A nS xs mM_X12_init 416 q_X12_init_416 := s_sipush (n := 6200) (by decide) (by decide +kernel) (by decide +kernel) ok_X12_init_419
theorem ok_X12_init_415 : zOK l D tc A nS xs mM_X12_init 415 q_X12_init_415 := s_aload_n (q := 0) rfl (by decide +kernel) (by decide +kernel) ok_X12_init_416
theorem ok_X12_init_412 : zOK l D tc A nS xs mM_X12_init 412 q_X12_init_412 := r_putF kls_12 ty_12_91 (zck_arr _) (by decide) tx_12_91 rfl rfl rfl w_844 (by decide +kernel) ok_X12_init_415
theorem ok_X12_init_410 : zOK l D tc A nS xs mM_X12_init 410 q_X12_init_410 := r_newa (t0 := 0) (atype := .int) (ty := .int) rfl (by decide) rfl rfl z_RA_int rfl (by decide) w_109 (by decide +kernel) ok_X12_init_412
theorem ok_X12_init_407 : zOK l D tc A nS xs mM_X12_init 407 q_X12_init_407 := s_sipush (n := 6200) (by decide) (by decide +kernel) (by decide +kernel) ok_X12_init_410
theorem ok_X12_init_406 : zOK l D tc A nS xs mM_X12_init 406 q_X12_init_406 := s_aload_n (q := 0) rfl (by decide +kernel) (by decide +kernel) ok_X12_init_407
theorem ok_X12_init_403 : zOK l D tc A nS xs mM_X12_init 403 q_X12_init_403 := r_putF kls_12 ty_12_90 (zck_arr _) (by decide) tx_12_90 rfl rfl rfl w_845 (by decide +kernel) ok_X12_init_406
theorem ok_X12_init_401 : zOK l D tc A nS xs mM_X12_init 401 q_X12_init_401 := r_newa (t0 := 0) (atype := .int) (ty := .int) rfl (by decide) rfl rfl z_RA_int rfl (by decide) w_109 (by decide +kernel) ok_X12_init_403
theorem ok_X12_init_398 : zOK l D tc A nS xs mM_X12_init 398 q_X12_init_398 := s_sipush (n := 6200) (by decide) (by decide +kernel) (by decide +kernel) ok_X12_init_401
theorem ok_X12_init_397 : zOK l D tc A nS xs mM_X12_init 397 q_X12_init_397 := s_aload_n (q := 0) rfl (by decide +kernel) (by decide +kernel) ok_X12_init_398
theorem ok_X12_init_394 : zOK l D tc A nS xs mM_X12_init 394 q_X12_init_394 := r_putF kls_12 ty_12_89 (zck_arr _) (by decide) tx_12_89 rfl rfl rfl w_846 (by decide +kernel) ok_X12_init_397
theorem ok_X12_init_392 : zOK l D tc A nS xs mM_X12_init 392 q_X12_init_392 := r_newa (t0 := 0) (atype := .int) (ty := .int) rfl (by decide) rfl rfl z_RA_int rfl (by decide) w_109 (by decide +kernel) ok_X12_init_394
theorem ok_X12_init_389 : zOK l D tc A nS xs mM_X12_init 389 q_X12_init_389 := s_sipush (n := 6200) (by decide) (by decide +kernel) (by decide +kernel) ok_X12_init_392
theorem ok_X12_init_388 : zOK l D tc A nS xs mM_X12_init 388 q_X12_init_388 := s_aload_n (q := 0) rfl (by decide +kernel) (by decide +kernel) ok_X12_init_389
theorem ok_X12_init_385 : zOK l D tc A nS xs mM_X12_init 385 q_X12_init_385 := r_putF kls_12 ty_12_88 (zck_arr _) (by decide) tx_12_88 rfl rfl rfl w_847 (by decide +kernel) ok_X12_init_388
theorem ok_X12_init_383 : zOK l D tc A nS xs mM_X12_init 383 q_X12_init_383 := r_newa (t0 := 0) (atype := .int) (ty := .int) rfl (by decide) rfl rfl z_RA_int rfl (by decide) w_109 (by decide +kernel) ok_X12_init_385
theorem ok_X12_init_380 : zOK l D tc A nS xs mM_X12_init 380 q_X12_init_380 := s_sipush (n := 6200) (by decide) (by decide +kernel) (by decide +kernel) ok_X12_init_383
theorem ok_X12_init_379 : zOK l D tc A nS xs mM_X12_init 379 q_X12_init_379 := s_aload_n (q := 0) rfl (by decide +kernel) (by decide +kernel) ok_X12_init_380
theorem ok_X12_init_376 : zOK l D tc A nS xs mM_X12_init 376 q_X12_init_376 := r_putF kls_12 ty_12_87 (zck_arr _) (by decide) tx_12_87 rfl rfl rfl w_848 (by decide +kernel) ok_X12_init_379
theorem ok_X12_init_374 : zOK l D tc A nS xs mM_X12_init 374 q_X12_init_374 := r_newa (t0 := 0) (atype := .int) (ty := .int) rfl (by decide) rfl rfl z_RA_int rfl (by decide) w_109 (by decide +kernel) ok_X12_init_376
theorem ok_X12_init_371 : zOK l D tc A nS xs mM_X12_init 371 q_X12_init_371 := s_sipush (n := 6200) (by decide) (by decide +kernel) (by decide +kernel) ok_X12_init_374
theorem ok_X12_init_370 : zOK l D tc A nS xs mM_X12_init 370 q_X12_init_370 := s_aload_n (q := 0) rfl (by decide +kernel) (by decide +kernel) ok_X12_init_371
theorem ok_X12_init_367 : zOK l D tc A nS xs mM_X12_init 367 q_X12_init_367 := r_putF kls_12 ty_12_78 (zck_arr _) (by decide) tx_12_78 rfl rfl rfl w_849 (by decide +kernel) ok_X12_init_370
theorem ok_X12_init_365 : zOK l D tc A nS xs mM_X12_init 365 q_X12_init_365 := r_newa (t0 := 0) (atype := .int) (ty := .int) rfl (by decide) rfl rfl z_RA_int rfl (by decide) w_109 (by decide +kernel) ok_X12_init_367
theorem ok_X12_init_364 : zOK l D tc A nS xs mM_X12_init 364 q_X12_init_364 := s_iconst (n := 3) (by decide) (by decide +kernel) (by decide +kernel) ok_X12_init_365
theorem ok_X12_init_363 : zOK l D tc A nS xs mM_X12_init 363 q_X12_init_363 := s_aload_n (q := 0) rfl (by decide +kernel) (by decide +kernel) ok_X12_init_364
theorem ok_X12_init_360 : zOK l D tc A nS xs mM_X12_init 360 q_X12_init_360 := r_putF kls_12 ty_12_75 (zck_arr _) (by decide) tx_12_75 rfl rfl rfl w_803 (by decide +kernel) ok_X12_init_363
theorem ok_X12_init_358 : zOK l D tc A nS xs mM_X12_init 358 q_X12_init_358 := r_newa (t0 := 0) (atype := .int) (ty := .int) rfl (by decide) rfl rfl z_RA_int rfl (by decide) w_109 (by decide +kernel) ok_X12_init_360
theorem ok_X12_init_355 : zOK l D tc A nS xs mM_X12_init 355 q_X12_init_355 := s_sipush (n := 4200) (by decide) (by decide +kernel) (by decide +kernel) ok_X12_init_358
theorem ok_X12_init_354 : zOK l D tc A nS xs mM_X12_init 354 q_X12_init_354 := s_aload_n (q := 0) rfl (by decide +kernel) (by decide +kernel) ok_X12_init_355
theorem ok_X12_init_351 : zOK l D tc A nS xs mM_X12_init 351 q_X12_init_351 := r_putF kls_12 ty_12_74 (zck_arr _) (by decide) tx_12_74 rfl rfl rfl w_804 (by decide +kernel) ok_X12_init_354
theorem ok_X12_init_349 : zOK l D tc A nS xs mM_X12_init 349 q_X12_init_349 := r_newa (t0 := 0) (atype := .int) (ty := .int) rfl (by decide) rfl rfl z_RA_int rfl (by decide) w_109 (by decide +kernel) ok_X12_init_351
theorem ok_X12_init_346 : zOK l D tc A nS xs mM_X12_init 346 q_X12_init_346 := s_sipush (n := 4200) (by decide) (by decide +kernel) (by decide +kernel) ok_X12_init_349
theorem ok_X12_init_345 : zOK l D tc A nS xs mM_X12_init 345 q_X12_init_345 := s_aload_n (q := 0) rfl (by decide +kernel) (by decide +kernel) ok_X12_init_346
theorem ok_X12_init_342 : zOK l D tc A nS xs mM_X12_init 342 q_X12_init_342 := r_putF kls_12 ty_12_70 (zck_arr _) (by decide) tx_12_70 rfl rfl rfl w_757 (by decide +kernel) ok_X12_init_345
theorem ok_X12_init_340 : zOK l D tc A nS xs mM_X12_init 340 q_X12_init_340 := r_newa (t0 := 0) (atype := .int) (ty := .int) rfl (by decide) rfl rfl z_RA_int rfl (by decide) w_109 (by decide +kernel) ok_X12_init_342
theorem ok_X12_init_338 : zOK l D tc A nS xs mM_X12_init 338 q_X12_init_338 := s_bipush (n := 60) (by decide) (by decide +kernel) (by decide +kernel) ok_X12_init_340
theorem ok_X12_init_337 : zOK l D tc A nS xs mM_X12_init 337 q_X12_init_337 := s_aload_n (q := 0) rfl (by decide +kernel) (by decide +kernel) ok_X12_init_338
theorem ok_X12_init_334 : zOK l D tc A nS xs mM_X12_init 334 q_X12_init_334 := r_putF kls_12 ty_12_69 (zck_arr _) (by decide) tx_12_69 rfl rfl rfl w_759 (by decide +kernel) ok_X12_init_337
theorem ok_X12_init_332 : zOK l D tc A nS xs mM_X12_init 332 q_X12_init_332 := r_newa (t0 := 0) (atype := .int) (ty := .int) rfl (by decide) rfl rfl z_RA_int rfl (by decide) w_109 (by decide +kernel) ok_X12_init_334
theorem ok_X12_init_330 : zOK l D tc A nS xs mM_X12_init 330 q_X12_init_330 := s_bipush (n := 60) (by decide) (by decide +kernel) (by decide +kernel) ok_X12_init_332
theorem ok_X12_init_329 : zOK l D tc A nS xs mM_X12_init 329 q_X12_init_329 := s_aload_n (q := 0) rfl (by decide +kernel) (by decide +kernel) ok_X12_init_330
theorem ok_X12_init_326 : zOK l D tc A nS xs mM_X12_init 326 q_X12_init_326 := r_putF kls_12 ty_12_66 (zck_arr _) (by decide) tx_12_66 rfl rfl rfl w_850 (by decide +kernel) ok_X12_init_329
theorem ok_X12_init_324 : zOK l D tc A nS xs mM_X12_init 324 q_X12_init_324 := r_newa (t0 := 0) (atype := .int) (ty := .int) rfl (by decide) rfl rfl z_RA_int rfl (by decide) w_109 (by decide +kernel) ok_X12_init_326
theorem ok_X12_init_321 : zOK l D tc A nS xs mM_X12_init 321 q_X12_init_321 := s_sipush (n := 12000) (by decide) (by decide +kernel) (by decide +kernel) ok_X12_init_324
theorem ok_X12_init_320 : zOK l D tc A nS xs mM_X12_init 320 q_X12_init_320 := s_aload_n (q := 0) rfl (by decide +kernel) (by decide +kernel) ok_X12_init_321
theorem ok_X12_init_317 : zOK l D tc A nS xs mM_X12_init 317 q_X12_init_317 := r_putF kls_12 ty_12_65 (zck_arr _) (by decide) tx_12_65 rfl rfl rfl w_851 (by decide +kernel) ok_X12_init_320
theorem ok_X12_init_315 : zOK l D tc A nS xs mM_X12_init 315 q_X12_init_315 := r_newa (t0 := 0) (atype := .int) (ty := .int) rfl (by decide) rfl rfl z_RA_int rfl (by decide) w_109 (by decide +kernel) ok_X12_init_317
theorem ok_X12_init_312 : zOK l D tc A nS xs mM_X12_init 312 q_X12_init_312 := s_sipush (n := 12000) (by decide) (by decide +kernel) (by decide +kernel) ok_X12_init_315
theorem ok_X12_init_311 : zOK l D tc A nS xs mM_X12_init 311 q_X12_init_311 := s_aload_n (q := 0) rfl (by decide +kernel) (by decide +kernel) ok_X12_init_312
theorem ok_X12_init_308 : zOK l D tc A nS xs mM_X12_init 308 q_X12_init_308 := r_putF kls_12 ty_12_63 (zck_arr _) (by decide) tx_12_63 rfl rfl rfl w_852 (by decide +kernel) ok_X12_init_311
theorem ok_X12_init_306 : zOK l D tc A nS xs mM_X12_init 306 q_X12_init_306 := r_newa (t0 := 0) (atype := .int) (ty := .int) rfl (by decide) rfl rfl z_RA_int rfl (by decide) w_109 (by decide +kernel) ok_X12_init_308
theorem ok_X12_init_303 : zOK l D tc A nS xs mM_X12_init 303 q_X12_init_303 := s_sipush (n := 15000) (by decide) (by decide +kernel) (by decide +kernel) ok_X12_init_306
theorem ok_X12_init_302 : zOK l D tc A nS xs mM_X12_init 302 q_X12_init_302 := s_aload_n (q := 0) rfl (by decide +kernel) (by decide +kernel) ok_X12_init_303
theorem ok_X12_init_299 : zOK l D tc A nS xs mM_X12_init 299 q_X12_init_299 := r_putF kls_12 ty_12_62 (zck_arr _) (by decide) tx_12_62 rfl rfl rfl w_853 (by decide +kernel) ok_X12_init_302
theorem ok_X12_init_297 : zOK l D tc A nS xs mM_X12_init 297 q_X12_init_297 := r_newa (t0 := 0) (atype := .int) (ty := .int) rfl (by decide) rfl rfl z_RA_int rfl (by decide) w_109 (by decide +kernel) ok_X12_init_299
theorem ok_X12_init_294 : zOK l D tc A nS xs mM_X12_init 294 q_X12_init_294 := s_sipush (n := 15000) (by decide) (by decide +kernel) (by decide +kernel) ok_X12_init_297
theorem ok_X12_init_293 : zOK l D tc A nS xs mM_X12_init 293 q_X12_init_293 := s_aload_n (q := 0) rfl (by decide +kernel) (by decide +kernel) ok_X12_init_294
theorem ok_X12_init_290 : zOK l D tc A nS xs mM_X12_init 290 q_X12_init_290 := r_putF kls_12 ty_12_61 (zck_arr _) (by decide) tx_12_61 rfl rfl rfl w_854 (by decide +kernel) ok_X12_init_293
theorem ok_X12_init_288 : zOK l D tc A nS xs mM_X12_init 288 q_X12_init_288 := r_newa (t0 := 0) (atype := .int) (ty := .int) rfl (by decide) rfl rfl z_RA_int rfl (by decide) w_109 (by decide +kernel) ok_X12_init_290
theorem ok_X12_init_285 : zOK l D tc A nS xs mM_X12_init 285 q_X12_init_285 := s_sipush (n := 15000) (by decide) (by decide +kernel) (by decide +kernel) ok_X12_init_288
theorem ok_X12_init_284 : zOK l D tc A nS xs mM_X12_init 284 q_X12_init_284 := s_aload_n (q := 0) rfl (by decide +kernel) (by decide +kernel) ok_X12_init_285
theorem ok_X12_init_281 : zOK l D tc A nS xs mM_X12_init 281 q_X12_init_281 := r_putF kls_12 ty_12_59 (zck_arr _) (by decide) tx_12_59 rfl rfl rfl w_855 (by decide +kernel) ok_X12_init_284
theorem ok_X12_init_279 : zOK l D tc A nS xs mM_X12_init 279 q_X12_init_279 := r_newa (t0 := 0) (atype := .int) (ty := .int) rfl (by decide) rfl rfl z_RA_int rfl (by decide) w_109 (by decide +kernel) ok_X12_init_281
theorem ok_X12_init_276 : zOK l D tc A nS xs mM_X12_init 276 q_X12_init_276 := s_sipush (n := 5000) (by decide) (by decide +kernel) (by decide +kernel) ok_X12_init_279
theorem ok_X12_init_275 : zOK l D tc A nS xs mM_X12_init 275 q_X12_init_275 := s_aload_n (q := 0) rfl (by decide +kernel) (by decide +kernel) ok_X12_init_276
theorem ok_X12_init_272 : zOK l D tc A nS xs mM_X12_init 272 q_X12_init_272 := r_putF kls_12 ty_12_58 (zck_arr _) (by decide) tx_12_58 rfl rfl rfl w_856 (by decide +kernel) ok_X12_init_275
theorem ok_X12_init_270 : zOK l D tc A nS xs mM_X12_init 270 q_X12_init_270 := r_newa (t0 := 0) (atype := .int) (ty := .int) rfl (by decide) rfl rfl z_RA_int rfl (by decide) w_109 (by decide +kernel) ok_X12_init_272
theorem ok_X12_init_267 : zOK l D tc A nS xs mM_X12_init 267 q_X12_init_267 := s_sipush (n := 5000) (by decide) (by decide +kernel) (by decide +kernel) ok_X12_init_270
theorem ok_X12_init_266 : zOK l D tc A nS xs mM_X12_init 266 q_X12_init_266 := s_aload_n (q := 0) rfl (by decide +kernel) (by decide +kernel) ok_X12_init_267
theorem ok_X12_init_263 : zOK l D tc A nS xs mM_X12_init 263 q_X12_init_263 := r_putF kls_12 ty_12_57 (zck_arr _) (by decide) tx_12_57 rfl rfl rfl w_857 (by decide +kernel) ok_X12_init_266
theorem ok_X12_init_261 : zOK l D tc A nS xs mM_X12_init 261 q_X12_init_261 := r_newa (t0 := 0) (atype := .int) (ty := .int) rfl (by decide) rfl rfl z_RA_int rfl (by decide) w_109 (by decide +kernel) ok_X12_init_263
theorem ok_X12_init_258 : zOK l D tc A nS xs mM_X12_init 258 q_X12_init_258 := s_sipush (n := 10000) (by decide) (by decide +kernel) (by decide +kernel) ok_X12_init_261
theorem ok_X12_init_257 : zOK l D tc A nS xs mM_X12_init 257 q_X12_init_257 := s_aload_n (q := 0) rfl (by decide +kernel) (by decide +kernel) ok_X12_init_258
theorem ok_X12_init_254 : zOK l D tc A nS xs mM_X12_init 254 q_X12_init_254 := r_putF kls_12 ty_12_55 (zck_arr _) (by decide) tx_12_55 rfl rfl rfl w_737 (by decide +kernel) ok_X12_init_257
theorem ok_X12_init_252 : zOK l D tc A nS xs mM_X12_init 252 q_X12_init_252 := r_newa (t0 := 0) (atype := .int) (ty := .int) rfl (by decide) rfl rfl z_RA_int rfl (by decide) w_109 (by decide +kernel) ok_X12_init_254
theorem ok_X12_init_250 : zOK l D tc A nS xs mM_X12_init 250 q_X12_init_250 := s_bipush (n := 41) (by decide) (by decide +kernel) (by decide +kernel) ok_X12_init_252
theorem ok_X12_init_249 : zOK l D tc A nS xs mM_X12_init 249 q_X12_init_249 := s_aload_n (q := 0) rfl (by decide +kernel) (by decide +kernel) ok_X12_init_250
theorem ok_X12_init_246 : zOK l D tc A nS xs mM_X12_init 246 q_X12_init_246 := r_putF kls_12 ty_12_54 (zck_arr _) (by decide) tx_12_54 rfl rfl rfl w_736 (by decide +kernel) ok_X12_init_249
theorem ok_X12_init_244 : zOK l D tc A nS xs mM_X12_init 244 q_X12_init_244 := r_newa (t0 := 0) (atype := .int) (ty := .int) rfl (by decide) rfl rfl z_RA_int rfl (by decide) w_109 (by decide +kernel) ok_X12_init_246
theorem ok_X12_init_242 : zOK l D tc A nS xs mM_X12_init 242 q_X12_init_242 := s_bipush (n := 41) (by decide) (by decide +kernel) (by decide +kernel) ok_X12_init_244
theorem ok_X12_init_241 : zOK l D tc A nS xs mM_X12_init 241 q_X12_init_241 := s_aload_n (q := 0) rfl (by decide +kernel) (by decide +kernel) ok_X12_init_242
theorem ok_X12_init_238 : zOK l D tc A nS xs mM_X12_init 238 q_X12_init_238 := r_putF kls_12 ty_12_53 (zck_arr _) (by decide) tx_12_53 rfl rfl rfl w_735 (by decide +kernel) ok_X12_init_241
theorem ok_X12_init_236 : zOK l D tc A nS xs mM_X12_init 236 q_X12_init_236 := r_newa (t0 := 0) (atype := .int) (ty := .int) rfl (by decide) rfl rfl z_RA_int rfl (by decide) w_109 (by decide +kernel) ok_X12_init_238
theorem ok_X12_init_234 : zOK l D tc A nS xs mM_X12_init 234 q_X12_init_234 := s_bipush (n := 41) (by decide) (by decide +kernel) (by decide +kernel) ok_X12_init_236
theorem ok_X12_init_233 : zOK l D tc A nS xs mM_X12_init 233 q_X12_init_233 := s_aload_n (q := 0) rfl (by decide +kernel) (by decide +kernel) ok_X12_init_234
theorem ok_X12_init_230 : zOK l D tc A nS xs mM_X12_init 230 q_X12_init_230 := r_putF kls_12 ty_12_52 (zck_arr _) (by decide) tx_12_52 rfl rfl rfl w_738 (by decide +kernel) ok_X12_init_233
theorem ok_X12_init_228 : zOK l D tc A nS xs mM_X12_init 228 q_X12_init_228 := r_newa (t0 := 0) (atype := .int) (ty := .int) rfl (by decide) rfl rfl z_RA_int rfl (by decide) w_109 (by decide +kernel) ok_X12_init_230
theorem ok_X12_init_226 : zOK l D tc A nS xs mM_X12_init 226 q_X12_init_226 := s_bipush (n := 41) (by decide) (by decide +kernel) (by decide +kernel) ok_X12_init_228
theorem ok_X12_init_225 : zOK l D tc A nS xs mM_X12_init 225 q_X12_init_225 := s_aload_n (q := 0) rfl (by decide +kernel) (by decide +kernel) ok_X12_init_226
theorem ok_X12_init_222 : zOK l D tc A nS xs mM_X12_init 222 q_X12_init_222 := r_putF kls_12 ty_12_50 (zck_arr _) (by decide) tx_12_50 rfl rfl rfl w_743 (by decide +kernel) ok_X12_init_225
theorem ok_X12_init_220 : zOK l D tc A nS xs mM_X12_init 220 q_X12_init_220 := r_newa (t0 := 0) (atype := .int) (ty := .int) rfl (by decide) rfl rfl z_RA_int rfl (by decide) w_109 (by decide +kernel) ok_X12_init_222
theorem ok_X12_init_218 : zOK l D tc A nS xs mM_X12_init 218 q_X12_init_218 := s_bipush (n := 40) (by decide) (by decide +kernel) (by decide +kernel) ok_X12_init_220
theorem ok_X12_init_217 : zOK l D tc A nS xs mM_X12_init 217 q_X12_init_217 := s_aload_n (q := 0) rfl (by decide +kernel) (by decide +kernel) ok_X12_init_218
theorem ok_X12_init_214 : zOK l D tc A nS xs mM_X12_init 214 q_X12_init_214 := r_putf kls_12 ty_12_46 (zck_arr _) (by decide) tx_12_46 rfl w_722 (by decide +kernel) ok_X12_init_217
theorem ok_X12_init_211 : zOK l D tc A nS xs mM_X12_init 211 q_X12_init_211 := r_getf kls_12 (by decide) tx_12_31 rfl w_778 (by decide +kernel) ok_X12_init_214
theorem ok_X12_init_210 : zOK l D tc A nS xs mM_X12_init 210 q_X12_init_210 := s_aload_n (q := 0) rfl (by decide +kernel) (by decide +kernel) ok_X12_init_211
theorem ok_X12_init_209 : zOK l D tc A nS xs mM_X12_init 209 q_X12_init_209 := s_aload_n (q := 0) rfl (by decide +kernel) (by decide +kernel) ok_X12_init_210
theorem ok_X12_init_206 : zOK l D tc A nS xs mM_X12_init 206 q_X12_init_206 := r_putF kls_12 ty_12_44 (zck_arr _) (by decide) tx_12_44 rfl rfl rfl w_756 (by decide +kernel) ok_X12_init_209
theorem ok_X12_init_204 : zOK l D tc A nS xs mM_X12_init 204 q_X12_init_204 := r_newa (t0 := 0) (atype := .int) (ty := .int) rfl (by decide) rfl rfl z_RA_int rfl (by decide) w_109 (by decide +kernel) ok_X12_init_206
theorem ok_X12_init_201 : zOK l D tc A nS xs mM_X12_init 201 q_X12_init_201 := s_sipush (n := 300) (by decide) (by decide +kernel) (by decide +kernel) ok_X12_init_204
theorem ok_X12_init_200 : zOK l D tc A nS xs mM_X12_init 200 q_X12_init_200 := s_aload_n (q := 0) rfl (by decide +kernel) (by decide +kernel) ok_X12_init_201
theorem ok_X12_init_197 : zOK l D tc A nS xs mM_X12_init 197 q_X12_init_197 := r_putF kls_12 ty_12_43 (zck_arr _) (by decide) tx_12_43 rfl rfl rfl w_858 (by decide +kernel) ok_X12_init_200
theorem ok_X12_init_195 : zOK l D tc A nS xs mM_X12_init 195 q_X12_init_195 := r_newa (t0 := 0) (atype := .int) (ty := .int) rfl (by decide) rfl rfl z_RA_int rfl (by decide) w_109 (by decide +kernel) ok_X12_init_197
theorem ok_X12_init_192 : zOK l D tc A nS xs mM_X12_init 192 q_X12_init_192 := s_sipush (n := 300) (by decide) (by decide +kernel) (by decide +kernel) ok_X12_init_195
theorem ok_X12_init_191 : zOK l D tc A nS xs mM_X12_init 191 q_X12_init_191 := s_aload_n (q := 0) rfl (by decide +kernel) (by decide +kernel) ok_X12_init_192
theorem ok_X12_init_188 : zOK l D tc A nS xs mM_X12_init 188 q_X12_init_188 := r_putF kls_12 ty_12_42 (zck_arr _) (by decide) tx_12_42 rfl rfl rfl w_859 (by decide +kernel) ok_X12_init_191
theorem ok_X12_init_186 : zOK l D tc A nS xs mM_X12_init 186 q_X12_init_186 := r_newa (t0 := 0) (atype := .int) (ty := .int) rfl (by decide) rfl rfl z_RA_int rfl (by decide) w_109 (by decide +kernel) ok_X12_init_188
theorem ok_X12_init_183 : zOK l D tc A nS xs mM_X12_init 183 q_X12_init_183 := s_sipush (n := 3900) (by decide) (by decide +kernel) (by decide +kernel) ok_X12_init_186
theorem ok_X12_init_182 : zOK l D tc A nS xs mM_X12_init 182 q_X12_init_182 := s_aload_n (q := 0) rfl (by decide +kernel) (by decide +kernel) ok_X12_init_183
theorem ok_X12_init_179 : zOK l D tc A nS xs mM_X12_init 179 q_X12_init_179 := r_putF kls_12 ty_12_38 (zck_arr _) (by decide) tx_12_38 rfl rfl rfl w_715 (by decide +kernel) ok_X12_init_182
theorem ok_X12_init_177 : zOK l D tc A nS xs mM_X12_init 177 q_X12_init_177 := r_newa (t0 := 0) (atype := .int) (ty := .int) rfl (by decide) rfl rfl z_RA_int rfl (by decide) w_109 (by decide +kernel) ok_X12_init_179
theorem ok_X12_init_174 : zOK l D tc A nS xs mM_X12_init 174 q_X12_init_174 := s_sipush (n := 20200) (by decide) (by decide +kernel) (by decide +kernel) ok_X12_init_177
theorem ok_X12_init_173 : zOK l D tc A nS xs mM_X12_init 173 q_X12_init_173 := s_aload_n (q := 0) rfl (by decide +kernel) (by decide +kernel) ok_X12_init_174
theorem ok_X12_init_170 : zOK l D tc A nS xs mM_X12_init 170 q_X12_init_170 := r_putF kls_12 ty_12_37 (zck_arr _) (by decide) tx_12_37 rfl rfl rfl w_716 (by decide +kernel) ok_X12_init_173
theorem ok_X12_init_168 : zOK l D tc A nS xs mM_X12_init 168 q_X12_init_168 := r_newa (t0 := 0) (atype := .int) (ty := .int) rfl (by decide) rfl rfl z_RA_int rfl (by decide) w_109 (by decide +kernel) ok_X12_init_170
theorem ok_X12_init_165 : zOK l D tc A nS xs mM_X12_init 165 q_X12_init_165 := s_sipush (n := 20200) (by decide) (by decide +kernel) (by decide +kernel) ok_X12_init_168
theorem ok_X12_init_164 : zOK l D tc A nS xs mM_X12_init 164 q_X12_init_164 := s_aload_n (q := 0) rfl (by decide +kernel) (by decide +kernel) ok_X12_init_165
theorem ok_X12_init_161 : zOK l D tc A nS xs mM_X12_init 161 q_X12_init_161 := r_putF kls_12 ty_12_36 (zck_arr _) (by decide) tx_12_36 rfl rfl rfl w_717 (by decide +kernel) ok_X12_init_164
theorem ok_X12_init_159 : zOK l D tc A nS xs mM_X12_init 159 q_X12_init_159 := r_newa (t0 := 0) (atype := .int) (ty := .int) rfl (by decide) rfl rfl z_RA_int rfl (by decide) w_109 (by decide +kernel) ok_X12_init_161
theorem ok_X12_init_156 : zOK l D tc A nS xs mM_X12_init 156 q_X12_init_156 := s_sipush (n := 20200) (by decide) (by decide +kernel) (by decide +kernel) ok_X12_init_159
theorem ok_X12_init_155 : zOK l D tc A nS xs mM_X12_init 155 q_X12_init_155 := s_aload_n (q := 0) rfl (by decide +kernel) (by decide +kernel) ok_X12_init_156
theorem ok_X12_init_152 : zOK l D tc A nS xs mM_X12_init 152 q_X12_init_152 := r_putF kls_12 ty_12_35 (zck_arr _) (by decide) tx_12_35 rfl rfl rfl w_687 (by decide +kernel) ok_X12_init_155
theorem ok_X12_init_150 : zOK l D tc A nS xs mM_X12_init 150 q_X12_init_150 := r_newa (t0 := 0) (atype := .int) (ty := .int) rfl (by decide) rfl rfl z_RA_int rfl (by decide) w_109 (by decide +kernel) ok_X12_init_152
theorem ok_X12_init_147 : zOK l D tc A nS xs mM_X12_init 147 q_X12_init_147 := s_sipush (n := 20200) (by decide) (by decide +kernel) (by decide +kernel) ok_X12_init_150
theorem ok_X12_init_146 : zOK l D tc A nS xs mM_X12_init 146 q_X12_init_146 := s_aload_n (q := 0) rfl (by decide +kernel) (by decide +kernel) ok_X12_init_147
theorem ok_X12_init_143 : zOK l D tc A nS xs mM_X12_init 143 q_X12_init_143 := r_putF kls_12 ty_12_34 (zck_arr _) (by decide) tx_12_34 rfl rfl rfl w_701 (by decide +kernel) ok_X12_init_146
theorem ok_X12_init_141 : zOK l D tc A nS xs mM_X12_init 141 q_X12_init_141 := r_newa (t0 := 0) (atype := .int) (ty := .int) rfl (by decide) rfl rfl z_RA_int rfl (by decide) w_109 (by decide +kernel) ok_X12_init_143
theorem ok_X12_init_138 : zOK l D tc A nS xs mM_X12_init 138 q_X12_init_138 := s_sipush (n := 20200) (by decide) (by decide +kernel) (by decide +kernel) ok_X12_init_141
theorem ok_X12_init_137 : zOK l D tc A nS xs mM_X12_init 137 q_X12_init_137 := s_aload_n (q := 0) rfl (by decide +kernel) (by decide +kernel) ok_X12_init_138
theorem ok_X12_init_134 : zOK l D tc A nS xs mM_X12_init 134 q_X12_init_134 := r_putF kls_12 ty_12_33 (zck_arr _) (by decide) tx_12_33 rfl rfl rfl w_702 (by decide +kernel) ok_X12_init_137
theorem ok_X12_init_132 : zOK l D tc A nS xs mM_X12_init 132 q_X12_init_132 := r_newa (t0 := 0) (atype := .int) (ty := .int) rfl (by decide) rfl rfl z_RA_int rfl (by decide) w_109 (by decide +kernel) ok_X12_init_134
theorem ok_X12_init_129 : zOK l D tc A nS xs mM_X12_init 129 q_X12_init_129 := s_sipush (n := 20200) (by decide) (by decide +kernel) (by decide +kernel) ok_X12_init_132
theorem ok_X12_init_128 : zOK l D tc A nS xs mM_X12_init 128 q_X12_init_128 := s_aload_n (q := 0) rfl (by decide +kernel) (by decide +kernel) ok_X12_init_129
theorem ok_X12_init_125 : zOK l D tc A nS xs mM_X12_init 125 q_X12_init_125 := r_putF kls_12 ty_12_31 (zck_arr _) (by decide) tx_12_31 rfl rfl rfl w_778 (by decide +kernel) ok_X12_init_128
theorem ok_X12_init_123 : zOK l D tc A nS xs mM_X12_init 123 q_X12_init_123 := r_newa (t0 := 0) (atype := .int) (ty := .int) rfl (by decide) rfl rfl z_RA_int rfl (by decide) w_109 (by decide +kernel) ok_X12_init_125
theorem ok_X12_init_120 : zOK l D tc A nS xs mM_X12_init 120 q_X12_init_120 := s_sipush (n := 2000) (by decide) (by decide +kernel) (by decide +kernel) ok_X12_init_123
theorem ok_X12_init_119 : zOK l D tc A nS xs mM_X12_init 119 q_X12_init_119 := s_aload_n (q := 0) rfl (by decide +kernel) (by decide +kernel) ok_X12_init_120
theorem ok_X12_init_116 : zOK l D tc A nS xs mM_X12_init 116 q_X12_init_116 := r_putF kls_12 ty_12_27 (zck_arr _) (by decide) tx_12_27 rfl rfl rfl w_860 (by decide +kernel) ok_X12_init_119
theorem ok_X12_init_114 : zOK l D tc A nS xs mM_X12_init 114 q_X12_init_114 := r_newa (t0 := 0) (atype := .int) (ty := .int) rfl (by decide) rfl rfl z_RA_int rfl (by decide) w_109 (by decide +kernel) ok_X12_init_116
theorem ok_X12_init_111 : zOK l D tc A nS xs mM_X12_init 111 q_X12_init_111 := s_sipush (n := 8192) (by decide) (by decide +kernel) (by decide +kernel) ok_X12_init_114
theorem ok_X12_init_110 : zOK l D tc A nS xs mM_X12_init 110 q_X12_init_110 := s_aload_n (q := 0) rfl (by decide +kernel) (by decide +kernel) ok_X12_init_111
theorem ok_X12_init_107 : zOK l D tc A nS xs mM_X12_init 107 q_X12_init_107 := r_putF kls_12 ty_12_24 (zck_arr _) (by decide) tx_12_24 rfl rfl rfl w_861 (by decide +kernel) ok_X12_init_110
theorem ok_X12_init_105 : zOK l D tc A nS xs mM_X12_init 105 q_X12_init_105 := r_newa (t0 := 0) (atype := .int) (ty := .int) rfl (by decide) rfl rfl z_RA_int rfl (by decide) w_109 (by decide +kernel) ok_X12_init_107
theorem ok_X12_init_102 : zOK l D tc A nS xs mM_X12_init 102 q_X12_init_102 := s_sipush (n := 2000) (by decide) (by decide +kernel) (by decide +kernel) ok_X12_init_105
theorem ok_X12_init_101 : zOK l D tc A nS xs mM_X12_init 101 q_X12_init_101 := s_aload_n (q := 0) rfl (by decide +kernel) (by decide +kernel) ok_X12_init_102
theorem ok_X12_init_98 : zOK l D tc A nS xs mM_X12_init 98 q_X12_init_98 := r_putF kls_12 ty_12_22 (zck_arr _) (by decide) tx_12_22 rfl rfl rfl w_862 (by decide +kernel) ok_X12_init_101
theorem ok_X12_init_96 : zOK l D tc A nS xs mM_X12_init 96 q_X12_init_96 := r_newa (t0 := 0) (atype := .int) (ty := .int) rfl (by decide) rfl rfl z_RA_int rfl (by decide) w_109 (by decide +kernel) ok_X12_init_98
theorem ok_X12_init_94 : zOK l D tc A nS xs mM_X12_init 94 q_X12_init_94 := s_bipush (n := 50) (by decide) (by decide +kernel) (by decide +kernel) ok_X12_init_96
theorem ok_X12_init_93 : zOK l D tc A nS xs mM_X12_init 93 q_X12_init_93 := s_aload_n (q := 0) rfl (by decide +kernel) (by decide +kernel) ok_X12_init_94
theorem ok_X12_init_90 : zOK l D tc A nS xs mM_X12_init 90 q_X12_init_90 := r_putF kls_12 ty_12_19 (zck_arr _) (by decide) tx_12_19 rfl rfl rfl w_863 (by decide +kernel) ok_X12_init_93
theorem ok_X12_init_88 : zOK l D tc A nS xs mM_X12_init 88 q_X12_init_88 := r_newa (t0 := 0) (atype := .int) (ty := .int) rfl (by decide) rfl rfl z_RA_int rfl (by decide) w_109 (by decide +kernel) ok_X12_init_90
theorem ok_X12_init_85 : zOK l D tc A nS xs mM_X12_init 85 q_X12_init_85 := s_sipush (n := 256) (by decide) (by decide +kernel) (by decide +kernel) ok_X12_init_88
theorem ok_X12_init_84 : zOK l D tc A nS xs mM_X12_init 84 q_X12_init_84 := s_aload_n (q := 0) rfl (by decide +kernel) (by decide +kernel) ok_X12_init_85
theorem ok_X12_init_81 : zOK l D tc A nS xs mM_X12_init 81 q_X12_init_81 := r_putF kls_12 ty_12_16 (zck_arr _) (by decide) tx_12_16 rfl rfl rfl w_864 (by decide +kernel) ok_X12_init_84
theorem ok_X12_init_79 : zOK l D tc A nS xs mM_X12_init 79 q_X12_init_79 := r_newa (t0 := 0) (atype := .int) (ty := .int) rfl (by decide) rfl rfl z_RA_int rfl (by decide) w_109 (by decide +kernel) ok_X12_init_81
theorem ok_X12_init_76 : zOK l D tc A nS xs mM_X12_init 76 q_X12_init_76 := s_sipush (n := 8192) (by decide) (by decide +kernel) (by decide +kernel) ok_X12_init_79
theorem ok_X12_init_75 : zOK l D tc A nS xs mM_X12_init 75 q_X12_init_75 := s_aload_n (q := 0) rfl (by decide +kernel) (by decide +kernel) ok_X12_init_76
theorem ok_X12_init_72 : zOK l D tc A nS xs mM_X12_init 72 q_X12_init_72 := r_putF kls_12 ty_12_15 (zck_arr _) (by decide) tx_12_15 rfl rfl rfl w_865 (by decide +kernel) ok_X12_init_75
theorem ok_X12_init_70 : zOK l D tc A nS xs mM_X12_init 70 q_X12_init_70 := r_newa (t0 := 0) (atype := .int) (ty := .int) rfl (by decide) rfl rfl z_RA_int rfl (by decide) w_109 (by decide +kernel) ok_X12_init_72
theorem ok_X12_init_67 : zOK l D tc A nS xs mM_X12_init 67 q_X12_init_67 := s_sipush (n := 8192) (by decide) (by decide +kernel) (by decide +kernel) ok_X12_init_70
theorem ok_X12_init_66 : zOK l D tc A nS xs mM_X12_init 66 q_X12_init_66 := s_aload_n (q := 0) rfl (by decide +kernel) (by decide +kernel) ok_X12_init_67
theorem ok_X12_init_63 : zOK l D tc A nS xs mM_X12_init 63 q_X12_init_63 := r_putF kls_12 ty_12_14 (zck_arr _) (by decide) tx_12_14 rfl rfl rfl w_866 (by decide +kernel) ok_X12_init_66
theorem ok_X12_init_61 : zOK l D tc A nS xs mM_X12_init 61 q_X12_init_61 := r_newa (t0 := 1) (atype := .boolean) (ty := .boolean) rfl (by decide) rfl rfl z_RA_bool rfl (by decide) w_867 (by decide +kernel) ok_X12_init_63
theorem ok_X12_init_58 : zOK l D tc A nS xs mM_X12_init 58 q_X12_init_58 := s_sipush (n := 8192) (by decide) (by decide +kernel) (by decide +kernel) ok_X12_init_61
theorem ok_X12_init_57 : zOK l D tc A nS xs mM_X12_init 57 q_X12_init_57 := s_aload_n (q := 0) rfl (by decide +kernel) (by decide +kernel) ok_X12_init_58
theorem ok_X12_init_54 : zOK l D tc A nS xs mM_X12_init 54 q_X12_init_54 := r_putF kls_12 ty_12_13 (zck_arr _) (by decide) tx_12_13 rfl rfl rfl w_868 (by decide +kernel) ok_X12_init_57
theorem ok_X12_init_52 : zOK l D tc A nS xs mM_X12_init 52 q_X12_init_52 := r_newa (t0 := 1) (atype := .boolean) (ty := .boolean) rfl (by decide) rfl rfl z_RA_bool rfl (by decide) w_867 (by decide +kernel) ok_X12_init_54
theorem ok_X12_init_49 : zOK l D tc A nS xs mM_X12_init 49 q_X12_init_49 := s_sipush (n := 8192) (by decide) (by decide +kernel) (by decide +kernel) ok_X12_init_52
theorem ok_X12_init_48 : zOK l D tc A nS xs mM_X12_init 48 q_X12_init_48 := s_aload_n (q := 0) rfl (by decide +kernel) (by decide +kernel) ok_X12_init_49
theorem ok_X12_init_45 : zOK l D tc A nS xs mM_X12_init 45 q_X12_init_45 := r_putF kls_12 ty_12_2 (zck_arr _) (by decide) tx_12_2 rfl rfl rfl w_869 (by decide +kernel) ok_X12_init_48
theorem ok_X12_init_41 : zOK l D tc A nS xs mM_X12_init 41 q_X12_init_41 := r_mnew (t0 := 2) (t1 := 0) rfl (by decide) (fun U f h => h.2.2.2.2.2.1) w_109 rfl rfl rfl w_838 (by decide +kernel) ok_X12_init_45
theorem ok_X12_init_40 : zOK l D tc A nS xs mM_X12_init 40 q_X12_init_40 := s_iconst (n := 4) (by decide) (by decide +kernel) (by decide +kernel) ok_X12_init_41
theorem ok_X12_init_39 : zOK l D tc A nS xs mM_X12_init 39 q_X12_init_39 := s_iconst (n := 2) (by decide) (by decide +kernel) (by decide +kernel) ok_X12_init_40
theorem ok_X12_init_38 : zOK l D tc A nS xs mM_X12_init 38 q_X12_init_38 := s_aload_n (q := 0) rfl (by decide +kernel) (by decide +kernel) ok_X12_init_39
theorem ok_X12_init_35 : zOK l D tc A nS xs mM_X12_init 35 q_X12_init_35 := r_putF kls_12 ty_12_1 (zck_arr _) (by decide) tx_12_1 rfl rfl rfl w_870 (by decide +kernel) ok_X12_init_38
theorem ok_X12_init_31 : zOK l D tc A nS xs mM_X12_init 31 q_X12_init_31 := r_mnew (t0 := 2) (t1 := 0) rfl (by decide) (fun U f h => h.2.2.2.2.2.1) w_109 rfl rfl rfl w_838 (by decide +kernel) ok_X12_init_35
theorem ok_X12_init_29 : zOK l D tc A nS xs mM_X12_init 29 q_X12_init_29 := s_bipush (n := 8) (by decide) (by decide +kernel) (by decide +kernel) ok_X12_init_31
theorem ok_X12_init_28 : zOK l D tc A nS xs mM_X12_init 28 q_X12_init_28 := s_iconst (n := 2) (by decide) (by decide +kernel) (by decide +kernel) ok_X12_init_29
theorem ok_X12_init_27 : zOK l D tc A nS xs mM_X12_init 27 q_X12_init_27 := s_aload_n (q := 0) rfl (by decide +kernel) (by decide +kernel) ok_X12_init_28
theorem ok_X12_init_24 : zOK l D tc A nS xs mM_X12_init 24 q_X12_init_24 := r_putF kls_12 ty_12_0 (zck_arr _) (by decide) tx_12_0 rfl rfl rfl w_871 (by decide +kernel) ok_X12_init_27
theorem ok_X12_init_23 : zOK l D tc A nS xs mM_X12_init 23 q_X12_init_23 := s_aast (fun U f h => h.2.2.2.2.2.2.1) (by decide +kernel) ok_X12_init_24
theorem ok_X12_init_21 : zOK l D tc A nS xs mM_X12_init 21 q_X12_init_21 := r_newa (t0 := 0) (atype := .int) (ty := .int) rfl (by decide) rfl rfl z_RA_int rfl (by decide) w_109 (by decide +kernel) ok_X12_init_23
theorem ok_X12_init_18 : zOK l D tc A nS xs mM_X12_init 18 q_X12_init_18 := s_sipush (n := 8192) (by decide) (by decide +kernel) (by decide +kernel) ok_X12_init_21
theorem ok_X12_init_17 : zOK l D tc A nS xs mM_X12_init 17 q_X12_init_17 := s_iconst (n := 1) (by decide) (by decide +kernel) (by decide +kernel) ok_X12_init_18
theorem ok_X12_init_16 : zOK l D tc A nS xs mM_X12_init 16 q_X12_init_16 := s_dup (by decide +kernel) ok_X12_init_17
theorem ok_X12_init_15 : zOK l D tc A nS xs mM_X12_init 15 q_X12_init_15 := s_aast (fun U f h => h.2.2.2.2.2.2.1) (by decide +kernel) ok_X12_init_16
theorem ok_X12_init_13 : zOK l D tc A nS xs mM_X12_init 13 q_X12_init_13 := r_newa (t0 := 0) (atype := .int) (ty := .int) rfl (by decide) rfl rfl z_RA_int rfl (by decide) w_109 (by decide +kernel) ok_X12_init_15
theorem ok_X12_init_11 : zOK l D tc A nS xs mM_X12_init 11 q_X12_init_11 := r_ldc (by decide) (x := (65536 : Int32)) (by decide +kernel) rfl w_872 (by decide +kernel) ok_X12_init_13
theorem ok_X12_init_10 : zOK l D tc A nS xs mM_X12_init 10 q_X12_init_10 := s_iconst (n := 0) (by decide) (by decide +kernel) (by decide +kernel) ok_X12_init_11
theorem ok_X12_init_9 : zOK l D tc A nS xs mM_X12_init 9 q_X12_init_9 := s_dup (by decide +kernel) ok_X12_init_10
theorem ok_X12_init_6 : zOK l D tc A nS xs mM_X12_init 6 q_X12_init_6 := r_anew (t0 := 2) rfl rfl (by decide) (by decide +kernel) (fun U f h => h.2.2.2.2.2.1) rfl rfl w_836 (by decide +kernel) ok_X12_init_9
theorem ok_X12_init_5 : zOK l D tc A nS xs mM_X12_init 5 q_X12_init_5 := s_iconst (n := 2) (by decide) (by decide +kernel) (by decide +kernel) ok_X12_init_6
theorem ok_X12_init_4 : zOK l D tc A nS xs mM_X12_init 4 q_X12_init_4 := s_aload_n (q := 0) rfl (by decide +kernel) (by decide +kernel) ok_X12_init_5
theorem ok_X12_init_1 : zOK l D tc A nS xs mM_X12_init 1 q_X12_init_1 := s_oinit w_873 w_112 w_oi (by decide +kernel) ok_X12_init_4
theorem ok_X12_init_0 : zOK l D tc A nS xs mM_X12_init 0 q_X12_init_0 := s_aload_n (q := 0) rfl (by decide +kernel) (by decide +kernel) ok_X12_init_1
theorem ok_J7_fill_53178_20 : zOK l D tc A nS xs mM_J7_fill_53178 20 q_J7_fill_53178_20 := s_vret rfl (by decide +kernel)
theorem ok_J7_fill_53178_17 : zOK l D tc A nS xs mM_J7_fill_53178 17 q_J7_fill_53178_17 := s_goto (tgt := 5) (off := (-12)) (by decide +kernel) (by decide) (s_back lb_12)
theorem ok_J7_fill_53178_14 : zOK l D tc A nS xs mM_J7_fill_53178 14 q_J7_fill_53178_14 := s_iinc (n := 1) (by decide +kernel) (by decide +kernel) (by decide +kernel) ok_J7_fill_53178_17
theorem ok_J7_fill_53178_13 : zOK l D tc A nS xs mM_J7_fill_53178 13 q_J7_fill_53178_13 := s_iast (t0 := 0) (by decide) (by decide) rfl (by decide +kernel) ok_J7_fill_53178_14
theorem ok_J7_fill_53178_12 : zOK l D tc A nS xs mM_J7_fill_53178 12 q_J7_fill_53178_12 := s_iload_n (q := 1) rfl (by decide +kernel) (by decide +kernel) ok_J7_fill_53178_13
theorem ok_J7_fill_53178_11 : zOK l D tc A nS xs mM_J7_fill_53178 11 q_J7_fill_53178_11 := s_iload_n (q := 2) rfl (by decide +kernel) (by decide +kernel) ok_J7_fill_53178_12
theorem ok_J7_fill_53178_10 : zOK l D tc A nS xs mM_J7_fill_53178 10 q_J7_fill_53178_10 := s_aload_n (q := 0) rfl (by decide +kernel) (by decide +kernel) ok_J7_fill_53178_11
theorem ok_J7_fill_53178_7 : zOK l D tc A nS xs mM_J7_fill_53178 7 q_J7_fill_53178_7 := s_icmp_ge (tgt := 20) (off := 13) (by decide +kernel) (by decide) ok_J7_fill_53178_20 ok_J7_fill_53178_10
theorem ok_J7_fill_53178_6 : zOK l D tc A nS xs mM_J7_fill_53178 6 q_J7_fill_53178_6 := s_iload_n (q := 3) rfl (by decide +kernel) (by decide +kernel) ok_J7_fill_53178_7
theorem ok_J7_fill_53178_5 : zOK l D tc A nS xs mM_J7_fill_53178 5 q_J7_fill_53178_5 := s_iload_n (q := 2) rfl (by decide +kernel) (by decide +kernel) ok_J7_fill_53178_6
theorem ok_J7_fill_53178_4 : zOK l D tc A nS xs mM_J7_fill_53178 4 q_J7_fill_53178_4 := s_istore_n (q := 3) rfl (by decide +kernel) (by decide +kernel) ok_J7_fill_53178_5
theorem ok_J7_fill_53178_3 : zOK l D tc A nS xs mM_J7_fill_53178 3 q_J7_fill_53178_3 := s_len (t0 := 0) (ty := .int) (by decide) (by decide) rfl (by decide +kernel) ok_J7_fill_53178_4
theorem ok_J7_fill_53178_2 : zOK l D tc A nS xs mM_J7_fill_53178 2 q_J7_fill_53178_2 := s_aload_n (q := 0) rfl (by decide +kernel) (by decide +kernel) ok_J7_fill_53178_3
theorem ok_J7_fill_53178_1 : zOK l D tc A nS xs mM_J7_fill_53178 1 q_J7_fill_53178_1 := s_istore_n (q := 2) rfl (by decide +kernel) (by decide +kernel) ok_J7_fill_53178_2
theorem ok_J7_fill_53178_0 : zOK l D tc A nS xs mM_J7_fill_53178 0 q_J7_fill_53178_0 := s_iconst (n := 0) (by decide) (by decide +kernel) (by decide +kernel) ok_J7_fill_53178_1
end ZRows
