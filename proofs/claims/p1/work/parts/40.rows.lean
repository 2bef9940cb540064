section ZRows
variable {l : Launch} {D : va_G} {tc : Nat → ClassId} {A : Nat → Prop} {nS : Nat} {xs : Nat → Int32}
theorem ok_J0_charAt_5068e_15 : zOK l D tc A nS xs mM_J0_charAt_5068e 15 q_J0_charAt_5068e_15 := s_cret rfl (by decide +kernel)
theorem ok_J0_charAt_5068e_12 : zOK l D tc A nS xs mM_J0_charAt_5068e 12 q_J0_charAt_5068e_12 := r_callS zEE_ok zTw_gd (M2 := mM_J1_charAt_3b067) lb_7 calS_J1_charAt_3b067 rfl rfl w_0 (by decide +kernel) ok_J0_charAt_5068e_15
theorem ok_J0_charAt_5068e_11 : zOK l D tc A nS xs mM_J0_charAt_5068e 11 q_J0_charAt_5068e_11 := s_iload_n (q := 1) rfl (by decide +kernel) (by decide +kernel) ok_J0_charAt_5068e_12
theorem ok_J0_charAt_5068e_8 : zOK l D tc A nS xs mM_J0_charAt_5068e 8 q_J0_charAt_5068e_8 := s_sval (fun U f h => h.2.1) w_4 (by decide +kernel) ok_J0_charAt_5068e_11
theorem ok_J0_charAt_5068e_7 : zOK l D tc A nS xs mM_J0_charAt_5068e 7 q_J0_charAt_5068e_7 := s_aload_n (q := 0) rfl (by decide +kernel) (by decide +kernel) ok_J0_charAt_5068e_8
theorem ok_J0_charAt_5068e_4 : zOK l D tc A nS xs mM_J0_charAt_5068e 4 q_J0_charAt_5068e_4 := s_if_eq (tgt := 16) (off := 12) (by decide +kernel) (by decide) s_none ok_J0_charAt_5068e_7
theorem ok_J0_charAt_5068e_1 : zOK l D tc A nS xs mM_J0_charAt_5068e 1 q_J0_charAt_5068e_1 := r_callT zEE_ok zTw_gd (fun U f h => h.2.1) (M2 := mM_J0_isLatin1_aae02) (na := 0) lb_4 calV_J0_isLatin1_aae02 rfl rfl w_5 (by decide +kernel) ok_J0_charAt_5068e_4
theorem ok_J0_charAt_5068e_0 : zOK l D tc A nS xs mM_J0_charAt_5068e 0 q_J0_charAt_5068e_0 := s_aload_n (q := 0) rfl (by decide +kernel) (by decide +kernel) ok_J0_charAt_5068e_1
theorem ok_J0_coder_7d493_14 : zOK l D tc A nS xs mM_J0_coder_7d493 14 q_J0_coder_7d493_14 := s_bret rfl (by decide +kernel)
theorem ok_J0_coder_7d493_10 : zOK l D tc A nS xs mM_J0_coder_7d493 10 q_J0_coder_7d493_10 := s_goto (tgt := 14) (off := 4) (by decide +kernel) (by decide) ok_J0_coder_7d493_14
theorem ok_J0_coder_7d493_7 : zOK l D tc A nS xs mM_J0_coder_7d493 7 q_J0_coder_7d493_7 := s_scod (fun U f h => h.2.1) w_10 (by decide +kernel) ok_J0_coder_7d493_10
theorem ok_J0_coder_7d493_6 : zOK l D tc A nS xs mM_J0_coder_7d493 6 q_J0_coder_7d493_6 := s_aload_n (q := 0) rfl (by decide +kernel) (by decide +kernel) ok_J0_coder_7d493_7
theorem ok_J0_coder_7d493_3 : zOK l D tc A nS xs mM_J0_coder_7d493 3 q_J0_coder_7d493_3 := s_if_eq (tgt := 13) (off := 10) (by decide +kernel) (by decide) s_none ok_J0_coder_7d493_6
theorem ok_J0_coder_7d493_0 : zOK l D tc A nS xs mM_J0_coder_7d493 0 q_J0_coder_7d493_0 := s_gets (fun U f h => h.2.2.2.1) w_11 (by decide +kernel) ok_J0_coder_7d493_3
theorem ok_J0_indexOf_0f7a4_6 : zOK l D tc A nS xs mM_J0_indexOf_0f7a4 6 q_J0_indexOf_0f7a4_6 := s_iret rfl (by decide +kernel)
theorem ok_J0_indexOf_0f7a4_3 : zOK l D tc A nS xs mM_J0_indexOf_0f7a4 3 q_J0_indexOf_0f7a4_3 := r_callT zEE_ok zTw_gd (fun U f h => h.2.1) (M2 := mM_J0_indexOf_7cf53) (na := 2) lb_3 calV_J0_indexOf_7cf53 rfl rfl w_12 (by decide +kernel) ok_J0_indexOf_0f7a4_6
theorem ok_J0_indexOf_0f7a4_2 : zOK l D tc A nS xs mM_J0_indexOf_0f7a4 2 q_J0_indexOf_0f7a4_2 := s_iconst (n := 0) (by decide) (by decide +kernel) (by decide +kernel) ok_J0_indexOf_0f7a4_3
theorem ok_J0_indexOf_0f7a4_1 : zOK l D tc A nS xs mM_J0_indexOf_0f7a4 1 q_J0_indexOf_0f7a4_1 := s_iload_n (q := 1) rfl (by decide +kernel) (by decide +kernel) ok_J0_indexOf_0f7a4_2
theorem ok_J0_indexOf_0f7a4_0 : zOK l D tc A nS xs mM_J0_indexOf_0f7a4 0 q_J0_indexOf_0f7a4_0 := s_aload_n (q := 0) rfl (by decide +kernel) (by decide +kernel) ok_J0_indexOf_0f7a4_1
theorem ok_J0_indexOf_7cf53_36 : zOK l D tc A nS xs mM_J0_indexOf_7cf53 36 q_J0_indexOf_7cf53_36 := s_iret rfl (by decide +kernel)
theorem ok_J0_indexOf_7cf53_20 : zOK l D tc A nS xs mM_J0_indexOf_7cf53 20 q_J0_indexOf_7cf53_20 := s_goto (tgt := 36) (off := 16) (by decide +kernel) (by decide) ok_J0_indexOf_7cf53_36
theorem ok_J0_indexOf_7cf53_17 : zOK l D tc A nS xs mM_J0_indexOf_7cf53 17 q_J0_indexOf_7cf53_17 := r_callS zEE_ok zTw_gd (M2 := mM_J1_indexOf_4cfef) lb_10 calS_J1_indexOf_4cfef rfl rfl w_16 (by decide +kernel) ok_J0_indexOf_7cf53_20
theorem ok_J0_indexOf_7cf53_14 : zOK l D tc A nS xs mM_J0_indexOf_7cf53 14 q_J0_indexOf_7cf53_14 := r_callT zEE_ok zTw_gd (fun U f h => h.2.1) (M2 := mM_J0_length_8abf5) (na := 0) lb_5 calV_J0_length_8abf5 rfl rfl w_19 (by decide +kernel) ok_J0_indexOf_7cf53_17
theorem ok_J0_indexOf_7cf53_13 : zOK l D tc A nS xs mM_J0_indexOf_7cf53 13 q_J0_indexOf_7cf53_13 := s_aload_n (q := 0) rfl (by decide +kernel) (by decide +kernel) ok_J0_indexOf_7cf53_14
theorem ok_J0_indexOf_7cf53_12 : zOK l D tc A nS xs mM_J0_indexOf_7cf53 12 q_J0_indexOf_7cf53_12 := s_iload_n (q := 2) rfl (by decide +kernel) (by decide +kernel) ok_J0_indexOf_7cf53_13
theorem ok_J0_indexOf_7cf53_11 : zOK l D tc A nS xs mM_J0_indexOf_7cf53 11 q_J0_indexOf_7cf53_11 := s_iload_n (q := 1) rfl (by decide +kernel) (by decide +kernel) ok_J0_indexOf_7cf53_12
theorem ok_J0_indexOf_7cf53_8 : zOK l D tc A nS xs mM_J0_indexOf_7cf53 8 q_J0_indexOf_7cf53_8 := s_sval (fun U f h => h.2.1) w_4 (by decide +kernel) ok_J0_indexOf_7cf53_11
theorem ok_J0_indexOf_7cf53_7 : zOK l D tc A nS xs mM_J0_indexOf_7cf53 7 q_J0_indexOf_7cf53_7 := s_aload_n (q := 0) rfl (by decide +kernel) (by decide +kernel) ok_J0_indexOf_7cf53_8
theorem ok_J0_indexOf_7cf53_4 : zOK l D tc A nS xs mM_J0_indexOf_7cf53 4 q_J0_indexOf_7cf53_4 := s_if_eq (tgt := 23) (off := 19) (by decide +kernel) (by decide) s_none ok_J0_indexOf_7cf53_7
theorem ok_J0_indexOf_7cf53_1 : zOK l D tc A nS xs mM_J0_indexOf_7cf53 1 q_J0_indexOf_7cf53_1 := r_callT zEE_ok zTw_gd (fun U f h => h.2.1) (M2 := mM_J0_isLatin1_aae02) (na := 0) lb_4 calV_J0_isLatin1_aae02 rfl rfl w_5 (by decide +kernel) ok_J0_indexOf_7cf53_4
theorem ok_J0_indexOf_7cf53_0 : zOK l D tc A nS xs mM_J0_indexOf_7cf53 0 q_J0_indexOf_7cf53_0 := s_aload_n (q := 0) rfl (by decide +kernel) (by decide +kernel) ok_J0_indexOf_7cf53_1
theorem ok_J0_isLatin1_aae02_18 : zOK l D tc A nS xs mM_J0_isLatin1_aae02 18 q_J0_isLatin1_aae02_18 := s_zret rfl (by decide +kernel)
theorem ok_J0_isLatin1_aae02_14 : zOK l D tc A nS xs mM_J0_isLatin1_aae02 14 q_J0_isLatin1_aae02_14 := s_goto (tgt := 18) (off := 4) (by decide +kernel) (by decide) ok_J0_isLatin1_aae02_18
theorem ok_J0_isLatin1_aae02_13 : zOK l D tc A nS xs mM_J0_isLatin1_aae02 13 q_J0_isLatin1_aae02_13 := s_iconst (n := 1) (by decide) (by decide +kernel) (by decide +kernel) ok_J0_isLatin1_aae02_14
theorem ok_J0_isLatin1_aae02_10 : zOK l D tc A nS xs mM_J0_isLatin1_aae02 10 q_J0_isLatin1_aae02_10 := s_if_ne (tgt := 17) (off := 7) (by decide +kernel) (by decide) s_none ok_J0_isLatin1_aae02_13
theorem ok_J0_isLatin1_aae02_7 : zOK l D tc A nS xs mM_J0_isLatin1_aae02 7 q_J0_isLatin1_aae02_7 := s_scod (fun U f h => h.2.1) w_10 (by decide +kernel) ok_J0_isLatin1_aae02_10
theorem ok_J0_isLatin1_aae02_6 : zOK l D tc A nS xs mM_J0_isLatin1_aae02 6 q_J0_isLatin1_aae02_6 := s_aload_n (q := 0) rfl (by decide +kernel) (by decide +kernel) ok_J0_isLatin1_aae02_7
theorem ok_J0_isLatin1_aae02_3 : zOK l D tc A nS xs mM_J0_isLatin1_aae02 3 q_J0_isLatin1_aae02_3 := s_if_eq (tgt := 17) (off := 14) (by decide +kernel) (by decide) s_none ok_J0_isLatin1_aae02_6
theorem ok_J0_isLatin1_aae02_0 : zOK l D tc A nS xs mM_J0_isLatin1_aae02 0 q_J0_isLatin1_aae02_0 := s_gets (fun U f h => h.2.2.2.1) w_11 (by decide +kernel) ok_J0_isLatin1_aae02_3
theorem ok_J0_length_8abf5_10 : zOK l D tc A nS xs mM_J0_length_8abf5 10 q_J0_length_8abf5_10 := s_iret rfl (by decide +kernel)
theorem ok_J0_length_8abf5_9 : zOK l D tc A nS xs mM_J0_length_8abf5 9 q_J0_length_8abf5_9 := s_ishr (by decide +kernel) ok_J0_length_8abf5_10
theorem ok_J0_length_8abf5_6 : zOK l D tc A nS xs mM_J0_length_8abf5 6 q_J0_length_8abf5_6 := r_callT zEE_ok zTw_gd (fun U f h => h.2.1) (M2 := mM_J0_coder_7d493) (na := 0) lb_1 calV_J0_coder_7d493 rfl rfl w_23 (by decide +kernel) ok_J0_length_8abf5_9
theorem ok_J0_length_8abf5_5 : zOK l D tc A nS xs mM_J0_length_8abf5 5 q_J0_length_8abf5_5 := s_aload_n (q := 0) rfl (by decide +kernel) (by decide +kernel) ok_J0_length_8abf5_6
theorem ok_J0_length_8abf5_4 : zOK l D tc A nS xs mM_J0_length_8abf5 4 q_J0_length_8abf5_4 := s_tlen (fun U f h => h.2.1) zTok_ok (by decide +kernel) ok_J0_length_8abf5_5
theorem ok_J0_length_8abf5_1 : zOK l D tc A nS xs mM_J0_length_8abf5 1 q_J0_length_8abf5_1 := s_sval (fun U f h => h.2.1) w_4 (by decide +kernel) ok_J0_length_8abf5_4
theorem ok_J0_length_8abf5_0 : zOK l D tc A nS xs mM_J0_length_8abf5 0 q_J0_length_8abf5_0 := s_aload_n (q := 0) rfl (by decide +kernel) (by decide +kernel) ok_J0_length_8abf5_1
theorem ok_J1_canEncode_9a6ad_16 : zOK l D tc A nS xs mM_J1_canEncode_9a6ad 16 q_J1_canEncode_9a6ad_16 := s_zret rfl (by decide +kernel)
theorem ok_J1_canEncode_9a6ad_12 : zOK l D tc A nS xs mM_J1_canEncode_9a6ad 12 q_J1_canEncode_9a6ad_12 := s_goto (tgt := 16) (off := 4) (by decide +kernel) (by decide) ok_J1_canEncode_9a6ad_16
theorem ok_J1_canEncode_9a6ad_11 : zOK l D tc A nS xs mM_J1_canEncode_9a6ad 11 q_J1_canEncode_9a6ad_11 := s_iconst (n := 1) (by decide) (by decide +kernel) (by decide +kernel) ok_J1_canEncode_9a6ad_12
theorem ok_J1_canEncode_9a6ad_8 : zOK l D tc A nS xs mM_J1_canEncode_9a6ad 8 q_J1_canEncode_9a6ad_8 := s_icmp_gt (tgt := 15) (off := 7) (by decide +kernel) (by decide) s_none ok_J1_canEncode_9a6ad_11
theorem ok_J1_canEncode_9a6ad_5 : zOK l D tc A nS xs mM_J1_canEncode_9a6ad 5 q_J1_canEncode_9a6ad_5 := s_sipush (n := 255) (by decide) (by decide +kernel) (by decide +kernel) ok_J1_canEncode_9a6ad_8
theorem ok_J1_canEncode_9a6ad_4 : zOK l D tc A nS xs mM_J1_canEncode_9a6ad 4 q_J1_canEncode_9a6ad_4 := s_iload_n (q := 0) rfl (by decide +kernel) (by decide +kernel) ok_J1_canEncode_9a6ad_5
theorem ok_J1_canEncode_9a6ad_1 : zOK l D tc A nS xs mM_J1_canEncode_9a6ad 1 q_J1_canEncode_9a6ad_1 := s_if_lt (tgt := 15) (off := 14) (by decide +kernel) (by decide) s_none ok_J1_canEncode_9a6ad_4
theorem ok_J1_canEncode_9a6ad_0 : zOK l D tc A nS xs mM_J1_canEncode_9a6ad 0 q_J1_canEncode_9a6ad_0 := s_iload_n (q := 0) rfl (by decide +kernel) (by decide +kernel) ok_J1_canEncode_9a6ad_1
theorem ok_J1_charAt_3b067_14 : zOK l D tc A nS xs mM_J1_charAt_3b067 14 q_J1_charAt_3b067_14 := s_cret rfl (by decide +kernel)
theorem ok_J1_charAt_3b067_13 : zOK l D tc A nS xs mM_J1_charAt_3b067 13 q_J1_charAt_3b067_13 := s_i2c (by decide +kernel) ok_J1_charAt_3b067_14
theorem ok_J1_charAt_3b067_12 : zOK l D tc A nS xs mM_J1_charAt_3b067 12 q_J1_charAt_3b067_12 := s_iand (by decide +kernel) ok_J1_charAt_3b067_13
theorem ok_J1_charAt_3b067_9 : zOK l D tc A nS xs mM_J1_charAt_3b067 9 q_J1_charAt_3b067_9 := s_sipush (n := 255) (by decide) (by decide +kernel) (by decide +kernel) ok_J1_charAt_3b067_12
theorem ok_J1_charAt_3b067_8 : zOK l D tc A nS xs mM_J1_charAt_3b067 8 q_J1_charAt_3b067_8 := s_tald (fun U f h => h.2.1) zTok_ok (by decide +kernel) ok_J1_charAt_3b067_9
theorem ok_J1_charAt_3b067_7 : zOK l D tc A nS xs mM_J1_charAt_3b067 7 q_J1_charAt_3b067_7 := s_iload_n (q := 1) rfl (by decide +kernel) (by decide +kernel) ok_J1_charAt_3b067_8
theorem ok_J1_charAt_3b067_6 : zOK l D tc A nS xs mM_J1_charAt_3b067 6 q_J1_charAt_3b067_6 := s_aload_n (q := 0) rfl (by decide +kernel) (by decide +kernel) ok_J1_charAt_3b067_7
theorem ok_J1_charAt_3b067_3 : zOK l D tc A nS xs mM_J1_charAt_3b067 3 q_J1_charAt_3b067_3 := s_chk zEE_ok (fun U f h => h.2.2.2.2.1) zChk_ok w_27 (by decide +kernel) ok_J1_charAt_3b067_6
theorem ok_J1_charAt_3b067_2 : zOK l D tc A nS xs mM_J1_charAt_3b067 2 q_J1_charAt_3b067_2 := s_tlen (fun U f h => h.2.1) zTok_ok (by decide +kernel) ok_J1_charAt_3b067_3
theorem ok_J1_charAt_3b067_1 : zOK l D tc A nS xs mM_J1_charAt_3b067 1 q_J1_charAt_3b067_1 := s_aload_n (q := 0) rfl (by decide +kernel) (by decide +kernel) ok_J1_charAt_3b067_2
theorem ok_J1_charAt_3b067_0 : zOK l D tc A nS xs mM_J1_charAt_3b067 0 q_J1_charAt_3b067_0 := s_iload_n (q := 1) rfl (by decide +kernel) (by decide +kernel) ok_J1_charAt_3b067_1
theorem ok_J1_indexOfChar_4cfef_32 : zOK l D tc A nS xs mM_J1_indexOfChar_4cfef 32 q_J1_indexOfChar_4cfef_32 := s_iret rfl (by decide +kernel)
theorem ok_J1_indexOfChar_4cfef_31 : zOK l D tc A nS xs mM_J1_indexOfChar_4cfef 31 q_J1_indexOfChar_4cfef_31 := s_iconst (n := (-1)) (by decide) (by decide +kernel) (by decide +kernel) ok_J1_indexOfChar_4cfef_32
theorem ok_J1_indexOfChar_4cfef_28 : zOK l D tc A nS xs mM_J1_indexOfChar_4cfef 28 q_J1_indexOfChar_4cfef_28 := s_goto (tgt := 7) (off := (-21)) (by decide +kernel) (by decide) (s_back lb_9)
theorem ok_J1_indexOfChar_4cfef_25 : zOK l D tc A nS xs mM_J1_indexOfChar_4cfef 25 q_J1_indexOfChar_4cfef_25 := s_iinc (n := 1) (by decide +kernel) (by decide +kernel) (by decide +kernel) ok_J1_indexOfChar_4cfef_28
theorem ok_J1_indexOfChar_4cfef_24 : zOK l D tc A nS xs mM_J1_indexOfChar_4cfef 24 q_J1_indexOfChar_4cfef_24 := s_iret rfl (by decide +kernel)
theorem ok_J1_indexOfChar_4cfef_22 : zOK l D tc A nS xs mM_J1_indexOfChar_4cfef 22 q_J1_indexOfChar_4cfef_22 := s_iload (by decide +kernel) (by decide +kernel) ok_J1_indexOfChar_4cfef_24
theorem ok_J1_indexOfChar_4cfef_19 : zOK l D tc A nS xs mM_J1_indexOfChar_4cfef 19 q_J1_indexOfChar_4cfef_19 := s_icmp_ne (tgt := 25) (off := 6) (by decide +kernel) (by decide) ok_J1_indexOfChar_4cfef_25 ok_J1_indexOfChar_4cfef_22
theorem ok_J1_indexOfChar_4cfef_17 : zOK l D tc A nS xs mM_J1_indexOfChar_4cfef 17 q_J1_indexOfChar_4cfef_17 := s_iload (by decide +kernel) (by decide +kernel) ok_J1_indexOfChar_4cfef_19
theorem ok_J1_indexOfChar_4cfef_16 : zOK l D tc A nS xs mM_J1_indexOfChar_4cfef 16 q_J1_indexOfChar_4cfef_16 := s_tald (fun U f h => h.2.1) zTok_ok (by decide +kernel) ok_J1_indexOfChar_4cfef_17
theorem ok_J1_indexOfChar_4cfef_14 : zOK l D tc A nS xs mM_J1_indexOfChar_4cfef 14 q_J1_indexOfChar_4cfef_14 := s_iload (by decide +kernel) (by decide +kernel) ok_J1_indexOfChar_4cfef_16
theorem ok_J1_indexOfChar_4cfef_13 : zOK l D tc A nS xs mM_J1_indexOfChar_4cfef 13 q_J1_indexOfChar_4cfef_13 := s_aload_n (q := 0) rfl (by decide +kernel) (by decide +kernel) ok_J1_indexOfChar_4cfef_14
theorem ok_J1_indexOfChar_4cfef_10 : zOK l D tc A nS xs mM_J1_indexOfChar_4cfef 10 q_J1_indexOfChar_4cfef_10 := s_icmp_ge (tgt := 31) (off := 21) (by decide +kernel) (by decide) ok_J1_indexOfChar_4cfef_31 ok_J1_indexOfChar_4cfef_13
theorem ok_J1_indexOfChar_4cfef_9 : zOK l D tc A nS xs mM_J1_indexOfChar_4cfef 9 q_J1_indexOfChar_4cfef_9 := s_iload_n (q := 3) rfl (by decide +kernel) (by decide +kernel) ok_J1_indexOfChar_4cfef_10
theorem ok_J1_indexOfChar_4cfef_7 : zOK l D tc A nS xs mM_J1_indexOfChar_4cfef 7 q_J1_indexOfChar_4cfef_7 := s_iload (by decide +kernel) (by decide +kernel) ok_J1_indexOfChar_4cfef_9
theorem ok_J1_indexOfChar_4cfef_5 : zOK l D tc A nS xs mM_J1_indexOfChar_4cfef 5 q_J1_indexOfChar_4cfef_5 := s_istore (by decide +kernel) (by decide +kernel) ok_J1_indexOfChar_4cfef_7
theorem ok_J1_indexOfChar_4cfef_4 : zOK l D tc A nS xs mM_J1_indexOfChar_4cfef 4 q_J1_indexOfChar_4cfef_4 := s_iload_n (q := 2) rfl (by decide +kernel) (by decide +kernel) ok_J1_indexOfChar_4cfef_5
theorem ok_J1_indexOfChar_4cfef_2 : zOK l D tc A nS xs mM_J1_indexOfChar_4cfef 2 q_J1_indexOfChar_4cfef_2 := s_istore (by decide +kernel) (by decide +kernel) ok_J1_indexOfChar_4cfef_4
theorem ok_J1_indexOfChar_4cfef_1 : zOK l D tc A nS xs mM_J1_indexOfChar_4cfef 1 q_J1_indexOfChar_4cfef_1 := s_i2b (by decide +kernel) ok_J1_indexOfChar_4cfef_2
theorem ok_J1_indexOfChar_4cfef_0 : zOK l D tc A nS xs mM_J1_indexOfChar_4cfef 0 q_J1_indexOfChar_4cfef_0 := s_iload_n (q := 1) rfl (by decide +kernel) (by decide +kernel) ok_J1_indexOfChar_4cfef_1
theorem ok_J1_indexOf_4cfef_36 : zOK l D tc A nS xs mM_J1_indexOf_4cfef 36 q_J1_indexOf_4cfef_36 := s_iret rfl (by decide +kernel)
theorem ok_J1_indexOf_4cfef_33 : zOK l D tc A nS xs mM_J1_indexOf_4cfef 33 q_J1_indexOf_4cfef_33 := r_callS zEE_ok zTw_gd (M2 := mM_J1_indexOfChar_4cfef) lb_8 calS_J1_indexOfChar_4cfef rfl rfl w_28 (by decide +kernel) ok_J1_indexOf_4cfef_36
theorem ok_J1_indexOf_4cfef_32 : zOK l D tc A nS xs mM_J1_indexOf_4cfef 32 q_J1_indexOf_4cfef_32 := s_iload_n (q := 3) rfl (by decide +kernel) (by decide +kernel) ok_J1_indexOf_4cfef_33
theorem ok_J1_indexOf_4cfef_31 : zOK l D tc A nS xs mM_J1_indexOf_4cfef 31 q_J1_indexOf_4cfef_31 := s_iload_n (q := 2) rfl (by decide +kernel) (by decide +kernel) ok_J1_indexOf_4cfef_32
theorem ok_J1_indexOf_4cfef_30 : zOK l D tc A nS xs mM_J1_indexOf_4cfef 30 q_J1_indexOf_4cfef_30 := s_iload_n (q := 1) rfl (by decide +kernel) (by decide +kernel) ok_J1_indexOf_4cfef_31
theorem ok_J1_indexOf_4cfef_29 : zOK l D tc A nS xs mM_J1_indexOf_4cfef 29 q_J1_indexOf_4cfef_29 := s_aload_n (q := 0) rfl (by decide +kernel) (by decide +kernel) ok_J1_indexOf_4cfef_30
theorem ok_J1_indexOf_4cfef_24 : zOK l D tc A nS xs mM_J1_indexOf_4cfef 24 q_J1_indexOf_4cfef_24 := s_icmp_lt (tgt := 29) (off := 5) (by decide +kernel) (by decide) ok_J1_indexOf_4cfef_29 s_none
theorem ok_J1_indexOf_4cfef_23 : zOK l D tc A nS xs mM_J1_indexOf_4cfef 23 q_J1_indexOf_4cfef_23 := s_iload_n (q := 3) rfl (by decide +kernel) (by decide +kernel) ok_J1_indexOf_4cfef_24
theorem ok_J1_indexOf_4cfef_22 : zOK l D tc A nS xs mM_J1_indexOf_4cfef 22 q_J1_indexOf_4cfef_22 := s_iload_n (q := 2) rfl (by decide +kernel) (by decide +kernel) ok_J1_indexOf_4cfef_23
theorem ok_J1_indexOf_4cfef_21 : zOK l D tc A nS xs mM_J1_indexOf_4cfef 21 q_J1_indexOf_4cfef_21 := s_istore_n (q := 3) rfl (by decide +kernel) (by decide +kernel) ok_J1_indexOf_4cfef_22
theorem ok_J1_indexOf_4cfef_18 : zOK l D tc A nS xs mM_J1_indexOf_4cfef 18 q_J1_indexOf_4cfef_18 := s_mmin (by rw [show (mM_J1_indexOf_4cfef).1.cls = "java/lang/StringLatin1" from rfl]; exact w_31) w_32 w_33 w_34 (by decide +kernel) ok_J1_indexOf_4cfef_21
theorem ok_J1_indexOf_4cfef_17 : zOK l D tc A nS xs mM_J1_indexOf_4cfef 17 q_J1_indexOf_4cfef_17 := s_tlen (fun U f h => h.2.1) zTok_ok (by decide +kernel) ok_J1_indexOf_4cfef_18
theorem ok_J1_indexOf_4cfef_16 : zOK l D tc A nS xs mM_J1_indexOf_4cfef 16 q_J1_indexOf_4cfef_16 := s_aload_n (q := 0) rfl (by decide +kernel) (by decide +kernel) ok_J1_indexOf_4cfef_17
theorem ok_J1_indexOf_4cfef_15 : zOK l D tc A nS xs mM_J1_indexOf_4cfef 15 q_J1_indexOf_4cfef_15 := s_iload_n (q := 3) rfl (by decide +kernel) (by decide +kernel) ok_J1_indexOf_4cfef_16
theorem ok_J1_indexOf_4cfef_14 : zOK l D tc A nS xs mM_J1_indexOf_4cfef 14 q_J1_indexOf_4cfef_14 := s_istore_n (q := 2) rfl (by decide +kernel) (by decide +kernel) ok_J1_indexOf_4cfef_15
theorem ok_J1_indexOf_4cfef_11 : zOK l D tc A nS xs mM_J1_indexOf_4cfef 11 q_J1_indexOf_4cfef_11 := s_mmax (by rw [show (mM_J1_indexOf_4cfef).1.cls = "java/lang/StringLatin1" from rfl]; exact w_35) w_36 w_33 w_37 (by decide +kernel) ok_J1_indexOf_4cfef_14
theorem ok_J1_indexOf_4cfef_10 : zOK l D tc A nS xs mM_J1_indexOf_4cfef 10 q_J1_indexOf_4cfef_10 := s_iconst (n := 0) (by decide) (by decide +kernel) (by decide +kernel) ok_J1_indexOf_4cfef_11
theorem ok_J1_indexOf_4cfef_9 : zOK l D tc A nS xs mM_J1_indexOf_4cfef 9 q_J1_indexOf_4cfef_9 := s_iload_n (q := 2) rfl (by decide +kernel) (by decide +kernel) ok_J1_indexOf_4cfef_10
theorem ok_J1_indexOf_4cfef_4 : zOK l D tc A nS xs mM_J1_indexOf_4cfef 4 q_J1_indexOf_4cfef_4 := s_if_ne (tgt := 9) (off := 5) (by decide +kernel) (by decide) ok_J1_indexOf_4cfef_9 s_none
theorem ok_J1_indexOf_4cfef_1 : zOK l D tc A nS xs mM_J1_indexOf_4cfef 1 q_J1_indexOf_4cfef_1 := r_callS zEE_ok zTw_gd (M2 := mM_J1_canEncode_9a6ad) lb_6 calS_J1_canEncode_9a6ad rfl rfl w_38 (by decide +kernel) ok_J1_indexOf_4cfef_4
theorem ok_J1_indexOf_4cfef_0 : zOK l D tc A nS xs mM_J1_indexOf_4cfef 0 q_J1_indexOf_4cfef_0 := s_iload_n (q := 1) rfl (by decide +kernel) (by decide +kernel) ok_J1_indexOf_4cfef_1
theorem ok_J7_fill_53178_20 : zOK l D tc A nS xs mM_J7_fill_53178 20 q_J7_fill_53178_20 := s_vret rfl (by decide +kernel)
theorem ok_J7_fill_53178_17 : zOK l D tc A nS xs mM_J7_fill_53178 17 q_J7_fill_53178_17 := s_goto (tgt := 5) (off := (-12)) (by decide +kernel) (by decide) (s_back lb_12)
theorem ok_J7_fill_53178_14 : zOK l D tc A nS xs mM_J7_fill_53178 14 q_J7_fill_53178_14 := s_iinc (n := 1) (by decide +kernel) (by decide +kernel) (by decide +kernel) ok_J7_fill_53178_17
theorem ok_J7_fill_53178_13 : zOK l D tc A nS xs mM_J7_fill_53178 13 q_J7_fill_53178_13 := s_iast (t0 := 0) (by decide) (by decide) rfl (by decide +kernel) ok_J7_fill_53178_14
theorem ok_J7_fill_53178_12 : zOK l D tc A nS xs mM_J7_fill_53178 12 q_J7_fill_53178_12 := s_iload_n (q := 1) rfl (by decide +kernel) (by decide +kernel) ok_J7_fill_53178_13
theorem ok_J7_fill_53178_11 : zOK l D tc A nS xs mM_J7_fill_53178 11 q_J7_fill_53178_11 := s_iload_n (q := 2) rfl (by decide +kernel) (by decide +kernel) ok_J7_fill_53178_12
theorem ok_J7_fill_53178_10 : zOK l D tc A nS xs mM_J7_fill_53178 10 q_J7_fill_53178_10 := s_aload_n (q := 0) rfl (by decide +kernel) (by decide +kernel) ok_J7_fill_53178_11
theorem ok_J7_fill_53178_7 : zOK l D tc A nS xs mM_J7_fill_53178 7 q_J7_fill_53178_7 := s_icmp_ge (tgt := 20) (off := 13) (by decide +kernel) (by decide) ok_J7_fill_53178_20 ok_J7_fill_53178_10
theorem ok_J7_fill_53178_6 : zOK l D tc A nS xs mM_J7_fill_53178 6 q_J7_fill_53178_6 := s_iload_n (q := 3) rfl (by decide +kernel) (by decide +kernel) ok_J7_fill_53178_7
theorem ok_J7_fill_53178_5 : zOK l D tc A nS xs mM_J7_fill_53178 5 q_J7_fill_53178_5 := s_iload_n (q := 2) rfl (by decide +kernel) (by decide +kernel) ok_J7_fill_53178_6
theorem ok_J7_fill_53178_4 : zOK l D tc A nS xs mM_J7_fill_53178 4 q_J7_fill_53178_4 := s_istore_n (q := 3) rfl (by decide +kernel) (by decide +kernel) ok_J7_fill_53178_5
theorem ok_J7_fill_53178_3 : zOK l D tc A nS xs mM_J7_fill_53178 3 q_J7_fill_53178_3 := s_len (t0 := 0) (ty := .int) (by decide) (by decide) rfl (by decide +kernel) ok_J7_fill_53178_4
theorem ok_J7_fill_53178_2 : zOK l D tc A nS xs mM_J7_fill_53178 2 q_J7_fill_53178_2 := s_aload_n (q := 0) rfl (by decide +kernel) (by decide +kernel) ok_J7_fill_53178_3
theorem ok_J7_fill_53178_1 : zOK l D tc A nS xs mM_J7_fill_53178 1 q_J7_fill_53178_1 := s_istore_n (q := 2) rfl (by decide +kernel) (by decide +kernel) ok_J7_fill_53178_2
theorem ok_J7_fill_53178_0 : zOK l D tc A nS xs mM_J7_fill_53178 0 q_J7_fill_53178_0 := s_iconst (n := 0) (by decide) (by decide +kernel) (by decide +kernel) ok_J7_fill_53178_1
theorem ok_X0_begin_7 : zOK l D tc A nS xs mM_X0_begin 7 q_X0_begin_7 := s_vret rfl (by decide +kernel)
theorem ok_X0_begin_4 : zOK l D tc A nS xs mM_X0_begin 4 q_X0_begin_4 := r_callV zEE_ok zTw_gd kls_9 (M2 := mM_X9_begin) (na := 0) lb_110 calV_X9_begin rfl rfl w_41 (by decide +kernel) ok_X0_begin_7
theorem ok_X0_begin_1 : zOK l D tc A nS xs mM_X0_begin 1 q_X0_begin_1 := r_getf kls_0 (by decide) tx_0_3 rfl w_46 (by decide +kernel) ok_X0_begin_4
theorem ok_X0_begin_0 : zOK l D tc A nS xs mM_X0_begin 0 q_X0_begin_0 := s_aload_n (q := 0) rfl (by decide +kernel) (by decide +kernel) ok_X0_begin_1
theorem ok_X0_beginForm_30 : zOK l D tc A nS xs mM_X0_beginForm 30 q_X0_beginForm_30 := s_vret rfl (by decide +kernel)
theorem ok_X0_beginForm_27 : zOK l D tc A nS xs mM_X0_beginForm 27 q_X0_beginForm_27 := r_callV zEE_ok zTw_gd kls_0 (M2 := mM_X0_push) (na := 5) lb_23 calV_X0_push rfl rfl w_47 (by decide +kernel) ok_X0_beginForm_30
theorem ok_X0_beginForm_26 : zOK l D tc A nS xs mM_X0_beginForm 26 q_X0_beginForm_26 := s_iconst (n := 0) (by decide) (by decide +kernel) (by decide +kernel) ok_X0_beginForm_27
theorem ok_X0_beginForm_25 : zOK l D tc A nS xs mM_X0_beginForm 25 q_X0_beginForm_25 := s_iconst (n := 1) (by decide) (by decide +kernel) (by decide +kernel) ok_X0_beginForm_26
theorem ok_X0_beginForm_24 : zOK l D tc A nS xs mM_X0_beginForm 24 q_X0_beginForm_24 := s_iconst (n := (-1)) (by decide) (by decide +kernel) (by decide +kernel) ok_X0_beginForm_25
theorem ok_X0_beginForm_23 : zOK l D tc A nS xs mM_X0_beginForm 23 q_X0_beginForm_23 := s_iload_n (q := 1) rfl (by decide +kernel) (by decide +kernel) ok_X0_beginForm_24
theorem ok_X0_beginForm_21 : zOK l D tc A nS xs mM_X0_beginForm 21 q_X0_beginForm_21 := s_bipush (n := 8) (by decide) (by decide +kernel) (by decide +kernel) ok_X0_beginForm_23
theorem ok_X0_beginForm_20 : zOK l D tc A nS xs mM_X0_beginForm 20 q_X0_beginForm_20 := s_aload_n (q := 0) rfl (by decide +kernel) (by decide +kernel) ok_X0_beginForm_21
theorem ok_X0_beginForm_17 : zOK l D tc A nS xs mM_X0_beginForm 17 q_X0_beginForm_17 := r_putf kls_0 ty_0_11 zck_int (by decide) tx_0_11 rfl w_51 (by decide +kernel) ok_X0_beginForm_20
theorem ok_X0_beginForm_16 : zOK l D tc A nS xs mM_X0_beginForm 16 q_X0_beginForm_16 := s_iconst (n := 0) (by decide) (by decide +kernel) (by decide +kernel) ok_X0_beginForm_17
theorem ok_X0_beginForm_15 : zOK l D tc A nS xs mM_X0_beginForm 15 q_X0_beginForm_15 := s_aload_n (q := 0) rfl (by decide +kernel) (by decide +kernel) ok_X0_beginForm_16
theorem ok_X0_beginForm_12 : zOK l D tc A nS xs mM_X0_beginForm 12 q_X0_beginForm_12 := r_putf kls_0 ty_0_8 zck_int (by decide) tx_0_8 rfl w_52 (by decide +kernel) ok_X0_beginForm_15
theorem ok_X0_beginForm_11 : zOK l D tc A nS xs mM_X0_beginForm 11 q_X0_beginForm_11 := s_iconst (n := 0) (by decide) (by decide +kernel) (by decide +kernel) ok_X0_beginForm_12
theorem ok_X0_beginForm_10 : zOK l D tc A nS xs mM_X0_beginForm 10 q_X0_beginForm_10 := s_aload_n (q := 0) rfl (by decide +kernel) (by decide +kernel) ok_X0_beginForm_11
theorem ok_X0_beginForm_7 : zOK l D tc A nS xs mM_X0_beginForm 7 q_X0_beginForm_7 := r_putf kls_0 ty_0_7 zck_int (by decide) tx_0_7 rfl w_53 (by decide +kernel) ok_X0_beginForm_10
theorem ok_X0_beginForm_6 : zOK l D tc A nS xs mM_X0_beginForm 6 q_X0_beginForm_6 := s_iconst (n := 0) (by decide) (by decide +kernel) (by decide +kernel) ok_X0_beginForm_7
theorem ok_X0_beginForm_5 : zOK l D tc A nS xs mM_X0_beginForm 5 q_X0_beginForm_5 := s_aload_n (q := 0) rfl (by decide +kernel) (by decide +kernel) ok_X0_beginForm_6
theorem ok_X0_beginForm_2 : zOK l D tc A nS xs mM_X0_beginForm 2 q_X0_beginForm_2 := r_putf kls_0 ty_0_5 zck_int (by decide) tx_0_5 rfl w_54 (by decide +kernel) ok_X0_beginForm_5
theorem ok_X0_beginForm_1 : zOK l D tc A nS xs mM_X0_beginForm 1 q_X0_beginForm_1 := s_iconst (n := 0) (by decide) (by decide +kernel) (by decide +kernel) ok_X0_beginForm_2
theorem ok_X0_beginForm_0 : zOK l D tc A nS xs mM_X0_beginForm 0 q_X0_beginForm_0 := s_aload_n (q := 0) rfl (by decide +kernel) (by decide +kernel) ok_X0_beginForm_1
theorem ok_X0_codeConstant_25 : zOK l D tc A nS xs mM_X0_codeConstant 25 q_X0_codeConstant_25 := s_vret rfl (by decide +kernel)
theorem ok_X0_codeConstant_22 : zOK l D tc A nS xs mM_X0_codeConstant 22 q_X0_codeConstant_22 := r_callV zEE_ok zTw_gd kls_0 (M2 := mM_X0_emit) (na := 1) lb_18 calV_X0_emit rfl rfl w_55 (by decide +kernel) ok_X0_codeConstant_25
theorem ok_X0_codeConstant_20 : zOK l D tc A nS xs mM_X0_codeConstant 20 q_X0_codeConstant_20 := r_ldc (by decide) (x := (34820 : Int32)) (by decide +kernel) rfl w_58 (by decide +kernel) ok_X0_codeConstant_22
theorem ok_X0_codeConstant_19 : zOK l D tc A nS xs mM_X0_codeConstant 19 q_X0_codeConstant_19 := s_aload_n (q := 0) rfl (by decide +kernel) (by decide +kernel) ok_X0_codeConstant_20
theorem ok_X0_codeConstant_16 : zOK l D tc A nS xs mM_X0_codeConstant 16 q_X0_codeConstant_16 := s_if_eq (tgt := 25) (off := 9) (by decide +kernel) (by decide) ok_X0_codeConstant_25 ok_X0_codeConstant_19
theorem ok_X0_codeConstant_13 : zOK l D tc A nS xs mM_X0_codeConstant 13 q_X0_codeConstant_13 := r_callV zEE_ok zTw_gd kls_0 (M2 := mM_X0_inTail) (na := 0) lb_19 calV_X0_inTail rfl rfl w_59 (by decide +kernel) ok_X0_codeConstant_16
theorem ok_X0_codeConstant_12 : zOK l D tc A nS xs mM_X0_codeConstant 12 q_X0_codeConstant_12 := s_aload_n (q := 0) rfl (by decide +kernel) (by decide +kernel) ok_X0_codeConstant_13
theorem ok_X0_codeConstant_9 : zOK l D tc A nS xs mM_X0_codeConstant 9 q_X0_codeConstant_9 := r_callV zEE_ok zTw_gd kls_0 (M2 := mM_X0_emit) (na := 1) lb_18 calV_X0_emit rfl rfl w_55 (by decide +kernel) ok_X0_codeConstant_12
theorem ok_X0_codeConstant_8 : zOK l D tc A nS xs mM_X0_codeConstant 8 q_X0_codeConstant_8 := s_iload_n (q := 1) rfl (by decide +kernel) (by decide +kernel) ok_X0_codeConstant_9
theorem ok_X0_codeConstant_7 : zOK l D tc A nS xs mM_X0_codeConstant 7 q_X0_codeConstant_7 := s_aload_n (q := 0) rfl (by decide +kernel) (by decide +kernel) ok_X0_codeConstant_8
theorem ok_X0_codeConstant_4 : zOK l D tc A nS xs mM_X0_codeConstant 4 q_X0_codeConstant_4 := r_callV zEE_ok zTw_gd kls_0 (M2 := mM_X0_emit) (na := 1) lb_18 calV_X0_emit rfl rfl w_55 (by decide +kernel) ok_X0_codeConstant_7
theorem ok_X0_codeConstant_1 : zOK l D tc A nS xs mM_X0_codeConstant 1 q_X0_codeConstant_1 := s_sipush (n := 5568) (by decide) (by decide +kernel) (by decide +kernel) ok_X0_codeConstant_4
theorem ok_X0_codeConstant_0 : zOK l D tc A nS xs mM_X0_codeConstant 0 q_X0_codeConstant_0 := s_aload_n (q := 0) rfl (by decide +kernel) (by decide +kernel) ok_X0_codeConstant_1
theorem ok_X0_codeDefineSyntax_79 : zOK l D tc A nS xs mM_X0_codeDefineSyntax 79 q_X0_codeDefineSyntax_79 := s_vret rfl (by decide +kernel)
theorem ok_X0_codeDefineSyntax_76 : zOK l D tc A nS xs mM_X0_codeDefineSyntax 76 q_X0_codeDefineSyntax_76 := r_callV zEE_ok zTw_gd kls_0 (M2 := mM_X0_push) (na := 5) lb_23 calV_X0_push rfl rfl w_47 (by decide +kernel) ok_X0_codeDefineSyntax_79
theorem ok_X0_codeDefineSyntax_75 : zOK l D tc A nS xs mM_X0_codeDefineSyntax 75 q_X0_codeDefineSyntax_75 := s_iconst (n := 0) (by decide) (by decide +kernel) (by decide +kernel) ok_X0_codeDefineSyntax_76
theorem ok_X0_codeDefineSyntax_72 : zOK l D tc A nS xs mM_X0_codeDefineSyntax 72 q_X0_codeDefineSyntax_72 := r_getf kls_0 (by decide) tx_0_12 rfl w_62 (by decide +kernel) ok_X0_codeDefineSyntax_75
theorem ok_X0_codeDefineSyntax_71 : zOK l D tc A nS xs mM_X0_codeDefineSyntax 71 q_X0_codeDefineSyntax_71 := s_aload_n (q := 0) rfl (by decide +kernel) (by decide +kernel) ok_X0_codeDefineSyntax_72
theorem ok_X0_codeDefineSyntax_68 : zOK l D tc A nS xs mM_X0_codeDefineSyntax 68 q_X0_codeDefineSyntax_68 := r_callV zEE_ok zTw_gd kls_0 (M2 := mM_X0_third) (na := 0) lb_26 calV_X0_third rfl rfl w_63 (by decide +kernel) ok_X0_codeDefineSyntax_71
theorem ok_X0_codeDefineSyntax_67 : zOK l D tc A nS xs mM_X0_codeDefineSyntax 67 q_X0_codeDefineSyntax_67 := s_aload_n (q := 0) rfl (by decide +kernel) (by decide +kernel) ok_X0_codeDefineSyntax_68
theorem ok_X0_codeDefineSyntax_64 : zOK l D tc A nS xs mM_X0_codeDefineSyntax 64 q_X0_codeDefineSyntax_64 := r_getf kls_0 (by decide) tx_0_9 rfl w_66 (by decide +kernel) ok_X0_codeDefineSyntax_67
theorem ok_X0_codeDefineSyntax_63 : zOK l D tc A nS xs mM_X0_codeDefineSyntax 63 q_X0_codeDefineSyntax_63 := s_aload_n (q := 0) rfl (by decide +kernel) (by decide +kernel) ok_X0_codeDefineSyntax_64
theorem ok_X0_codeDefineSyntax_61 : zOK l D tc A nS xs mM_X0_codeDefineSyntax 61 q_X0_codeDefineSyntax_61 := s_bipush (n := 19) (by decide) (by decide +kernel) (by decide +kernel) ok_X0_codeDefineSyntax_63
theorem ok_X0_codeDefineSyntax_60 : zOK l D tc A nS xs mM_X0_codeDefineSyntax 60 q_X0_codeDefineSyntax_60 := s_aload_n (q := 0) rfl (by decide +kernel) (by decide +kernel) ok_X0_codeDefineSyntax_61
theorem ok_X0_codeDefineSyntax_51 : zOK l D tc A nS xs mM_X0_codeDefineSyntax 51 q_X0_codeDefineSyntax_51 := s_if_eq (tgt := 60) (off := 9) (by decide +kernel) (by decide) ok_X0_codeDefineSyntax_60 s_none
theorem ok_X0_codeDefineSyntax_48 : zOK l D tc A nS xs mM_X0_codeDefineSyntax 48 q_X0_codeDefineSyntax_48 := r_callV zEE_ok zTw_gd kls_10 (M2 := mM_X10_hasAlias) (na := 1) lb_128 calV_X10_hasAlias rfl rfl w_67 (by decide +kernel) ok_X0_codeDefineSyntax_51
theorem ok_X0_codeDefineSyntax_45 : zOK l D tc A nS xs mM_X0_codeDefineSyntax 45 q_X0_codeDefineSyntax_45 := r_callV zEE_ok zTw_gd kls_0 (M2 := mM_X0_third) (na := 0) lb_26 calV_X0_third rfl rfl w_63 (by decide +kernel) ok_X0_codeDefineSyntax_48
theorem ok_X0_codeDefineSyntax_44 : zOK l D tc A nS xs mM_X0_codeDefineSyntax 44 q_X0_codeDefineSyntax_44 := s_aload_n (q := 0) rfl (by decide +kernel) (by decide +kernel) ok_X0_codeDefineSyntax_45
theorem ok_X0_codeDefineSyntax_41 : zOK l D tc A nS xs mM_X0_codeDefineSyntax 41 q_X0_codeDefineSyntax_41 := r_getf kls_0 (by decide) tx_0_0 rfl w_72 (by decide +kernel) ok_X0_codeDefineSyntax_44
theorem ok_X0_codeDefineSyntax_40 : zOK l D tc A nS xs mM_X0_codeDefineSyntax 40 q_X0_codeDefineSyntax_40 := s_aload_n (q := 0) rfl (by decide +kernel) (by decide +kernel) ok_X0_codeDefineSyntax_41
theorem ok_X0_codeDefineSyntax_37 : zOK l D tc A nS xs mM_X0_codeDefineSyntax 37 q_X0_codeDefineSyntax_37 := s_if_eq (tgt := 54) (off := 17) (by decide +kernel) (by decide) s_none ok_X0_codeDefineSyntax_40
theorem ok_X0_codeDefineSyntax_36 : zOK l D tc A nS xs mM_X0_codeDefineSyntax 36 q_X0_codeDefineSyntax_36 := s_iload_n (q := 1) rfl (by decide +kernel) (by decide +kernel) ok_X0_codeDefineSyntax_37
theorem ok_X0_codeDefineSyntax_35 : zOK l D tc A nS xs mM_X0_codeDefineSyntax 35 q_X0_codeDefineSyntax_35 := s_istore_n (q := 1) rfl (by decide +kernel) (by decide +kernel) ok_X0_codeDefineSyntax_36
theorem ok_X0_codeDefineSyntax_31 : zOK l D tc A nS xs mM_X0_codeDefineSyntax 31 q_X0_codeDefineSyntax_31 := s_goto (tgt := 35) (off := 4) (by decide +kernel) (by decide) ok_X0_codeDefineSyntax_35
theorem ok_X0_codeDefineSyntax_30 : zOK l D tc A nS xs mM_X0_codeDefineSyntax 30 q_X0_codeDefineSyntax_30 := s_iconst (n := 1) (by decide) (by decide +kernel) (by decide +kernel) ok_X0_codeDefineSyntax_31
theorem ok_X0_codeDefineSyntax_27 : zOK l D tc A nS xs mM_X0_codeDefineSyntax 27 q_X0_codeDefineSyntax_27 := s_icmp_ne (tgt := 34) (off := 7) (by decide +kernel) (by decide) s_none ok_X0_codeDefineSyntax_30
theorem ok_X0_codeDefineSyntax_26 : zOK l D tc A nS xs mM_X0_codeDefineSyntax 26 q_X0_codeDefineSyntax_26 := s_iconst (n := 2) (by decide) (by decide +kernel) (by decide +kernel) ok_X0_codeDefineSyntax_27
theorem ok_X0_codeDefineSyntax_23 : zOK l D tc A nS xs mM_X0_codeDefineSyntax 23 q_X0_codeDefineSyntax_23 := r_callV zEE_ok zTw_gd kls_10 (M2 := mM_X10_kind) (na := 1) lb_133 calV_X10_kind rfl rfl w_73 (by decide +kernel) ok_X0_codeDefineSyntax_26
theorem ok_X0_codeDefineSyntax_20 : zOK l D tc A nS xs mM_X0_codeDefineSyntax 20 q_X0_codeDefineSyntax_20 := r_callV zEE_ok zTw_gd kls_0 (M2 := mM_X0_second) (na := 0) lb_24 calV_X0_second rfl rfl w_77 (by decide +kernel) ok_X0_codeDefineSyntax_23
theorem ok_X0_codeDefineSyntax_19 : zOK l D tc A nS xs mM_X0_codeDefineSyntax 19 q_X0_codeDefineSyntax_19 := s_aload_n (q := 0) rfl (by decide +kernel) (by decide +kernel) ok_X0_codeDefineSyntax_20
theorem ok_X0_codeDefineSyntax_16 : zOK l D tc A nS xs mM_X0_codeDefineSyntax 16 q_X0_codeDefineSyntax_16 := r_getf kls_0 (by decide) tx_0_0 rfl w_72 (by decide +kernel) ok_X0_codeDefineSyntax_19
theorem ok_X0_codeDefineSyntax_15 : zOK l D tc A nS xs mM_X0_codeDefineSyntax 15 q_X0_codeDefineSyntax_15 := s_aload_n (q := 0) rfl (by decide +kernel) (by decide +kernel) ok_X0_codeDefineSyntax_16
theorem ok_X0_codeDefineSyntax_12 : zOK l D tc A nS xs mM_X0_codeDefineSyntax 12 q_X0_codeDefineSyntax_12 := s_icmp_ne (tgt := 34) (off := 22) (by decide +kernel) (by decide) s_none ok_X0_codeDefineSyntax_15
theorem ok_X0_codeDefineSyntax_11 : zOK l D tc A nS xs mM_X0_codeDefineSyntax 11 q_X0_codeDefineSyntax_11 := s_iconst (n := 3) (by decide) (by decide +kernel) (by decide +kernel) ok_X0_codeDefineSyntax_12
theorem ok_X0_codeDefineSyntax_8 : zOK l D tc A nS xs mM_X0_codeDefineSyntax 8 q_X0_codeDefineSyntax_8 := r_callV zEE_ok zTw_gd kls_10 (M2 := mM_X10_count) (na := 1) lb_123 calV_X10_count rfl rfl w_80 (by decide +kernel) ok_X0_codeDefineSyntax_11
theorem ok_X0_codeDefineSyntax_5 : zOK l D tc A nS xs mM_X0_codeDefineSyntax 5 q_X0_codeDefineSyntax_5 := r_getf kls_0 (by decide) tx_0_9 rfl w_66 (by decide +kernel) ok_X0_codeDefineSyntax_8
theorem ok_X0_codeDefineSyntax_4 : zOK l D tc A nS xs mM_X0_codeDefineSyntax 4 q_X0_codeDefineSyntax_4 := s_aload_n (q := 0) rfl (by decide +kernel) (by decide +kernel) ok_X0_codeDefineSyntax_5
theorem ok_X0_codeDefineSyntax_1 : zOK l D tc A nS xs mM_X0_codeDefineSyntax 1 q_X0_codeDefineSyntax_1 := r_getf kls_0 (by decide) tx_0_0 rfl w_72 (by decide +kernel) ok_X0_codeDefineSyntax_4
theorem ok_X0_codeDefineSyntax_0 : zOK l D tc A nS xs mM_X0_codeDefineSyntax 0 q_X0_codeDefineSyntax_0 := s_aload_n (q := 0) rfl (by decide +kernel) (by decide +kernel) ok_X0_codeDefineSyntax_1
theorem ok_X0_codeForm_90 : zOK l D tc A nS xs mM_X0_codeForm 90 q_X0_codeForm_90 := s_vret rfl (by decide +kernel)
theorem ok_X0_codeForm_71 : zOK l D tc A nS xs mM_X0_codeForm 71 q_X0_codeForm_71 := s_goto (tgt := 90) (off := 19) (by decide +kernel) (by decide) ok_X0_codeForm_90
theorem ok_X0_codeForm_68 : zOK l D tc A nS xs mM_X0_codeForm 68 q_X0_codeForm_68 := r_callV zEE_ok zTw_gd kls_0 (M2 := mM_X0_push) (na := 5) lb_23 calV_X0_push rfl rfl w_47 (by decide +kernel) ok_X0_codeForm_71
theorem ok_X0_codeForm_67 : zOK l D tc A nS xs mM_X0_codeForm 67 q_X0_codeForm_67 := s_iconst (n := 0) (by decide) (by decide +kernel) (by decide +kernel) ok_X0_codeForm_68
theorem ok_X0_codeForm_64 : zOK l D tc A nS xs mM_X0_codeForm 64 q_X0_codeForm_64 := r_getf kls_0 (by decide) tx_0_12 rfl w_62 (by decide +kernel) ok_X0_codeForm_67
theorem ok_X0_codeForm_63 : zOK l D tc A nS xs mM_X0_codeForm 63 q_X0_codeForm_63 := s_aload_n (q := 0) rfl (by decide +kernel) (by decide +kernel) ok_X0_codeForm_64
theorem ok_X0_codeForm_62 : zOK l D tc A nS xs mM_X0_codeForm 62 q_X0_codeForm_62 := s_iconst (n := (-1)) (by decide) (by decide +kernel) (by decide +kernel) ok_X0_codeForm_63
theorem ok_X0_codeForm_59 : zOK l D tc A nS xs mM_X0_codeForm 59 q_X0_codeForm_59 := r_getf kls_0 (by decide) tx_0_9 rfl w_66 (by decide +kernel) ok_X0_codeForm_62
theorem ok_X0_codeForm_58 : zOK l D tc A nS xs mM_X0_codeForm 58 q_X0_codeForm_58 := s_aload_n (q := 0) rfl (by decide +kernel) (by decide +kernel) ok_X0_codeForm_59
theorem ok_X0_codeForm_57 : zOK l D tc A nS xs mM_X0_codeForm 57 q_X0_codeForm_57 := s_iload_n (q := 2) rfl (by decide +kernel) (by decide +kernel) ok_X0_codeForm_58
theorem ok_X0_codeForm_56 : zOK l D tc A nS xs mM_X0_codeForm 56 q_X0_codeForm_56 := s_aload_n (q := 0) rfl (by decide +kernel) (by decide +kernel) ok_X0_codeForm_57
theorem ok_X0_codeForm_53 : zOK l D tc A nS xs mM_X0_codeForm 53 q_X0_codeForm_53 := s_icmp_ne (tgt := 74) (off := 21) (by decide +kernel) (by decide) s_none ok_X0_codeForm_56
theorem ok_X0_codeForm_51 : zOK l D tc A nS xs mM_X0_codeForm 51 q_X0_codeForm_51 := s_bipush (n := 6) (by decide) (by decide +kernel) (by decide +kernel) ok_X0_codeForm_53
theorem ok_X0_codeForm_50 : zOK l D tc A nS xs mM_X0_codeForm 50 q_X0_codeForm_50 := s_iload_n (q := 2) rfl (by decide +kernel) (by decide +kernel) ok_X0_codeForm_51
theorem ok_X0_codeForm_47 : zOK l D tc A nS xs mM_X0_codeForm 47 q_X0_codeForm_47 := s_icmp_eq (tgt := 56) (off := 9) (by decide +kernel) (by decide) ok_X0_codeForm_56 ok_X0_codeForm_50
theorem ok_X0_codeForm_46 : zOK l D tc A nS xs mM_X0_codeForm 46 q_X0_codeForm_46 := s_iconst (n := 5) (by decide) (by decide +kernel) (by decide +kernel) ok_X0_codeForm_47
theorem ok_X0_codeForm_45 : zOK l D tc A nS xs mM_X0_codeForm 45 q_X0_codeForm_45 := s_iload_n (q := 2) rfl (by decide +kernel) (by decide +kernel) ok_X0_codeForm_46
theorem ok_X0_codeForm_22 : zOK l D tc A nS xs mM_X0_codeForm 22 q_X0_codeForm_22 := s_if_eq (tgt := 45) (off := 23) (by decide +kernel) (by decide) ok_X0_codeForm_45 s_none
theorem ok_X0_codeForm_19 : zOK l D tc A nS xs mM_X0_codeForm 19 q_X0_codeForm_19 := r_callV zEE_ok zTw_gd kls_7 (M2 := mM_X7_isMacro) (na := 1) lb_93 calV_X7_isMacro rfl rfl w_84 (by decide +kernel) ok_X0_codeForm_22
theorem ok_X0_codeForm_18 : zOK l D tc A nS xs mM_X0_codeForm 18 q_X0_codeForm_18 := s_iload_n (q := 1) rfl (by decide +kernel) (by decide +kernel) ok_X0_codeForm_19
theorem ok_X0_codeForm_15 : zOK l D tc A nS xs mM_X0_codeForm 15 q_X0_codeForm_15 := r_getf kls_0 (by decide) tx_0_2 rfl w_89 (by decide +kernel) ok_X0_codeForm_18
theorem ok_X0_codeForm_14 : zOK l D tc A nS xs mM_X0_codeForm 14 q_X0_codeForm_14 := s_aload_n (q := 0) rfl (by decide +kernel) (by decide +kernel) ok_X0_codeForm_15
theorem ok_X0_codeForm_13 : zOK l D tc A nS xs mM_X0_codeForm 13 q_X0_codeForm_13 := s_istore_n (q := 2) rfl (by decide +kernel) (by decide +kernel) ok_X0_codeForm_14
theorem ok_X0_codeForm_10 : zOK l D tc A nS xs mM_X0_codeForm 10 q_X0_codeForm_10 := r_callV zEE_ok zTw_gd kls_7 (M2 := mM_X7_keywordOf) (na := 1) lb_96 calV_X7_keywordOf rfl rfl w_90 (by decide +kernel) ok_X0_codeForm_13
theorem ok_X0_codeForm_9 : zOK l D tc A nS xs mM_X0_codeForm 9 q_X0_codeForm_9 := s_iload_n (q := 1) rfl (by decide +kernel) (by decide +kernel) ok_X0_codeForm_10
theorem ok_X0_codeForm_6 : zOK l D tc A nS xs mM_X0_codeForm 6 q_X0_codeForm_6 := r_getf kls_0 (by decide) tx_0_2 rfl w_89 (by decide +kernel) ok_X0_codeForm_9
theorem ok_X0_codeForm_5 : zOK l D tc A nS xs mM_X0_codeForm 5 q_X0_codeForm_5 := s_aload_n (q := 0) rfl (by decide +kernel) (by decide +kernel) ok_X0_codeForm_6
theorem ok_X0_codeForm_4 : zOK l D tc A nS xs mM_X0_codeForm 4 q_X0_codeForm_4 := s_istore_n (q := 1) rfl (by decide +kernel) (by decide +kernel) ok_X0_codeForm_5
theorem ok_X0_codeForm_1 : zOK l D tc A nS xs mM_X0_codeForm 1 q_X0_codeForm_1 := r_callV zEE_ok zTw_gd kls_0 (M2 := mM_X0_meaningOfFirst) (na := 0) lb_22 calV_X0_meaningOfFirst rfl rfl w_94 (by decide +kernel) ok_X0_codeForm_4
theorem ok_X0_codeForm_0 : zOK l D tc A nS xs mM_X0_codeForm 0 q_X0_codeForm_0 := s_aload_n (q := 0) rfl (by decide +kernel) (by decide +kernel) ok_X0_codeForm_1
theorem ok_X0_emit_40 : zOK l D tc A nS xs mM_X0_emit 40 q_X0_emit_40 := s_vret rfl (by decide +kernel)
theorem ok_X0_emit_18 : zOK l D tc A nS xs mM_X0_emit 18 q_X0_emit_18 := s_if_ne (tgt := 40) (off := 22) (by decide +kernel) (by decide) ok_X0_emit_40 s_none
theorem ok_X0_emit_15 : zOK l D tc A nS xs mM_X0_emit 15 q_X0_emit_15 := r_callV zEE_ok zTw_gd kls_2 (M2 := mM_X2_addWord) (na := 1) lb_34 calV_X2_addWord rfl rfl w_97 (by decide +kernel) ok_X0_emit_18
theorem ok_X0_emit_14 : zOK l D tc A nS xs mM_X0_emit 14 q_X0_emit_14 := s_iload_n (q := 1) rfl (by decide +kernel) (by decide +kernel) ok_X0_emit_15
theorem ok_X0_emit_11 : zOK l D tc A nS xs mM_X0_emit 11 q_X0_emit_11 := r_getf kls_0 (by decide) tx_0_1 rfl w_102 (by decide +kernel) ok_X0_emit_14
theorem ok_X0_emit_10 : zOK l D tc A nS xs mM_X0_emit 10 q_X0_emit_10 := s_aload_n (q := 0) rfl (by decide +kernel) (by decide +kernel) ok_X0_emit_11
theorem ok_X0_emit_7 : zOK l D tc A nS xs mM_X0_emit 7 q_X0_emit_7 := s_if_ne (tgt := 40) (off := 33) (by decide +kernel) (by decide) ok_X0_emit_40 ok_X0_emit_10
theorem ok_X0_emit_4 : zOK l D tc A nS xs mM_X0_emit 4 q_X0_emit_4 := r_getN kls_10 (by decide) tx_10_6 rfl (fun U f h => h.1 _ (zNest_25)) (by decide +kernel) ok_X0_emit_7
theorem ok_X0_emit_1 : zOK l D tc A nS xs mM_X0_emit 1 q_X0_emit_1 := r_getf kls_0 (by decide) tx_0_0 rfl w_72 (by decide +kernel) ok_X0_emit_4
theorem ok_X0_emit_0 : zOK l D tc A nS xs mM_X0_emit 0 q_X0_emit_0 := s_aload_n (q := 0) rfl (by decide +kernel) (by decide +kernel) ok_X0_emit_1
theorem ok_X0_inTail_14 : zOK l D tc A nS xs mM_X0_inTail 14 q_X0_inTail_14 := s_zret rfl (by decide +kernel)
theorem ok_X0_inTail_10 : zOK l D tc A nS xs mM_X0_inTail 10 q_X0_inTail_10 := s_goto (tgt := 14) (off := 4) (by decide +kernel) (by decide) ok_X0_inTail_14
theorem ok_X0_inTail_9 : zOK l D tc A nS xs mM_X0_inTail 9 q_X0_inTail_9 := s_iconst (n := 1) (by decide) (by decide +kernel) (by decide +kernel) ok_X0_inTail_10
theorem ok_X0_inTail_6 : zOK l D tc A nS xs mM_X0_inTail 6 q_X0_inTail_6 := s_if_eq (tgt := 13) (off := 7) (by decide +kernel) (by decide) s_none ok_X0_inTail_9
theorem ok_X0_inTail_5 : zOK l D tc A nS xs mM_X0_inTail 5 q_X0_inTail_5 := s_iand (by decide +kernel) ok_X0_inTail_6
theorem ok_X0_inTail_4 : zOK l D tc A nS xs mM_X0_inTail 4 q_X0_inTail_4 := s_iconst (n := 1) (by decide) (by decide +kernel) (by decide +kernel) ok_X0_inTail_5
theorem ok_X0_inTail_1 : zOK l D tc A nS xs mM_X0_inTail 1 q_X0_inTail_1 := r_getf kls_0 (by decide) tx_0_12 rfl w_62 (by decide +kernel) ok_X0_inTail_4
theorem ok_X0_inTail_0 : zOK l D tc A nS xs mM_X0_inTail 0 q_X0_inTail_0 := s_aload_n (q := 0) rfl (by decide +kernel) (by decide +kernel) ok_X0_inTail_1
theorem ok_X0_init_50 : zOK l D tc A nS xs mM_X0_init 50 q_X0_init_50 := s_vret rfl (by decide +kernel)
theorem ok_X0_init_47 : zOK l D tc A nS xs mM_X0_init 47 q_X0_init_47 := r_putF kls_0 ty_0_3 (zck_obj _) (by decide) tx_0_3 rfl rfl rfl w_46 (by decide +kernel) ok_X0_init_50
theorem ok_X0_init_44 : zOK l D tc A nS xs mM_X0_init 44 q_X0_init_44 := r_callI zEE_ok zTw_gd (M2 := mM_X9_init) (na := 2) rfl lb_111 calI_X9_init rfl rfl w_103 (by decide +kernel) ok_X0_init_47
theorem ok_X0_init_43 : zOK l D tc A nS xs mM_X0_init 43 q_X0_init_43 := s_aload_n (q := 3) rfl (by decide +kernel) (by decide +kernel) ok_X0_init_44
theorem ok_X0_init_42 : zOK l D tc A nS xs mM_X0_init 42 q_X0_init_42 := s_aload_n (q := 1) rfl (by decide +kernel) (by decide +kernel) ok_X0_init_43
theorem ok_X0_init_41 : zOK l D tc A nS xs mM_X0_init 41 q_X0_init_41 := s_dup (by decide +kernel) ok_X0_init_42
theorem ok_X0_init_38 : zOK l D tc A nS xs mM_X0_init 38 q_X0_init_38 := r_new (N := 11) rfl kls_9 rfl rfl (by decide) zdf_9 rfl w_106 w_107 w_43 (by decide +kernel) ok_X0_init_41
theorem ok_X0_init_37 : zOK l D tc A nS xs mM_X0_init 37 q_X0_init_37 := s_aload_n (q := 0) rfl (by decide +kernel) (by decide +kernel) ok_X0_init_38
theorem ok_X0_init_34 : zOK l D tc A nS xs mM_X0_init 34 q_X0_init_34 := r_putF kls_0 ty_0_2 (zck_obj _) (by decide) tx_0_2 rfl rfl rfl w_89 (by decide +kernel) ok_X0_init_37
theorem ok_X0_init_33 : zOK l D tc A nS xs mM_X0_init 33 q_X0_init_33 := s_aload_n (q := 3) rfl (by decide +kernel) (by decide +kernel) ok_X0_init_34
theorem ok_X0_init_32 : zOK l D tc A nS xs mM_X0_init 32 q_X0_init_32 := s_aload_n (q := 0) rfl (by decide +kernel) (by decide +kernel) ok_X0_init_33
theorem ok_X0_init_29 : zOK l D tc A nS xs mM_X0_init 29 q_X0_init_29 := r_putF kls_0 ty_0_1 (zck_obj _) (by decide) tx_0_1 rfl rfl rfl w_102 (by decide +kernel) ok_X0_init_32
theorem ok_X0_init_28 : zOK l D tc A nS xs mM_X0_init 28 q_X0_init_28 := s_aload_n (q := 2) rfl (by decide +kernel) (by decide +kernel) ok_X0_init_29
theorem ok_X0_init_27 : zOK l D tc A nS xs mM_X0_init 27 q_X0_init_27 := s_aload_n (q := 0) rfl (by decide +kernel) (by decide +kernel) ok_X0_init_28
theorem ok_X0_init_24 : zOK l D tc A nS xs mM_X0_init 24 q_X0_init_24 := r_putF kls_0 ty_0_0 (zck_obj _) (by decide) tx_0_0 rfl rfl rfl w_72 (by decide +kernel) ok_X0_init_27
theorem ok_X0_init_23 : zOK l D tc A nS xs mM_X0_init 23 q_X0_init_23 := s_aload_n (q := 1) rfl (by decide +kernel) (by decide +kernel) ok_X0_init_24
theorem ok_X0_init_22 : zOK l D tc A nS xs mM_X0_init 22 q_X0_init_22 := s_aload_n (q := 0) rfl (by decide +kernel) (by decide +kernel) ok_X0_init_23
theorem ok_X0_init_19 : zOK l D tc A nS xs mM_X0_init 19 q_X0_init_19 := r_putF kls_0 ty_0_6 (zck_arr _) (by decide) tx_0_6 rfl rfl rfl w_108 (by decide +kernel) ok_X0_init_22
theorem ok_X0_init_17 : zOK l D tc A nS xs mM_X0_init 17 q_X0_init_17 := r_newa (t0 := 0) (atype := .int) (ty := .int) rfl (by decide) rfl rfl z_RA_int rfl (by decide) w_109 (by decide +kernel) ok_X0_init_19
theorem ok_X0_init_14 : zOK l D tc A nS xs mM_X0_init 14 q_X0_init_14 := s_sipush (n := 24576) (by decide) (by decide +kernel) (by decide +kernel) ok_X0_init_17
theorem ok_X0_init_13 : zOK l D tc A nS xs mM_X0_init 13 q_X0_init_13 := s_aload_n (q := 0) rfl (by decide +kernel) (by decide +kernel) ok_X0_init_14
theorem ok_X0_init_10 : zOK l D tc A nS xs mM_X0_init 10 q_X0_init_10 := r_putF kls_0 ty_0_4 (zck_arr _) (by decide) tx_0_4 rfl rfl rfl w_110 (by decide +kernel) ok_X0_init_13
theorem ok_X0_init_8 : zOK l D tc A nS xs mM_X0_init 8 q_X0_init_8 := r_newa (t0 := 0) (atype := .int) (ty := .int) rfl (by decide) rfl rfl z_RA_int rfl (by decide) w_109 (by decide +kernel) ok_X0_init_10
theorem ok_X0_init_5 : zOK l D tc A nS xs mM_X0_init 5 q_X0_init_5 := s_sipush (n := 3072) (by decide) (by decide +kernel) (by decide +kernel) ok_X0_init_8
theorem ok_X0_init_4 : zOK l D tc A nS xs mM_X0_init 4 q_X0_init_4 := s_aload_n (q := 0) rfl (by decide +kernel) (by decide +kernel) ok_X0_init_5
theorem ok_X0_init_1 : zOK l D tc A nS xs mM_X0_init 1 q_X0_init_1 := s_oinit w_111 w_112 w_oi (by decide +kernel) ok_X0_init_4
theorem ok_X0_init_0 : zOK l D tc A nS xs mM_X0_init 0 q_X0_init_0 := s_aload_n (q := 0) rfl (by decide +kernel) (by decide +kernel) ok_X0_init_1
theorem ok_X0_isBusy_33 : zOK l D tc A nS xs mM_X0_isBusy 33 q_X0_isBusy_33 := s_zret rfl (by decide +kernel)
theorem ok_X0_isBusy_32 : zOK l D tc A nS xs mM_X0_isBusy 32 q_X0_isBusy_32 := s_iconst (n := 0) (by decide) (by decide +kernel) (by decide +kernel) ok_X0_isBusy_33
theorem ok_X0_isBusy_29 : zOK l D tc A nS xs mM_X0_isBusy 29 q_X0_isBusy_29 := s_goto (tgt := 33) (off := 4) (by decide +kernel) (by decide) ok_X0_isBusy_33
theorem ok_X0_isBusy_28 : zOK l D tc A nS xs mM_X0_isBusy 28 q_X0_isBusy_28 := s_iconst (n := 1) (by decide) (by decide +kernel) (by decide +kernel) ok_X0_isBusy_29
theorem ok_X0_isBusy_25 : zOK l D tc A nS xs mM_X0_isBusy 25 q_X0_isBusy_25 := s_icmp_ge (tgt := 32) (off := 7) (by decide +kernel) (by decide) ok_X0_isBusy_32 ok_X0_isBusy_28
theorem ok_X0_isBusy_22 : zOK l D tc A nS xs mM_X0_isBusy 22 q_X0_isBusy_22 := r_getf kls_0 (by decide) tx_0_8 rfl w_52 (by decide +kernel) ok_X0_isBusy_25
theorem ok_X0_isBusy_21 : zOK l D tc A nS xs mM_X0_isBusy 21 q_X0_isBusy_21 := s_aload_n (q := 0) rfl (by decide +kernel) (by decide +kernel) ok_X0_isBusy_22
theorem ok_X0_isBusy_18 : zOK l D tc A nS xs mM_X0_isBusy 18 q_X0_isBusy_18 := r_getf kls_0 (by decide) tx_0_7 rfl w_53 (by decide +kernel) ok_X0_isBusy_21
theorem ok_X0_isBusy_17 : zOK l D tc A nS xs mM_X0_isBusy 17 q_X0_isBusy_17 := s_aload_n (q := 0) rfl (by decide +kernel) (by decide +kernel) ok_X0_isBusy_18
theorem ok_X0_isBusy_14 : zOK l D tc A nS xs mM_X0_isBusy 14 q_X0_isBusy_14 := s_if_gt (tgt := 28) (off := 14) (by decide +kernel) (by decide) ok_X0_isBusy_28 ok_X0_isBusy_17
theorem ok_X0_isBusy_11 : zOK l D tc A nS xs mM_X0_isBusy 11 q_X0_isBusy_11 := r_getf kls_0 (by decide) tx_0_5 rfl w_54 (by decide +kernel) ok_X0_isBusy_14
theorem ok_X0_isBusy_10 : zOK l D tc A nS xs mM_X0_isBusy 10 q_X0_isBusy_10 := s_aload_n (q := 0) rfl (by decide +kernel) (by decide +kernel) ok_X0_isBusy_11
theorem ok_X0_isBusy_7 : zOK l D tc A nS xs mM_X0_isBusy 7 q_X0_isBusy_7 := s_if_ne (tgt := 32) (off := 25) (by decide +kernel) (by decide) ok_X0_isBusy_32 ok_X0_isBusy_10
theorem ok_X0_isBusy_4 : zOK l D tc A nS xs mM_X0_isBusy 4 q_X0_isBusy_4 := r_getN kls_10 (by decide) tx_10_6 rfl (fun U f h => h.1 _ (zNest_25)) (by decide +kernel) ok_X0_isBusy_7
theorem ok_X0_isBusy_1 : zOK l D tc A nS xs mM_X0_isBusy 1 q_X0_isBusy_1 := r_getf kls_0 (by decide) tx_0_0 rfl w_72 (by decide +kernel) ok_X0_isBusy_4
theorem ok_X0_isBusy_0 : zOK l D tc A nS xs mM_X0_isBusy 0 q_X0_isBusy_0 := s_aload_n (q := 0) rfl (by decide +kernel) (by decide +kernel) ok_X0_isBusy_1
theorem ok_X0_meaningOfFirst_52 : zOK l D tc A nS xs mM_X0_meaningOfFirst 52 q_X0_meaningOfFirst_52 := s_iret rfl (by decide +kernel)
theorem ok_X0_meaningOfFirst_49 : zOK l D tc A nS xs mM_X0_meaningOfFirst 49 q_X0_meaningOfFirst_49 := r_callV zEE_ok zTw_gd kls_7 (M2 := mM_X7_meaning) (na := 2) lb_98 calV_X7_meaning rfl rfl w_113 (by decide +kernel) ok_X0_meaningOfFirst_52
theorem ok_X0_meaningOfFirst_46 : zOK l D tc A nS xs mM_X0_meaningOfFirst 46 q_X0_meaningOfFirst_46 := r_getf kls_0 (by decide) tx_0_11 rfl w_51 (by decide +kernel) ok_X0_meaningOfFirst_49
theorem ok_X0_meaningOfFirst_45 : zOK l D tc A nS xs mM_X0_meaningOfFirst 45 q_X0_meaningOfFirst_45 := s_aload_n (q := 0) rfl (by decide +kernel) (by decide +kernel) ok_X0_meaningOfFirst_46
theorem ok_X0_meaningOfFirst_44 : zOK l D tc A nS xs mM_X0_meaningOfFirst 44 q_X0_meaningOfFirst_44 := s_iload_n (q := 1) rfl (by decide +kernel) (by decide +kernel) ok_X0_meaningOfFirst_45
theorem ok_X0_meaningOfFirst_41 : zOK l D tc A nS xs mM_X0_meaningOfFirst 41 q_X0_meaningOfFirst_41 := r_getf kls_0 (by decide) tx_0_2 rfl w_89 (by decide +kernel) ok_X0_meaningOfFirst_44
theorem ok_X0_meaningOfFirst_40 : zOK l D tc A nS xs mM_X0_meaningOfFirst 40 q_X0_meaningOfFirst_40 := s_aload_n (q := 0) rfl (by decide +kernel) (by decide +kernel) ok_X0_meaningOfFirst_41
theorem ok_X0_meaningOfFirst_35 : zOK l D tc A nS xs mM_X0_meaningOfFirst 35 q_X0_meaningOfFirst_35 := s_if_ne (tgt := 40) (off := 5) (by decide +kernel) (by decide) ok_X0_meaningOfFirst_40 s_none
theorem ok_X0_meaningOfFirst_32 : zOK l D tc A nS xs mM_X0_meaningOfFirst 32 q_X0_meaningOfFirst_32 := r_callV zEE_ok zTw_gd kls_10 (M2 := mM_X10_isName) (na := 1) lb_131 calV_X10_isName rfl rfl w_117 (by decide +kernel) ok_X0_meaningOfFirst_35
theorem ok_X0_meaningOfFirst_31 : zOK l D tc A nS xs mM_X0_meaningOfFirst 31 q_X0_meaningOfFirst_31 := s_iload_n (q := 1) rfl (by decide +kernel) (by decide +kernel) ok_X0_meaningOfFirst_32
theorem ok_X0_meaningOfFirst_28 : zOK l D tc A nS xs mM_X0_meaningOfFirst 28 q_X0_meaningOfFirst_28 := r_getf kls_0 (by decide) tx_0_0 rfl w_72 (by decide +kernel) ok_X0_meaningOfFirst_31
theorem ok_X0_meaningOfFirst_27 : zOK l D tc A nS xs mM_X0_meaningOfFirst 27 q_X0_meaningOfFirst_27 := s_aload_n (q := 0) rfl (by decide +kernel) (by decide +kernel) ok_X0_meaningOfFirst_28
theorem ok_X0_meaningOfFirst_24 : zOK l D tc A nS xs mM_X0_meaningOfFirst 24 q_X0_meaningOfFirst_24 := s_icmp_eq (tgt := 38) (off := 14) (by decide +kernel) (by decide) s_none ok_X0_meaningOfFirst_27
theorem ok_X0_meaningOfFirst_23 : zOK l D tc A nS xs mM_X0_meaningOfFirst 23 q_X0_meaningOfFirst_23 := s_iconst (n := (-1)) (by decide) (by decide +kernel) (by decide +kernel) ok_X0_meaningOfFirst_24
theorem ok_X0_meaningOfFirst_20 : zOK l D tc A nS xs mM_X0_meaningOfFirst 20 q_X0_meaningOfFirst_20 := r_callV zEE_ok zTw_gd kls_10 (M2 := mM_X10_count) (na := 1) lb_123 calV_X10_count rfl rfl w_80 (by decide +kernel) ok_X0_meaningOfFirst_23
theorem ok_X0_meaningOfFirst_17 : zOK l D tc A nS xs mM_X0_meaningOfFirst 17 q_X0_meaningOfFirst_17 := r_getf kls_0 (by decide) tx_0_9 rfl w_66 (by decide +kernel) ok_X0_meaningOfFirst_20
theorem ok_X0_meaningOfFirst_16 : zOK l D tc A nS xs mM_X0_meaningOfFirst 16 q_X0_meaningOfFirst_16 := s_aload_n (q := 0) rfl (by decide +kernel) (by decide +kernel) ok_X0_meaningOfFirst_17
theorem ok_X0_meaningOfFirst_13 : zOK l D tc A nS xs mM_X0_meaningOfFirst 13 q_X0_meaningOfFirst_13 := r_getf kls_0 (by decide) tx_0_0 rfl w_72 (by decide +kernel) ok_X0_meaningOfFirst_16
theorem ok_X0_meaningOfFirst_12 : zOK l D tc A nS xs mM_X0_meaningOfFirst 12 q_X0_meaningOfFirst_12 := s_aload_n (q := 0) rfl (by decide +kernel) (by decide +kernel) ok_X0_meaningOfFirst_13
theorem ok_X0_meaningOfFirst_11 : zOK l D tc A nS xs mM_X0_meaningOfFirst 11 q_X0_meaningOfFirst_11 := s_istore_n (q := 1) rfl (by decide +kernel) (by decide +kernel) ok_X0_meaningOfFirst_12
theorem ok_X0_meaningOfFirst_8 : zOK l D tc A nS xs mM_X0_meaningOfFirst 8 q_X0_meaningOfFirst_8 := r_callV zEE_ok zTw_gd kls_10 (M2 := mM_X10_first) (na := 1) lb_127 calV_X10_first rfl rfl w_121 (by decide +kernel) ok_X0_meaningOfFirst_11
theorem ok_X0_meaningOfFirst_5 : zOK l D tc A nS xs mM_X0_meaningOfFirst 5 q_X0_meaningOfFirst_5 := r_getf kls_0 (by decide) tx_0_9 rfl w_66 (by decide +kernel) ok_X0_meaningOfFirst_8
theorem ok_X0_meaningOfFirst_4 : zOK l D tc A nS xs mM_X0_meaningOfFirst 4 q_X0_meaningOfFirst_4 := s_aload_n (q := 0) rfl (by decide +kernel) (by decide +kernel) ok_X0_meaningOfFirst_5
theorem ok_X0_meaningOfFirst_1 : zOK l D tc A nS xs mM_X0_meaningOfFirst 1 q_X0_meaningOfFirst_1 := r_getf kls_0 (by decide) tx_0_0 rfl w_72 (by decide +kernel) ok_X0_meaningOfFirst_4
theorem ok_X0_meaningOfFirst_0 : zOK l D tc A nS xs mM_X0_meaningOfFirst 0 q_X0_meaningOfFirst_0 := s_aload_n (q := 0) rfl (by decide +kernel) (by decide +kernel) ok_X0_meaningOfFirst_1
theorem ok_X0_push_109 : zOK l D tc A nS xs mM_X0_push 109 q_X0_push_109 := s_vret rfl (by decide +kernel)
theorem ok_X0_push_106 : zOK l D tc A nS xs mM_X0_push 106 q_X0_push_106 := r_putf kls_0 ty_0_5 zck_int (by decide) tx_0_5 rfl w_54 (by decide +kernel) ok_X0_push_109
theorem ok_X0_push_105 : zOK l D tc A nS xs mM_X0_push 105 q_X0_push_105 := s_iadd (by decide +kernel) ok_X0_push_106
theorem ok_X0_push_104 : zOK l D tc A nS xs mM_X0_push 104 q_X0_push_104 := s_iconst (n := 1) (by decide) (by decide +kernel) (by decide +kernel) ok_X0_push_105
theorem ok_X0_push_101 : zOK l D tc A nS xs mM_X0_push 101 q_X0_push_101 := r_getf kls_0 (by decide) tx_0_5 rfl w_54 (by decide +kernel) ok_X0_push_104
theorem ok_X0_push_100 : zOK l D tc A nS xs mM_X0_push 100 q_X0_push_100 := s_dup (by decide +kernel) ok_X0_push_101
theorem ok_X0_push_99 : zOK l D tc A nS xs mM_X0_push 99 q_X0_push_99 := s_aload_n (q := 0) rfl (by decide +kernel) (by decide +kernel) ok_X0_push_100
theorem ok_X0_push_98 : zOK l D tc A nS xs mM_X0_push 98 q_X0_push_98 := s_iast (t0 := 0) (by decide) (by decide) rfl (by decide +kernel) ok_X0_push_99
theorem ok_X0_push_96 : zOK l D tc A nS xs mM_X0_push 96 q_X0_push_96 := s_iload (by decide +kernel) (by decide +kernel) ok_X0_push_98
theorem ok_X0_push_95 : zOK l D tc A nS xs mM_X0_push 95 q_X0_push_95 := s_iadd (by decide +kernel) ok_X0_push_96
theorem ok_X0_push_94 : zOK l D tc A nS xs mM_X0_push 94 q_X0_push_94 := s_iconst (n := 5) (by decide) (by decide +kernel) (by decide +kernel) ok_X0_push_95
theorem ok_X0_push_92 : zOK l D tc A nS xs mM_X0_push 92 q_X0_push_92 := s_iload (by decide +kernel) (by decide +kernel) ok_X0_push_94
theorem ok_X0_push_89 : zOK l D tc A nS xs mM_X0_push 89 q_X0_push_89 := r_getf kls_0 (by decide) tx_0_4 rfl w_110 (by decide +kernel) ok_X0_push_92
theorem ok_X0_push_88 : zOK l D tc A nS xs mM_X0_push 88 q_X0_push_88 := s_aload_n (q := 0) rfl (by decide +kernel) (by decide +kernel) ok_X0_push_89
theorem ok_X0_push_87 : zOK l D tc A nS xs mM_X0_push 87 q_X0_push_87 := s_iast (t0 := 0) (by decide) (by decide) rfl (by decide +kernel) ok_X0_push_88
theorem ok_X0_push_85 : zOK l D tc A nS xs mM_X0_push 85 q_X0_push_85 := s_iload (by decide +kernel) (by decide +kernel) ok_X0_push_87
theorem ok_X0_push_84 : zOK l D tc A nS xs mM_X0_push 84 q_X0_push_84 := s_iadd (by decide +kernel) ok_X0_push_85
theorem ok_X0_push_83 : zOK l D tc A nS xs mM_X0_push 83 q_X0_push_83 := s_iconst (n := 4) (by decide) (by decide +kernel) (by decide +kernel) ok_X0_push_84
theorem ok_X0_push_81 : zOK l D tc A nS xs mM_X0_push 81 q_X0_push_81 := s_iload (by decide +kernel) (by decide +kernel) ok_X0_push_83
theorem ok_X0_push_78 : zOK l D tc A nS xs mM_X0_push 78 q_X0_push_78 := r_getf kls_0 (by decide) tx_0_4 rfl w_110 (by decide +kernel) ok_X0_push_81
theorem ok_X0_push_77 : zOK l D tc A nS xs mM_X0_push 77 q_X0_push_77 := s_aload_n (q := 0) rfl (by decide +kernel) (by decide +kernel) ok_X0_push_78
theorem ok_X0_push_76 : zOK l D tc A nS xs mM_X0_push 76 q_X0_push_76 := s_iast (t0 := 0) (by decide) (by decide) rfl (by decide +kernel) ok_X0_push_77
theorem ok_X0_push_73 : zOK l D tc A nS xs mM_X0_push 73 q_X0_push_73 := r_getf kls_0 (by decide) tx_0_11 rfl w_51 (by decide +kernel) ok_X0_push_76
theorem ok_X0_push_72 : zOK l D tc A nS xs mM_X0_push 72 q_X0_push_72 := s_aload_n (q := 0) rfl (by decide +kernel) (by decide +kernel) ok_X0_push_73
theorem ok_X0_push_71 : zOK l D tc A nS xs mM_X0_push 71 q_X0_push_71 := s_iadd (by decide +kernel) ok_X0_push_72
theorem ok_X0_push_70 : zOK l D tc A nS xs mM_X0_push 70 q_X0_push_70 := s_iconst (n := 3) (by decide) (by decide +kernel) (by decide +kernel) ok_X0_push_71
theorem ok_X0_push_68 : zOK l D tc A nS xs mM_X0_push 68 q_X0_push_68 := s_iload (by decide +kernel) (by decide +kernel) ok_X0_push_70
theorem ok_X0_push_65 : zOK l D tc A nS xs mM_X0_push 65 q_X0_push_65 := r_getf kls_0 (by decide) tx_0_4 rfl w_110 (by decide +kernel) ok_X0_push_68
theorem ok_X0_push_64 : zOK l D tc A nS xs mM_X0_push 64 q_X0_push_64 := s_aload_n (q := 0) rfl (by decide +kernel) (by decide +kernel) ok_X0_push_65
theorem ok_X0_push_63 : zOK l D tc A nS xs mM_X0_push 63 q_X0_push_63 := s_iast (t0 := 0) (by decide) (by decide) rfl (by decide +kernel) ok_X0_push_64
theorem ok_X0_push_62 : zOK l D tc A nS xs mM_X0_push 62 q_X0_push_62 := s_iload_n (q := 3) rfl (by decide +kernel) (by decide +kernel) ok_X0_push_63
theorem ok_X0_push_61 : zOK l D tc A nS xs mM_X0_push 61 q_X0_push_61 := s_iadd (by decide +kernel) ok_X0_push_62
theorem ok_X0_push_60 : zOK l D tc A nS xs mM_X0_push 60 q_X0_push_60 := s_iconst (n := 2) (by decide) (by decide +kernel) (by decide +kernel) ok_X0_push_61
theorem ok_X0_push_58 : zOK l D tc A nS xs mM_X0_push 58 q_X0_push_58 := s_iload (by decide +kernel) (by decide +kernel) ok_X0_push_60
theorem ok_X0_push_55 : zOK l D tc A nS xs mM_X0_push 55 q_X0_push_55 := r_getf kls_0 (by decide) tx_0_4 rfl w_110 (by decide +kernel) ok_X0_push_58
theorem ok_X0_push_54 : zOK l D tc A nS xs mM_X0_push 54 q_X0_push_54 := s_aload_n (q := 0) rfl (by decide +kernel) (by decide +kernel) ok_X0_push_55
theorem ok_X0_push_53 : zOK l D tc A nS xs mM_X0_push 53 q_X0_push_53 := s_iast (t0 := 0) (by decide) (by decide) rfl (by decide +kernel) ok_X0_push_54
theorem ok_X0_push_52 : zOK l D tc A nS xs mM_X0_push 52 q_X0_push_52 := s_iload_n (q := 2) rfl (by decide +kernel) (by decide +kernel) ok_X0_push_53
theorem ok_X0_push_51 : zOK l D tc A nS xs mM_X0_push 51 q_X0_push_51 := s_iadd (by decide +kernel) ok_X0_push_52
theorem ok_X0_push_50 : zOK l D tc A nS xs mM_X0_push 50 q_X0_push_50 := s_iconst (n := 1) (by decide) (by decide +kernel) (by decide +kernel) ok_X0_push_51
theorem ok_X0_push_48 : zOK l D tc A nS xs mM_X0_push 48 q_X0_push_48 := s_iload (by decide +kernel) (by decide +kernel) ok_X0_push_50
theorem ok_X0_push_45 : zOK l D tc A nS xs mM_X0_push 45 q_X0_push_45 := r_getf kls_0 (by decide) tx_0_4 rfl w_110 (by decide +kernel) ok_X0_push_48
theorem ok_X0_push_44 : zOK l D tc A nS xs mM_X0_push 44 q_X0_push_44 := s_aload_n (q := 0) rfl (by decide +kernel) (by decide +kernel) ok_X0_push_45
theorem ok_X0_push_43 : zOK l D tc A nS xs mM_X0_push 43 q_X0_push_43 := s_iast (t0 := 0) (by decide) (by decide) rfl (by decide +kernel) ok_X0_push_44
theorem ok_X0_push_42 : zOK l D tc A nS xs mM_X0_push 42 q_X0_push_42 := s_iload_n (q := 1) rfl (by decide +kernel) (by decide +kernel) ok_X0_push_43
theorem ok_X0_push_40 : zOK l D tc A nS xs mM_X0_push 40 q_X0_push_40 := s_iload (by decide +kernel) (by decide +kernel) ok_X0_push_42
theorem ok_X0_push_37 : zOK l D tc A nS xs mM_X0_push 37 q_X0_push_37 := r_getf kls_0 (by decide) tx_0_4 rfl w_110 (by decide +kernel) ok_X0_push_40
theorem ok_X0_push_36 : zOK l D tc A nS xs mM_X0_push 36 q_X0_push_36 := s_aload_n (q := 0) rfl (by decide +kernel) (by decide +kernel) ok_X0_push_37
theorem ok_X0_push_34 : zOK l D tc A nS xs mM_X0_push 34 q_X0_push_34 := s_istore (by decide +kernel) (by decide +kernel) ok_X0_push_36
theorem ok_X0_push_33 : zOK l D tc A nS xs mM_X0_push 33 q_X0_push_33 := s_imul (by decide +kernel) ok_X0_push_34
theorem ok_X0_push_31 : zOK l D tc A nS xs mM_X0_push 31 q_X0_push_31 := s_bipush (n := 6) (by decide) (by decide +kernel) (by decide +kernel) ok_X0_push_33
theorem ok_X0_push_28 : zOK l D tc A nS xs mM_X0_push 28 q_X0_push_28 := r_getf kls_0 (by decide) tx_0_5 rfl w_54 (by decide +kernel) ok_X0_push_31
theorem ok_X0_push_27 : zOK l D tc A nS xs mM_X0_push 27 q_X0_push_27 := s_aload_n (q := 0) rfl (by decide +kernel) (by decide +kernel) ok_X0_push_28
theorem ok_X0_push_7 : zOK l D tc A nS xs mM_X0_push 7 q_X0_push_7 := s_icmp_lt (tgt := 27) (off := 20) (by decide +kernel) (by decide) ok_X0_push_27 s_none
theorem ok_X0_push_4 : zOK l D tc A nS xs mM_X0_push 4 q_X0_push_4 := s_sipush (n := 512) (by decide) (by decide +kernel) (by decide +kernel) ok_X0_push_7
theorem ok_X0_push_1 : zOK l D tc A nS xs mM_X0_push 1 q_X0_push_1 := r_getf kls_0 (by decide) tx_0_5 rfl w_54 (by decide +kernel) ok_X0_push_4
theorem ok_X0_push_0 : zOK l D tc A nS xs mM_X0_push 0 q_X0_push_0 := s_aload_n (q := 0) rfl (by decide +kernel) (by decide +kernel) ok_X0_push_1
theorem ok_X0_second_18 : zOK l D tc A nS xs mM_X0_second 18 q_X0_second_18 := s_iret rfl (by decide +kernel)
theorem ok_X0_second_15 : zOK l D tc A nS xs mM_X0_second 15 q_X0_second_15 := r_callV zEE_ok zTw_gd kls_10 (M2 := mM_X10_first) (na := 1) lb_127 calV_X10_first rfl rfl w_121 (by decide +kernel) ok_X0_second_18
theorem ok_X0_second_12 : zOK l D tc A nS xs mM_X0_second 12 q_X0_second_12 := r_callV zEE_ok zTw_gd kls_10 (M2 := mM_X10_rest) (na := 1) lb_138 calV_X10_rest rfl rfl w_125 (by decide +kernel) ok_X0_second_15
theorem ok_X0_second_9 : zOK l D tc A nS xs mM_X0_second 9 q_X0_second_9 := r_getf kls_0 (by decide) tx_0_9 rfl w_66 (by decide +kernel) ok_X0_second_12
theorem ok_X0_second_8 : zOK l D tc A nS xs mM_X0_second 8 q_X0_second_8 := s_aload_n (q := 0) rfl (by decide +kernel) (by decide +kernel) ok_X0_second_9
theorem ok_X0_second_5 : zOK l D tc A nS xs mM_X0_second 5 q_X0_second_5 := r_getf kls_0 (by decide) tx_0_0 rfl w_72 (by decide +kernel) ok_X0_second_8
theorem ok_X0_second_4 : zOK l D tc A nS xs mM_X0_second 4 q_X0_second_4 := s_aload_n (q := 0) rfl (by decide +kernel) (by decide +kernel) ok_X0_second_5
theorem ok_X0_second_1 : zOK l D tc A nS xs mM_X0_second 1 q_X0_second_1 := r_getf kls_0 (by decide) tx_0_0 rfl w_72 (by decide +kernel) ok_X0_second_4
theorem ok_X0_second_0 : zOK l D tc A nS xs mM_X0_second 0 q_X0_second_0 := s_aload_n (q := 0) rfl (by decide +kernel) (by decide +kernel) ok_X0_second_1
theorem ok_X0_tellMacro_73 : zOK l D tc A nS xs mM_X0_tellMacro 73 q_X0_tellMacro_73 := s_vret rfl (by decide +kernel)
theorem ok_X0_tellMacro_70 : zOK l D tc A nS xs mM_X0_tellMacro 70 q_X0_tellMacro_70 := r_callV zEE_ok zTw_gd kls_0 (M2 := mM_X0_codeConstant) (na := 1) lb_15 calV_X0_codeConstant rfl rfl w_129 (by decide +kernel) ok_X0_tellMacro_73
theorem ok_X0_tellMacro_67 : zOK l D tc A nS xs mM_X0_tellMacro 67 q_X0_tellMacro_67 := r_callV zEE_ok zTw_gd kls_2 (M2 := mM_X2_placeOf) (na := 1) lb_41 calV_X2_placeOf rfl rfl w_132 (by decide +kernel) ok_X0_tellMacro_70
theorem ok_X0_tellMacro_66 : zOK l D tc A nS xs mM_X0_tellMacro 66 q_X0_tellMacro_66 := s_iload_n (q := 2) rfl (by decide +kernel) (by decide +kernel) ok_X0_tellMacro_67
theorem ok_X0_tellMacro_63 : zOK l D tc A nS xs mM_X0_tellMacro 63 q_X0_tellMacro_63 := r_getf kls_0 (by decide) tx_0_1 rfl w_102 (by decide +kernel) ok_X0_tellMacro_66
theorem ok_X0_tellMacro_62 : zOK l D tc A nS xs mM_X0_tellMacro 62 q_X0_tellMacro_62 := s_aload_n (q := 0) rfl (by decide +kernel) (by decide +kernel) ok_X0_tellMacro_63
theorem ok_X0_tellMacro_61 : zOK l D tc A nS xs mM_X0_tellMacro 61 q_X0_tellMacro_61 := s_aload_n (q := 0) rfl (by decide +kernel) (by decide +kernel) ok_X0_tellMacro_62
theorem ok_X0_tellMacro_50 : zOK l D tc A nS xs mM_X0_tellMacro 50 q_X0_tellMacro_50 := s_if_ne (tgt := 61) (off := 11) (by decide +kernel) (by decide) ok_X0_tellMacro_61 s_none
theorem ok_X0_tellMacro_47 : zOK l D tc A nS xs mM_X0_tellMacro 47 q_X0_tellMacro_47 := r_callV zEE_ok zTw_gd kls_7 (M2 := mM_X7_tellMacro) (na := 2) lb_101 calV_X7_tellMacro rfl rfl w_136 (by decide +kernel) ok_X0_tellMacro_50
theorem ok_X0_tellMacro_44 : zOK l D tc A nS xs mM_X0_tellMacro 44 q_X0_tellMacro_44 := r_getf kls_0 (by decide) tx_0_10 rfl w_140 (by decide +kernel) ok_X0_tellMacro_47
theorem ok_X0_tellMacro_43 : zOK l D tc A nS xs mM_X0_tellMacro 43 q_X0_tellMacro_43 := s_aload_n (q := 0) rfl (by decide +kernel) (by decide +kernel) ok_X0_tellMacro_44
theorem ok_X0_tellMacro_42 : zOK l D tc A nS xs mM_X0_tellMacro 42 q_X0_tellMacro_42 := s_iload_n (q := 2) rfl (by decide +kernel) (by decide +kernel) ok_X0_tellMacro_43
theorem ok_X0_tellMacro_39 : zOK l D tc A nS xs mM_X0_tellMacro 39 q_X0_tellMacro_39 := r_getf kls_0 (by decide) tx_0_2 rfl w_89 (by decide +kernel) ok_X0_tellMacro_42
theorem ok_X0_tellMacro_38 : zOK l D tc A nS xs mM_X0_tellMacro 38 q_X0_tellMacro_38 := s_aload_n (q := 0) rfl (by decide +kernel) (by decide +kernel) ok_X0_tellMacro_39
theorem ok_X0_tellMacro_13 : zOK l D tc A nS xs mM_X0_tellMacro 13 q_X0_tellMacro_13 := s_if_ne (tgt := 38) (off := 25) (by decide +kernel) (by decide) ok_X0_tellMacro_38 s_none
theorem ok_X0_tellMacro_12 : zOK l D tc A nS xs mM_X0_tellMacro 12 q_X0_tellMacro_12 := s_iload_n (q := 1) rfl (by decide +kernel) (by decide +kernel) ok_X0_tellMacro_13
theorem ok_X0_tellMacro_11 : zOK l D tc A nS xs mM_X0_tellMacro 11 q_X0_tellMacro_11 := s_istore_n (q := 2) rfl (by decide +kernel) (by decide +kernel) ok_X0_tellMacro_12
theorem ok_X0_tellMacro_8 : zOK l D tc A nS xs mM_X0_tellMacro 8 q_X0_tellMacro_8 := r_callV zEE_ok zTw_gd kls_10 (M2 := mM_X10_symbolAtLast) (na := 1) lb_141 calV_X10_symbolAtLast rfl rfl w_141 (by decide +kernel) ok_X0_tellMacro_11
theorem ok_X0_tellMacro_5 : zOK l D tc A nS xs mM_X0_tellMacro 5 q_X0_tellMacro_5 := r_callV zEE_ok zTw_gd kls_0 (M2 := mM_X0_second) (na := 0) lb_24 calV_X0_second rfl rfl w_77 (by decide +kernel) ok_X0_tellMacro_8
theorem ok_X0_tellMacro_4 : zOK l D tc A nS xs mM_X0_tellMacro 4 q_X0_tellMacro_4 := s_aload_n (q := 0) rfl (by decide +kernel) (by decide +kernel) ok_X0_tellMacro_5
theorem ok_X0_tellMacro_1 : zOK l D tc A nS xs mM_X0_tellMacro 1 q_X0_tellMacro_1 := r_getf kls_0 (by decide) tx_0_0 rfl w_72 (by decide +kernel) ok_X0_tellMacro_4
theorem ok_X0_tellMacro_0 : zOK l D tc A nS xs mM_X0_tellMacro 0 q_X0_tellMacro_0 := s_aload_n (q := 0) rfl (by decide +kernel) (by decide +kernel) ok_X0_tellMacro_1
theorem ok_X0_third_25 : zOK l D tc A nS xs mM_X0_third 25 q_X0_third_25 := s_iret rfl (by decide +kernel)
theorem ok_X0_third_22 : zOK l D tc A nS xs mM_X0_third 22 q_X0_third_22 := r_callV zEE_ok zTw_gd kls_10 (M2 := mM_X10_first) (na := 1) lb_127 calV_X10_first rfl rfl w_121 (by decide +kernel) ok_X0_third_25
theorem ok_X0_third_19 : zOK l D tc A nS xs mM_X0_third 19 q_X0_third_19 := r_callV zEE_ok zTw_gd kls_10 (M2 := mM_X10_rest) (na := 1) lb_138 calV_X10_rest rfl rfl w_125 (by decide +kernel) ok_X0_third_22
theorem ok_X0_third_16 : zOK l D tc A nS xs mM_X0_third 16 q_X0_third_16 := r_callV zEE_ok zTw_gd kls_10 (M2 := mM_X10_rest) (na := 1) lb_138 calV_X10_rest rfl rfl w_125 (by decide +kernel) ok_X0_third_19
theorem ok_X0_third_13 : zOK l D tc A nS xs mM_X0_third 13 q_X0_third_13 := r_getf kls_0 (by decide) tx_0_9 rfl w_66 (by decide +kernel) ok_X0_third_16
theorem ok_X0_third_12 : zOK l D tc A nS xs mM_X0_third 12 q_X0_third_12 := s_aload_n (q := 0) rfl (by decide +kernel) (by decide +kernel) ok_X0_third_13
theorem ok_X0_third_9 : zOK l D tc A nS xs mM_X0_third 9 q_X0_third_9 := r_getf kls_0 (by decide) tx_0_0 rfl w_72 (by decide +kernel) ok_X0_third_12
theorem ok_X0_third_8 : zOK l D tc A nS xs mM_X0_third 8 q_X0_third_8 := s_aload_n (q := 0) rfl (by decide +kernel) (by decide +kernel) ok_X0_third_9
theorem ok_X0_third_5 : zOK l D tc A nS xs mM_X0_third 5 q_X0_third_5 := r_getf kls_0 (by decide) tx_0_0 rfl w_72 (by decide +kernel) ok_X0_third_8
theorem ok_X0_third_4 : zOK l D tc A nS xs mM_X0_third 4 q_X0_third_4 := s_aload_n (q := 0) rfl (by decide +kernel) (by decide +kernel) ok_X0_third_5
theorem ok_X0_third_1 : zOK l D tc A nS xs mM_X0_third 1 q_X0_third_1 := r_getf kls_0 (by decide) tx_0_0 rfl w_72 (by decide +kernel) ok_X0_third_4
theorem ok_X0_third_0 : zOK l D tc A nS xs mM_X0_third 0 q_X0_third_0 := s_aload_n (q := 0) rfl (by decide +kernel) (by decide +kernel) ok_X0_third_1
theorem ok_X0_work_447 : zOK l D tc A nS xs mM_X0_work 447 q_X0_work_447 := s_vret rfl (by decide +kernel)
theorem ok_X0_work_357 : zOK l D tc A nS xs mM_X0_work 357 q_X0_work_357 := s_goto (tgt := 447) (off := 90) (by decide +kernel) (by decide) ok_X0_work_447
theorem ok_X0_work_354 : zOK l D tc A nS xs mM_X0_work 354 q_X0_work_354 := r_callV zEE_ok zTw_gd kls_0 (M2 := mM_X0_tellMacro) (na := 1) lb_25 calV_X0_tellMacro rfl rfl w_145 (by decide +kernel) ok_X0_work_357
theorem ok_X0_work_351 : zOK l D tc A nS xs mM_X0_work 351 q_X0_work_351 := r_callV zEE_ok zTw_gd kls_9 (M2 := mM_X9_isRules) (na := 1) lb_113 calV_X9_isRules rfl rfl w_148 (by decide +kernel) ok_X0_work_354
theorem ok_X0_work_348 : zOK l D tc A nS xs mM_X0_work 348 q_X0_work_348 := r_getf kls_0 (by decide) tx_0_10 rfl w_140 (by decide +kernel) ok_X0_work_351
theorem ok_X0_work_347 : zOK l D tc A nS xs mM_X0_work 347 q_X0_work_347 := s_aload_n (q := 0) rfl (by decide +kernel) (by decide +kernel) ok_X0_work_348
theorem ok_X0_work_344 : zOK l D tc A nS xs mM_X0_work 344 q_X0_work_344 := r_getf kls_0 (by decide) tx_0_3 rfl w_46 (by decide +kernel) ok_X0_work_347
theorem ok_X0_work_343 : zOK l D tc A nS xs mM_X0_work 343 q_X0_work_343 := s_aload_n (q := 0) rfl (by decide +kernel) (by decide +kernel) ok_X0_work_344
theorem ok_X0_work_342 : zOK l D tc A nS xs mM_X0_work 342 q_X0_work_342 := s_aload_n (q := 0) rfl (by decide +kernel) (by decide +kernel) ok_X0_work_343
theorem ok_X0_work_256 : zOK l D tc A nS xs mM_X0_work 256 q_X0_work_256 := s_goto (tgt := 447) (off := 191) (by decide +kernel) (by decide) ok_X0_work_447
theorem ok_X0_work_253 : zOK l D tc A nS xs mM_X0_work 253 q_X0_work_253 := r_callV zEE_ok zTw_gd kls_0 (M2 := mM_X0_codeForm) (na := 0) lb_17 calV_X0_codeForm rfl rfl w_152 (by decide +kernel) ok_X0_work_256
theorem ok_X0_work_252 : zOK l D tc A nS xs mM_X0_work 252 q_X0_work_252 := s_aload_n (q := 0) rfl (by decide +kernel) (by decide +kernel) ok_X0_work_253
theorem ok_X0_work_242 : zOK l D tc A nS xs mM_X0_work 242 q_X0_work_242 := s_goto (tgt := 447) (off := 205) (by decide +kernel) (by decide) ok_X0_work_447
theorem ok_X0_work_239 : zOK l D tc A nS xs mM_X0_work 239 q_X0_work_239 := r_callV zEE_ok zTw_gd kls_0 (M2 := mM_X0_codeDefineSyntax) (na := 0) lb_16 calV_X0_codeDefineSyntax rfl rfl w_155 (by decide +kernel) ok_X0_work_242
theorem ok_X0_work_238 : zOK l D tc A nS xs mM_X0_work 238 q_X0_work_238 := s_aload_n (q := 0) rfl (by decide +kernel) (by decide +kernel) ok_X0_work_239
theorem ok_X0_work_96 : zOK l D tc A nS xs mM_X0_work 96 q_X0_work_96 := r_tsw (ts := [(100, 196, o_none), (107, 203, o_none), (114, 210, o_none), (121, 217, o_none), (128, 224, o_none), (135, 231, o_none), (142, 238, q_X0_work_238), (149, 245, o_none), (156, 252, q_X0_work_252), (163, 259, o_none), (170, 266, o_none), (177, 273, o_none), (184, 280, o_none), (191, 287, o_none), (200, 296, o_none), (207, 303, o_none), (214, 310, o_none), (232, 328, o_none), (239, 335, o_none), (246, 342, q_X0_work_342), (264, 360, o_none)]) (dflt := 298) (hi := 20) (offs := #[100, 107, 114, 121, 128, 135, 142, 149, 156, 163, 170, 177, 184, 191, 200, 207, 214, 232, 239, 246, 264]) (len := 100) (tgt := 394) (by decide +kernel) (by decide +kernel) (by decide) (by decide) (by decide) s_none (List.forall_mem_cons.mpr ⟨⟨by decide, s_none⟩, (List.forall_mem_cons.mpr ⟨⟨by decide, s_none⟩, (List.forall_mem_cons.mpr ⟨⟨by decide, s_none⟩, (List.forall_mem_cons.mpr ⟨⟨by decide, s_none⟩, (List.forall_mem_cons.mpr ⟨⟨by decide, s_none⟩, (List.forall_mem_cons.mpr ⟨⟨by decide, s_none⟩, (List.forall_mem_cons.mpr ⟨⟨by decide, ok_X0_work_238⟩, (List.forall_mem_cons.mpr ⟨⟨by decide, s_none⟩, (List.forall_mem_cons.mpr ⟨⟨by decide, ok_X0_work_252⟩, (List.forall_mem_cons.mpr ⟨⟨by decide, s_none⟩, (List.forall_mem_cons.mpr ⟨⟨by decide, s_none⟩, (List.forall_mem_cons.mpr ⟨⟨by decide, s_none⟩, (List.forall_mem_cons.mpr ⟨⟨by decide, s_none⟩, (List.forall_mem_cons.mpr ⟨⟨by decide, s_none⟩, (List.forall_mem_cons.mpr ⟨⟨by decide, s_none⟩, (List.forall_mem_cons.mpr ⟨⟨by decide, s_none⟩, (List.forall_mem_cons.mpr ⟨⟨by decide, s_none⟩, (List.forall_mem_cons.mpr ⟨⟨by decide, s_none⟩, (List.forall_mem_cons.mpr ⟨⟨by decide, s_none⟩, (List.forall_mem_cons.mpr ⟨⟨by decide, ok_X0_work_342⟩, (List.forall_mem_cons.mpr ⟨⟨by decide, s_none⟩, fun _ h => absurd h List.not_mem_nil⟩)⟩)⟩)⟩)⟩)⟩)⟩)⟩)⟩)⟩)⟩)⟩)⟩)⟩)⟩)⟩)⟩)⟩)⟩)⟩)⟩)
theorem ok_X0_work_95 : zOK l D tc A nS xs mM_X0_work 95 q_X0_work_95 := s_iald (t0 := 0) (by decide) (by decide) rfl (by decide +kernel) ok_X0_work_96
theorem ok_X0_work_94 : zOK l D tc A nS xs mM_X0_work 94 q_X0_work_94 := s_iload_n (q := 1) rfl (by decide +kernel) (by decide +kernel) ok_X0_work_95
theorem ok_X0_work_91 : zOK l D tc A nS xs mM_X0_work 91 q_X0_work_91 := r_getf kls_0 (by decide) tx_0_4 rfl w_110 (by decide +kernel) ok_X0_work_94
theorem ok_X0_work_90 : zOK l D tc A nS xs mM_X0_work 90 q_X0_work_90 := s_aload_n (q := 0) rfl (by decide +kernel) (by decide +kernel) ok_X0_work_91
theorem ok_X0_work_87 : zOK l D tc A nS xs mM_X0_work 87 q_X0_work_87 := r_putf kls_0 ty_0_13 zck_int (by decide) tx_0_13 rfl w_158 (by decide +kernel) ok_X0_work_90
theorem ok_X0_work_86 : zOK l D tc A nS xs mM_X0_work 86 q_X0_work_86 := s_iald (t0 := 0) (by decide) (by decide) rfl (by decide +kernel) ok_X0_work_87
theorem ok_X0_work_85 : zOK l D tc A nS xs mM_X0_work 85 q_X0_work_85 := s_iadd (by decide +kernel) ok_X0_work_86
theorem ok_X0_work_84 : zOK l D tc A nS xs mM_X0_work 84 q_X0_work_84 := s_iconst (n := 5) (by decide) (by decide +kernel) (by decide +kernel) ok_X0_work_85
theorem ok_X0_work_83 : zOK l D tc A nS xs mM_X0_work 83 q_X0_work_83 := s_iload_n (q := 1) rfl (by decide +kernel) (by decide +kernel) ok_X0_work_84
theorem ok_X0_work_80 : zOK l D tc A nS xs mM_X0_work 80 q_X0_work_80 := r_getf kls_0 (by decide) tx_0_4 rfl w_110 (by decide +kernel) ok_X0_work_83
theorem ok_X0_work_79 : zOK l D tc A nS xs mM_X0_work 79 q_X0_work_79 := s_aload_n (q := 0) rfl (by decide +kernel) (by decide +kernel) ok_X0_work_80
theorem ok_X0_work_78 : zOK l D tc A nS xs mM_X0_work 78 q_X0_work_78 := s_aload_n (q := 0) rfl (by decide +kernel) (by decide +kernel) ok_X0_work_79
theorem ok_X0_work_75 : zOK l D tc A nS xs mM_X0_work 75 q_X0_work_75 := r_putf kls_0 ty_0_12 zck_int (by decide) tx_0_12 rfl w_62 (by decide +kernel) ok_X0_work_78
theorem ok_X0_work_74 : zOK l D tc A nS xs mM_X0_work 74 q_X0_work_74 := s_iald (t0 := 0) (by decide) (by decide) rfl (by decide +kernel) ok_X0_work_75
theorem ok_X0_work_73 : zOK l D tc A nS xs mM_X0_work 73 q_X0_work_73 := s_iadd (by decide +kernel) ok_X0_work_74
theorem ok_X0_work_72 : zOK l D tc A nS xs mM_X0_work 72 q_X0_work_72 := s_iconst (n := 4) (by decide) (by decide +kernel) (by decide +kernel) ok_X0_work_73
theorem ok_X0_work_71 : zOK l D tc A nS xs mM_X0_work 71 q_X0_work_71 := s_iload_n (q := 1) rfl (by decide +kernel) (by decide +kernel) ok_X0_work_72
theorem ok_X0_work_68 : zOK l D tc A nS xs mM_X0_work 68 q_X0_work_68 := r_getf kls_0 (by decide) tx_0_4 rfl w_110 (by decide +kernel) ok_X0_work_71
theorem ok_X0_work_67 : zOK l D tc A nS xs mM_X0_work 67 q_X0_work_67 := s_aload_n (q := 0) rfl (by decide +kernel) (by decide +kernel) ok_X0_work_68
theorem ok_X0_work_66 : zOK l D tc A nS xs mM_X0_work 66 q_X0_work_66 := s_aload_n (q := 0) rfl (by decide +kernel) (by decide +kernel) ok_X0_work_67
theorem ok_X0_work_63 : zOK l D tc A nS xs mM_X0_work 63 q_X0_work_63 := r_putf kls_0 ty_0_11 zck_int (by decide) tx_0_11 rfl w_51 (by decide +kernel) ok_X0_work_66
theorem ok_X0_work_62 : zOK l D tc A nS xs mM_X0_work 62 q_X0_work_62 := s_iald (t0 := 0) (by decide) (by decide) rfl (by decide +kernel) ok_X0_work_63
theorem ok_X0_work_61 : zOK l D tc A nS xs mM_X0_work 61 q_X0_work_61 := s_iadd (by decide +kernel) ok_X0_work_62
theorem ok_X0_work_60 : zOK l D tc A nS xs mM_X0_work 60 q_X0_work_60 := s_iconst (n := 3) (by decide) (by decide +kernel) (by decide +kernel) ok_X0_work_61
theorem ok_X0_work_59 : zOK l D tc A nS xs mM_X0_work 59 q_X0_work_59 := s_iload_n (q := 1) rfl (by decide +kernel) (by decide +kernel) ok_X0_work_60
theorem ok_X0_work_56 : zOK l D tc A nS xs mM_X0_work 56 q_X0_work_56 := r_getf kls_0 (by decide) tx_0_4 rfl w_110 (by decide +kernel) ok_X0_work_59
theorem ok_X0_work_55 : zOK l D tc A nS xs mM_X0_work 55 q_X0_work_55 := s_aload_n (q := 0) rfl (by decide +kernel) (by decide +kernel) ok_X0_work_56
theorem ok_X0_work_54 : zOK l D tc A nS xs mM_X0_work 54 q_X0_work_54 := s_aload_n (q := 0) rfl (by decide +kernel) (by decide +kernel) ok_X0_work_55
theorem ok_X0_work_51 : zOK l D tc A nS xs mM_X0_work 51 q_X0_work_51 := r_putf kls_0 ty_0_10 zck_int (by decide) tx_0_10 rfl w_140 (by decide +kernel) ok_X0_work_54
theorem ok_X0_work_50 : zOK l D tc A nS xs mM_X0_work 50 q_X0_work_50 := s_iald (t0 := 0) (by decide) (by decide) rfl (by decide +kernel) ok_X0_work_51
theorem ok_X0_work_49 : zOK l D tc A nS xs mM_X0_work 49 q_X0_work_49 := s_iadd (by decide +kernel) ok_X0_work_50
theorem ok_X0_work_48 : zOK l D tc A nS xs mM_X0_work 48 q_X0_work_48 := s_iconst (n := 2) (by decide) (by decide +kernel) (by decide +kernel) ok_X0_work_49
theorem ok_X0_work_47 : zOK l D tc A nS xs mM_X0_work 47 q_X0_work_47 := s_iload_n (q := 1) rfl (by decide +kernel) (by decide +kernel) ok_X0_work_48
theorem ok_X0_work_44 : zOK l D tc A nS xs mM_X0_work 44 q_X0_work_44 := r_getf kls_0 (by decide) tx_0_4 rfl w_110 (by decide +kernel) ok_X0_work_47
theorem ok_X0_work_43 : zOK l D tc A nS xs mM_X0_work 43 q_X0_work_43 := s_aload_n (q := 0) rfl (by decide +kernel) (by decide +kernel) ok_X0_work_44
theorem ok_X0_work_42 : zOK l D tc A nS xs mM_X0_work 42 q_X0_work_42 := s_aload_n (q := 0) rfl (by decide +kernel) (by decide +kernel) ok_X0_work_43
theorem ok_X0_work_39 : zOK l D tc A nS xs mM_X0_work 39 q_X0_work_39 := r_putf kls_0 ty_0_9 zck_int (by decide) tx_0_9 rfl w_66 (by decide +kernel) ok_X0_work_42
theorem ok_X0_work_38 : zOK l D tc A nS xs mM_X0_work 38 q_X0_work_38 := s_iald (t0 := 0) (by decide) (by decide) rfl (by decide +kernel) ok_X0_work_39
theorem ok_X0_work_37 : zOK l D tc A nS xs mM_X0_work 37 q_X0_work_37 := s_iadd (by decide +kernel) ok_X0_work_38
theorem ok_X0_work_36 : zOK l D tc A nS xs mM_X0_work 36 q_X0_work_36 := s_iconst (n := 1) (by decide) (by decide +kernel) (by decide +kernel) ok_X0_work_37
theorem ok_X0_work_35 : zOK l D tc A nS xs mM_X0_work 35 q_X0_work_35 := s_iload_n (q := 1) rfl (by decide +kernel) (by decide +kernel) ok_X0_work_36
theorem ok_X0_work_32 : zOK l D tc A nS xs mM_X0_work 32 q_X0_work_32 := r_getf kls_0 (by decide) tx_0_4 rfl w_110 (by decide +kernel) ok_X0_work_35
theorem ok_X0_work_31 : zOK l D tc A nS xs mM_X0_work 31 q_X0_work_31 := s_aload_n (q := 0) rfl (by decide +kernel) (by decide +kernel) ok_X0_work_32
theorem ok_X0_work_30 : zOK l D tc A nS xs mM_X0_work 30 q_X0_work_30 := s_aload_n (q := 0) rfl (by decide +kernel) (by decide +kernel) ok_X0_work_31
theorem ok_X0_work_29 : zOK l D tc A nS xs mM_X0_work 29 q_X0_work_29 := s_istore_n (q := 1) rfl (by decide +kernel) (by decide +kernel) ok_X0_work_30
theorem ok_X0_work_28 : zOK l D tc A nS xs mM_X0_work 28 q_X0_work_28 := s_imul (by decide +kernel) ok_X0_work_29
theorem ok_X0_work_26 : zOK l D tc A nS xs mM_X0_work 26 q_X0_work_26 := s_bipush (n := 6) (by decide) (by decide +kernel) (by decide +kernel) ok_X0_work_28
theorem ok_X0_work_23 : zOK l D tc A nS xs mM_X0_work 23 q_X0_work_23 := r_getf kls_0 (by decide) tx_0_5 rfl w_54 (by decide +kernel) ok_X0_work_26
theorem ok_X0_work_22 : zOK l D tc A nS xs mM_X0_work 22 q_X0_work_22 := s_aload_n (q := 0) rfl (by decide +kernel) (by decide +kernel) ok_X0_work_23
theorem ok_X0_work_19 : zOK l D tc A nS xs mM_X0_work 19 q_X0_work_19 := r_putf kls_0 ty_0_5 zck_int (by decide) tx_0_5 rfl w_54 (by decide +kernel) ok_X0_work_22
theorem ok_X0_work_18 : zOK l D tc A nS xs mM_X0_work 18 q_X0_work_18 := s_isub (by decide +kernel) ok_X0_work_19
theorem ok_X0_work_17 : zOK l D tc A nS xs mM_X0_work 17 q_X0_work_17 := s_iconst (n := 1) (by decide) (by decide +kernel) (by decide +kernel) ok_X0_work_18
theorem ok_X0_work_14 : zOK l D tc A nS xs mM_X0_work 14 q_X0_work_14 := r_getf kls_0 (by decide) tx_0_5 rfl w_54 (by decide +kernel) ok_X0_work_17
theorem ok_X0_work_13 : zOK l D tc A nS xs mM_X0_work 13 q_X0_work_13 := s_dup (by decide +kernel) ok_X0_work_14
theorem ok_X0_work_12 : zOK l D tc A nS xs mM_X0_work 12 q_X0_work_12 := s_aload_n (q := 0) rfl (by decide +kernel) (by decide +kernel) ok_X0_work_13
theorem ok_X0_work_4 : zOK l D tc A nS xs mM_X0_work 4 q_X0_work_4 := s_if_gt (tgt := 12) (off := 8) (by decide +kernel) (by decide) ok_X0_work_12 s_none
theorem ok_X0_work_1 : zOK l D tc A nS xs mM_X0_work 1 q_X0_work_1 := r_getf kls_0 (by decide) tx_0_5 rfl w_54 (by decide +kernel) ok_X0_work_4
theorem ok_X0_work_0 : zOK l D tc A nS xs mM_X0_work 0 q_X0_work_0 := s_aload_n (q := 0) rfl (by decide +kernel) (by decide +kernel) ok_X0_work_1
theorem ok_X1_clear_11 : zOK l D tc A nS xs mM_X1_clear 11 q_X1_clear_11 := s_vret rfl (by decide +kernel)
theorem ok_X1_clear_8 : zOK l D tc A nS xs mM_X1_clear 8 q_X1_clear_8 := r_putf kls_1 ty_1_6 zck_int (by decide) tx_1_6 rfl w_159 (by decide +kernel) ok_X1_clear_11
theorem ok_X1_clear_7 : zOK l D tc A nS xs mM_X1_clear 7 q_X1_clear_7 := s_iconst (n := 0) (by decide) (by decide +kernel) (by decide +kernel) ok_X1_clear_8
theorem ok_X1_clear_6 : zOK l D tc A nS xs mM_X1_clear 6 q_X1_clear_6 := s_aload_n (q := 0) rfl (by decide +kernel) (by decide +kernel) ok_X1_clear_7
theorem ok_X1_clear_3 : zOK l D tc A nS xs mM_X1_clear 3 q_X1_clear_3 := r_putf kls_1 ty_1_5 zck_int (by decide) tx_1_5 rfl w_160 (by decide +kernel) ok_X1_clear_6
theorem ok_X1_clear_1 : zOK l D tc A nS xs mM_X1_clear 1 q_X1_clear_1 := r_ldc (by decide) (x := (32768 : Int32)) (by decide +kernel) rfl w_161 (by decide +kernel) ok_X1_clear_3
theorem ok_X1_clear_0 : zOK l D tc A nS xs mM_X1_clear 0 q_X1_clear_0 := s_aload_n (q := 0) rfl (by decide +kernel) (by decide +kernel) ok_X1_clear_1
theorem ok_X1_init_38 : zOK l D tc A nS xs mM_X1_init 38 q_X1_init_38 := s_vret rfl (by decide +kernel)
theorem ok_X1_init_35 : zOK l D tc A nS xs mM_X1_init 35 q_X1_init_35 := r_putF kls_1 ty_1_1 (zck_obj _) (by decide) tx_1_1 rfl rfl rfl w_162 (by decide +kernel) ok_X1_init_38
theorem ok_X1_init_34 : zOK l D tc A nS xs mM_X1_init 34 q_X1_init_34 := s_aload_n (q := 2) rfl (by decide +kernel) (by decide +kernel) ok_X1_init_35
theorem ok_X1_init_33 : zOK l D tc A nS xs mM_X1_init 33 q_X1_init_33 := s_aload_n (q := 0) rfl (by decide +kernel) (by decide +kernel) ok_X1_init_34
theorem ok_X1_init_30 : zOK l D tc A nS xs mM_X1_init 30 q_X1_init_30 := r_putF kls_1 ty_1_0 (zck_obj _) (by decide) tx_1_0 rfl rfl rfl w_163 (by decide +kernel) ok_X1_init_33
theorem ok_X1_init_29 : zOK l D tc A nS xs mM_X1_init 29 q_X1_init_29 := s_aload_n (q := 1) rfl (by decide +kernel) (by decide +kernel) ok_X1_init_30
theorem ok_X1_init_28 : zOK l D tc A nS xs mM_X1_init 28 q_X1_init_28 := s_aload_n (q := 0) rfl (by decide +kernel) (by decide +kernel) ok_X1_init_29
theorem ok_X1_init_25 : zOK l D tc A nS xs mM_X1_init 25 q_X1_init_25 := r_putf kls_1 ty_1_5 zck_int (by decide) tx_1_5 rfl w_160 (by decide +kernel) ok_X1_init_28
theorem ok_X1_init_23 : zOK l D tc A nS xs mM_X1_init 23 q_X1_init_23 := r_ldc (by decide) (x := (32768 : Int32)) (by decide +kernel) rfl w_161 (by decide +kernel) ok_X1_init_25
theorem ok_X1_init_22 : zOK l D tc A nS xs mM_X1_init 22 q_X1_init_22 := s_aload_n (q := 0) rfl (by decide +kernel) (by decide +kernel) ok_X1_init_23
theorem ok_X1_init_19 : zOK l D tc A nS xs mM_X1_init 19 q_X1_init_19 := r_putF kls_1 ty_1_3 (zck_arr _) (by decide) tx_1_3 rfl rfl rfl w_164 (by decide +kernel) ok_X1_init_22
theorem ok_X1_init_17 : zOK l D tc A nS xs mM_X1_init 17 q_X1_init_17 := r_newa (t0 := 0) (atype := .int) (ty := .int) rfl (by decide) rfl rfl z_RA_int rfl (by decide) w_109 (by decide +kernel) ok_X1_init_19
theorem ok_X1_init_14 : zOK l D tc A nS xs mM_X1_init 14 q_X1_init_14 := s_sipush (n := 4096) (by decide) (by decide +kernel) (by decide +kernel) ok_X1_init_17
theorem ok_X1_init_13 : zOK l D tc A nS xs mM_X1_init 13 q_X1_init_13 := s_aload_n (q := 0) rfl (by decide +kernel) (by decide +kernel) ok_X1_init_14
theorem ok_X1_init_10 : zOK l D tc A nS xs mM_X1_init 10 q_X1_init_10 := r_putF kls_1 ty_1_2 (zck_arr _) (by decide) tx_1_2 rfl rfl rfl w_165 (by decide +kernel) ok_X1_init_13
theorem ok_X1_init_8 : zOK l D tc A nS xs mM_X1_init 8 q_X1_init_8 := r_newa (t0 := 0) (atype := .int) (ty := .int) rfl (by decide) rfl rfl z_RA_int rfl (by decide) w_109 (by decide +kernel) ok_X1_init_10
theorem ok_X1_init_5 : zOK l D tc A nS xs mM_X1_init 5 q_X1_init_5 := s_sipush (n := 8192) (by decide) (by decide +kernel) (by decide +kernel) ok_X1_init_8
theorem ok_X1_init_4 : zOK l D tc A nS xs mM_X1_init 4 q_X1_init_4 := s_aload_n (q := 0) rfl (by decide +kernel) (by decide +kernel) ok_X1_init_5
theorem ok_X1_init_1 : zOK l D tc A nS xs mM_X1_init 1 q_X1_init_1 := s_oinit w_166 w_112 w_oi (by decide +kernel) ok_X1_init_4
theorem ok_X1_init_0 : zOK l D tc A nS xs mM_X1_init 0 q_X1_init_0 := s_aload_n (q := 0) rfl (by decide +kernel) (by decide +kernel) ok_X1_init_1
theorem ok_X1_kind_65 : zOK l D tc A nS xs mM_X1_kind 65 q_X1_kind_65 := s_iret rfl (by decide +kernel)
theorem ok_X1_kind_64 : zOK l D tc A nS xs mM_X1_kind 64 q_X1_kind_64 := s_iconst (n := 0) (by decide) (by decide +kernel) (by decide +kernel) ok_X1_kind_65
theorem ok_X1_kind_47 : zOK l D tc A nS xs mM_X1_kind 47 q_X1_kind_47 := s_if_eq (tgt := 64) (off := 17) (by decide +kernel) (by decide) ok_X1_kind_64 s_none
theorem ok_X1_kind_46 : zOK l D tc A nS xs mM_X1_kind 46 q_X1_kind_46 := s_iload_n (q := 2) rfl (by decide +kernel) (by decide +kernel) ok_X1_kind_47
theorem ok_X1_kind_45 : zOK l D tc A nS xs mM_X1_kind 45 q_X1_kind_45 := s_istore_n (q := 2) rfl (by decide +kernel) (by decide +kernel) ok_X1_kind_46
theorem ok_X1_kind_44 : zOK l D tc A nS xs mM_X1_kind 44 q_X1_kind_44 := s_iconst (n := 0) (by decide) (by decide +kernel) (by decide +kernel) ok_X1_kind_45
theorem ok_X1_kind_29 : zOK l D tc A nS xs mM_X1_kind 29 q_X1_kind_29 := s_icmp_lt (tgt := 44) (off := 15) (by decide +kernel) (by decide) ok_X1_kind_44 s_none
theorem ok_X1_kind_27 : zOK l D tc A nS xs mM_X1_kind 27 q_X1_kind_27 := r_ldc (by decide) (x := (32768 : Int32)) (by decide +kernel) rfl w_161 (by decide +kernel) ok_X1_kind_29
theorem ok_X1_kind_26 : zOK l D tc A nS xs mM_X1_kind 26 q_X1_kind_26 := s_iload_n (q := 1) rfl (by decide +kernel) (by decide +kernel) ok_X1_kind_27
theorem ok_X1_kind_12 : zOK l D tc A nS xs mM_X1_kind 12 q_X1_kind_12 := s_icmp_lt (tgt := 26) (off := 14) (by decide +kernel) (by decide) ok_X1_kind_26 s_none
theorem ok_X1_kind_9 : zOK l D tc A nS xs mM_X1_kind 9 q_X1_kind_9 := s_sipush (n := 1024) (by decide) (by decide +kernel) (by decide +kernel) ok_X1_kind_12
theorem ok_X1_kind_8 : zOK l D tc A nS xs mM_X1_kind 8 q_X1_kind_8 := s_iload_n (q := 1) rfl (by decide +kernel) (by decide +kernel) ok_X1_kind_9
theorem ok_X1_kind_3 : zOK l D tc A nS xs mM_X1_kind 3 q_X1_kind_3 := s_if_eq (tgt := 8) (off := 5) (by decide +kernel) (by decide) ok_X1_kind_8 s_none
theorem ok_X1_kind_2 : zOK l D tc A nS xs mM_X1_kind 2 q_X1_kind_2 := s_iand (by decide +kernel) ok_X1_kind_3
theorem ok_X1_kind_1 : zOK l D tc A nS xs mM_X1_kind 1 q_X1_kind_1 := s_iconst (n := 1) (by decide) (by decide +kernel) (by decide +kernel) ok_X1_kind_2
theorem ok_X1_kind_0 : zOK l D tc A nS xs mM_X1_kind 0 q_X1_kind_0 := s_iload_n (q := 1) rfl (by decide +kernel) (by decide +kernel) ok_X1_kind_1
theorem ok_X2_addStatic_66 : zOK l D tc A nS xs mM_X2_addStatic 66 q_X2_addStatic_66 := s_iret rfl (by decide +kernel)
theorem ok_X2_addStatic_64 : zOK l D tc A nS xs mM_X2_addStatic 64 q_X2_addStatic_64 := s_iload (by decide +kernel) (by decide +kernel) ok_X2_addStatic_66
theorem ok_X2_addStatic_61 : zOK l D tc A nS xs mM_X2_addStatic 61 q_X2_addStatic_61 := r_putf kls_2 ty_2_5 zck_int (by decide) tx_2_5 rfl w_167 (by decide +kernel) ok_X2_addStatic_64
theorem ok_X2_addStatic_60 : zOK l D tc A nS xs mM_X2_addStatic 60 q_X2_addStatic_60 := s_iadd (by decide +kernel) ok_X2_addStatic_61
theorem ok_X2_addStatic_58 : zOK l D tc A nS xs mM_X2_addStatic 58 q_X2_addStatic_58 := s_bipush (n := 6) (by decide) (by decide +kernel) (by decide +kernel) ok_X2_addStatic_60
theorem ok_X2_addStatic_56 : zOK l D tc A nS xs mM_X2_addStatic 56 q_X2_addStatic_56 := s_iload (by decide +kernel) (by decide +kernel) ok_X2_addStatic_58
theorem ok_X2_addStatic_55 : zOK l D tc A nS xs mM_X2_addStatic 55 q_X2_addStatic_55 := s_aload_n (q := 0) rfl (by decide +kernel) (by decide +kernel) ok_X2_addStatic_56
theorem ok_X2_addStatic_52 : zOK l D tc A nS xs mM_X2_addStatic 52 q_X2_addStatic_52 := r_callV zEE_ok zTw_gd kls_3 (M2 := mM_X3_put) (na := 2) lb_49 calV_X3_put rfl rfl w_168 (by decide +kernel) ok_X2_addStatic_55
theorem ok_X2_addStatic_51 : zOK l D tc A nS xs mM_X2_addStatic 51 q_X2_addStatic_51 := s_iload_n (q := 3) rfl (by decide +kernel) (by decide +kernel) ok_X2_addStatic_52
theorem ok_X2_addStatic_50 : zOK l D tc A nS xs mM_X2_addStatic 50 q_X2_addStatic_50 := s_iadd (by decide +kernel) ok_X2_addStatic_51
theorem ok_X2_addStatic_49 : zOK l D tc A nS xs mM_X2_addStatic 49 q_X2_addStatic_49 := s_iconst (n := 4) (by decide) (by decide +kernel) (by decide +kernel) ok_X2_addStatic_50
theorem ok_X2_addStatic_47 : zOK l D tc A nS xs mM_X2_addStatic 47 q_X2_addStatic_47 := s_iload (by decide +kernel) (by decide +kernel) ok_X2_addStatic_49
theorem ok_X2_addStatic_44 : zOK l D tc A nS xs mM_X2_addStatic 44 q_X2_addStatic_44 := r_getf kls_2 (by decide) tx_2_0 rfl w_173 (by decide +kernel) ok_X2_addStatic_47
theorem ok_X2_addStatic_43 : zOK l D tc A nS xs mM_X2_addStatic 43 q_X2_addStatic_43 := s_aload_n (q := 0) rfl (by decide +kernel) (by decide +kernel) ok_X2_addStatic_44
theorem ok_X2_addStatic_40 : zOK l D tc A nS xs mM_X2_addStatic 40 q_X2_addStatic_40 := r_callV zEE_ok zTw_gd kls_3 (M2 := mM_X3_put) (na := 2) lb_49 calV_X3_put rfl rfl w_168 (by decide +kernel) ok_X2_addStatic_43
theorem ok_X2_addStatic_39 : zOK l D tc A nS xs mM_X2_addStatic 39 q_X2_addStatic_39 := s_iload_n (q := 2) rfl (by decide +kernel) (by decide +kernel) ok_X2_addStatic_40
theorem ok_X2_addStatic_38 : zOK l D tc A nS xs mM_X2_addStatic 38 q_X2_addStatic_38 := s_iadd (by decide +kernel) ok_X2_addStatic_39
theorem ok_X2_addStatic_37 : zOK l D tc A nS xs mM_X2_addStatic 37 q_X2_addStatic_37 := s_iconst (n := 2) (by decide) (by decide +kernel) (by decide +kernel) ok_X2_addStatic_38
theorem ok_X2_addStatic_35 : zOK l D tc A nS xs mM_X2_addStatic 35 q_X2_addStatic_35 := s_iload (by decide +kernel) (by decide +kernel) ok_X2_addStatic_37
theorem ok_X2_addStatic_32 : zOK l D tc A nS xs mM_X2_addStatic 32 q_X2_addStatic_32 := r_getf kls_2 (by decide) tx_2_0 rfl w_173 (by decide +kernel) ok_X2_addStatic_35
theorem ok_X2_addStatic_31 : zOK l D tc A nS xs mM_X2_addStatic 31 q_X2_addStatic_31 := s_aload_n (q := 0) rfl (by decide +kernel) (by decide +kernel) ok_X2_addStatic_32
theorem ok_X2_addStatic_28 : zOK l D tc A nS xs mM_X2_addStatic 28 q_X2_addStatic_28 := r_callV zEE_ok zTw_gd kls_3 (M2 := mM_X3_put) (na := 2) lb_49 calV_X3_put rfl rfl w_168 (by decide +kernel) ok_X2_addStatic_31
theorem ok_X2_addStatic_27 : zOK l D tc A nS xs mM_X2_addStatic 27 q_X2_addStatic_27 := s_iload_n (q := 1) rfl (by decide +kernel) (by decide +kernel) ok_X2_addStatic_28
theorem ok_X2_addStatic_25 : zOK l D tc A nS xs mM_X2_addStatic 25 q_X2_addStatic_25 := s_iload (by decide +kernel) (by decide +kernel) ok_X2_addStatic_27
theorem ok_X2_addStatic_22 : zOK l D tc A nS xs mM_X2_addStatic 22 q_X2_addStatic_22 := r_getf kls_2 (by decide) tx_2_0 rfl w_173 (by decide +kernel) ok_X2_addStatic_25
theorem ok_X2_addStatic_21 : zOK l D tc A nS xs mM_X2_addStatic 21 q_X2_addStatic_21 := s_aload_n (q := 0) rfl (by decide +kernel) (by decide +kernel) ok_X2_addStatic_22
theorem ok_X2_addStatic_19 : zOK l D tc A nS xs mM_X2_addStatic 19 q_X2_addStatic_19 := s_istore (by decide +kernel) (by decide +kernel) ok_X2_addStatic_21
theorem ok_X2_addStatic_16 : zOK l D tc A nS xs mM_X2_addStatic 16 q_X2_addStatic_16 := r_getf kls_2 (by decide) tx_2_5 rfl w_167 (by decide +kernel) ok_X2_addStatic_19
theorem ok_X2_addStatic_15 : zOK l D tc A nS xs mM_X2_addStatic 15 q_X2_addStatic_15 := s_aload_n (q := 0) rfl (by decide +kernel) (by decide +kernel) ok_X2_addStatic_16
theorem ok_X2_addStatic_10 : zOK l D tc A nS xs mM_X2_addStatic 10 q_X2_addStatic_10 := s_icmp_le (tgt := 15) (off := 5) (by decide +kernel) (by decide) ok_X2_addStatic_15 s_none
theorem ok_X2_addStatic_7 : zOK l D tc A nS xs mM_X2_addStatic 7 q_X2_addStatic_7 := s_sipush (n := 8192) (by decide) (by decide +kernel) (by decide +kernel) ok_X2_addStatic_10
theorem ok_X2_addStatic_6 : zOK l D tc A nS xs mM_X2_addStatic 6 q_X2_addStatic_6 := s_iadd (by decide +kernel) ok_X2_addStatic_7
theorem ok_X2_addStatic_4 : zOK l D tc A nS xs mM_X2_addStatic 4 q_X2_addStatic_4 := s_bipush (n := 6) (by decide) (by decide +kernel) (by decide +kernel) ok_X2_addStatic_6
theorem ok_X2_addStatic_1 : zOK l D tc A nS xs mM_X2_addStatic 1 q_X2_addStatic_1 := r_getf kls_2 (by decide) tx_2_5 rfl w_167 (by decide +kernel) ok_X2_addStatic_4
theorem ok_X2_addStatic_0 : zOK l D tc A nS xs mM_X2_addStatic 0 q_X2_addStatic_0 := s_aload_n (q := 0) rfl (by decide +kernel) (by decide +kernel) ok_X2_addStatic_1
theorem ok_X2_addSymbol_120 : zOK l D tc A nS xs mM_X2_addSymbol 120 q_X2_addSymbol_120 := s_iret rfl (by decide +kernel)
theorem ok_X2_addSymbol_119 : zOK l D tc A nS xs mM_X2_addSymbol 119 q_X2_addSymbol_119 := s_isub (by decide +kernel) ok_X2_addSymbol_120
theorem ok_X2_addSymbol_118 : zOK l D tc A nS xs mM_X2_addSymbol 118 q_X2_addSymbol_118 := s_iconst (n := 1) (by decide) (by decide +kernel) (by decide +kernel) ok_X2_addSymbol_119
theorem ok_X2_addSymbol_115 : zOK l D tc A nS xs mM_X2_addSymbol 115 q_X2_addSymbol_115 := r_getf kls_2 (by decide) tx_2_4 rfl w_174 (by decide +kernel) ok_X2_addSymbol_118
theorem ok_X2_addSymbol_114 : zOK l D tc A nS xs mM_X2_addSymbol 114 q_X2_addSymbol_114 := s_aload_n (q := 0) rfl (by decide +kernel) (by decide +kernel) ok_X2_addSymbol_115
theorem ok_X2_addSymbol_111 : zOK l D tc A nS xs mM_X2_addSymbol 111 q_X2_addSymbol_111 := r_putf kls_2 ty_2_4 zck_int (by decide) tx_2_4 rfl w_174 (by decide +kernel) ok_X2_addSymbol_114
theorem ok_X2_addSymbol_110 : zOK l D tc A nS xs mM_X2_addSymbol 110 q_X2_addSymbol_110 := s_iadd (by decide +kernel) ok_X2_addSymbol_111
theorem ok_X2_addSymbol_109 : zOK l D tc A nS xs mM_X2_addSymbol 109 q_X2_addSymbol_109 := s_iconst (n := 1) (by decide) (by decide +kernel) (by decide +kernel) ok_X2_addSymbol_110
theorem ok_X2_addSymbol_106 : zOK l D tc A nS xs mM_X2_addSymbol 106 q_X2_addSymbol_106 := r_getf kls_2 (by decide) tx_2_4 rfl w_174 (by decide +kernel) ok_X2_addSymbol_109
theorem ok_X2_addSymbol_105 : zOK l D tc A nS xs mM_X2_addSymbol 105 q_X2_addSymbol_105 := s_dup (by decide +kernel) ok_X2_addSymbol_106
theorem ok_X2_addSymbol_104 : zOK l D tc A nS xs mM_X2_addSymbol 104 q_X2_addSymbol_104 := s_aload_n (q := 0) rfl (by decide +kernel) (by decide +kernel) ok_X2_addSymbol_105
theorem ok_X2_addSymbol_103 : zOK l D tc A nS xs mM_X2_addSymbol 103 q_X2_addSymbol_103 := s_iast (t0 := 0) (by decide) (by decide) rfl (by decide +kernel) ok_X2_addSymbol_104
theorem ok_X2_addSymbol_101 : zOK l D tc A nS xs mM_X2_addSymbol 101 q_X2_addSymbol_101 := s_iload (by decide +kernel) (by decide +kernel) ok_X2_addSymbol_103
theorem ok_X2_addSymbol_98 : zOK l D tc A nS xs mM_X2_addSymbol 98 q_X2_addSymbol_98 := r_getf kls_2 (by decide) tx_2_4 rfl w_174 (by decide +kernel) ok_X2_addSymbol_101
theorem ok_X2_addSymbol_97 : zOK l D tc A nS xs mM_X2_addSymbol 97 q_X2_addSymbol_97 := s_aload_n (q := 0) rfl (by decide +kernel) (by decide +kernel) ok_X2_addSymbol_98
theorem ok_X2_addSymbol_94 : zOK l D tc A nS xs mM_X2_addSymbol 94 q_X2_addSymbol_94 := r_getf kls_2 (by decide) tx_2_3 rfl w_175 (by decide +kernel) ok_X2_addSymbol_97
theorem ok_X2_addSymbol_93 : zOK l D tc A nS xs mM_X2_addSymbol 93 q_X2_addSymbol_93 := s_aload_n (q := 0) rfl (by decide +kernel) (by decide +kernel) ok_X2_addSymbol_94
theorem ok_X2_addSymbol_92 : zOK l D tc A nS xs mM_X2_addSymbol 92 q_X2_addSymbol_92 := s_iast (t0 := 0) (by decide) (by decide) rfl (by decide +kernel) ok_X2_addSymbol_93
theorem ok_X2_addSymbol_91 : zOK l D tc A nS xs mM_X2_addSymbol 91 q_X2_addSymbol_91 := s_iload_n (q := 3) rfl (by decide +kernel) (by decide +kernel) ok_X2_addSymbol_92
theorem ok_X2_addSymbol_88 : zOK l D tc A nS xs mM_X2_addSymbol 88 q_X2_addSymbol_88 := r_getf kls_2 (by decide) tx_2_4 rfl w_174 (by decide +kernel) ok_X2_addSymbol_91
theorem ok_X2_addSymbol_87 : zOK l D tc A nS xs mM_X2_addSymbol 87 q_X2_addSymbol_87 := s_aload_n (q := 0) rfl (by decide +kernel) (by decide +kernel) ok_X2_addSymbol_88
theorem ok_X2_addSymbol_84 : zOK l D tc A nS xs mM_X2_addSymbol 84 q_X2_addSymbol_84 := r_getf kls_2 (by decide) tx_2_2 rfl w_176 (by decide +kernel) ok_X2_addSymbol_87
theorem ok_X2_addSymbol_83 : zOK l D tc A nS xs mM_X2_addSymbol 83 q_X2_addSymbol_83 := s_aload_n (q := 0) rfl (by decide +kernel) (by decide +kernel) ok_X2_addSymbol_84
theorem ok_X2_addSymbol_80 : zOK l D tc A nS xs mM_X2_addSymbol 80 q_X2_addSymbol_80 := s_goto (tgt := 50) (off := (-30)) (by decide +kernel) (by decide) (s_back lb_33)
theorem ok_X2_addSymbol_77 : zOK l D tc A nS xs mM_X2_addSymbol 77 q_X2_addSymbol_77 := s_iinc (n := 1) (by decide +kernel) (by decide +kernel) (by decide +kernel) ok_X2_addSymbol_80
theorem ok_X2_addSymbol_76 : zOK l D tc A nS xs mM_X2_addSymbol 76 q_X2_addSymbol_76 := s_iast (t0 := 0) (by decide) (by decide) rfl (by decide +kernel) ok_X2_addSymbol_77
theorem ok_X2_addSymbol_75 : zOK l D tc A nS xs mM_X2_addSymbol 75 q_X2_addSymbol_75 := s_iald (t0 := 0) (by decide) (by decide) rfl (by decide +kernel) ok_X2_addSymbol_76
theorem ok_X2_addSymbol_74 : zOK l D tc A nS xs mM_X2_addSymbol 74 q_X2_addSymbol_74 := s_iadd (by decide +kernel) ok_X2_addSymbol_75
theorem ok_X2_addSymbol_72 : zOK l D tc A nS xs mM_X2_addSymbol 72 q_X2_addSymbol_72 := s_iload (by decide +kernel) (by decide +kernel) ok_X2_addSymbol_74
theorem ok_X2_addSymbol_71 : zOK l D tc A nS xs mM_X2_addSymbol 71 q_X2_addSymbol_71 := s_iload_n (q := 2) rfl (by decide +kernel) (by decide +kernel) ok_X2_addSymbol_72
theorem ok_X2_addSymbol_70 : zOK l D tc A nS xs mM_X2_addSymbol 70 q_X2_addSymbol_70 := s_aload_n (q := 1) rfl (by decide +kernel) (by decide +kernel) ok_X2_addSymbol_71
theorem ok_X2_addSymbol_69 : zOK l D tc A nS xs mM_X2_addSymbol 69 q_X2_addSymbol_69 := s_iadd (by decide +kernel) ok_X2_addSymbol_70
theorem ok_X2_addSymbol_67 : zOK l D tc A nS xs mM_X2_addSymbol 67 q_X2_addSymbol_67 := s_iload (by decide +kernel) (by decide +kernel) ok_X2_addSymbol_69
theorem ok_X2_addSymbol_66 : zOK l D tc A nS xs mM_X2_addSymbol 66 q_X2_addSymbol_66 := s_imul (by decide +kernel) ok_X2_addSymbol_67
theorem ok_X2_addSymbol_64 : zOK l D tc A nS xs mM_X2_addSymbol 64 q_X2_addSymbol_64 := s_bipush (n := 13) (by decide) (by decide +kernel) (by decide +kernel) ok_X2_addSymbol_66
theorem ok_X2_addSymbol_61 : zOK l D tc A nS xs mM_X2_addSymbol 61 q_X2_addSymbol_61 := r_getf kls_2 (by decide) tx_2_4 rfl w_174 (by decide +kernel) ok_X2_addSymbol_64
theorem ok_X2_addSymbol_60 : zOK l D tc A nS xs mM_X2_addSymbol 60 q_X2_addSymbol_60 := s_aload_n (q := 0) rfl (by decide +kernel) (by decide +kernel) ok_X2_addSymbol_61
theorem ok_X2_addSymbol_57 : zOK l D tc A nS xs mM_X2_addSymbol 57 q_X2_addSymbol_57 := r_getf kls_2 (by decide) tx_2_1 rfl w_177 (by decide +kernel) ok_X2_addSymbol_60
theorem ok_X2_addSymbol_56 : zOK l D tc A nS xs mM_X2_addSymbol 56 q_X2_addSymbol_56 := s_aload_n (q := 0) rfl (by decide +kernel) (by decide +kernel) ok_X2_addSymbol_57
theorem ok_X2_addSymbol_53 : zOK l D tc A nS xs mM_X2_addSymbol 53 q_X2_addSymbol_53 := s_icmp_ge (tgt := 83) (off := 30) (by decide +kernel) (by decide) ok_X2_addSymbol_83 ok_X2_addSymbol_56
theorem ok_X2_addSymbol_52 : zOK l D tc A nS xs mM_X2_addSymbol 52 q_X2_addSymbol_52 := s_iload_n (q := 3) rfl (by decide +kernel) (by decide +kernel) ok_X2_addSymbol_53
theorem ok_X2_addSymbol_50 : zOK l D tc A nS xs mM_X2_addSymbol 50 q_X2_addSymbol_50 := s_iload (by decide +kernel) (by decide +kernel) ok_X2_addSymbol_52
theorem ok_X2_addSymbol_48 : zOK l D tc A nS xs mM_X2_addSymbol 48 q_X2_addSymbol_48 := s_istore (by decide +kernel) (by decide +kernel) ok_X2_addSymbol_50
theorem ok_X2_addSymbol_47 : zOK l D tc A nS xs mM_X2_addSymbol 47 q_X2_addSymbol_47 := s_iconst (n := 0) (by decide) (by decide +kernel) (by decide +kernel) ok_X2_addSymbol_48
theorem ok_X2_addSymbol_42 : zOK l D tc A nS xs mM_X2_addSymbol 42 q_X2_addSymbol_42 := s_icmp_ne (tgt := 47) (off := 5) (by decide +kernel) (by decide) ok_X2_addSymbol_47 s_none
theorem ok_X2_addSymbol_41 : zOK l D tc A nS xs mM_X2_addSymbol 41 q_X2_addSymbol_41 := s_iconst (n := (-1)) (by decide) (by decide +kernel) (by decide +kernel) ok_X2_addSymbol_42
theorem ok_X2_addSymbol_39 : zOK l D tc A nS xs mM_X2_addSymbol 39 q_X2_addSymbol_39 := s_iload (by decide +kernel) (by decide +kernel) ok_X2_addSymbol_41
theorem ok_X2_addSymbol_37 : zOK l D tc A nS xs mM_X2_addSymbol 37 q_X2_addSymbol_37 := s_istore (by decide +kernel) (by decide +kernel) ok_X2_addSymbol_39
theorem ok_X2_addSymbol_34 : zOK l D tc A nS xs mM_X2_addSymbol 34 q_X2_addSymbol_34 := r_callV zEE_ok zTw_gd kls_2 (M2 := mM_X2_addStatic) (na := 3) lb_31 calV_X2_addStatic rfl rfl w_178 (by decide +kernel) ok_X2_addSymbol_37
theorem ok_X2_addSymbol_31 : zOK l D tc A nS xs mM_X2_addSymbol 31 q_X2_addSymbol_31 := r_getf kls_2 (by decide) tx_2_4 rfl w_174 (by decide +kernel) ok_X2_addSymbol_34
theorem ok_X2_addSymbol_30 : zOK l D tc A nS xs mM_X2_addSymbol 30 q_X2_addSymbol_30 := s_aload_n (q := 0) rfl (by decide +kernel) (by decide +kernel) ok_X2_addSymbol_31
theorem ok_X2_addSymbol_29 : zOK l D tc A nS xs mM_X2_addSymbol 29 q_X2_addSymbol_29 := s_iconst (n := 0) (by decide) (by decide +kernel) (by decide +kernel) ok_X2_addSymbol_30
theorem ok_X2_addSymbol_27 : zOK l D tc A nS xs mM_X2_addSymbol 27 q_X2_addSymbol_27 := s_bipush (n := 54) (by decide) (by decide +kernel) (by decide +kernel) ok_X2_addSymbol_29
theorem ok_X2_addSymbol_26 : zOK l D tc A nS xs mM_X2_addSymbol 26 q_X2_addSymbol_26 := s_aload_n (q := 0) rfl (by decide +kernel) (by decide +kernel) ok_X2_addSymbol_27
theorem ok_X2_addSymbol_21 : zOK l D tc A nS xs mM_X2_addSymbol 21 q_X2_addSymbol_21 := s_icmp_le (tgt := 26) (off := 5) (by decide +kernel) (by decide) ok_X2_addSymbol_26 s_none
theorem ok_X2_addSymbol_20 : zOK l D tc A nS xs mM_X2_addSymbol 20 q_X2_addSymbol_20 := s_len (t0 := 0) (ty := .int) (by decide) (by decide) rfl (by decide +kernel) ok_X2_addSymbol_21
theorem ok_X2_addSymbol_19 : zOK l D tc A nS xs mM_X2_addSymbol 19 q_X2_addSymbol_19 := s_aload_n (q := 1) rfl (by decide +kernel) (by decide +kernel) ok_X2_addSymbol_20
theorem ok_X2_addSymbol_18 : zOK l D tc A nS xs mM_X2_addSymbol 18 q_X2_addSymbol_18 := s_iadd (by decide +kernel) ok_X2_addSymbol_19
theorem ok_X2_addSymbol_17 : zOK l D tc A nS xs mM_X2_addSymbol 17 q_X2_addSymbol_17 := s_iload_n (q := 3) rfl (by decide +kernel) (by decide +kernel) ok_X2_addSymbol_18
theorem ok_X2_addSymbol_16 : zOK l D tc A nS xs mM_X2_addSymbol 16 q_X2_addSymbol_16 := s_iload_n (q := 2) rfl (by decide +kernel) (by decide +kernel) ok_X2_addSymbol_17
theorem ok_X2_addSymbol_13 : zOK l D tc A nS xs mM_X2_addSymbol 13 q_X2_addSymbol_13 := s_icmp_gt (tgt := 24) (off := 11) (by decide +kernel) (by decide) s_none ok_X2_addSymbol_16
theorem ok_X2_addSymbol_11 : zOK l D tc A nS xs mM_X2_addSymbol 11 q_X2_addSymbol_11 := s_bipush (n := 13) (by decide) (by decide +kernel) (by decide +kernel) ok_X2_addSymbol_13
theorem ok_X2_addSymbol_10 : zOK l D tc A nS xs mM_X2_addSymbol 10 q_X2_addSymbol_10 := s_iload_n (q := 3) rfl (by decide +kernel) (by decide +kernel) ok_X2_addSymbol_11
theorem ok_X2_addSymbol_7 : zOK l D tc A nS xs mM_X2_addSymbol 7 q_X2_addSymbol_7 := s_icmp_ge (tgt := 24) (off := 17) (by decide +kernel) (by decide) s_none ok_X2_addSymbol_10
theorem ok_X2_addSymbol_4 : zOK l D tc A nS xs mM_X2_addSymbol 4 q_X2_addSymbol_4 := s_sipush (n := 300) (by decide) (by decide +kernel) (by decide +kernel) ok_X2_addSymbol_7
theorem ok_X2_addSymbol_1 : zOK l D tc A nS xs mM_X2_addSymbol 1 q_X2_addSymbol_1 := r_getf kls_2 (by decide) tx_2_4 rfl w_174 (by decide +kernel) ok_X2_addSymbol_4
theorem ok_X2_addSymbol_0 : zOK l D tc A nS xs mM_X2_addSymbol 0 q_X2_addSymbol_0 := s_aload_n (q := 0) rfl (by decide +kernel) (by decide +kernel) ok_X2_addSymbol_1
theorem ok_X2_addWord_36 : zOK l D tc A nS xs mM_X2_addWord 36 q_X2_addWord_36 := s_zret rfl (by decide +kernel)
theorem ok_X2_addWord_35 : zOK l D tc A nS xs mM_X2_addWord 35 q_X2_addWord_35 := s_iconst (n := 1) (by decide) (by decide +kernel) (by decide +kernel) ok_X2_addWord_36
theorem ok_X2_addWord_32 : zOK l D tc A nS xs mM_X2_addWord 32 q_X2_addWord_32 := r_putf kls_2 ty_2_6 zck_int (by decide) tx_2_6 rfl w_182 (by decide +kernel) ok_X2_addWord_35
theorem ok_X2_addWord_31 : zOK l D tc A nS xs mM_X2_addWord 31 q_X2_addWord_31 := s_iadd (by decide +kernel) ok_X2_addWord_32
theorem ok_X2_addWord_30 : zOK l D tc A nS xs mM_X2_addWord 30 q_X2_addWord_30 := s_iconst (n := 2) (by decide) (by decide +kernel) (by decide +kernel) ok_X2_addWord_31
theorem ok_X2_addWord_27 : zOK l D tc A nS xs mM_X2_addWord 27 q_X2_addWord_27 := r_getf kls_2 (by decide) tx_2_6 rfl w_182 (by decide +kernel) ok_X2_addWord_30
theorem ok_X2_addWord_26 : zOK l D tc A nS xs mM_X2_addWord 26 q_X2_addWord_26 := s_dup (by decide +kernel) ok_X2_addWord_27
theorem ok_X2_addWord_25 : zOK l D tc A nS xs mM_X2_addWord 25 q_X2_addWord_25 := s_aload_n (q := 0) rfl (by decide +kernel) (by decide +kernel) ok_X2_addWord_26
theorem ok_X2_addWord_22 : zOK l D tc A nS xs mM_X2_addWord 22 q_X2_addWord_22 := r_callV zEE_ok zTw_gd kls_3 (M2 := mM_X3_put) (na := 2) lb_49 calV_X3_put rfl rfl w_168 (by decide +kernel) ok_X2_addWord_25
theorem ok_X2_addWord_21 : zOK l D tc A nS xs mM_X2_addWord 21 q_X2_addWord_21 := s_iload_n (q := 1) rfl (by decide +kernel) (by decide +kernel) ok_X2_addWord_22
theorem ok_X2_addWord_18 : zOK l D tc A nS xs mM_X2_addWord 18 q_X2_addWord_18 := r_getf kls_2 (by decide) tx_2_6 rfl w_182 (by decide +kernel) ok_X2_addWord_21
theorem ok_X2_addWord_17 : zOK l D tc A nS xs mM_X2_addWord 17 q_X2_addWord_17 := s_aload_n (q := 0) rfl (by decide +kernel) (by decide +kernel) ok_X2_addWord_18
theorem ok_X2_addWord_14 : zOK l D tc A nS xs mM_X2_addWord 14 q_X2_addWord_14 := r_getf kls_2 (by decide) tx_2_0 rfl w_173 (by decide +kernel) ok_X2_addWord_17
theorem ok_X2_addWord_13 : zOK l D tc A nS xs mM_X2_addWord 13 q_X2_addWord_13 := s_aload_n (q := 0) rfl (by decide +kernel) (by decide +kernel) ok_X2_addWord_14
theorem ok_X2_addWord_8 : zOK l D tc A nS xs mM_X2_addWord 8 q_X2_addWord_8 := s_icmp_le (tgt := 13) (off := 5) (by decide +kernel) (by decide) ok_X2_addWord_13 s_none
theorem ok_X2_addWord_6 : zOK l D tc A nS xs mM_X2_addWord 6 q_X2_addWord_6 := r_ldc (by decide) (x := (32768 : Int32)) (by decide +kernel) rfl w_183 (by decide +kernel) ok_X2_addWord_8
theorem ok_X2_addWord_5 : zOK l D tc A nS xs mM_X2_addWord 5 q_X2_addWord_5 := s_iadd (by decide +kernel) ok_X2_addWord_6
theorem ok_X2_addWord_4 : zOK l D tc A nS xs mM_X2_addWord 4 q_X2_addWord_4 := s_iconst (n := 2) (by decide) (by decide +kernel) (by decide +kernel) ok_X2_addWord_5
theorem ok_X2_addWord_1 : zOK l D tc A nS xs mM_X2_addWord 1 q_X2_addWord_1 := r_getf kls_2 (by decide) tx_2_6 rfl w_182 (by decide +kernel) ok_X2_addWord_4
theorem ok_X2_addWord_0 : zOK l D tc A nS xs mM_X2_addWord 0 q_X2_addWord_0 := s_aload_n (q := 0) rfl (by decide +kernel) (by decide +kernel) ok_X2_addWord_1
theorem ok_X2_clear_19 : zOK l D tc A nS xs mM_X2_clear 19 q_X2_clear_19 := s_vret rfl (by decide +kernel)
theorem ok_X2_clear_16 : zOK l D tc A nS xs mM_X2_clear 16 q_X2_clear_16 := r_putf kls_2 ty_2_6 zck_int (by decide) tx_2_6 rfl w_182 (by decide +kernel) ok_X2_clear_19
theorem ok_X2_clear_13 : zOK l D tc A nS xs mM_X2_clear 13 q_X2_clear_13 := s_sipush (n := 8192) (by decide) (by decide +kernel) (by decide +kernel) ok_X2_clear_16
theorem ok_X2_clear_12 : zOK l D tc A nS xs mM_X2_clear 12 q_X2_clear_12 := s_aload_n (q := 0) rfl (by decide +kernel) (by decide +kernel) ok_X2_clear_13
theorem ok_X2_clear_9 : zOK l D tc A nS xs mM_X2_clear 9 q_X2_clear_9 := r_putf kls_2 ty_2_5 zck_int (by decide) tx_2_5 rfl w_167 (by decide +kernel) ok_X2_clear_12
theorem ok_X2_clear_6 : zOK l D tc A nS xs mM_X2_clear 6 q_X2_clear_6 := s_sipush (n := 1024) (by decide) (by decide +kernel) (by decide +kernel) ok_X2_clear_9
theorem ok_X2_clear_5 : zOK l D tc A nS xs mM_X2_clear 5 q_X2_clear_5 := s_aload_n (q := 0) rfl (by decide +kernel) (by decide +kernel) ok_X2_clear_6
theorem ok_X2_clear_2 : zOK l D tc A nS xs mM_X2_clear 2 q_X2_clear_2 := r_putf kls_2 ty_2_4 zck_int (by decide) tx_2_4 rfl w_174 (by decide +kernel) ok_X2_clear_5
theorem ok_X2_clear_1 : zOK l D tc A nS xs mM_X2_clear 1 q_X2_clear_1 := s_iconst (n := 0) (by decide) (by decide +kernel) (by decide +kernel) ok_X2_clear_2
theorem ok_X2_clear_0 : zOK l D tc A nS xs mM_X2_clear 0 q_X2_clear_0 := s_aload_n (q := 0) rfl (by decide +kernel) (by decide +kernel) ok_X2_clear_1
theorem ok_X2_find_48 : zOK l D tc A nS xs mM_X2_find 48 q_X2_find_48 := s_iret rfl (by decide +kernel)
theorem ok_X2_find_47 : zOK l D tc A nS xs mM_X2_find 47 q_X2_find_47 := s_iconst (n := (-1)) (by decide) (by decide +kernel) (by decide +kernel) ok_X2_find_48
theorem ok_X2_find_44 : zOK l D tc A nS xs mM_X2_find 44 q_X2_find_44 := s_goto (tgt := 3) (off := (-41)) (by decide +kernel) (by decide) (s_back lb_37)
theorem ok_X2_find_41 : zOK l D tc A nS xs mM_X2_find 41 q_X2_find_41 := s_iinc (n := 1) (by decide +kernel) (by decide +kernel) (by decide +kernel) ok_X2_find_44
theorem ok_X2_find_40 : zOK l D tc A nS xs mM_X2_find 40 q_X2_find_40 := s_iret rfl (by decide +kernel)
theorem ok_X2_find_38 : zOK l D tc A nS xs mM_X2_find 38 q_X2_find_38 := s_iload (by decide +kernel) (by decide +kernel) ok_X2_find_40
theorem ok_X2_find_35 : zOK l D tc A nS xs mM_X2_find 35 q_X2_find_35 := s_if_eq (tgt := 41) (off := 6) (by decide +kernel) (by decide) ok_X2_find_41 ok_X2_find_38
theorem ok_X2_find_32 : zOK l D tc A nS xs mM_X2_find 32 q_X2_find_32 := r_callV zEE_ok zTw_gd kls_2 (M2 := mM_X2_same) (na := 4) lb_42 calV_X2_same rfl rfl w_184 (by decide +kernel) ok_X2_find_35
theorem ok_X2_find_31 : zOK l D tc A nS xs mM_X2_find 31 q_X2_find_31 := s_iload_n (q := 3) rfl (by decide +kernel) (by decide +kernel) ok_X2_find_32
theorem ok_X2_find_30 : zOK l D tc A nS xs mM_X2_find 30 q_X2_find_30 := s_iload_n (q := 2) rfl (by decide +kernel) (by decide +kernel) ok_X2_find_31
theorem ok_X2_find_29 : zOK l D tc A nS xs mM_X2_find 29 q_X2_find_29 := s_aload_n (q := 1) rfl (by decide +kernel) (by decide +kernel) ok_X2_find_30
theorem ok_X2_find_28 : zOK l D tc A nS xs mM_X2_find 28 q_X2_find_28 := s_imul (by decide +kernel) ok_X2_find_29
theorem ok_X2_find_26 : zOK l D tc A nS xs mM_X2_find 26 q_X2_find_26 := s_bipush (n := 13) (by decide) (by decide +kernel) (by decide +kernel) ok_X2_find_28
theorem ok_X2_find_24 : zOK l D tc A nS xs mM_X2_find 24 q_X2_find_24 := s_iload (by decide +kernel) (by decide +kernel) ok_X2_find_26
theorem ok_X2_find_23 : zOK l D tc A nS xs mM_X2_find 23 q_X2_find_23 := s_aload_n (q := 0) rfl (by decide +kernel) (by decide +kernel) ok_X2_find_24
theorem ok_X2_find_20 : zOK l D tc A nS xs mM_X2_find 20 q_X2_find_20 := s_icmp_ne (tgt := 41) (off := 21) (by decide +kernel) (by decide) ok_X2_find_41 ok_X2_find_23
theorem ok_X2_find_19 : zOK l D tc A nS xs mM_X2_find 19 q_X2_find_19 := s_iload_n (q := 3) rfl (by decide +kernel) (by decide +kernel) ok_X2_find_20
theorem ok_X2_find_18 : zOK l D tc A nS xs mM_X2_find 18 q_X2_find_18 := s_iald (t0 := 0) (by decide) (by decide) rfl (by decide +kernel) ok_X2_find_19
theorem ok_X2_find_16 : zOK l D tc A nS xs mM_X2_find 16 q_X2_find_16 := s_iload (by decide +kernel) (by decide +kernel) ok_X2_find_18
theorem ok_X2_find_13 : zOK l D tc A nS xs mM_X2_find 13 q_X2_find_13 := r_getf kls_2 (by decide) tx_2_2 rfl w_176 (by decide +kernel) ok_X2_find_16
theorem ok_X2_find_12 : zOK l D tc A nS xs mM_X2_find 12 q_X2_find_12 := s_aload_n (q := 0) rfl (by decide +kernel) (by decide +kernel) ok_X2_find_13
theorem ok_X2_find_9 : zOK l D tc A nS xs mM_X2_find 9 q_X2_find_9 := s_icmp_ge (tgt := 47) (off := 38) (by decide +kernel) (by decide) ok_X2_find_47 ok_X2_find_12
theorem ok_X2_find_6 : zOK l D tc A nS xs mM_X2_find 6 q_X2_find_6 := r_getf kls_2 (by decide) tx_2_4 rfl w_174 (by decide +kernel) ok_X2_find_9
theorem ok_X2_find_5 : zOK l D tc A nS xs mM_X2_find 5 q_X2_find_5 := s_aload_n (q := 0) rfl (by decide +kernel) (by decide +kernel) ok_X2_find_6
theorem ok_X2_find_3 : zOK l D tc A nS xs mM_X2_find 3 q_X2_find_3 := s_iload (by decide +kernel) (by decide +kernel) ok_X2_find_5
theorem ok_X2_find_1 : zOK l D tc A nS xs mM_X2_find 1 q_X2_find_1 := s_istore (by decide +kernel) (by decide +kernel) ok_X2_find_3
theorem ok_X2_find_0 : zOK l D tc A nS xs mM_X2_find 0 q_X2_find_0 := s_iconst (n := 0) (by decide) (by decide +kernel) (by decide +kernel) ok_X2_find_1
theorem ok_X2_init_50 : zOK l D tc A nS xs mM_X2_init 50 q_X2_init_50 := s_vret rfl (by decide +kernel)
theorem ok_X2_init_47 : zOK l D tc A nS xs mM_X2_init 47 q_X2_init_47 := r_putF kls_2 ty_2_0 (zck_obj _) (by decide) tx_2_0 rfl rfl rfl w_173 (by decide +kernel) ok_X2_init_50
theorem ok_X2_init_46 : zOK l D tc A nS xs mM_X2_init 46 q_X2_init_46 := s_aload_n (q := 1) rfl (by decide +kernel) (by decide +kernel) ok_X2_init_47
theorem ok_X2_init_45 : zOK l D tc A nS xs mM_X2_init 45 q_X2_init_45 := s_aload_n (q := 0) rfl (by decide +kernel) (by decide +kernel) ok_X2_init_46
theorem ok_X2_init_42 : zOK l D tc A nS xs mM_X2_init 42 q_X2_init_42 := r_putf kls_2 ty_2_6 zck_int (by decide) tx_2_6 rfl w_182 (by decide +kernel) ok_X2_init_45
theorem ok_X2_init_39 : zOK l D tc A nS xs mM_X2_init 39 q_X2_init_39 := s_sipush (n := 8192) (by decide) (by decide +kernel) (by decide +kernel) ok_X2_init_42
theorem ok_X2_init_38 : zOK l D tc A nS xs mM_X2_init 38 q_X2_init_38 := s_aload_n (q := 0) rfl (by decide +kernel) (by decide +kernel) ok_X2_init_39
theorem ok_X2_init_35 : zOK l D tc A nS xs mM_X2_init 35 q_X2_init_35 := r_putf kls_2 ty_2_5 zck_int (by decide) tx_2_5 rfl w_167 (by decide +kernel) ok_X2_init_38
theorem ok_X2_init_32 : zOK l D tc A nS xs mM_X2_init 32 q_X2_init_32 := s_sipush (n := 1024) (by decide) (by decide +kernel) (by decide +kernel) ok_X2_init_35
theorem ok_X2_init_31 : zOK l D tc A nS xs mM_X2_init 31 q_X2_init_31 := s_aload_n (q := 0) rfl (by decide +kernel) (by decide +kernel) ok_X2_init_32
theorem ok_X2_init_28 : zOK l D tc A nS xs mM_X2_init 28 q_X2_init_28 := r_putF kls_2 ty_2_3 (zck_arr _) (by decide) tx_2_3 rfl rfl rfl w_175 (by decide +kernel) ok_X2_init_31
theorem ok_X2_init_26 : zOK l D tc A nS xs mM_X2_init 26 q_X2_init_26 := r_newa (t0 := 0) (atype := .int) (ty := .int) rfl (by decide) rfl rfl z_RA_int rfl (by decide) w_109 (by decide +kernel) ok_X2_init_28
theorem ok_X2_init_23 : zOK l D tc A nS xs mM_X2_init 23 q_X2_init_23 := s_sipush (n := 300) (by decide) (by decide +kernel) (by decide +kernel) ok_X2_init_26
theorem ok_X2_init_22 : zOK l D tc A nS xs mM_X2_init 22 q_X2_init_22 := s_aload_n (q := 0) rfl (by decide +kernel) (by decide +kernel) ok_X2_init_23
theorem ok_X2_init_19 : zOK l D tc A nS xs mM_X2_init 19 q_X2_init_19 := r_putF kls_2 ty_2_2 (zck_arr _) (by decide) tx_2_2 rfl rfl rfl w_176 (by decide +kernel) ok_X2_init_22
theorem ok_X2_init_17 : zOK l D tc A nS xs mM_X2_init 17 q_X2_init_17 := r_newa (t0 := 0) (atype := .int) (ty := .int) rfl (by decide) rfl rfl z_RA_int rfl (by decide) w_109 (by decide +kernel) ok_X2_init_19
theorem ok_X2_init_14 : zOK l D tc A nS xs mM_X2_init 14 q_X2_init_14 := s_sipush (n := 300) (by decide) (by decide +kernel) (by decide +kernel) ok_X2_init_17
theorem ok_X2_init_13 : zOK l D tc A nS xs mM_X2_init 13 q_X2_init_13 := s_aload_n (q := 0) rfl (by decide +kernel) (by decide +kernel) ok_X2_init_14
theorem ok_X2_init_10 : zOK l D tc A nS xs mM_X2_init 10 q_X2_init_10 := r_putF kls_2 ty_2_1 (zck_arr _) (by decide) tx_2_1 rfl rfl rfl w_177 (by decide +kernel) ok_X2_init_13
theorem ok_X2_init_8 : zOK l D tc A nS xs mM_X2_init 8 q_X2_init_8 := r_newa (t0 := 0) (atype := .int) (ty := .int) rfl (by decide) rfl rfl z_RA_int rfl (by decide) w_109 (by decide +kernel) ok_X2_init_10
theorem ok_X2_init_5 : zOK l D tc A nS xs mM_X2_init 5 q_X2_init_5 := s_sipush (n := 3900) (by decide) (by decide +kernel) (by decide +kernel) ok_X2_init_8
theorem ok_X2_init_4 : zOK l D tc A nS xs mM_X2_init 4 q_X2_init_4 := s_aload_n (q := 0) rfl (by decide +kernel) (by decide +kernel) ok_X2_init_5
theorem ok_X2_init_1 : zOK l D tc A nS xs mM_X2_init 1 q_X2_init_1 := s_oinit w_187 w_112 w_oi (by decide +kernel) ok_X2_init_4
theorem ok_X2_init_0 : zOK l D tc A nS xs mM_X2_init 0 q_X2_init_0 := s_aload_n (q := 0) rfl (by decide +kernel) (by decide +kernel) ok_X2_init_1
end ZRows
