section ZRows
variable {l : Launch} {D : va_G} {tc : Nat → ClassId} {A : Nat → Prop} {nS : Nat} {xs : Nat → Int32}
theorem ok_X12_setCell_31 : zOK l D tc A nS xs mM_X12_setCell 31 q_X12_setCell_31 := s_vret rfl (by decide +kernel)
theorem ok_X12_setCell_30 : zOK l D tc A nS xs mM_X12_setCell 30 q_X12_setCell_30 := s_iast (t0 := 0) (by decide) (by decide) rfl (by decide +kernel) ok_X12_setCell_31
theorem ok_X12_setCell_29 : zOK l D tc A nS xs mM_X12_setCell 29 q_X12_setCell_29 := s_iand (by decide +kernel) ok_X12_setCell_30
theorem ok_X12_setCell_26 : zOK l D tc A nS xs mM_X12_setCell 26 q_X12_setCell_26 := s_sipush (n := 255) (by decide) (by decide +kernel) (by decide +kernel) ok_X12_setCell_29
theorem ok_X12_setCell_25 : zOK l D tc A nS xs mM_X12_setCell 25 q_X12_setCell_25 := s_ishr (by decide +kernel) ok_X12_setCell_26
theorem ok_X12_setCell_23 : zOK l D tc A nS xs mM_X12_setCell 23 q_X12_setCell_23 := s_bipush (n := 8) (by decide) (by decide +kernel) (by decide +kernel) ok_X12_setCell_25
theorem ok_X12_setCell_22 : zOK l D tc A nS xs mM_X12_setCell 22 q_X12_setCell_22 := s_iload_n (q := 2) rfl (by decide +kernel) (by decide +kernel) ok_X12_setCell_23
theorem ok_X12_setCell_21 : zOK l D tc A nS xs mM_X12_setCell 21 q_X12_setCell_21 := s_iadd (by decide +kernel) ok_X12_setCell_22
theorem ok_X12_setCell_20 : zOK l D tc A nS xs mM_X12_setCell 20 q_X12_setCell_20 := s_iconst (n := 1) (by decide) (by decide +kernel) (by decide +kernel) ok_X12_setCell_21
theorem ok_X12_setCell_19 : zOK l D tc A nS xs mM_X12_setCell 19 q_X12_setCell_19 := s_iload_n (q := 1) rfl (by decide +kernel) (by decide +kernel) ok_X12_setCell_20
theorem ok_X12_setCell_18 : zOK l D tc A nS xs mM_X12_setCell 18 q_X12_setCell_18 := s_aald (t0 := 2) (ty := .array .int) rfl rfl (by decide +kernel) ok_X12_setCell_19
theorem ok_X12_setCell_17 : zOK l D tc A nS xs mM_X12_setCell 17 q_X12_setCell_17 := s_iconst (n := 0) (by decide) (by decide +kernel) (by decide +kernel) ok_X12_setCell_18
theorem ok_X12_setCell_14 : zOK l D tc A nS xs mM_X12_setCell 14 q_X12_setCell_14 := r_getf kls_12 (by decide) tx_12_0 rfl w_724 (by decide +kernel) ok_X12_setCell_17
theorem ok_X12_setCell_13 : zOK l D tc A nS xs mM_X12_setCell 13 q_X12_setCell_13 := s_aload_n (q := 0) rfl (by decide +kernel) (by decide +kernel) ok_X12_setCell_14
theorem ok_X12_setCell_12 : zOK l D tc A nS xs mM_X12_setCell 12 q_X12_setCell_12 := s_iast (t0 := 0) (by decide) (by decide) rfl (by decide +kernel) ok_X12_setCell_13
theorem ok_X12_setCell_11 : zOK l D tc A nS xs mM_X12_setCell 11 q_X12_setCell_11 := s_iand (by decide +kernel) ok_X12_setCell_12
theorem ok_X12_setCell_8 : zOK l D tc A nS xs mM_X12_setCell 8 q_X12_setCell_8 := s_sipush (n := 255) (by decide) (by decide +kernel) (by decide +kernel) ok_X12_setCell_11
theorem ok_X12_setCell_7 : zOK l D tc A nS xs mM_X12_setCell 7 q_X12_setCell_7 := s_iload_n (q := 2) rfl (by decide +kernel) (by decide +kernel) ok_X12_setCell_8
theorem ok_X12_setCell_6 : zOK l D tc A nS xs mM_X12_setCell 6 q_X12_setCell_6 := s_iload_n (q := 1) rfl (by decide +kernel) (by decide +kernel) ok_X12_setCell_7
theorem ok_X12_setCell_5 : zOK l D tc A nS xs mM_X12_setCell 5 q_X12_setCell_5 := s_aald (t0 := 2) (ty := .array .int) rfl rfl (by decide +kernel) ok_X12_setCell_6
theorem ok_X12_setCell_4 : zOK l D tc A nS xs mM_X12_setCell 4 q_X12_setCell_4 := s_iconst (n := 0) (by decide) (by decide +kernel) (by decide +kernel) ok_X12_setCell_5
theorem ok_X12_setCell_1 : zOK l D tc A nS xs mM_X12_setCell 1 q_X12_setCell_1 := r_getf kls_12 (by decide) tx_12_0 rfl w_724 (by decide +kernel) ok_X12_setCell_4
theorem ok_X12_setCell_0 : zOK l D tc A nS xs mM_X12_setCell 0 q_X12_setCell_0 := s_aload_n (q := 0) rfl (by decide +kernel) (by decide +kernel) ok_X12_setCell_1
theorem ok_X12_setR_15 : zOK l D tc A nS xs mM_X12_setR 15 q_X12_setR_15 := s_vret rfl (by decide +kernel)
theorem ok_X12_setR_14 : zOK l D tc A nS xs mM_X12_setR 14 q_X12_setR_14 := s_iast (t0 := 0) (by decide) (by decide) rfl (by decide +kernel) ok_X12_setR_15
theorem ok_X12_setR_13 : zOK l D tc A nS xs mM_X12_setR 13 q_X12_setR_13 := s_iand (by decide +kernel) ok_X12_setR_14
theorem ok_X12_setR_11 : zOK l D tc A nS xs mM_X12_setR 11 q_X12_setR_11 := r_ldc (by decide) (x := (65535 : Int32)) (by decide +kernel) rfl w_935 (by decide +kernel) ok_X12_setR_13
theorem ok_X12_setR_10 : zOK l D tc A nS xs mM_X12_setR 10 q_X12_setR_10 := s_iload_n (q := 2) rfl (by decide +kernel) (by decide +kernel) ok_X12_setR_11
theorem ok_X12_setR_9 : zOK l D tc A nS xs mM_X12_setR 9 q_X12_setR_9 := s_iload_n (q := 1) rfl (by decide +kernel) (by decide +kernel) ok_X12_setR_10
theorem ok_X12_setR_8 : zOK l D tc A nS xs mM_X12_setR 8 q_X12_setR_8 := s_aald (t0 := 2) (ty := .array .int) rfl rfl (by decide +kernel) ok_X12_setR_9
theorem ok_X12_setR_5 : zOK l D tc A nS xs mM_X12_setR 5 q_X12_setR_5 := r_getf kls_12 (by decide) tx_12_3 rfl w_822 (by decide +kernel) ok_X12_setR_8
theorem ok_X12_setR_4 : zOK l D tc A nS xs mM_X12_setR 4 q_X12_setR_4 := s_aload_n (q := 0) rfl (by decide +kernel) (by decide +kernel) ok_X12_setR_5
theorem ok_X12_setR_1 : zOK l D tc A nS xs mM_X12_setR 1 q_X12_setR_1 := r_getf kls_12 (by decide) tx_12_1 rfl w_871 (by decide +kernel) ok_X12_setR_4
theorem ok_X12_setR_0 : zOK l D tc A nS xs mM_X12_setR 0 q_X12_setR_0 := s_aload_n (q := 0) rfl (by decide +kernel) (by decide +kernel) ok_X12_setR_1
theorem ok_X12_shown_36 : zOK l D tc A nS xs mM_X12_shown 36 q_X12_shown_36 := s_iret rfl (by decide +kernel)
theorem ok_X12_shown_35 : zOK l D tc A nS xs mM_X12_shown 35 q_X12_shown_35 := s_iconst (n := (-1)) (by decide) (by decide +kernel) (by decide +kernel) ok_X12_shown_36
theorem ok_X12_shown_23 : zOK l D tc A nS xs mM_X12_shown 23 q_X12_shown_23 := s_if_eq (tgt := 35) (off := 12) (by decide +kernel) (by decide) ok_X12_shown_35 s_none
theorem ok_X12_shown_20 : zOK l D tc A nS xs mM_X12_shown 20 q_X12_shown_20 := r_callS zEE_ok zTw_gd (M2 := mM_X12_in) lb_217 calS_X12_in rfl rfl w_771 (by decide +kernel) ok_X12_shown_23
theorem ok_X12_shown_19 : zOK l D tc A nS xs mM_X12_shown 19 q_X12_shown_19 := s_isub (by decide +kernel) ok_X12_shown_20
theorem ok_X12_shown_18 : zOK l D tc A nS xs mM_X12_shown 18 q_X12_shown_18 := s_iconst (n := 1) (by decide) (by decide +kernel) (by decide +kernel) ok_X12_shown_19
theorem ok_X12_shown_15 : zOK l D tc A nS xs mM_X12_shown 15 q_X12_shown_15 := r_getf kls_12 (by decide) tx_12_28 rfl w_936 (by decide +kernel) ok_X12_shown_18
theorem ok_X12_shown_14 : zOK l D tc A nS xs mM_X12_shown 14 q_X12_shown_14 := s_aload_n (q := 0) rfl (by decide +kernel) (by decide +kernel) ok_X12_shown_15
theorem ok_X12_shown_13 : zOK l D tc A nS xs mM_X12_shown 13 q_X12_shown_13 := s_iconst (n := 0) (by decide) (by decide +kernel) (by decide +kernel) ok_X12_shown_14
theorem ok_X12_shown_12 : zOK l D tc A nS xs mM_X12_shown 12 q_X12_shown_12 := s_iload_n (q := 1) rfl (by decide +kernel) (by decide +kernel) ok_X12_shown_13
theorem ok_X12_shown_9 : zOK l D tc A nS xs mM_X12_shown 9 q_X12_shown_9 := r_callV zEE_ok zTw_gd kls_12 (M2 := mM_X12_written) (na := 1) lb_297 calV_X12_written rfl rfl w_937 (by decide +kernel) ok_X12_shown_12
theorem ok_X12_shown_8 : zOK l D tc A nS xs mM_X12_shown 8 q_X12_shown_8 := s_iald (t0 := 0) (by decide) (by decide) rfl (by decide +kernel) ok_X12_shown_9
theorem ok_X12_shown_7 : zOK l D tc A nS xs mM_X12_shown 7 q_X12_shown_7 := s_iconst (n := 0) (by decide) (by decide +kernel) (by decide +kernel) ok_X12_shown_8
theorem ok_X12_shown_6 : zOK l D tc A nS xs mM_X12_shown 6 q_X12_shown_6 := s_aald (t0 := 2) (ty := .array .int) rfl rfl (by decide +kernel) ok_X12_shown_7
theorem ok_X12_shown_5 : zOK l D tc A nS xs mM_X12_shown 5 q_X12_shown_5 := s_iconst (n := 0) (by decide) (by decide +kernel) (by decide +kernel) ok_X12_shown_6
theorem ok_X12_shown_2 : zOK l D tc A nS xs mM_X12_shown 2 q_X12_shown_2 := r_getf kls_12 (by decide) tx_12_1 rfl w_871 (by decide +kernel) ok_X12_shown_5
theorem ok_X12_shown_1 : zOK l D tc A nS xs mM_X12_shown 1 q_X12_shown_1 := s_aload_n (q := 0) rfl (by decide +kernel) (by decide +kernel) ok_X12_shown_2
theorem ok_X12_shown_0 : zOK l D tc A nS xs mM_X12_shown 0 q_X12_shown_0 := s_aload_n (q := 0) rfl (by decide +kernel) (by decide +kernel) ok_X12_shown_1
theorem ok_X12_single_318 : zOK l D tc A nS xs mM_X12_single 318 q_X12_single_318 := s_vret rfl (by decide +kernel)
theorem ok_X12_single_158 : zOK l D tc A nS xs mM_X12_single 158 q_X12_single_158 := s_goto (tgt := 318) (off := 160) (by decide +kernel) (by decide) ok_X12_single_318
theorem ok_X12_single_155 : zOK l D tc A nS xs mM_X12_single 155 q_X12_single_155 := r_putf kls_12 ty_12_4 zck_int (by decide) tx_12_4 rfl w_786 (by decide +kernel) ok_X12_single_158
theorem ok_X12_single_154 : zOK l D tc A nS xs mM_X12_single 154 q_X12_single_154 := s_iconst (n := 1) (by decide) (by decide +kernel) (by decide +kernel) ok_X12_single_155
theorem ok_X12_single_153 : zOK l D tc A nS xs mM_X12_single 153 q_X12_single_153 := s_aload_n (q := 0) rfl (by decide +kernel) (by decide +kernel) ok_X12_single_154
theorem ok_X12_single_150 : zOK l D tc A nS xs mM_X12_single 150 q_X12_single_150 := s_if_ne (tgt := 161) (off := 11) (by decide +kernel) (by decide) s_none ok_X12_single_153
theorem ok_X12_single_149 : zOK l D tc A nS xs mM_X12_single 149 q_X12_single_149 := s_iload_n (q := 1) rfl (by decide +kernel) (by decide +kernel) ok_X12_single_150
theorem ok_X12_single_138 : zOK l D tc A nS xs mM_X12_single 138 q_X12_single_138 := s_if_eq (tgt := 149) (off := 11) (by decide +kernel) (by decide) ok_X12_single_149 s_none
theorem ok_X12_single_137 : zOK l D tc A nS xs mM_X12_single 137 q_X12_single_137 := s_iload_n (q := 2) rfl (by decide +kernel) (by decide +kernel) ok_X12_single_138
theorem ok_X12_single_86 : zOK l D tc A nS xs mM_X12_single 86 q_X12_single_86 := s_if_le (tgt := 137) (off := 51) (by decide +kernel) (by decide) ok_X12_single_137 s_none
theorem ok_X12_single_84 : zOK l D tc A nS xs mM_X12_single 84 q_X12_single_84 := s_iload (by decide +kernel) (by decide +kernel) ok_X12_single_86
theorem ok_X12_single_70 : zOK l D tc A nS xs mM_X12_single 70 q_X12_single_70 := s_if_eq (tgt := 84) (off := 14) (by decide +kernel) (by decide) ok_X12_single_84 s_none
theorem ok_X12_single_69 : zOK l D tc A nS xs mM_X12_single 69 q_X12_single_69 := s_iload_n (q := 2) rfl (by decide +kernel) (by decide +kernel) ok_X12_single_70
theorem ok_X12_single_41 : zOK l D tc A nS xs mM_X12_single 41 q_X12_single_41 := s_if_eq (tgt := 69) (off := 28) (by decide +kernel) (by decide) ok_X12_single_69 s_none
theorem ok_X12_single_40 : zOK l D tc A nS xs mM_X12_single 40 q_X12_single_40 := s_iload_n (q := 2) rfl (by decide +kernel) (by decide +kernel) ok_X12_single_41
theorem ok_X12_single_18 : zOK l D tc A nS xs mM_X12_single 18 q_X12_single_18 := s_icmp_lt (tgt := 40) (off := 22) (by decide +kernel) (by decide) ok_X12_single_40 s_none
theorem ok_X12_single_16 : zOK l D tc A nS xs mM_X12_single 16 q_X12_single_16 := s_bipush (n := 40) (by decide) (by decide +kernel) (by decide +kernel) ok_X12_single_18
theorem ok_X12_single_15 : zOK l D tc A nS xs mM_X12_single 15 q_X12_single_15 := s_iload_n (q := 3) rfl (by decide +kernel) (by decide +kernel) ok_X12_single_16
theorem ok_X12_single_13 : zOK l D tc A nS xs mM_X12_single 13 q_X12_single_13 := s_istore (by decide +kernel) (by decide +kernel) ok_X12_single_15
theorem ok_X12_single_12 : zOK l D tc A nS xs mM_X12_single 12 q_X12_single_12 := s_ishr (by decide +kernel) ok_X12_single_13
theorem ok_X12_single_10 : zOK l D tc A nS xs mM_X12_single 10 q_X12_single_10 := s_bipush (n := 8) (by decide) (by decide +kernel) (by decide +kernel) ok_X12_single_12
theorem ok_X12_single_9 : zOK l D tc A nS xs mM_X12_single 9 q_X12_single_9 := s_iload_n (q := 1) rfl (by decide +kernel) (by decide +kernel) ok_X12_single_10
theorem ok_X12_single_8 : zOK l D tc A nS xs mM_X12_single 8 q_X12_single_8 := s_istore_n (q := 3) rfl (by decide +kernel) (by decide +kernel) ok_X12_single_9
theorem ok_X12_single_7 : zOK l D tc A nS xs mM_X12_single 7 q_X12_single_7 := s_iand (by decide +kernel) ok_X12_single_8
theorem ok_X12_single_4 : zOK l D tc A nS xs mM_X12_single 4 q_X12_single_4 := s_sipush (n := 511) (by decide) (by decide +kernel) (by decide +kernel) ok_X12_single_7
theorem ok_X12_single_3 : zOK l D tc A nS xs mM_X12_single 3 q_X12_single_3 := s_ishr (by decide +kernel) ok_X12_single_4
theorem ok_X12_single_1 : zOK l D tc A nS xs mM_X12_single 1 q_X12_single_1 := s_bipush (n := 6) (by decide) (by decide +kernel) (by decide +kernel) ok_X12_single_3
theorem ok_X12_single_0 : zOK l D tc A nS xs mM_X12_single 0 q_X12_single_0 := s_iload_n (q := 1) rfl (by decide +kernel) (by decide +kernel) ok_X12_single_1
theorem ok_X12_sized_145 : zOK l D tc A nS xs mM_X12_sized 145 q_X12_sized_145 := s_vret rfl (by decide +kernel)
theorem ok_X12_sized_142 : zOK l D tc A nS xs mM_X12_sized 142 q_X12_sized_142 := s_goto (tgt := 49) (off := (-93)) (by decide +kernel) (by decide) (s_back lb_277)
theorem ok_X12_sized_139 : zOK l D tc A nS xs mM_X12_sized 139 q_X12_sized_139 := s_iinc (n := (-1)) (by decide +kernel) (by decide +kernel) (by decide +kernel) ok_X12_sized_142
theorem ok_X12_sized_138 : zOK l D tc A nS xs mM_X12_sized 138 q_X12_sized_138 := s_iast (t0 := 0) (by decide) (by decide) rfl (by decide +kernel) ok_X12_sized_139
theorem ok_X12_sized_135 : zOK l D tc A nS xs mM_X12_sized 135 q_X12_sized_135 := s_mmax (by rw [show (mM_X12_sized).1.cls = "SchemeElevenModel" from rfl]; exact w_940) w_36 w_33 w_37 (by decide +kernel) ok_X12_sized_138
theorem ok_X12_sized_134 : zOK l D tc A nS xs mM_X12_sized 134 q_X12_sized_134 := s_iald (t0 := 0) (by decide) (by decide) rfl (by decide +kernel) ok_X12_sized_135
theorem ok_X12_sized_133 : zOK l D tc A nS xs mM_X12_sized 133 q_X12_sized_133 := s_iald (t0 := 0) (by decide) (by decide) rfl (by decide +kernel) ok_X12_sized_134
theorem ok_X12_sized_131 : zOK l D tc A nS xs mM_X12_sized 131 q_X12_sized_131 := s_iload (by decide +kernel) (by decide +kernel) ok_X12_sized_133
theorem ok_X12_sized_128 : zOK l D tc A nS xs mM_X12_sized 128 q_X12_sized_128 := r_getf kls_12 (by decide) tx_12_35 rfl w_687 (by decide +kernel) ok_X12_sized_131
theorem ok_X12_sized_127 : zOK l D tc A nS xs mM_X12_sized 127 q_X12_sized_127 := s_aload_n (q := 0) rfl (by decide +kernel) (by decide +kernel) ok_X12_sized_128
theorem ok_X12_sized_124 : zOK l D tc A nS xs mM_X12_sized 124 q_X12_sized_124 := r_getf kls_12 (by decide) tx_12_38 rfl w_715 (by decide +kernel) ok_X12_sized_127
theorem ok_X12_sized_123 : zOK l D tc A nS xs mM_X12_sized 123 q_X12_sized_123 := s_aload_n (q := 0) rfl (by decide +kernel) (by decide +kernel) ok_X12_sized_124
theorem ok_X12_sized_122 : zOK l D tc A nS xs mM_X12_sized 122 q_X12_sized_122 := s_iadd (by decide +kernel) ok_X12_sized_123
theorem ok_X12_sized_121 : zOK l D tc A nS xs mM_X12_sized 121 q_X12_sized_121 := s_iconst (n := 1) (by decide) (by decide +kernel) (by decide +kernel) ok_X12_sized_122
theorem ok_X12_sized_120 : zOK l D tc A nS xs mM_X12_sized 120 q_X12_sized_120 := s_iald (t0 := 0) (by decide) (by decide) rfl (by decide +kernel) ok_X12_sized_121
theorem ok_X12_sized_119 : zOK l D tc A nS xs mM_X12_sized 119 q_X12_sized_119 := s_iald (t0 := 0) (by decide) (by decide) rfl (by decide +kernel) ok_X12_sized_120
theorem ok_X12_sized_117 : zOK l D tc A nS xs mM_X12_sized 117 q_X12_sized_117 := s_iload (by decide +kernel) (by decide +kernel) ok_X12_sized_119
theorem ok_X12_sized_114 : zOK l D tc A nS xs mM_X12_sized 114 q_X12_sized_114 := r_getf kls_12 (by decide) tx_12_34 rfl w_701 (by decide +kernel) ok_X12_sized_117
theorem ok_X12_sized_113 : zOK l D tc A nS xs mM_X12_sized 113 q_X12_sized_113 := s_aload_n (q := 0) rfl (by decide +kernel) (by decide +kernel) ok_X12_sized_114
theorem ok_X12_sized_110 : zOK l D tc A nS xs mM_X12_sized 110 q_X12_sized_110 := r_getf kls_12 (by decide) tx_12_38 rfl w_715 (by decide +kernel) ok_X12_sized_113
theorem ok_X12_sized_109 : zOK l D tc A nS xs mM_X12_sized 109 q_X12_sized_109 := s_aload_n (q := 0) rfl (by decide +kernel) (by decide +kernel) ok_X12_sized_110
theorem ok_X12_sized_107 : zOK l D tc A nS xs mM_X12_sized 107 q_X12_sized_107 := s_iload (by decide +kernel) (by decide +kernel) ok_X12_sized_109
theorem ok_X12_sized_104 : zOK l D tc A nS xs mM_X12_sized 104 q_X12_sized_104 := r_getf kls_12 (by decide) tx_12_38 rfl w_715 (by decide +kernel) ok_X12_sized_107
theorem ok_X12_sized_103 : zOK l D tc A nS xs mM_X12_sized 103 q_X12_sized_103 := s_aload_n (q := 0) rfl (by decide +kernel) (by decide +kernel) ok_X12_sized_104
theorem ok_X12_sized_102 : zOK l D tc A nS xs mM_X12_sized 102 q_X12_sized_102 := s_iast (t0 := 0) (by decide) (by decide) rfl (by decide +kernel) ok_X12_sized_103
theorem ok_X12_sized_99 : zOK l D tc A nS xs mM_X12_sized 99 q_X12_sized_99 := s_mmin (by rw [show (mM_X12_sized).1.cls = "SchemeElevenModel" from rfl]; exact w_941) w_32 w_33 w_34 (by decide +kernel) ok_X12_sized_102
theorem ok_X12_sized_98 : zOK l D tc A nS xs mM_X12_sized 98 q_X12_sized_98 := s_iadd (by decide +kernel) ok_X12_sized_99
theorem ok_X12_sized_97 : zOK l D tc A nS xs mM_X12_sized 97 q_X12_sized_97 := s_iald (t0 := 0) (by decide) (by decide) rfl (by decide +kernel) ok_X12_sized_98
theorem ok_X12_sized_96 : zOK l D tc A nS xs mM_X12_sized 96 q_X12_sized_96 := s_iald (t0 := 0) (by decide) (by decide) rfl (by decide +kernel) ok_X12_sized_97
theorem ok_X12_sized_94 : zOK l D tc A nS xs mM_X12_sized 94 q_X12_sized_94 := s_iload (by decide +kernel) (by decide +kernel) ok_X12_sized_96
theorem ok_X12_sized_91 : zOK l D tc A nS xs mM_X12_sized 91 q_X12_sized_91 := r_getf kls_12 (by decide) tx_12_35 rfl w_687 (by decide +kernel) ok_X12_sized_94
theorem ok_X12_sized_90 : zOK l D tc A nS xs mM_X12_sized 90 q_X12_sized_90 := s_aload_n (q := 0) rfl (by decide +kernel) (by decide +kernel) ok_X12_sized_91
theorem ok_X12_sized_87 : zOK l D tc A nS xs mM_X12_sized 87 q_X12_sized_87 := r_getf kls_12 (by decide) tx_12_37 rfl w_716 (by decide +kernel) ok_X12_sized_90
theorem ok_X12_sized_86 : zOK l D tc A nS xs mM_X12_sized 86 q_X12_sized_86 := s_aload_n (q := 0) rfl (by decide +kernel) (by decide +kernel) ok_X12_sized_87
theorem ok_X12_sized_85 : zOK l D tc A nS xs mM_X12_sized 85 q_X12_sized_85 := s_iadd (by decide +kernel) ok_X12_sized_86
theorem ok_X12_sized_84 : zOK l D tc A nS xs mM_X12_sized 84 q_X12_sized_84 := s_iald (t0 := 0) (by decide) (by decide) rfl (by decide +kernel) ok_X12_sized_85
theorem ok_X12_sized_83 : zOK l D tc A nS xs mM_X12_sized 83 q_X12_sized_83 := s_iald (t0 := 0) (by decide) (by decide) rfl (by decide +kernel) ok_X12_sized_84
theorem ok_X12_sized_81 : zOK l D tc A nS xs mM_X12_sized 81 q_X12_sized_81 := s_iload (by decide +kernel) (by decide +kernel) ok_X12_sized_83
theorem ok_X12_sized_78 : zOK l D tc A nS xs mM_X12_sized 78 q_X12_sized_78 := r_getf kls_12 (by decide) tx_12_34 rfl w_701 (by decide +kernel) ok_X12_sized_81
theorem ok_X12_sized_77 : zOK l D tc A nS xs mM_X12_sized 77 q_X12_sized_77 := s_aload_n (q := 0) rfl (by decide +kernel) (by decide +kernel) ok_X12_sized_78
theorem ok_X12_sized_74 : zOK l D tc A nS xs mM_X12_sized 74 q_X12_sized_74 := r_getf kls_12 (by decide) tx_12_37 rfl w_716 (by decide +kernel) ok_X12_sized_77
theorem ok_X12_sized_73 : zOK l D tc A nS xs mM_X12_sized 73 q_X12_sized_73 := s_aload_n (q := 0) rfl (by decide +kernel) (by decide +kernel) ok_X12_sized_74
theorem ok_X12_sized_72 : zOK l D tc A nS xs mM_X12_sized 72 q_X12_sized_72 := s_iconst (n := 1) (by decide) (by decide +kernel) (by decide +kernel) ok_X12_sized_73
theorem ok_X12_sized_69 : zOK l D tc A nS xs mM_X12_sized 69 q_X12_sized_69 := r_ldcw (by decide) (x := (100000 : Int32)) (by decide +kernel) rfl w_931 (by decide +kernel) ok_X12_sized_72
theorem ok_X12_sized_67 : zOK l D tc A nS xs mM_X12_sized 67 q_X12_sized_67 := s_iload (by decide +kernel) (by decide +kernel) ok_X12_sized_69
theorem ok_X12_sized_64 : zOK l D tc A nS xs mM_X12_sized 64 q_X12_sized_64 := r_getf kls_12 (by decide) tx_12_37 rfl w_716 (by decide +kernel) ok_X12_sized_67
theorem ok_X12_sized_63 : zOK l D tc A nS xs mM_X12_sized 63 q_X12_sized_63 := s_aload_n (q := 0) rfl (by decide +kernel) (by decide +kernel) ok_X12_sized_64
theorem ok_X12_sized_61 : zOK l D tc A nS xs mM_X12_sized 61 q_X12_sized_61 := s_istore (by decide +kernel) (by decide +kernel) ok_X12_sized_63
theorem ok_X12_sized_60 : zOK l D tc A nS xs mM_X12_sized 60 q_X12_sized_60 := s_iald (t0 := 0) (by decide) (by decide) rfl (by decide +kernel) ok_X12_sized_61
theorem ok_X12_sized_58 : zOK l D tc A nS xs mM_X12_sized 58 q_X12_sized_58 := s_iload (by decide +kernel) (by decide +kernel) ok_X12_sized_60
theorem ok_X12_sized_55 : zOK l D tc A nS xs mM_X12_sized 55 q_X12_sized_55 := r_getf kls_12 (by decide) tx_12_57 rfl w_858 (by decide +kernel) ok_X12_sized_58
theorem ok_X12_sized_54 : zOK l D tc A nS xs mM_X12_sized 54 q_X12_sized_54 := s_aload_n (q := 0) rfl (by decide +kernel) (by decide +kernel) ok_X12_sized_55
theorem ok_X12_sized_51 : zOK l D tc A nS xs mM_X12_sized 51 q_X12_sized_51 := s_if_lt (tgt := 145) (off := 94) (by decide +kernel) (by decide) ok_X12_sized_145 ok_X12_sized_54
theorem ok_X12_sized_49 : zOK l D tc A nS xs mM_X12_sized 49 q_X12_sized_49 := s_iload (by decide +kernel) (by decide +kernel) ok_X12_sized_51
theorem ok_X12_sized_47 : zOK l D tc A nS xs mM_X12_sized 47 q_X12_sized_47 := s_istore (by decide +kernel) (by decide +kernel) ok_X12_sized_49
theorem ok_X12_sized_46 : zOK l D tc A nS xs mM_X12_sized 46 q_X12_sized_46 := s_isub (by decide +kernel) ok_X12_sized_47
theorem ok_X12_sized_45 : zOK l D tc A nS xs mM_X12_sized 45 q_X12_sized_45 := s_iconst (n := 1) (by decide) (by decide +kernel) (by decide +kernel) ok_X12_sized_46
theorem ok_X12_sized_44 : zOK l D tc A nS xs mM_X12_sized 44 q_X12_sized_44 := s_iload_n (q := 2) rfl (by decide +kernel) (by decide +kernel) ok_X12_sized_45
theorem ok_X12_sized_41 : zOK l D tc A nS xs mM_X12_sized 41 q_X12_sized_41 := s_goto (tgt := 4) (off := (-37)) (by decide +kernel) (by decide) (s_back lb_276)
theorem ok_X12_sized_40 : zOK l D tc A nS xs mM_X12_sized 40 q_X12_sized_40 := s_istore_n (q := 3) rfl (by decide +kernel) (by decide +kernel) ok_X12_sized_41
theorem ok_X12_sized_39 : zOK l D tc A nS xs mM_X12_sized 39 q_X12_sized_39 := s_iald (t0 := 0) (by decide) (by decide) rfl (by decide +kernel) ok_X12_sized_40
theorem ok_X12_sized_38 : zOK l D tc A nS xs mM_X12_sized 38 q_X12_sized_38 := s_iload_n (q := 3) rfl (by decide +kernel) (by decide +kernel) ok_X12_sized_39
theorem ok_X12_sized_35 : zOK l D tc A nS xs mM_X12_sized 35 q_X12_sized_35 := r_getf kls_12 (by decide) tx_12_35 rfl w_687 (by decide +kernel) ok_X12_sized_38
theorem ok_X12_sized_34 : zOK l D tc A nS xs mM_X12_sized 34 q_X12_sized_34 := s_aload_n (q := 0) rfl (by decide +kernel) (by decide +kernel) ok_X12_sized_35
theorem ok_X12_sized_31 : zOK l D tc A nS xs mM_X12_sized 31 q_X12_sized_31 := s_iinc (n := 1) (by decide +kernel) (by decide +kernel) (by decide +kernel) ok_X12_sized_34
theorem ok_X12_sized_30 : zOK l D tc A nS xs mM_X12_sized 30 q_X12_sized_30 := s_iast (t0 := 0) (by decide) (by decide) rfl (by decide +kernel) ok_X12_sized_31
theorem ok_X12_sized_29 : zOK l D tc A nS xs mM_X12_sized 29 q_X12_sized_29 := s_iload_n (q := 3) rfl (by decide +kernel) (by decide +kernel) ok_X12_sized_30
theorem ok_X12_sized_28 : zOK l D tc A nS xs mM_X12_sized 28 q_X12_sized_28 := s_iload_n (q := 2) rfl (by decide +kernel) (by decide +kernel) ok_X12_sized_29
theorem ok_X12_sized_25 : zOK l D tc A nS xs mM_X12_sized 25 q_X12_sized_25 := r_getf kls_12 (by decide) tx_12_57 rfl w_858 (by decide +kernel) ok_X12_sized_28
theorem ok_X12_sized_24 : zOK l D tc A nS xs mM_X12_sized 24 q_X12_sized_24 := s_aload_n (q := 0) rfl (by decide +kernel) (by decide +kernel) ok_X12_sized_25
theorem ok_X12_sized_21 : zOK l D tc A nS xs mM_X12_sized 21 q_X12_sized_21 := s_icmp_ne (tgt := 44) (off := 23) (by decide +kernel) (by decide) ok_X12_sized_44 ok_X12_sized_24
theorem ok_X12_sized_20 : zOK l D tc A nS xs mM_X12_sized 20 q_X12_sized_20 := s_iconst (n := 1) (by decide) (by decide +kernel) (by decide +kernel) ok_X12_sized_21
theorem ok_X12_sized_19 : zOK l D tc A nS xs mM_X12_sized 19 q_X12_sized_19 := s_iald (t0 := 0) (by decide) (by decide) rfl (by decide +kernel) ok_X12_sized_20
theorem ok_X12_sized_18 : zOK l D tc A nS xs mM_X12_sized 18 q_X12_sized_18 := s_iload_n (q := 3) rfl (by decide +kernel) (by decide +kernel) ok_X12_sized_19
theorem ok_X12_sized_15 : zOK l D tc A nS xs mM_X12_sized 15 q_X12_sized_15 := r_getf kls_12 (by decide) tx_12_37 rfl w_716 (by decide +kernel) ok_X12_sized_18
theorem ok_X12_sized_14 : zOK l D tc A nS xs mM_X12_sized 14 q_X12_sized_14 := s_aload_n (q := 0) rfl (by decide +kernel) (by decide +kernel) ok_X12_sized_15
theorem ok_X12_sized_11 : zOK l D tc A nS xs mM_X12_sized 11 q_X12_sized_11 := s_icmp_ne (tgt := 44) (off := 33) (by decide +kernel) (by decide) ok_X12_sized_44 ok_X12_sized_14
theorem ok_X12_sized_10 : zOK l D tc A nS xs mM_X12_sized 10 q_X12_sized_10 := s_iconst (n := 5) (by decide) (by decide +kernel) (by decide +kernel) ok_X12_sized_11
theorem ok_X12_sized_9 : zOK l D tc A nS xs mM_X12_sized 9 q_X12_sized_9 := s_iald (t0 := 0) (by decide) (by decide) rfl (by decide +kernel) ok_X12_sized_10
theorem ok_X12_sized_8 : zOK l D tc A nS xs mM_X12_sized 8 q_X12_sized_8 := s_iload_n (q := 3) rfl (by decide +kernel) (by decide +kernel) ok_X12_sized_9
theorem ok_X12_sized_5 : zOK l D tc A nS xs mM_X12_sized 5 q_X12_sized_5 := r_getf kls_12 (by decide) tx_12_33 rfl w_702 (by decide +kernel) ok_X12_sized_8
theorem ok_X12_sized_4 : zOK l D tc A nS xs mM_X12_sized 4 q_X12_sized_4 := s_aload_n (q := 0) rfl (by decide +kernel) (by decide +kernel) ok_X12_sized_5
theorem ok_X12_sized_3 : zOK l D tc A nS xs mM_X12_sized 3 q_X12_sized_3 := s_istore_n (q := 3) rfl (by decide +kernel) (by decide +kernel) ok_X12_sized_4
theorem ok_X12_sized_2 : zOK l D tc A nS xs mM_X12_sized 2 q_X12_sized_2 := s_iload_n (q := 1) rfl (by decide +kernel) (by decide +kernel) ok_X12_sized_3
theorem ok_X12_sized_1 : zOK l D tc A nS xs mM_X12_sized 1 q_X12_sized_1 := s_istore_n (q := 2) rfl (by decide +kernel) (by decide +kernel) ok_X12_sized_2
theorem ok_X12_sized_0 : zOK l D tc A nS xs mM_X12_sized 0 q_X12_sized_0 := s_iconst (n := 0) (by decide) (by decide +kernel) (by decide +kernel) ok_X12_sized_1
theorem ok_X12_step_91 : zOK l D tc A nS xs mM_X12_step 91 q_X12_step_91 := s_iret rfl (by decide +kernel)
theorem ok_X12_step_88 : zOK l D tc A nS xs mM_X12_step 88 q_X12_step_88 := r_getf kls_12 (by decide) tx_12_4 rfl w_786 (by decide +kernel) ok_X12_step_91
theorem ok_X12_step_87 : zOK l D tc A nS xs mM_X12_step 87 q_X12_step_87 := s_aload_n (q := 0) rfl (by decide +kernel) (by decide +kernel) ok_X12_step_88
theorem ok_X12_step_78 : zOK l D tc A nS xs mM_X12_step 78 q_X12_step_78 := s_goto (tgt := 87) (off := 9) (by decide +kernel) (by decide) ok_X12_step_87
theorem ok_X12_step_75 : zOK l D tc A nS xs mM_X12_step 75 q_X12_step_75 := r_callV zEE_ok zTw_gd kls_12 (M2 := mM_X12_single) (na := 2) lb_274 calV_X12_single rfl rfl w_942 (by decide +kernel) ok_X12_step_78
theorem ok_X12_step_74 : zOK l D tc A nS xs mM_X12_step 74 q_X12_step_74 := s_iconst (n := 0) (by decide) (by decide +kernel) (by decide +kernel) ok_X12_step_75
theorem ok_X12_step_67 : zOK l D tc A nS xs mM_X12_step 67 q_X12_step_67 := s_icmp_ne (tgt := 74) (off := 7) (by decide +kernel) (by decide) ok_X12_step_74 s_none
theorem ok_X12_step_65 : zOK l D tc A nS xs mM_X12_step 65 q_X12_step_65 := s_bipush (n := 8) (by decide) (by decide +kernel) (by decide +kernel) ok_X12_step_67
theorem ok_X12_step_64 : zOK l D tc A nS xs mM_X12_step 64 q_X12_step_64 := s_iload_n (q := 2) rfl (by decide +kernel) (by decide +kernel) ok_X12_step_65
theorem ok_X12_step_63 : zOK l D tc A nS xs mM_X12_step 63 q_X12_step_63 := s_iload_n (q := 1) rfl (by decide +kernel) (by decide +kernel) ok_X12_step_64
theorem ok_X12_step_62 : zOK l D tc A nS xs mM_X12_step 62 q_X12_step_62 := s_aload_n (q := 0) rfl (by decide +kernel) (by decide +kernel) ok_X12_step_63
theorem ok_X12_step_59 : zOK l D tc A nS xs mM_X12_step 59 q_X12_step_59 := s_if_ne (tgt := 81) (off := 22) (by decide +kernel) (by decide) s_none ok_X12_step_62
theorem ok_X12_step_58 : zOK l D tc A nS xs mM_X12_step 58 q_X12_step_58 := s_iand (by decide +kernel) ok_X12_step_59
theorem ok_X12_step_56 : zOK l D tc A nS xs mM_X12_step 56 q_X12_step_56 := s_bipush (n := 7) (by decide) (by decide +kernel) (by decide +kernel) ok_X12_step_58
theorem ok_X12_step_55 : zOK l D tc A nS xs mM_X12_step 55 q_X12_step_55 := s_iload_n (q := 2) rfl (by decide +kernel) (by decide +kernel) ok_X12_step_56
theorem ok_X12_step_44 : zOK l D tc A nS xs mM_X12_step 44 q_X12_step_44 := s_icmp_ne (tgt := 55) (off := 11) (by decide +kernel) (by decide) ok_X12_step_55 s_none
theorem ok_X12_step_42 : zOK l D tc A nS xs mM_X12_step 42 q_X12_step_42 := s_bipush (n := 15) (by decide) (by decide +kernel) (by decide +kernel) ok_X12_step_44
theorem ok_X12_step_41 : zOK l D tc A nS xs mM_X12_step 41 q_X12_step_41 := s_iload_n (q := 2) rfl (by decide +kernel) (by decide +kernel) ok_X12_step_42
theorem ok_X12_step_30 : zOK l D tc A nS xs mM_X12_step 30 q_X12_step_30 := s_icmp_ne (tgt := 41) (off := 11) (by decide +kernel) (by decide) ok_X12_step_41 s_none
theorem ok_X12_step_28 : zOK l D tc A nS xs mM_X12_step 28 q_X12_step_28 := s_bipush (n := 7) (by decide) (by decide +kernel) (by decide +kernel) ok_X12_step_30
theorem ok_X12_step_27 : zOK l D tc A nS xs mM_X12_step 27 q_X12_step_27 := s_iload_n (q := 2) rfl (by decide +kernel) (by decide +kernel) ok_X12_step_28
theorem ok_X12_step_26 : zOK l D tc A nS xs mM_X12_step 26 q_X12_step_26 := s_istore_n (q := 2) rfl (by decide +kernel) (by decide +kernel) ok_X12_step_27
theorem ok_X12_step_25 : zOK l D tc A nS xs mM_X12_step 25 q_X12_step_25 := s_ishr (by decide +kernel) ok_X12_step_26
theorem ok_X12_step_23 : zOK l D tc A nS xs mM_X12_step 23 q_X12_step_23 := s_bipush (n := 12) (by decide) (by decide +kernel) (by decide +kernel) ok_X12_step_25
theorem ok_X12_step_22 : zOK l D tc A nS xs mM_X12_step 22 q_X12_step_22 := s_iload_n (q := 1) rfl (by decide +kernel) (by decide +kernel) ok_X12_step_23
theorem ok_X12_step_14 : zOK l D tc A nS xs mM_X12_step 14 q_X12_step_14 := s_if_le (tgt := 22) (off := 8) (by decide +kernel) (by decide) ok_X12_step_22 s_none
theorem ok_X12_step_11 : zOK l D tc A nS xs mM_X12_step 11 q_X12_step_11 := r_getf kls_12 (by decide) tx_12_4 rfl w_786 (by decide +kernel) ok_X12_step_14
theorem ok_X12_step_10 : zOK l D tc A nS xs mM_X12_step 10 q_X12_step_10 := s_aload_n (q := 0) rfl (by decide +kernel) (by decide +kernel) ok_X12_step_11
theorem ok_X12_step_9 : zOK l D tc A nS xs mM_X12_step 9 q_X12_step_9 := s_istore_n (q := 1) rfl (by decide +kernel) (by decide +kernel) ok_X12_step_10
theorem ok_X12_step_6 : zOK l D tc A nS xs mM_X12_step 6 q_X12_step_6 := r_callV zEE_ok zTw_gd kls_12 (M2 := mM_X12_fetched) (na := 0) lb_205 calV_X12_fetched rfl rfl w_945 (by decide +kernel) ok_X12_step_9
theorem ok_X12_step_5 : zOK l D tc A nS xs mM_X12_step 5 q_X12_step_5 := s_aload_n (q := 0) rfl (by decide +kernel) (by decide +kernel) ok_X12_step_6
theorem ok_X12_step_2 : zOK l D tc A nS xs mM_X12_step 2 q_X12_step_2 := r_putf kls_12 ty_12_4 zck_int (by decide) tx_12_4 rfl w_786 (by decide +kernel) ok_X12_step_5
theorem ok_X12_step_1 : zOK l D tc A nS xs mM_X12_step 1 q_X12_step_1 := s_iconst (n := 0) (by decide) (by decide +kernel) (by decide +kernel) ok_X12_step_2
theorem ok_X12_step_0 : zOK l D tc A nS xs mM_X12_step 0 q_X12_step_0 := s_aload_n (q := 0) rfl (by decide +kernel) (by decide +kernel) ok_X12_step_1
theorem ok_X12_symbol_255 : zOK l D tc A nS xs mM_X12_symbol 255 q_X12_symbol_255 := s_iret rfl (by decide +kernel)
theorem ok_X12_symbol_254 : zOK l D tc A nS xs mM_X12_symbol 254 q_X12_symbol_254 := s_isub (by decide +kernel) ok_X12_symbol_255
theorem ok_X12_symbol_253 : zOK l D tc A nS xs mM_X12_symbol 253 q_X12_symbol_253 := s_iconst (n := 1) (by decide) (by decide +kernel) (by decide +kernel) ok_X12_symbol_254
theorem ok_X12_symbol_250 : zOK l D tc A nS xs mM_X12_symbol 250 q_X12_symbol_250 := r_getf kls_12 (by decide) tx_12_45 rfl w_895 (by decide +kernel) ok_X12_symbol_253
theorem ok_X12_symbol_249 : zOK l D tc A nS xs mM_X12_symbol 249 q_X12_symbol_249 := s_aload_n (q := 0) rfl (by decide +kernel) (by decide +kernel) ok_X12_symbol_250
theorem ok_X12_symbol_246 : zOK l D tc A nS xs mM_X12_symbol 246 q_X12_symbol_246 := r_putf kls_12 ty_12_45 zck_int (by decide) tx_12_45 rfl w_895 (by decide +kernel) ok_X12_symbol_249
theorem ok_X12_symbol_245 : zOK l D tc A nS xs mM_X12_symbol 245 q_X12_symbol_245 := s_iadd (by decide +kernel) ok_X12_symbol_246
theorem ok_X12_symbol_244 : zOK l D tc A nS xs mM_X12_symbol 244 q_X12_symbol_244 := s_iconst (n := 1) (by decide) (by decide +kernel) (by decide +kernel) ok_X12_symbol_245
theorem ok_X12_symbol_241 : zOK l D tc A nS xs mM_X12_symbol 241 q_X12_symbol_241 := r_getf kls_12 (by decide) tx_12_45 rfl w_895 (by decide +kernel) ok_X12_symbol_244
theorem ok_X12_symbol_240 : zOK l D tc A nS xs mM_X12_symbol 240 q_X12_symbol_240 := s_dup (by decide +kernel) ok_X12_symbol_241
theorem ok_X12_symbol_239 : zOK l D tc A nS xs mM_X12_symbol 239 q_X12_symbol_239 := s_aload_n (q := 0) rfl (by decide +kernel) (by decide +kernel) ok_X12_symbol_240
theorem ok_X12_symbol_236 : zOK l D tc A nS xs mM_X12_symbol 236 q_X12_symbol_236 := r_putf kls_12 ty_12_9 zck_int (by decide) tx_12_9 rfl w_906 (by decide +kernel) ok_X12_symbol_239
theorem ok_X12_symbol_235 : zOK l D tc A nS xs mM_X12_symbol 235 q_X12_symbol_235 := s_iadd (by decide +kernel) ok_X12_symbol_236
theorem ok_X12_symbol_233 : zOK l D tc A nS xs mM_X12_symbol 233 q_X12_symbol_233 := s_bipush (n := 6) (by decide) (by decide +kernel) (by decide +kernel) ok_X12_symbol_235
theorem ok_X12_symbol_230 : zOK l D tc A nS xs mM_X12_symbol 230 q_X12_symbol_230 := r_getf kls_12 (by decide) tx_12_9 rfl w_906 (by decide +kernel) ok_X12_symbol_233
theorem ok_X12_symbol_229 : zOK l D tc A nS xs mM_X12_symbol 229 q_X12_symbol_229 := s_dup (by decide +kernel) ok_X12_symbol_230
theorem ok_X12_symbol_228 : zOK l D tc A nS xs mM_X12_symbol 228 q_X12_symbol_228 := s_aload_n (q := 0) rfl (by decide +kernel) (by decide +kernel) ok_X12_symbol_229
theorem ok_X12_symbol_225 : zOK l D tc A nS xs mM_X12_symbol 225 q_X12_symbol_225 := r_callV zEE_ok zTw_gd kls_12 (M2 := mM_X12_setCell) (na := 2) lb_271 calV_X12_setCell rfl rfl w_920 (by decide +kernel) ok_X12_symbol_228
theorem ok_X12_symbol_222 : zOK l D tc A nS xs mM_X12_symbol 222 q_X12_symbol_222 := r_getf kls_12 (by decide) tx_12_45 rfl w_895 (by decide +kernel) ok_X12_symbol_225
theorem ok_X12_symbol_221 : zOK l D tc A nS xs mM_X12_symbol 221 q_X12_symbol_221 := s_aload_n (q := 0) rfl (by decide +kernel) (by decide +kernel) ok_X12_symbol_222
theorem ok_X12_symbol_220 : zOK l D tc A nS xs mM_X12_symbol 220 q_X12_symbol_220 := s_iadd (by decide +kernel) ok_X12_symbol_221
theorem ok_X12_symbol_219 : zOK l D tc A nS xs mM_X12_symbol 219 q_X12_symbol_219 := s_iconst (n := 4) (by decide) (by decide +kernel) (by decide +kernel) ok_X12_symbol_220
theorem ok_X12_symbol_216 : zOK l D tc A nS xs mM_X12_symbol 216 q_X12_symbol_216 := r_getf kls_12 (by decide) tx_12_9 rfl w_906 (by decide +kernel) ok_X12_symbol_219
theorem ok_X12_symbol_215 : zOK l D tc A nS xs mM_X12_symbol 215 q_X12_symbol_215 := s_aload_n (q := 0) rfl (by decide +kernel) (by decide +kernel) ok_X12_symbol_216
theorem ok_X12_symbol_214 : zOK l D tc A nS xs mM_X12_symbol 214 q_X12_symbol_214 := s_aload_n (q := 0) rfl (by decide +kernel) (by decide +kernel) ok_X12_symbol_215
theorem ok_X12_symbol_211 : zOK l D tc A nS xs mM_X12_symbol 211 q_X12_symbol_211 := r_callV zEE_ok zTw_gd kls_12 (M2 := mM_X12_setCell) (na := 2) lb_271 calV_X12_setCell rfl rfl w_920 (by decide +kernel) ok_X12_symbol_214
theorem ok_X12_symbol_209 : zOK l D tc A nS xs mM_X12_symbol 209 q_X12_symbol_209 := s_bipush (n := 54) (by decide) (by decide +kernel) (by decide +kernel) ok_X12_symbol_211
theorem ok_X12_symbol_206 : zOK l D tc A nS xs mM_X12_symbol 206 q_X12_symbol_206 := r_getf kls_12 (by decide) tx_12_9 rfl w_906 (by decide +kernel) ok_X12_symbol_209
theorem ok_X12_symbol_205 : zOK l D tc A nS xs mM_X12_symbol 205 q_X12_symbol_205 := s_aload_n (q := 0) rfl (by decide +kernel) (by decide +kernel) ok_X12_symbol_206
theorem ok_X12_symbol_204 : zOK l D tc A nS xs mM_X12_symbol 204 q_X12_symbol_204 := s_aload_n (q := 0) rfl (by decide +kernel) (by decide +kernel) ok_X12_symbol_205
theorem ok_X12_symbol_203 : zOK l D tc A nS xs mM_X12_symbol 203 q_X12_symbol_203 := s_iast (t0 := 0) (by decide) (by decide) rfl (by decide +kernel) ok_X12_symbol_204
theorem ok_X12_symbol_200 : zOK l D tc A nS xs mM_X12_symbol 200 q_X12_symbol_200 := r_getf kls_12 (by decide) tx_12_9 rfl w_906 (by decide +kernel) ok_X12_symbol_203
theorem ok_X12_symbol_199 : zOK l D tc A nS xs mM_X12_symbol 199 q_X12_symbol_199 := s_aload_n (q := 0) rfl (by decide +kernel) (by decide +kernel) ok_X12_symbol_200
theorem ok_X12_symbol_196 : zOK l D tc A nS xs mM_X12_symbol 196 q_X12_symbol_196 := r_getf kls_12 (by decide) tx_12_45 rfl w_895 (by decide +kernel) ok_X12_symbol_199
theorem ok_X12_symbol_195 : zOK l D tc A nS xs mM_X12_symbol 195 q_X12_symbol_195 := s_aload_n (q := 0) rfl (by decide +kernel) (by decide +kernel) ok_X12_symbol_196
theorem ok_X12_symbol_192 : zOK l D tc A nS xs mM_X12_symbol 192 q_X12_symbol_192 := r_getf kls_12 (by decide) tx_12_44 rfl w_757 (by decide +kernel) ok_X12_symbol_195
theorem ok_X12_symbol_191 : zOK l D tc A nS xs mM_X12_symbol 191 q_X12_symbol_191 := s_aload_n (q := 0) rfl (by decide +kernel) (by decide +kernel) ok_X12_symbol_192
theorem ok_X12_symbol_190 : zOK l D tc A nS xs mM_X12_symbol 190 q_X12_symbol_190 := s_iast (t0 := 0) (by decide) (by decide) rfl (by decide +kernel) ok_X12_symbol_191
theorem ok_X12_symbol_189 : zOK l D tc A nS xs mM_X12_symbol 189 q_X12_symbol_189 := s_iload_n (q := 1) rfl (by decide +kernel) (by decide +kernel) ok_X12_symbol_190
theorem ok_X12_symbol_186 : zOK l D tc A nS xs mM_X12_symbol 186 q_X12_symbol_186 := r_getf kls_12 (by decide) tx_12_45 rfl w_895 (by decide +kernel) ok_X12_symbol_189
theorem ok_X12_symbol_185 : zOK l D tc A nS xs mM_X12_symbol 185 q_X12_symbol_185 := s_aload_n (q := 0) rfl (by decide +kernel) (by decide +kernel) ok_X12_symbol_186
theorem ok_X12_symbol_182 : zOK l D tc A nS xs mM_X12_symbol 182 q_X12_symbol_182 := r_getf kls_12 (by decide) tx_12_43 rfl w_859 (by decide +kernel) ok_X12_symbol_185
theorem ok_X12_symbol_181 : zOK l D tc A nS xs mM_X12_symbol 181 q_X12_symbol_181 := s_aload_n (q := 0) rfl (by decide +kernel) (by decide +kernel) ok_X12_symbol_182
theorem ok_X12_symbol_178 : zOK l D tc A nS xs mM_X12_symbol 178 q_X12_symbol_178 := s_goto (tgt := 145) (off := (-33)) (by decide +kernel) (by decide) (s_back lb_282)
theorem ok_X12_symbol_175 : zOK l D tc A nS xs mM_X12_symbol 175 q_X12_symbol_175 := s_iinc (n := 1) (by decide +kernel) (by decide +kernel) (by decide +kernel) ok_X12_symbol_178
theorem ok_X12_symbol_174 : zOK l D tc A nS xs mM_X12_symbol 174 q_X12_symbol_174 := s_iast (t0 := 0) (by decide) (by decide) rfl (by decide +kernel) ok_X12_symbol_175
theorem ok_X12_symbol_173 : zOK l D tc A nS xs mM_X12_symbol 173 q_X12_symbol_173 := s_iald (t0 := 0) (by decide) (by decide) rfl (by decide +kernel) ok_X12_symbol_174
theorem ok_X12_symbol_172 : zOK l D tc A nS xs mM_X12_symbol 172 q_X12_symbol_172 := s_iadd (by decide +kernel) ok_X12_symbol_173
theorem ok_X12_symbol_171 : zOK l D tc A nS xs mM_X12_symbol 171 q_X12_symbol_171 := s_iload_n (q := 2) rfl (by decide +kernel) (by decide +kernel) ok_X12_symbol_172
theorem ok_X12_symbol_168 : zOK l D tc A nS xs mM_X12_symbol 168 q_X12_symbol_168 := r_getf kls_12 (by decide) tx_12_49 rfl w_734 (by decide +kernel) ok_X12_symbol_171
theorem ok_X12_symbol_167 : zOK l D tc A nS xs mM_X12_symbol 167 q_X12_symbol_167 := s_aload_n (q := 0) rfl (by decide +kernel) (by decide +kernel) ok_X12_symbol_168
theorem ok_X12_symbol_164 : zOK l D tc A nS xs mM_X12_symbol 164 q_X12_symbol_164 := r_getf kls_12 (by decide) tx_12_46 rfl w_722 (by decide +kernel) ok_X12_symbol_167
theorem ok_X12_symbol_163 : zOK l D tc A nS xs mM_X12_symbol 163 q_X12_symbol_163 := s_aload_n (q := 0) rfl (by decide +kernel) (by decide +kernel) ok_X12_symbol_164
theorem ok_X12_symbol_162 : zOK l D tc A nS xs mM_X12_symbol 162 q_X12_symbol_162 := s_iadd (by decide +kernel) ok_X12_symbol_163
theorem ok_X12_symbol_161 : zOK l D tc A nS xs mM_X12_symbol 161 q_X12_symbol_161 := s_iload_n (q := 2) rfl (by decide +kernel) (by decide +kernel) ok_X12_symbol_162
theorem ok_X12_symbol_160 : zOK l D tc A nS xs mM_X12_symbol 160 q_X12_symbol_160 := s_imul (by decide +kernel) ok_X12_symbol_161
theorem ok_X12_symbol_157 : zOK l D tc A nS xs mM_X12_symbol 157 q_X12_symbol_157 := r_getf kls_12 (by decide) tx_12_45 rfl w_895 (by decide +kernel) ok_X12_symbol_160
theorem ok_X12_symbol_156 : zOK l D tc A nS xs mM_X12_symbol 156 q_X12_symbol_156 := s_aload_n (q := 0) rfl (by decide +kernel) (by decide +kernel) ok_X12_symbol_157
theorem ok_X12_symbol_154 : zOK l D tc A nS xs mM_X12_symbol 154 q_X12_symbol_154 := s_bipush (n := 13) (by decide) (by decide +kernel) (by decide +kernel) ok_X12_symbol_156
theorem ok_X12_symbol_151 : zOK l D tc A nS xs mM_X12_symbol 151 q_X12_symbol_151 := r_getf kls_12 (by decide) tx_12_42 rfl w_860 (by decide +kernel) ok_X12_symbol_154
theorem ok_X12_symbol_150 : zOK l D tc A nS xs mM_X12_symbol 150 q_X12_symbol_150 := s_aload_n (q := 0) rfl (by decide +kernel) (by decide +kernel) ok_X12_symbol_151
theorem ok_X12_symbol_147 : zOK l D tc A nS xs mM_X12_symbol 147 q_X12_symbol_147 := s_icmp_ge (tgt := 181) (off := 34) (by decide +kernel) (by decide) ok_X12_symbol_181 ok_X12_symbol_150
theorem ok_X12_symbol_146 : zOK l D tc A nS xs mM_X12_symbol 146 q_X12_symbol_146 := s_iload_n (q := 1) rfl (by decide +kernel) (by decide +kernel) ok_X12_symbol_147
theorem ok_X12_symbol_145 : zOK l D tc A nS xs mM_X12_symbol 145 q_X12_symbol_145 := s_iload_n (q := 2) rfl (by decide +kernel) (by decide +kernel) ok_X12_symbol_146
theorem ok_X12_symbol_144 : zOK l D tc A nS xs mM_X12_symbol 144 q_X12_symbol_144 := s_istore_n (q := 2) rfl (by decide +kernel) (by decide +kernel) ok_X12_symbol_145
theorem ok_X12_symbol_143 : zOK l D tc A nS xs mM_X12_symbol 143 q_X12_symbol_143 := s_iconst (n := 0) (by decide) (by decide +kernel) (by decide +kernel) ok_X12_symbol_144
theorem ok_X12_symbol_138 : zOK l D tc A nS xs mM_X12_symbol 138 q_X12_symbol_138 := s_if_le (tgt := 143) (off := 5) (by decide +kernel) (by decide) ok_X12_symbol_143 s_none
theorem ok_X12_symbol_135 : zOK l D tc A nS xs mM_X12_symbol 135 q_X12_symbol_135 := r_getf kls_12 (by decide) tx_12_40 rfl w_775 (by decide +kernel) ok_X12_symbol_138
theorem ok_X12_symbol_134 : zOK l D tc A nS xs mM_X12_symbol 134 q_X12_symbol_134 := s_aload_n (q := 0) rfl (by decide +kernel) (by decide +kernel) ok_X12_symbol_135
theorem ok_X12_symbol_122 : zOK l D tc A nS xs mM_X12_symbol 122 q_X12_symbol_122 := s_icmp_le (tgt := 134) (off := 12) (by decide +kernel) (by decide) ok_X12_symbol_134 s_none
theorem ok_X12_symbol_119 : zOK l D tc A nS xs mM_X12_symbol 119 q_X12_symbol_119 := s_sipush (n := 8192) (by decide) (by decide +kernel) (by decide +kernel) ok_X12_symbol_122
theorem ok_X12_symbol_118 : zOK l D tc A nS xs mM_X12_symbol 118 q_X12_symbol_118 := s_iadd (by decide +kernel) ok_X12_symbol_119
theorem ok_X12_symbol_116 : zOK l D tc A nS xs mM_X12_symbol 116 q_X12_symbol_116 := s_bipush (n := 6) (by decide) (by decide +kernel) (by decide +kernel) ok_X12_symbol_118
theorem ok_X12_symbol_113 : zOK l D tc A nS xs mM_X12_symbol 113 q_X12_symbol_113 := r_getf kls_12 (by decide) tx_12_9 rfl w_906 (by decide +kernel) ok_X12_symbol_116
theorem ok_X12_symbol_112 : zOK l D tc A nS xs mM_X12_symbol 112 q_X12_symbol_112 := s_aload_n (q := 0) rfl (by decide +kernel) (by decide +kernel) ok_X12_symbol_113
theorem ok_X12_symbol_97 : zOK l D tc A nS xs mM_X12_symbol 97 q_X12_symbol_97 := s_icmp_ne (tgt := 112) (off := 15) (by decide +kernel) (by decide) ok_X12_symbol_112 s_none
theorem ok_X12_symbol_94 : zOK l D tc A nS xs mM_X12_symbol 94 q_X12_symbol_94 := s_sipush (n := 300) (by decide) (by decide +kernel) (by decide +kernel) ok_X12_symbol_97
theorem ok_X12_symbol_91 : zOK l D tc A nS xs mM_X12_symbol 91 q_X12_symbol_91 := r_getf kls_12 (by decide) tx_12_45 rfl w_895 (by decide +kernel) ok_X12_symbol_94
theorem ok_X12_symbol_90 : zOK l D tc A nS xs mM_X12_symbol 90 q_X12_symbol_90 := s_aload_n (q := 0) rfl (by decide +kernel) (by decide +kernel) ok_X12_symbol_91
theorem ok_X12_symbol_87 : zOK l D tc A nS xs mM_X12_symbol 87 q_X12_symbol_87 := s_goto (tgt := 2) (off := (-85)) (by decide +kernel) (by decide) (s_back lb_280)
theorem ok_X12_symbol_84 : zOK l D tc A nS xs mM_X12_symbol 84 q_X12_symbol_84 := s_iinc (n := 1) (by decide +kernel) (by decide +kernel) (by decide +kernel) ok_X12_symbol_87
theorem ok_X12_symbol_83 : zOK l D tc A nS xs mM_X12_symbol 83 q_X12_symbol_83 := s_iret rfl (by decide +kernel)
theorem ok_X12_symbol_82 : zOK l D tc A nS xs mM_X12_symbol 82 q_X12_symbol_82 := s_iload_n (q := 2) rfl (by decide +kernel) (by decide +kernel) ok_X12_symbol_83
theorem ok_X12_symbol_79 : zOK l D tc A nS xs mM_X12_symbol 79 q_X12_symbol_79 := s_if_eq (tgt := 84) (off := 5) (by decide +kernel) (by decide) ok_X12_symbol_84 ok_X12_symbol_82
theorem ok_X12_symbol_78 : zOK l D tc A nS xs mM_X12_symbol 78 q_X12_symbol_78 := s_iload_n (q := 3) rfl (by decide +kernel) (by decide +kernel) ok_X12_symbol_79
theorem ok_X12_symbol_75 : zOK l D tc A nS xs mM_X12_symbol 75 q_X12_symbol_75 := s_goto (tgt := 29) (off := (-46)) (by decide +kernel) (by decide) (s_back lb_281)
theorem ok_X12_symbol_72 : zOK l D tc A nS xs mM_X12_symbol 72 q_X12_symbol_72 := s_iinc (n := 1) (by decide +kernel) (by decide +kernel) (by decide +kernel) ok_X12_symbol_75
theorem ok_X12_symbol_71 : zOK l D tc A nS xs mM_X12_symbol 71 q_X12_symbol_71 := s_istore_n (q := 3) rfl (by decide +kernel) (by decide +kernel) ok_X12_symbol_72
theorem ok_X12_symbol_70 : zOK l D tc A nS xs mM_X12_symbol 70 q_X12_symbol_70 := s_iconst (n := 0) (by decide) (by decide +kernel) (by decide +kernel) ok_X12_symbol_71
theorem ok_X12_symbol_67 : zOK l D tc A nS xs mM_X12_symbol 67 q_X12_symbol_67 := s_goto (tgt := 71) (off := 4) (by decide +kernel) (by decide) ok_X12_symbol_71
theorem ok_X12_symbol_66 : zOK l D tc A nS xs mM_X12_symbol 66 q_X12_symbol_66 := s_iconst (n := 1) (by decide) (by decide +kernel) (by decide +kernel) ok_X12_symbol_67
theorem ok_X12_symbol_63 : zOK l D tc A nS xs mM_X12_symbol 63 q_X12_symbol_63 := s_icmp_ne (tgt := 70) (off := 7) (by decide +kernel) (by decide) ok_X12_symbol_70 ok_X12_symbol_66
theorem ok_X12_symbol_62 : zOK l D tc A nS xs mM_X12_symbol 62 q_X12_symbol_62 := s_iald (t0 := 0) (by decide) (by decide) rfl (by decide +kernel) ok_X12_symbol_63
theorem ok_X12_symbol_61 : zOK l D tc A nS xs mM_X12_symbol 61 q_X12_symbol_61 := s_iadd (by decide +kernel) ok_X12_symbol_62
theorem ok_X12_symbol_59 : zOK l D tc A nS xs mM_X12_symbol 59 q_X12_symbol_59 := s_iload (by decide +kernel) (by decide +kernel) ok_X12_symbol_61
theorem ok_X12_symbol_56 : zOK l D tc A nS xs mM_X12_symbol 56 q_X12_symbol_56 := r_getf kls_12 (by decide) tx_12_49 rfl w_734 (by decide +kernel) ok_X12_symbol_59
theorem ok_X12_symbol_55 : zOK l D tc A nS xs mM_X12_symbol 55 q_X12_symbol_55 := s_aload_n (q := 0) rfl (by decide +kernel) (by decide +kernel) ok_X12_symbol_56
theorem ok_X12_symbol_52 : zOK l D tc A nS xs mM_X12_symbol 52 q_X12_symbol_52 := r_getf kls_12 (by decide) tx_12_46 rfl w_722 (by decide +kernel) ok_X12_symbol_55
theorem ok_X12_symbol_51 : zOK l D tc A nS xs mM_X12_symbol 51 q_X12_symbol_51 := s_aload_n (q := 0) rfl (by decide +kernel) (by decide +kernel) ok_X12_symbol_52
theorem ok_X12_symbol_50 : zOK l D tc A nS xs mM_X12_symbol 50 q_X12_symbol_50 := s_iald (t0 := 0) (by decide) (by decide) rfl (by decide +kernel) ok_X12_symbol_51
theorem ok_X12_symbol_49 : zOK l D tc A nS xs mM_X12_symbol 49 q_X12_symbol_49 := s_iadd (by decide +kernel) ok_X12_symbol_50
theorem ok_X12_symbol_47 : zOK l D tc A nS xs mM_X12_symbol 47 q_X12_symbol_47 := s_iload (by decide +kernel) (by decide +kernel) ok_X12_symbol_49
theorem ok_X12_symbol_46 : zOK l D tc A nS xs mM_X12_symbol 46 q_X12_symbol_46 := s_imul (by decide +kernel) ok_X12_symbol_47
theorem ok_X12_symbol_45 : zOK l D tc A nS xs mM_X12_symbol 45 q_X12_symbol_45 := s_iload_n (q := 2) rfl (by decide +kernel) (by decide +kernel) ok_X12_symbol_46
theorem ok_X12_symbol_43 : zOK l D tc A nS xs mM_X12_symbol 43 q_X12_symbol_43 := s_bipush (n := 13) (by decide) (by decide +kernel) (by decide +kernel) ok_X12_symbol_45
theorem ok_X12_symbol_40 : zOK l D tc A nS xs mM_X12_symbol 40 q_X12_symbol_40 := r_getf kls_12 (by decide) tx_12_42 rfl w_860 (by decide +kernel) ok_X12_symbol_43
theorem ok_X12_symbol_39 : zOK l D tc A nS xs mM_X12_symbol 39 q_X12_symbol_39 := s_aload_n (q := 0) rfl (by decide +kernel) (by decide +kernel) ok_X12_symbol_40
theorem ok_X12_symbol_36 : zOK l D tc A nS xs mM_X12_symbol 36 q_X12_symbol_36 := s_if_eq (tgt := 78) (off := 42) (by decide +kernel) (by decide) ok_X12_symbol_78 ok_X12_symbol_39
theorem ok_X12_symbol_35 : zOK l D tc A nS xs mM_X12_symbol 35 q_X12_symbol_35 := s_iload_n (q := 3) rfl (by decide +kernel) (by decide +kernel) ok_X12_symbol_36
theorem ok_X12_symbol_32 : zOK l D tc A nS xs mM_X12_symbol 32 q_X12_symbol_32 := s_icmp_ge (tgt := 78) (off := 46) (by decide +kernel) (by decide) ok_X12_symbol_78 ok_X12_symbol_35
theorem ok_X12_symbol_31 : zOK l D tc A nS xs mM_X12_symbol 31 q_X12_symbol_31 := s_iload_n (q := 1) rfl (by decide +kernel) (by decide +kernel) ok_X12_symbol_32
theorem ok_X12_symbol_29 : zOK l D tc A nS xs mM_X12_symbol 29 q_X12_symbol_29 := s_iload (by decide +kernel) (by decide +kernel) ok_X12_symbol_31
theorem ok_X12_symbol_27 : zOK l D tc A nS xs mM_X12_symbol 27 q_X12_symbol_27 := s_istore (by decide +kernel) (by decide +kernel) ok_X12_symbol_29
theorem ok_X12_symbol_26 : zOK l D tc A nS xs mM_X12_symbol 26 q_X12_symbol_26 := s_iconst (n := 0) (by decide) (by decide +kernel) (by decide +kernel) ok_X12_symbol_27
theorem ok_X12_symbol_25 : zOK l D tc A nS xs mM_X12_symbol 25 q_X12_symbol_25 := s_istore_n (q := 3) rfl (by decide +kernel) (by decide +kernel) ok_X12_symbol_26
theorem ok_X12_symbol_24 : zOK l D tc A nS xs mM_X12_symbol 24 q_X12_symbol_24 := s_iconst (n := 0) (by decide) (by decide +kernel) (by decide +kernel) ok_X12_symbol_25
theorem ok_X12_symbol_21 : zOK l D tc A nS xs mM_X12_symbol 21 q_X12_symbol_21 := s_goto (tgt := 25) (off := 4) (by decide +kernel) (by decide) ok_X12_symbol_25
theorem ok_X12_symbol_20 : zOK l D tc A nS xs mM_X12_symbol 20 q_X12_symbol_20 := s_iconst (n := 1) (by decide) (by decide +kernel) (by decide +kernel) ok_X12_symbol_21
theorem ok_X12_symbol_17 : zOK l D tc A nS xs mM_X12_symbol 17 q_X12_symbol_17 := s_icmp_ne (tgt := 24) (off := 7) (by decide +kernel) (by decide) ok_X12_symbol_24 ok_X12_symbol_20
theorem ok_X12_symbol_16 : zOK l D tc A nS xs mM_X12_symbol 16 q_X12_symbol_16 := s_iload_n (q := 1) rfl (by decide +kernel) (by decide +kernel) ok_X12_symbol_17
theorem ok_X12_symbol_15 : zOK l D tc A nS xs mM_X12_symbol 15 q_X12_symbol_15 := s_iald (t0 := 0) (by decide) (by decide) rfl (by decide +kernel) ok_X12_symbol_16
theorem ok_X12_symbol_14 : zOK l D tc A nS xs mM_X12_symbol 14 q_X12_symbol_14 := s_iload_n (q := 2) rfl (by decide +kernel) (by decide +kernel) ok_X12_symbol_15
theorem ok_X12_symbol_11 : zOK l D tc A nS xs mM_X12_symbol 11 q_X12_symbol_11 := r_getf kls_12 (by decide) tx_12_43 rfl w_859 (by decide +kernel) ok_X12_symbol_14
theorem ok_X12_symbol_10 : zOK l D tc A nS xs mM_X12_symbol 10 q_X12_symbol_10 := s_aload_n (q := 0) rfl (by decide +kernel) (by decide +kernel) ok_X12_symbol_11
theorem ok_X12_symbol_7 : zOK l D tc A nS xs mM_X12_symbol 7 q_X12_symbol_7 := s_icmp_ge (tgt := 90) (off := 83) (by decide +kernel) (by decide) ok_X12_symbol_90 ok_X12_symbol_10
theorem ok_X12_symbol_4 : zOK l D tc A nS xs mM_X12_symbol 4 q_X12_symbol_4 := r_getf kls_12 (by decide) tx_12_45 rfl w_895 (by decide +kernel) ok_X12_symbol_7
theorem ok_X12_symbol_3 : zOK l D tc A nS xs mM_X12_symbol 3 q_X12_symbol_3 := s_aload_n (q := 0) rfl (by decide +kernel) (by decide +kernel) ok_X12_symbol_4
theorem ok_X12_symbol_2 : zOK l D tc A nS xs mM_X12_symbol 2 q_X12_symbol_2 := s_iload_n (q := 2) rfl (by decide +kernel) (by decide +kernel) ok_X12_symbol_3
theorem ok_X12_symbol_1 : zOK l D tc A nS xs mM_X12_symbol 1 q_X12_symbol_1 := s_istore_n (q := 2) rfl (by decide +kernel) (by decide +kernel) ok_X12_symbol_2
theorem ok_X12_symbol_0 : zOK l D tc A nS xs mM_X12_symbol 0 q_X12_symbol_0 := s_iconst (n := 0) (by decide) (by decide +kernel) (by decide +kernel) ok_X12_symbol_1
theorem ok_X12_takesText_185 : zOK l D tc A nS xs mM_X12_takesText 185 q_X12_takesText_185 := s_vret rfl (by decide +kernel)
theorem ok_X12_takesText_182 : zOK l D tc A nS xs mM_X12_takesText 182 q_X12_takesText_182 := r_putf kls_12 ty_12_100 zck_int (by decide) tx_12_100 rfl w_897 (by decide +kernel) ok_X12_takesText_185
theorem ok_X12_takesText_181 : zOK l D tc A nS xs mM_X12_takesText 181 q_X12_takesText_181 := s_iadd (by decide +kernel) ok_X12_takesText_182
theorem ok_X12_takesText_178 : zOK l D tc A nS xs mM_X12_takesText 178 q_X12_takesText_178 := r_getf kls_12 (by decide) tx_12_106 rfl w_790 (by decide +kernel) ok_X12_takesText_181
theorem ok_X12_takesText_177 : zOK l D tc A nS xs mM_X12_takesText 177 q_X12_takesText_177 := s_aload_n (q := 0) rfl (by decide +kernel) (by decide +kernel) ok_X12_takesText_178
theorem ok_X12_takesText_174 : zOK l D tc A nS xs mM_X12_takesText 174 q_X12_takesText_174 := r_getf kls_12 (by decide) tx_12_100 rfl w_897 (by decide +kernel) ok_X12_takesText_177
theorem ok_X12_takesText_173 : zOK l D tc A nS xs mM_X12_takesText 173 q_X12_takesText_173 := s_dup (by decide +kernel) ok_X12_takesText_174
theorem ok_X12_takesText_172 : zOK l D tc A nS xs mM_X12_takesText 172 q_X12_takesText_172 := s_aload_n (q := 0) rfl (by decide +kernel) (by decide +kernel) ok_X12_takesText_173
theorem ok_X12_takesText_169 : zOK l D tc A nS xs mM_X12_takesText 169 q_X12_takesText_169 := s_goto (tgt := 138) (off := (-31)) (by decide +kernel) (by decide) (s_back lb_285)
theorem ok_X12_takesText_166 : zOK l D tc A nS xs mM_X12_takesText 166 q_X12_takesText_166 := s_iinc (n := 1) (by decide +kernel) (by decide +kernel) (by decide +kernel) ok_X12_takesText_169
theorem ok_X12_takesText_165 : zOK l D tc A nS xs mM_X12_takesText 165 q_X12_takesText_165 := s_iast (t0 := 0) (by decide) (by decide) rfl (by decide +kernel) ok_X12_takesText_166
theorem ok_X12_takesText_164 : zOK l D tc A nS xs mM_X12_takesText 164 q_X12_takesText_164 := s_iald (t0 := 0) (by decide) (by decide) rfl (by decide +kernel) ok_X12_takesText_165
theorem ok_X12_takesText_162 : zOK l D tc A nS xs mM_X12_takesText 162 q_X12_takesText_162 := s_iload (by decide +kernel) (by decide +kernel) ok_X12_takesText_164
theorem ok_X12_takesText_159 : zOK l D tc A nS xs mM_X12_takesText 159 q_X12_takesText_159 := r_getf kls_12 (by decide) tx_12_105 rfl w_791 (by decide +kernel) ok_X12_takesText_162
theorem ok_X12_takesText_158 : zOK l D tc A nS xs mM_X12_takesText 158 q_X12_takesText_158 := s_aload_n (q := 0) rfl (by decide +kernel) (by decide +kernel) ok_X12_takesText_159
theorem ok_X12_takesText_157 : zOK l D tc A nS xs mM_X12_takesText 157 q_X12_takesText_157 := s_iadd (by decide +kernel) ok_X12_takesText_158
theorem ok_X12_takesText_155 : zOK l D tc A nS xs mM_X12_takesText 155 q_X12_takesText_155 := s_iload (by decide +kernel) (by decide +kernel) ok_X12_takesText_157
theorem ok_X12_takesText_152 : zOK l D tc A nS xs mM_X12_takesText 152 q_X12_takesText_152 := r_getf kls_12 (by decide) tx_12_100 rfl w_897 (by decide +kernel) ok_X12_takesText_155
theorem ok_X12_takesText_151 : zOK l D tc A nS xs mM_X12_takesText 151 q_X12_takesText_151 := s_aload_n (q := 0) rfl (by decide +kernel) (by decide +kernel) ok_X12_takesText_152
theorem ok_X12_takesText_148 : zOK l D tc A nS xs mM_X12_takesText 148 q_X12_takesText_148 := r_getf kls_12 (by decide) tx_12_99 rfl w_840 (by decide +kernel) ok_X12_takesText_151
theorem ok_X12_takesText_147 : zOK l D tc A nS xs mM_X12_takesText 147 q_X12_takesText_147 := s_aload_n (q := 0) rfl (by decide +kernel) (by decide +kernel) ok_X12_takesText_148
theorem ok_X12_takesText_144 : zOK l D tc A nS xs mM_X12_takesText 144 q_X12_takesText_144 := s_icmp_ge (tgt := 172) (off := 28) (by decide +kernel) (by decide) ok_X12_takesText_172 ok_X12_takesText_147
theorem ok_X12_takesText_141 : zOK l D tc A nS xs mM_X12_takesText 141 q_X12_takesText_141 := r_getf kls_12 (by decide) tx_12_106 rfl w_790 (by decide +kernel) ok_X12_takesText_144
theorem ok_X12_takesText_140 : zOK l D tc A nS xs mM_X12_takesText 140 q_X12_takesText_140 := s_aload_n (q := 0) rfl (by decide +kernel) (by decide +kernel) ok_X12_takesText_141
theorem ok_X12_takesText_138 : zOK l D tc A nS xs mM_X12_takesText 138 q_X12_takesText_138 := s_iload (by decide +kernel) (by decide +kernel) ok_X12_takesText_140
theorem ok_X12_takesText_136 : zOK l D tc A nS xs mM_X12_takesText 136 q_X12_takesText_136 := s_istore (by decide +kernel) (by decide +kernel) ok_X12_takesText_138
theorem ok_X12_takesText_135 : zOK l D tc A nS xs mM_X12_takesText 135 q_X12_takesText_135 := s_iconst (n := 0) (by decide) (by decide +kernel) (by decide +kernel) ok_X12_takesText_136
theorem ok_X12_takesText_132 : zOK l D tc A nS xs mM_X12_takesText 132 q_X12_takesText_132 := s_if_ne (tgt := 186) (off := 54) (by decide +kernel) (by decide) s_none ok_X12_takesText_135
theorem ok_X12_takesText_129 : zOK l D tc A nS xs mM_X12_takesText 129 q_X12_takesText_129 := r_getf kls_12 (by decide) tx_12_40 rfl w_775 (by decide +kernel) ok_X12_takesText_132
theorem ok_X12_takesText_128 : zOK l D tc A nS xs mM_X12_takesText 128 q_X12_takesText_128 := s_aload_n (q := 0) rfl (by decide +kernel) (by decide +kernel) ok_X12_takesText_129
theorem ok_X12_takesText_125 : zOK l D tc A nS xs mM_X12_takesText 125 q_X12_takesText_125 := s_goto (tgt := 95) (off := (-30)) (by decide +kernel) (by decide) (s_back lb_284)
theorem ok_X12_takesText_122 : zOK l D tc A nS xs mM_X12_takesText 122 q_X12_takesText_122 := s_iinc (n := 1) (by decide +kernel) (by decide +kernel) (by decide +kernel) ok_X12_takesText_125
theorem ok_X12_takesText_119 : zOK l D tc A nS xs mM_X12_takesText 119 q_X12_takesText_119 := r_callV zEE_ok zTw_gd kls_12 (M2 := mM_X12_form) (na := 1) lb_206 calV_X12_form rfl rfl w_948 (by decide +kernel) ok_X12_takesText_122
theorem ok_X12_takesText_118 : zOK l D tc A nS xs mM_X12_takesText 118 q_X12_takesText_118 := s_iald (t0 := 0) (by decide) (by decide) rfl (by decide +kernel) ok_X12_takesText_119
theorem ok_X12_takesText_116 : zOK l D tc A nS xs mM_X12_takesText 116 q_X12_takesText_116 := s_iload (by decide +kernel) (by decide +kernel) ok_X12_takesText_118
theorem ok_X12_takesText_113 : zOK l D tc A nS xs mM_X12_takesText 113 q_X12_takesText_113 := r_getf kls_12 (by decide) tx_12_50 rfl w_744 (by decide +kernel) ok_X12_takesText_116
theorem ok_X12_takesText_112 : zOK l D tc A nS xs mM_X12_takesText 112 q_X12_takesText_112 := s_aload_n (q := 0) rfl (by decide +kernel) (by decide +kernel) ok_X12_takesText_113
theorem ok_X12_takesText_111 : zOK l D tc A nS xs mM_X12_takesText 111 q_X12_takesText_111 := s_aload_n (q := 0) rfl (by decide +kernel) (by decide +kernel) ok_X12_takesText_112
theorem ok_X12_takesText_108 : zOK l D tc A nS xs mM_X12_takesText 108 q_X12_takesText_108 := s_if_ne (tgt := 128) (off := 20) (by decide +kernel) (by decide) ok_X12_takesText_128 ok_X12_takesText_111
theorem ok_X12_takesText_105 : zOK l D tc A nS xs mM_X12_takesText 105 q_X12_takesText_105 := r_getf kls_12 (by decide) tx_12_40 rfl w_775 (by decide +kernel) ok_X12_takesText_108
theorem ok_X12_takesText_104 : zOK l D tc A nS xs mM_X12_takesText 104 q_X12_takesText_104 := s_aload_n (q := 0) rfl (by decide +kernel) (by decide +kernel) ok_X12_takesText_105
theorem ok_X12_takesText_101 : zOK l D tc A nS xs mM_X12_takesText 101 q_X12_takesText_101 := s_icmp_ge (tgt := 128) (off := 27) (by decide +kernel) (by decide) ok_X12_takesText_128 ok_X12_takesText_104
theorem ok_X12_takesText_98 : zOK l D tc A nS xs mM_X12_takesText 98 q_X12_takesText_98 := r_getf kls_12 (by decide) tx_12_51 rfl w_743 (by decide +kernel) ok_X12_takesText_101
theorem ok_X12_takesText_97 : zOK l D tc A nS xs mM_X12_takesText 97 q_X12_takesText_97 := s_aload_n (q := 0) rfl (by decide +kernel) (by decide +kernel) ok_X12_takesText_98
theorem ok_X12_takesText_95 : zOK l D tc A nS xs mM_X12_takesText 95 q_X12_takesText_95 := s_iload (by decide +kernel) (by decide +kernel) ok_X12_takesText_97
theorem ok_X12_takesText_93 : zOK l D tc A nS xs mM_X12_takesText 93 q_X12_takesText_93 := s_istore (by decide +kernel) (by decide +kernel) ok_X12_takesText_95
theorem ok_X12_takesText_92 : zOK l D tc A nS xs mM_X12_takesText 92 q_X12_takesText_92 := s_iconst (n := 0) (by decide) (by decide +kernel) (by decide +kernel) ok_X12_takesText_93
theorem ok_X12_takesText_89 : zOK l D tc A nS xs mM_X12_takesText 89 q_X12_takesText_89 := r_callV zEE_ok zTw_gd kls_12 (M2 := mM_X12_readText) (na := 0) lb_255 calV_X12_readText rfl rfl w_951 (by decide +kernel) ok_X12_takesText_92
theorem ok_X12_takesText_88 : zOK l D tc A nS xs mM_X12_takesText 88 q_X12_takesText_88 := s_aload_n (q := 0) rfl (by decide +kernel) (by decide +kernel) ok_X12_takesText_89
theorem ok_X12_takesText_85 : zOK l D tc A nS xs mM_X12_takesText 85 q_X12_takesText_85 := r_putf kls_12 ty_12_106 zck_int (by decide) tx_12_106 rfl w_790 (by decide +kernel) ok_X12_takesText_88
theorem ok_X12_takesText_84 : zOK l D tc A nS xs mM_X12_takesText 84 q_X12_takesText_84 := s_iconst (n := 0) (by decide) (by decide +kernel) (by decide +kernel) ok_X12_takesText_85
theorem ok_X12_takesText_83 : zOK l D tc A nS xs mM_X12_takesText 83 q_X12_takesText_83 := s_aload_n (q := 0) rfl (by decide +kernel) (by decide +kernel) ok_X12_takesText_84
theorem ok_X12_takesText_80 : zOK l D tc A nS xs mM_X12_takesText 80 q_X12_takesText_80 := r_putf kls_12 ty_12_93 zck_int (by decide) tx_12_93 rfl w_894 (by decide +kernel) ok_X12_takesText_83
theorem ok_X12_takesText_79 : zOK l D tc A nS xs mM_X12_takesText 79 q_X12_takesText_79 := s_iconst (n := 0) (by decide) (by decide +kernel) (by decide +kernel) ok_X12_takesText_80
theorem ok_X12_takesText_78 : zOK l D tc A nS xs mM_X12_takesText 78 q_X12_takesText_78 := s_aload_n (q := 0) rfl (by decide +kernel) (by decide +kernel) ok_X12_takesText_79
theorem ok_X12_takesText_75 : zOK l D tc A nS xs mM_X12_takesText 75 q_X12_takesText_75 := r_putf kls_12 ty_12_81 zck_int (by decide) tx_12_81 rfl w_954 (by decide +kernel) ok_X12_takesText_78
theorem ok_X12_takesText_74 : zOK l D tc A nS xs mM_X12_takesText 74 q_X12_takesText_74 := s_iconst (n := 0) (by decide) (by decide +kernel) (by decide +kernel) ok_X12_takesText_75
theorem ok_X12_takesText_73 : zOK l D tc A nS xs mM_X12_takesText 73 q_X12_takesText_73 := s_aload_n (q := 0) rfl (by decide +kernel) (by decide +kernel) ok_X12_takesText_74
theorem ok_X12_takesText_70 : zOK l D tc A nS xs mM_X12_takesText 70 q_X12_takesText_70 := r_putf kls_12 ty_12_80 zck_int (by decide) tx_12_80 rfl w_955 (by decide +kernel) ok_X12_takesText_73
theorem ok_X12_takesText_69 : zOK l D tc A nS xs mM_X12_takesText 69 q_X12_takesText_69 := s_iconst (n := 0) (by decide) (by decide +kernel) (by decide +kernel) ok_X12_takesText_70
theorem ok_X12_takesText_68 : zOK l D tc A nS xs mM_X12_takesText 68 q_X12_takesText_68 := s_aload_n (q := 0) rfl (by decide +kernel) (by decide +kernel) ok_X12_takesText_69
theorem ok_X12_takesText_65 : zOK l D tc A nS xs mM_X12_takesText 65 q_X12_takesText_65 := r_putf kls_12 ty_12_67 zck_int (by decide) tx_12_67 rfl w_956 (by decide +kernel) ok_X12_takesText_68
theorem ok_X12_takesText_64 : zOK l D tc A nS xs mM_X12_takesText 64 q_X12_takesText_64 := s_iconst (n := 0) (by decide) (by decide +kernel) (by decide +kernel) ok_X12_takesText_65
theorem ok_X12_takesText_63 : zOK l D tc A nS xs mM_X12_takesText 63 q_X12_takesText_63 := s_aload_n (q := 0) rfl (by decide +kernel) (by decide +kernel) ok_X12_takesText_64
theorem ok_X12_takesText_60 : zOK l D tc A nS xs mM_X12_takesText 60 q_X12_takesText_60 := r_putf kls_12 ty_12_64 zck_int (by decide) tx_12_64 rfl w_957 (by decide +kernel) ok_X12_takesText_63
theorem ok_X12_takesText_59 : zOK l D tc A nS xs mM_X12_takesText 59 q_X12_takesText_59 := s_iconst (n := 0) (by decide) (by decide +kernel) (by decide +kernel) ok_X12_takesText_60
theorem ok_X12_takesText_58 : zOK l D tc A nS xs mM_X12_takesText 58 q_X12_takesText_58 := s_aload_n (q := 0) rfl (by decide +kernel) (by decide +kernel) ok_X12_takesText_59
theorem ok_X12_takesText_55 : zOK l D tc A nS xs mM_X12_takesText 55 q_X12_takesText_55 := r_putf kls_12 ty_12_60 zck_int (by decide) tx_12_60 rfl w_958 (by decide +kernel) ok_X12_takesText_58
theorem ok_X12_takesText_54 : zOK l D tc A nS xs mM_X12_takesText 54 q_X12_takesText_54 := s_iconst (n := 0) (by decide) (by decide +kernel) (by decide +kernel) ok_X12_takesText_55
theorem ok_X12_takesText_53 : zOK l D tc A nS xs mM_X12_takesText 53 q_X12_takesText_53 := s_aload_n (q := 0) rfl (by decide +kernel) (by decide +kernel) ok_X12_takesText_54
theorem ok_X12_takesText_50 : zOK l D tc A nS xs mM_X12_takesText 50 q_X12_takesText_50 := r_putf kls_12 ty_12_39 zck_int (by decide) tx_12_39 rfl w_714 (by decide +kernel) ok_X12_takesText_53
theorem ok_X12_takesText_49 : zOK l D tc A nS xs mM_X12_takesText 49 q_X12_takesText_49 := s_iconst (n := 0) (by decide) (by decide +kernel) (by decide +kernel) ok_X12_takesText_50
theorem ok_X12_takesText_48 : zOK l D tc A nS xs mM_X12_takesText 48 q_X12_takesText_48 := s_aload_n (q := 0) rfl (by decide +kernel) (by decide +kernel) ok_X12_takesText_49
theorem ok_X12_takesText_45 : zOK l D tc A nS xs mM_X12_takesText 45 q_X12_takesText_45 := r_putf kls_12 ty_12_41 zck_int (by decide) tx_12_41 rfl w_774 (by decide +kernel) ok_X12_takesText_48
theorem ok_X12_takesText_44 : zOK l D tc A nS xs mM_X12_takesText 44 q_X12_takesText_44 := s_iconst (n := (-1)) (by decide) (by decide +kernel) (by decide +kernel) ok_X12_takesText_45
theorem ok_X12_takesText_43 : zOK l D tc A nS xs mM_X12_takesText 43 q_X12_takesText_43 := s_aload_n (q := 0) rfl (by decide +kernel) (by decide +kernel) ok_X12_takesText_44
theorem ok_X12_takesText_40 : zOK l D tc A nS xs mM_X12_takesText 40 q_X12_takesText_40 := r_putf kls_12 ty_12_40 zck_int (by decide) tx_12_40 rfl w_775 (by decide +kernel) ok_X12_takesText_43
theorem ok_X12_takesText_39 : zOK l D tc A nS xs mM_X12_takesText 39 q_X12_takesText_39 := s_iconst (n := 0) (by decide) (by decide +kernel) (by decide +kernel) ok_X12_takesText_40
theorem ok_X12_takesText_38 : zOK l D tc A nS xs mM_X12_takesText 38 q_X12_takesText_38 := s_aload_n (q := 0) rfl (by decide +kernel) (by decide +kernel) ok_X12_takesText_39
theorem ok_X12_takesText_35 : zOK l D tc A nS xs mM_X12_takesText 35 q_X12_takesText_35 := r_callV zEE_ok zTw_gd kls_12 (M2 := mM_X12_saves) (na := 1) lb_267 calV_X12_saves rfl rfl w_959 (by decide +kernel) ok_X12_takesText_38
theorem ok_X12_takesText_34 : zOK l D tc A nS xs mM_X12_takesText 34 q_X12_takesText_34 := s_iconst (n := 0) (by decide) (by decide +kernel) (by decide +kernel) ok_X12_takesText_35
theorem ok_X12_takesText_33 : zOK l D tc A nS xs mM_X12_takesText 33 q_X12_takesText_33 := s_aload_n (q := 0) rfl (by decide +kernel) (by decide +kernel) ok_X12_takesText_34
theorem ok_X12_takesText_31 : zOK l D tc A nS xs mM_X12_takesText 31 q_X12_takesText_31 := s_istore (by decide +kernel) (by decide +kernel) ok_X12_takesText_33
theorem ok_X12_takesText_28 : zOK l D tc A nS xs mM_X12_takesText 28 q_X12_takesText_28 := r_getf kls_12 (by decide) tx_12_108 rfl w_751 (by decide +kernel) ok_X12_takesText_31
theorem ok_X12_takesText_27 : zOK l D tc A nS xs mM_X12_takesText 27 q_X12_takesText_27 := s_aload_n (q := 0) rfl (by decide +kernel) (by decide +kernel) ok_X12_takesText_28
theorem ok_X12_takesText_25 : zOK l D tc A nS xs mM_X12_takesText 25 q_X12_takesText_25 := s_istore (by decide +kernel) (by decide +kernel) ok_X12_takesText_27
theorem ok_X12_takesText_22 : zOK l D tc A nS xs mM_X12_takesText 22 q_X12_takesText_22 := r_getf kls_12 (by decide) tx_12_107 rfl w_752 (by decide +kernel) ok_X12_takesText_25
theorem ok_X12_takesText_21 : zOK l D tc A nS xs mM_X12_takesText 21 q_X12_takesText_21 := s_aload_n (q := 0) rfl (by decide +kernel) (by decide +kernel) ok_X12_takesText_22
theorem ok_X12_takesText_19 : zOK l D tc A nS xs mM_X12_takesText 19 q_X12_takesText_19 := s_istore (by decide +kernel) (by decide +kernel) ok_X12_takesText_21
theorem ok_X12_takesText_16 : zOK l D tc A nS xs mM_X12_takesText 16 q_X12_takesText_16 := r_getf kls_12 (by decide) tx_12_68 rfl w_759 (by decide +kernel) ok_X12_takesText_19
theorem ok_X12_takesText_15 : zOK l D tc A nS xs mM_X12_takesText 15 q_X12_takesText_15 := s_aload_n (q := 0) rfl (by decide +kernel) (by decide +kernel) ok_X12_takesText_16
theorem ok_X12_takesText_14 : zOK l D tc A nS xs mM_X12_takesText 14 q_X12_takesText_14 := s_istore_n (q := 3) rfl (by decide +kernel) (by decide +kernel) ok_X12_takesText_15
theorem ok_X12_takesText_11 : zOK l D tc A nS xs mM_X12_takesText 11 q_X12_takesText_11 := r_getf kls_12 (by decide) tx_12_10 rfl w_803 (by decide +kernel) ok_X12_takesText_14
theorem ok_X12_takesText_10 : zOK l D tc A nS xs mM_X12_takesText 10 q_X12_takesText_10 := s_aload_n (q := 0) rfl (by decide +kernel) (by decide +kernel) ok_X12_takesText_11
theorem ok_X12_takesText_9 : zOK l D tc A nS xs mM_X12_takesText 9 q_X12_takesText_9 := s_istore_n (q := 2) rfl (by decide +kernel) (by decide +kernel) ok_X12_takesText_10
theorem ok_X12_takesText_6 : zOK l D tc A nS xs mM_X12_takesText 6 q_X12_takesText_6 := r_getf kls_12 (by decide) tx_12_9 rfl w_906 (by decide +kernel) ok_X12_takesText_9
theorem ok_X12_takesText_5 : zOK l D tc A nS xs mM_X12_takesText 5 q_X12_takesText_5 := s_aload_n (q := 0) rfl (by decide +kernel) (by decide +kernel) ok_X12_takesText_6
theorem ok_X12_takesText_4 : zOK l D tc A nS xs mM_X12_takesText 4 q_X12_takesText_4 := s_istore_n (q := 1) rfl (by decide +kernel) (by decide +kernel) ok_X12_takesText_5
theorem ok_X12_takesText_1 : zOK l D tc A nS xs mM_X12_takesText 1 q_X12_takesText_1 := r_getf kls_12 (by decide) tx_12_45 rfl w_895 (by decide +kernel) ok_X12_takesText_4
theorem ok_X12_takesText_0 : zOK l D tc A nS xs mM_X12_takesText 0 q_X12_takesText_0 := s_aload_n (q := 0) rfl (by decide +kernel) (by decide +kernel) ok_X12_takesText_1
theorem ok_X12_token_293 : zOK l D tc A nS xs mM_X12_token 293 q_X12_token_293 := s_vret rfl (by decide +kernel)
theorem ok_X12_token_281 : zOK l D tc A nS xs mM_X12_token 281 q_X12_token_281 := s_goto (tgt := 293) (off := 12) (by decide +kernel) (by decide) ok_X12_token_293
theorem ok_X12_token_278 : zOK l D tc A nS xs mM_X12_token 278 q_X12_token_278 := r_callV zEE_ok zTw_gd kls_12 (M2 := mM_X12_rowOfSigns) (na := 0) lb_264 calV_X12_rowOfSigns rfl rfl w_962 (by decide +kernel) ok_X12_token_281
theorem ok_X12_token_277 : zOK l D tc A nS xs mM_X12_token 277 q_X12_token_277 := s_aload_n (q := 0) rfl (by decide +kernel) (by decide +kernel) ok_X12_token_278
theorem ok_X12_token_274 : zOK l D tc A nS xs mM_X12_token 274 q_X12_token_274 := s_goto (tgt := 250) (off := (-24)) (by decide +kernel) (by decide) (s_back lb_288)
theorem ok_X12_token_271 : zOK l D tc A nS xs mM_X12_token 271 q_X12_token_271 := r_putf kls_12 ty_12_48 zck_int (by decide) tx_12_48 rfl w_718 (by decide +kernel) ok_X12_token_274
theorem ok_X12_token_270 : zOK l D tc A nS xs mM_X12_token 270 q_X12_token_270 := s_iadd (by decide +kernel) ok_X12_token_271
theorem ok_X12_token_269 : zOK l D tc A nS xs mM_X12_token 269 q_X12_token_269 := s_iconst (n := 1) (by decide) (by decide +kernel) (by decide +kernel) ok_X12_token_270
theorem ok_X12_token_266 : zOK l D tc A nS xs mM_X12_token 266 q_X12_token_266 := r_getf kls_12 (by decide) tx_12_48 rfl w_718 (by decide +kernel) ok_X12_token_269
theorem ok_X12_token_265 : zOK l D tc A nS xs mM_X12_token 265 q_X12_token_265 := s_dup (by decide +kernel) ok_X12_token_266
theorem ok_X12_token_264 : zOK l D tc A nS xs mM_X12_token 264 q_X12_token_264 := s_aload_n (q := 0) rfl (by decide +kernel) (by decide +kernel) ok_X12_token_265
theorem ok_X12_token_261 : zOK l D tc A nS xs mM_X12_token 261 q_X12_token_261 := s_if_eq (tgt := 277) (off := 16) (by decide +kernel) (by decide) ok_X12_token_277 ok_X12_token_264
theorem ok_X12_token_258 : zOK l D tc A nS xs mM_X12_token 258 q_X12_token_258 := r_callS zEE_ok zTw_gd (M2 := mM_X12_isSign) lb_232 calS_X12_isSign rfl rfl w_965 (by decide +kernel) ok_X12_token_261
theorem ok_X12_token_255 : zOK l D tc A nS xs mM_X12_token 255 q_X12_token_255 := r_callV zEE_ok zTw_gd kls_12 (M2 := mM_X12_byteOf) (na := 1) lb_187 calV_X12_byteOf rfl rfl w_719 (by decide +kernel) ok_X12_token_258
theorem ok_X12_token_252 : zOK l D tc A nS xs mM_X12_token 252 q_X12_token_252 := r_getf kls_12 (by decide) tx_12_48 rfl w_718 (by decide +kernel) ok_X12_token_255
theorem ok_X12_token_251 : zOK l D tc A nS xs mM_X12_token 251 q_X12_token_251 := s_aload_n (q := 0) rfl (by decide +kernel) (by decide +kernel) ok_X12_token_252
theorem ok_X12_token_250 : zOK l D tc A nS xs mM_X12_token 250 q_X12_token_250 := s_aload_n (q := 0) rfl (by decide +kernel) (by decide +kernel) ok_X12_token_251
theorem ok_X12_token_247 : zOK l D tc A nS xs mM_X12_token 247 q_X12_token_247 := s_if_eq (tgt := 284) (off := 37) (by decide +kernel) (by decide) s_none ok_X12_token_250
theorem ok_X12_token_244 : zOK l D tc A nS xs mM_X12_token 244 q_X12_token_244 := r_callS zEE_ok zTw_gd (M2 := mM_X12_isSign) lb_232 calS_X12_isSign rfl rfl w_965 (by decide +kernel) ok_X12_token_247
theorem ok_X12_token_243 : zOK l D tc A nS xs mM_X12_token 243 q_X12_token_243 := s_iload_n (q := 1) rfl (by decide +kernel) (by decide +kernel) ok_X12_token_244
theorem ok_X12_token_240 : zOK l D tc A nS xs mM_X12_token 240 q_X12_token_240 := s_goto (tgt := 293) (off := 53) (by decide +kernel) (by decide) ok_X12_token_293
theorem ok_X12_token_237 : zOK l D tc A nS xs mM_X12_token 237 q_X12_token_237 := r_callV zEE_ok zTw_gd kls_12 (M2 := mM_X12_comes) (na := 1) lb_190 calV_X12_comes rfl rfl w_725 (by decide +kernel) ok_X12_token_240
theorem ok_X12_token_234 : zOK l D tc A nS xs mM_X12_token 234 q_X12_token_234 := r_callV zEE_ok zTw_gd kls_12 (M2 := mM_X12_atom) (na := 3) lb_183 calV_X12_atom rfl rfl w_731 (by decide +kernel) ok_X12_token_237
theorem ok_X12_token_231 : zOK l D tc A nS xs mM_X12_token 231 q_X12_token_231 := r_getf kls_12 (by decide) tx_12_49 rfl w_734 (by decide +kernel) ok_X12_token_234
theorem ok_X12_token_230 : zOK l D tc A nS xs mM_X12_token 230 q_X12_token_230 := s_aload_n (q := 0) rfl (by decide +kernel) (by decide +kernel) ok_X12_token_231
theorem ok_X12_token_229 : zOK l D tc A nS xs mM_X12_token 229 q_X12_token_229 := s_iconst (n := 0) (by decide) (by decide +kernel) (by decide +kernel) ok_X12_token_230
theorem ok_X12_token_228 : zOK l D tc A nS xs mM_X12_token 228 q_X12_token_228 := s_iconst (n := 3) (by decide) (by decide +kernel) (by decide +kernel) ok_X12_token_229
theorem ok_X12_token_225 : zOK l D tc A nS xs mM_X12_token 225 q_X12_token_225 := s_goto (tgt := 229) (off := 4) (by decide +kernel) (by decide) ok_X12_token_229
theorem ok_X12_token_224 : zOK l D tc A nS xs mM_X12_token 224 q_X12_token_224 := s_iconst (n := 2) (by decide) (by decide +kernel) (by decide +kernel) ok_X12_token_225
theorem ok_X12_token_221 : zOK l D tc A nS xs mM_X12_token 221 q_X12_token_221 := s_icmp_ne (tgt := 228) (off := 7) (by decide +kernel) (by decide) ok_X12_token_228 ok_X12_token_224
theorem ok_X12_token_219 : zOK l D tc A nS xs mM_X12_token 219 q_X12_token_219 := s_bipush (n := 116) (by decide) (by decide +kernel) (by decide +kernel) ok_X12_token_221
theorem ok_X12_token_218 : zOK l D tc A nS xs mM_X12_token 218 q_X12_token_218 := s_iload_n (q := 2) rfl (by decide +kernel) (by decide +kernel) ok_X12_token_219
theorem ok_X12_token_217 : zOK l D tc A nS xs mM_X12_token 217 q_X12_token_217 := s_aload_n (q := 0) rfl (by decide +kernel) (by decide +kernel) ok_X12_token_218
theorem ok_X12_token_216 : zOK l D tc A nS xs mM_X12_token 216 q_X12_token_216 := s_aload_n (q := 0) rfl (by decide +kernel) (by decide +kernel) ok_X12_token_217
theorem ok_X12_token_213 : zOK l D tc A nS xs mM_X12_token 213 q_X12_token_213 := s_if_eq (tgt := 240) (off := 27) (by decide +kernel) (by decide) ok_X12_token_240 ok_X12_token_216
theorem ok_X12_token_210 : zOK l D tc A nS xs mM_X12_token 210 q_X12_token_210 := r_callV zEE_ok zTw_gd kls_12 (M2 := mM_X12_mayBegin) (na := 0) lb_245 calV_X12_mayBegin rfl rfl w_928 (by decide +kernel) ok_X12_token_213
theorem ok_X12_token_209 : zOK l D tc A nS xs mM_X12_token 209 q_X12_token_209 := s_aload_n (q := 0) rfl (by decide +kernel) (by decide +kernel) ok_X12_token_210
theorem ok_X12_token_194 : zOK l D tc A nS xs mM_X12_token 194 q_X12_token_194 := s_icmp_eq (tgt := 209) (off := 15) (by decide +kernel) (by decide) ok_X12_token_209 s_none
theorem ok_X12_token_192 : zOK l D tc A nS xs mM_X12_token 192 q_X12_token_192 := s_bipush (n := 102) (by decide) (by decide +kernel) (by decide +kernel) ok_X12_token_194
theorem ok_X12_token_191 : zOK l D tc A nS xs mM_X12_token 191 q_X12_token_191 := s_iload_n (q := 2) rfl (by decide +kernel) (by decide +kernel) ok_X12_token_192
theorem ok_X12_token_188 : zOK l D tc A nS xs mM_X12_token 188 q_X12_token_188 := s_icmp_eq (tgt := 209) (off := 21) (by decide +kernel) (by decide) ok_X12_token_209 ok_X12_token_191
theorem ok_X12_token_186 : zOK l D tc A nS xs mM_X12_token 186 q_X12_token_186 := s_bipush (n := 116) (by decide) (by decide +kernel) (by decide +kernel) ok_X12_token_188
theorem ok_X12_token_185 : zOK l D tc A nS xs mM_X12_token 185 q_X12_token_185 := s_iload_n (q := 2) rfl (by decide +kernel) (by decide +kernel) ok_X12_token_186
theorem ok_X12_token_182 : zOK l D tc A nS xs mM_X12_token 182 q_X12_token_182 := s_icmp_ne (tgt := 197) (off := 15) (by decide +kernel) (by decide) s_none ok_X12_token_185
theorem ok_X12_token_181 : zOK l D tc A nS xs mM_X12_token 181 q_X12_token_181 := s_iadd (by decide +kernel) ok_X12_token_182
theorem ok_X12_token_180 : zOK l D tc A nS xs mM_X12_token 180 q_X12_token_180 := s_iconst (n := 2) (by decide) (by decide +kernel) (by decide +kernel) ok_X12_token_181
theorem ok_X12_token_177 : zOK l D tc A nS xs mM_X12_token 177 q_X12_token_177 := r_getf kls_12 (by decide) tx_12_49 rfl w_734 (by decide +kernel) ok_X12_token_180
theorem ok_X12_token_176 : zOK l D tc A nS xs mM_X12_token 176 q_X12_token_176 := s_aload_n (q := 0) rfl (by decide +kernel) (by decide +kernel) ok_X12_token_177
theorem ok_X12_token_173 : zOK l D tc A nS xs mM_X12_token 173 q_X12_token_173 := r_getf kls_12 (by decide) tx_12_48 rfl w_718 (by decide +kernel) ok_X12_token_176
theorem ok_X12_token_172 : zOK l D tc A nS xs mM_X12_token 172 q_X12_token_172 := s_aload_n (q := 0) rfl (by decide +kernel) (by decide +kernel) ok_X12_token_173
theorem ok_X12_token_171 : zOK l D tc A nS xs mM_X12_token 171 q_X12_token_171 := s_istore_n (q := 2) rfl (by decide +kernel) (by decide +kernel) ok_X12_token_172
theorem ok_X12_token_168 : zOK l D tc A nS xs mM_X12_token 168 q_X12_token_168 := r_callV zEE_ok zTw_gd kls_12 (M2 := mM_X12_byteOf) (na := 1) lb_187 calV_X12_byteOf rfl rfl w_719 (by decide +kernel) ok_X12_token_171
theorem ok_X12_token_167 : zOK l D tc A nS xs mM_X12_token 167 q_X12_token_167 := s_iadd (by decide +kernel) ok_X12_token_168
theorem ok_X12_token_166 : zOK l D tc A nS xs mM_X12_token 166 q_X12_token_166 := s_iconst (n := 1) (by decide) (by decide +kernel) (by decide +kernel) ok_X12_token_167
theorem ok_X12_token_163 : zOK l D tc A nS xs mM_X12_token 163 q_X12_token_163 := r_getf kls_12 (by decide) tx_12_49 rfl w_734 (by decide +kernel) ok_X12_token_166
theorem ok_X12_token_162 : zOK l D tc A nS xs mM_X12_token 162 q_X12_token_162 := s_aload_n (q := 0) rfl (by decide +kernel) (by decide +kernel) ok_X12_token_163
theorem ok_X12_token_161 : zOK l D tc A nS xs mM_X12_token 161 q_X12_token_161 := s_aload_n (q := 0) rfl (by decide +kernel) (by decide +kernel) ok_X12_token_162
theorem ok_X12_token_158 : zOK l D tc A nS xs mM_X12_token 158 q_X12_token_158 := s_goto (tgt := 134) (off := (-24)) (by decide +kernel) (by decide) (s_back lb_287)
theorem ok_X12_token_155 : zOK l D tc A nS xs mM_X12_token 155 q_X12_token_155 := r_putf kls_12 ty_12_48 zck_int (by decide) tx_12_48 rfl w_718 (by decide +kernel) ok_X12_token_158
theorem ok_X12_token_154 : zOK l D tc A nS xs mM_X12_token 154 q_X12_token_154 := s_iadd (by decide +kernel) ok_X12_token_155
theorem ok_X12_token_153 : zOK l D tc A nS xs mM_X12_token 153 q_X12_token_153 := s_iconst (n := 1) (by decide) (by decide +kernel) (by decide +kernel) ok_X12_token_154
theorem ok_X12_token_150 : zOK l D tc A nS xs mM_X12_token 150 q_X12_token_150 := r_getf kls_12 (by decide) tx_12_48 rfl w_718 (by decide +kernel) ok_X12_token_153
theorem ok_X12_token_149 : zOK l D tc A nS xs mM_X12_token 149 q_X12_token_149 := s_dup (by decide +kernel) ok_X12_token_150
theorem ok_X12_token_148 : zOK l D tc A nS xs mM_X12_token 148 q_X12_token_148 := s_aload_n (q := 0) rfl (by decide +kernel) (by decide +kernel) ok_X12_token_149
theorem ok_X12_token_145 : zOK l D tc A nS xs mM_X12_token 145 q_X12_token_145 := s_if_eq (tgt := 161) (off := 16) (by decide +kernel) (by decide) ok_X12_token_161 ok_X12_token_148
theorem ok_X12_token_142 : zOK l D tc A nS xs mM_X12_token 142 q_X12_token_142 := r_callS zEE_ok zTw_gd (M2 := mM_X12_isSign) lb_232 calS_X12_isSign rfl rfl w_965 (by decide +kernel) ok_X12_token_145
theorem ok_X12_token_139 : zOK l D tc A nS xs mM_X12_token 139 q_X12_token_139 := r_callV zEE_ok zTw_gd kls_12 (M2 := mM_X12_byteOf) (na := 1) lb_187 calV_X12_byteOf rfl rfl w_719 (by decide +kernel) ok_X12_token_142
theorem ok_X12_token_136 : zOK l D tc A nS xs mM_X12_token 136 q_X12_token_136 := r_getf kls_12 (by decide) tx_12_48 rfl w_718 (by decide +kernel) ok_X12_token_139
theorem ok_X12_token_135 : zOK l D tc A nS xs mM_X12_token 135 q_X12_token_135 := s_aload_n (q := 0) rfl (by decide +kernel) (by decide +kernel) ok_X12_token_136
theorem ok_X12_token_134 : zOK l D tc A nS xs mM_X12_token 134 q_X12_token_134 := s_aload_n (q := 0) rfl (by decide +kernel) (by decide +kernel) ok_X12_token_135
theorem ok_X12_token_131 : zOK l D tc A nS xs mM_X12_token 131 q_X12_token_131 := s_icmp_ne (tgt := 243) (off := 112) (by decide +kernel) (by decide) ok_X12_token_243 ok_X12_token_134
theorem ok_X12_token_129 : zOK l D tc A nS xs mM_X12_token 129 q_X12_token_129 := s_bipush (n := 35) (by decide) (by decide +kernel) (by decide +kernel) ok_X12_token_131
theorem ok_X12_token_128 : zOK l D tc A nS xs mM_X12_token 128 q_X12_token_128 := s_iload_n (q := 1) rfl (by decide +kernel) (by decide +kernel) ok_X12_token_129
theorem ok_X12_token_125 : zOK l D tc A nS xs mM_X12_token 125 q_X12_token_125 := s_goto (tgt := 293) (off := 168) (by decide +kernel) (by decide) ok_X12_token_293
theorem ok_X12_token_122 : zOK l D tc A nS xs mM_X12_token 122 q_X12_token_122 := r_callV zEE_ok zTw_gd kls_12 (M2 := mM_X12_closes) (na := 0) lb_189 calV_X12_closes rfl rfl w_968 (by decide +kernel) ok_X12_token_125
theorem ok_X12_token_121 : zOK l D tc A nS xs mM_X12_token 121 q_X12_token_121 := s_aload_n (q := 0) rfl (by decide +kernel) (by decide +kernel) ok_X12_token_122
theorem ok_X12_token_118 : zOK l D tc A nS xs mM_X12_token 118 q_X12_token_118 := s_icmp_ne (tgt := 128) (off := 10) (by decide +kernel) (by decide) ok_X12_token_128 ok_X12_token_121
theorem ok_X12_token_116 : zOK l D tc A nS xs mM_X12_token 116 q_X12_token_116 := s_bipush (n := 41) (by decide) (by decide +kernel) (by decide +kernel) ok_X12_token_118
theorem ok_X12_token_115 : zOK l D tc A nS xs mM_X12_token 115 q_X12_token_115 := s_iload_n (q := 1) rfl (by decide +kernel) (by decide +kernel) ok_X12_token_116
theorem ok_X12_token_112 : zOK l D tc A nS xs mM_X12_token 112 q_X12_token_112 := s_goto (tgt := 293) (off := 181) (by decide +kernel) (by decide) ok_X12_token_293
theorem ok_X12_token_109 : zOK l D tc A nS xs mM_X12_token 109 q_X12_token_109 := r_putf kls_12 ty_12_56 zck_int (by decide) tx_12_56 rfl w_735 (by decide +kernel) ok_X12_token_112
theorem ok_X12_token_108 : zOK l D tc A nS xs mM_X12_token 108 q_X12_token_108 := s_iadd (by decide +kernel) ok_X12_token_109
theorem ok_X12_token_107 : zOK l D tc A nS xs mM_X12_token 107 q_X12_token_107 := s_iconst (n := 1) (by decide) (by decide +kernel) (by decide +kernel) ok_X12_token_108
theorem ok_X12_token_104 : zOK l D tc A nS xs mM_X12_token 104 q_X12_token_104 := r_getf kls_12 (by decide) tx_12_56 rfl w_735 (by decide +kernel) ok_X12_token_107
theorem ok_X12_token_103 : zOK l D tc A nS xs mM_X12_token 103 q_X12_token_103 := s_dup (by decide +kernel) ok_X12_token_104
theorem ok_X12_token_102 : zOK l D tc A nS xs mM_X12_token 102 q_X12_token_102 := s_aload_n (q := 0) rfl (by decide +kernel) (by decide +kernel) ok_X12_token_103
theorem ok_X12_token_101 : zOK l D tc A nS xs mM_X12_token 101 q_X12_token_101 := s_iast (t0 := 0) (by decide) (by decide) rfl (by decide +kernel) ok_X12_token_102
theorem ok_X12_token_98 : zOK l D tc A nS xs mM_X12_token 98 q_X12_token_98 := r_getf kls_12 (by decide) tx_12_49 rfl w_734 (by decide +kernel) ok_X12_token_101
theorem ok_X12_token_97 : zOK l D tc A nS xs mM_X12_token 97 q_X12_token_97 := s_aload_n (q := 0) rfl (by decide +kernel) (by decide +kernel) ok_X12_token_98
theorem ok_X12_token_94 : zOK l D tc A nS xs mM_X12_token 94 q_X12_token_94 := r_getf kls_12 (by decide) tx_12_56 rfl w_735 (by decide +kernel) ok_X12_token_97
theorem ok_X12_token_93 : zOK l D tc A nS xs mM_X12_token 93 q_X12_token_93 := s_aload_n (q := 0) rfl (by decide +kernel) (by decide +kernel) ok_X12_token_94
theorem ok_X12_token_90 : zOK l D tc A nS xs mM_X12_token 90 q_X12_token_90 := r_getf kls_12 (by decide) tx_12_55 rfl w_738 (by decide +kernel) ok_X12_token_93
theorem ok_X12_token_89 : zOK l D tc A nS xs mM_X12_token 89 q_X12_token_89 := s_aload_n (q := 0) rfl (by decide +kernel) (by decide +kernel) ok_X12_token_90
theorem ok_X12_token_88 : zOK l D tc A nS xs mM_X12_token 88 q_X12_token_88 := s_iast (t0 := 0) (by decide) (by decide) rfl (by decide +kernel) ok_X12_token_89
theorem ok_X12_token_87 : zOK l D tc A nS xs mM_X12_token 87 q_X12_token_87 := s_iconst (n := 0) (by decide) (by decide +kernel) (by decide +kernel) ok_X12_token_88
theorem ok_X12_token_84 : zOK l D tc A nS xs mM_X12_token 84 q_X12_token_84 := r_getf kls_12 (by decide) tx_12_56 rfl w_735 (by decide +kernel) ok_X12_token_87
theorem ok_X12_token_83 : zOK l D tc A nS xs mM_X12_token 83 q_X12_token_83 := s_aload_n (q := 0) rfl (by decide +kernel) (by decide +kernel) ok_X12_token_84
theorem ok_X12_token_80 : zOK l D tc A nS xs mM_X12_token 80 q_X12_token_80 := r_getf kls_12 (by decide) tx_12_54 rfl w_737 (by decide +kernel) ok_X12_token_83
theorem ok_X12_token_79 : zOK l D tc A nS xs mM_X12_token 79 q_X12_token_79 := s_aload_n (q := 0) rfl (by decide +kernel) (by decide +kernel) ok_X12_token_80
theorem ok_X12_token_78 : zOK l D tc A nS xs mM_X12_token 78 q_X12_token_78 := s_iast (t0 := 0) (by decide) (by decide) rfl (by decide +kernel) ok_X12_token_79
theorem ok_X12_token_73 : zOK l D tc A nS xs mM_X12_token 73 q_X12_token_73 := s_goto (tgt := 78) (off := 5) (by decide +kernel) (by decide) ok_X12_token_78
theorem ok_X12_token_72 : zOK l D tc A nS xs mM_X12_token 72 q_X12_token_72 := s_iconst (n := (-1)) (by decide) (by decide +kernel) (by decide +kernel) ok_X12_token_73
theorem ok_X12_token_69 : zOK l D tc A nS xs mM_X12_token 69 q_X12_token_69 := s_icmp_ne (tgt := 76) (off := 7) (by decide +kernel) (by decide) s_none ok_X12_token_72
theorem ok_X12_token_67 : zOK l D tc A nS xs mM_X12_token 67 q_X12_token_67 := s_bipush (n := 40) (by decide) (by decide +kernel) (by decide +kernel) ok_X12_token_69
theorem ok_X12_token_66 : zOK l D tc A nS xs mM_X12_token 66 q_X12_token_66 := s_iload_n (q := 1) rfl (by decide +kernel) (by decide +kernel) ok_X12_token_67
theorem ok_X12_token_63 : zOK l D tc A nS xs mM_X12_token 63 q_X12_token_63 := r_getf kls_12 (by decide) tx_12_56 rfl w_735 (by decide +kernel) ok_X12_token_66
theorem ok_X12_token_62 : zOK l D tc A nS xs mM_X12_token 62 q_X12_token_62 := s_aload_n (q := 0) rfl (by decide +kernel) (by decide +kernel) ok_X12_token_63
theorem ok_X12_token_59 : zOK l D tc A nS xs mM_X12_token 59 q_X12_token_59 := r_getf kls_12 (by decide) tx_12_52 rfl w_739 (by decide +kernel) ok_X12_token_62
theorem ok_X12_token_58 : zOK l D tc A nS xs mM_X12_token 58 q_X12_token_58 := s_aload_n (q := 0) rfl (by decide +kernel) (by decide +kernel) ok_X12_token_59
theorem ok_X12_token_45 : zOK l D tc A nS xs mM_X12_token 45 q_X12_token_45 := s_icmp_ne (tgt := 58) (off := 13) (by decide +kernel) (by decide) ok_X12_token_58 s_none
theorem ok_X12_token_43 : zOK l D tc A nS xs mM_X12_token 43 q_X12_token_43 := s_bipush (n := 40) (by decide) (by decide +kernel) (by decide +kernel) ok_X12_token_45
theorem ok_X12_token_40 : zOK l D tc A nS xs mM_X12_token 40 q_X12_token_40 := r_getf kls_12 (by decide) tx_12_56 rfl w_735 (by decide +kernel) ok_X12_token_43
theorem ok_X12_token_39 : zOK l D tc A nS xs mM_X12_token 39 q_X12_token_39 := s_aload_n (q := 0) rfl (by decide +kernel) (by decide +kernel) ok_X12_token_40
theorem ok_X12_token_35 : zOK l D tc A nS xs mM_X12_token 35 q_X12_token_35 := s_if_ne (tgt := 39) (off := 4) (by decide +kernel) (by decide) ok_X12_token_39 s_none
theorem ok_X12_token_32 : zOK l D tc A nS xs mM_X12_token 32 q_X12_token_32 := r_callV zEE_ok zTw_gd kls_12 (M2 := mM_X12_mayBegin) (na := 0) lb_245 calV_X12_mayBegin rfl rfl w_928 (by decide +kernel) ok_X12_token_35
theorem ok_X12_token_31 : zOK l D tc A nS xs mM_X12_token 31 q_X12_token_31 := s_aload_n (q := 0) rfl (by decide +kernel) (by decide +kernel) ok_X12_token_32
theorem ok_X12_token_28 : zOK l D tc A nS xs mM_X12_token 28 q_X12_token_28 := s_icmp_ne (tgt := 115) (off := 87) (by decide +kernel) (by decide) ok_X12_token_115 ok_X12_token_31
theorem ok_X12_token_26 : zOK l D tc A nS xs mM_X12_token 26 q_X12_token_26 := s_bipush (n := 39) (by decide) (by decide +kernel) (by decide +kernel) ok_X12_token_28
theorem ok_X12_token_25 : zOK l D tc A nS xs mM_X12_token 25 q_X12_token_25 := s_iload_n (q := 1) rfl (by decide +kernel) (by decide +kernel) ok_X12_token_26
theorem ok_X12_token_22 : zOK l D tc A nS xs mM_X12_token 22 q_X12_token_22 := s_icmp_eq (tgt := 31) (off := 9) (by decide +kernel) (by decide) ok_X12_token_31 ok_X12_token_25
theorem ok_X12_token_20 : zOK l D tc A nS xs mM_X12_token 20 q_X12_token_20 := s_bipush (n := 40) (by decide) (by decide +kernel) (by decide +kernel) ok_X12_token_22
theorem ok_X12_token_19 : zOK l D tc A nS xs mM_X12_token 19 q_X12_token_19 := s_iload_n (q := 1) rfl (by decide +kernel) (by decide +kernel) ok_X12_token_20
theorem ok_X12_token_16 : zOK l D tc A nS xs mM_X12_token 16 q_X12_token_16 := r_putf kls_12 ty_12_48 zck_int (by decide) tx_12_48 rfl w_718 (by decide +kernel) ok_X12_token_19
theorem ok_X12_token_15 : zOK l D tc A nS xs mM_X12_token 15 q_X12_token_15 := s_iadd (by decide +kernel) ok_X12_token_16
theorem ok_X12_token_14 : zOK l D tc A nS xs mM_X12_token 14 q_X12_token_14 := s_iconst (n := 1) (by decide) (by decide +kernel) (by decide +kernel) ok_X12_token_15
theorem ok_X12_token_11 : zOK l D tc A nS xs mM_X12_token 11 q_X12_token_11 := r_getf kls_12 (by decide) tx_12_48 rfl w_718 (by decide +kernel) ok_X12_token_14
theorem ok_X12_token_10 : zOK l D tc A nS xs mM_X12_token 10 q_X12_token_10 := s_dup (by decide +kernel) ok_X12_token_11
theorem ok_X12_token_9 : zOK l D tc A nS xs mM_X12_token 9 q_X12_token_9 := s_aload_n (q := 0) rfl (by decide +kernel) (by decide +kernel) ok_X12_token_10
theorem ok_X12_token_8 : zOK l D tc A nS xs mM_X12_token 8 q_X12_token_8 := s_istore_n (q := 1) rfl (by decide +kernel) (by decide +kernel) ok_X12_token_9
theorem ok_X12_token_5 : zOK l D tc A nS xs mM_X12_token 5 q_X12_token_5 := r_callV zEE_ok zTw_gd kls_12 (M2 := mM_X12_byteOf) (na := 1) lb_187 calV_X12_byteOf rfl rfl w_719 (by decide +kernel) ok_X12_token_8
theorem ok_X12_token_2 : zOK l D tc A nS xs mM_X12_token 2 q_X12_token_2 := r_getf kls_12 (by decide) tx_12_48 rfl w_718 (by decide +kernel) ok_X12_token_5
theorem ok_X12_token_1 : zOK l D tc A nS xs mM_X12_token 1 q_X12_token_1 := s_aload_n (q := 0) rfl (by decide +kernel) (by decide +kernel) ok_X12_token_2
theorem ok_X12_token_0 : zOK l D tc A nS xs mM_X12_token 0 q_X12_token_0 := s_aload_n (q := 0) rfl (by decide +kernel) (by decide +kernel) ok_X12_token_1
theorem ok_X12_told_61 : zOK l D tc A nS xs mM_X12_told 61 q_X12_told_61 := s_iret rfl (by decide +kernel)
theorem ok_X12_told_60 : zOK l D tc A nS xs mM_X12_told 60 q_X12_told_60 := s_iload_n (q := 3) rfl (by decide +kernel) (by decide +kernel) ok_X12_told_61
theorem ok_X12_told_57 : zOK l D tc A nS xs mM_X12_told 57 q_X12_told_57 := s_goto (tgt := 61) (off := 4) (by decide +kernel) (by decide) ok_X12_told_61
theorem ok_X12_told_56 : zOK l D tc A nS xs mM_X12_told 56 q_X12_told_56 := s_iald (t0 := 0) (by decide) (by decide) rfl (by decide +kernel) ok_X12_told_57
theorem ok_X12_told_55 : zOK l D tc A nS xs mM_X12_told 55 q_X12_told_55 := s_iload_n (q := 2) rfl (by decide +kernel) (by decide +kernel) ok_X12_told_56
theorem ok_X12_told_54 : zOK l D tc A nS xs mM_X12_told 54 q_X12_told_54 := s_aald (t0 := 2) (ty := .array .int) rfl rfl (by decide +kernel) ok_X12_told_55
theorem ok_X12_told_53 : zOK l D tc A nS xs mM_X12_told 53 q_X12_told_53 := s_iload_n (q := 1) rfl (by decide +kernel) (by decide +kernel) ok_X12_told_54
theorem ok_X12_told_50 : zOK l D tc A nS xs mM_X12_told 50 q_X12_told_50 := r_getf kls_12 (by decide) tx_12_1 rfl w_871 (by decide +kernel) ok_X12_told_53
theorem ok_X12_told_49 : zOK l D tc A nS xs mM_X12_told 49 q_X12_told_49 := s_aload_n (q := 0) rfl (by decide +kernel) (by decide +kernel) ok_X12_told_50
theorem ok_X12_told_46 : zOK l D tc A nS xs mM_X12_told 46 q_X12_told_46 := s_icmp_ge (tgt := 60) (off := 14) (by decide +kernel) (by decide) ok_X12_told_60 ok_X12_told_49
theorem ok_X12_told_44 : zOK l D tc A nS xs mM_X12_told 44 q_X12_told_44 := s_bipush (n := 8) (by decide) (by decide +kernel) (by decide +kernel) ok_X12_told_46
theorem ok_X12_told_43 : zOK l D tc A nS xs mM_X12_told 43 q_X12_told_43 := s_iload_n (q := 2) rfl (by decide +kernel) (by decide +kernel) ok_X12_told_44
theorem ok_X12_told_40 : zOK l D tc A nS xs mM_X12_told 40 q_X12_told_40 := s_goto (tgt := 17) (off := (-23)) (by decide +kernel) (by decide) (s_back lb_290)
theorem ok_X12_told_37 : zOK l D tc A nS xs mM_X12_told 37 q_X12_told_37 := s_iinc (n := 1) (by decide +kernel) (by decide +kernel) (by decide +kernel) ok_X12_told_40
theorem ok_X12_told_36 : zOK l D tc A nS xs mM_X12_told 36 q_X12_told_36 := s_istore_n (q := 3) rfl (by decide +kernel) (by decide +kernel) ok_X12_told_37
theorem ok_X12_told_35 : zOK l D tc A nS xs mM_X12_told 35 q_X12_told_35 := s_iadd (by decide +kernel) ok_X12_told_36
theorem ok_X12_told_34 : zOK l D tc A nS xs mM_X12_told 34 q_X12_told_34 := s_iald (t0 := 0) (by decide) (by decide) rfl (by decide +kernel) ok_X12_told_35
theorem ok_X12_told_32 : zOK l D tc A nS xs mM_X12_told 32 q_X12_told_32 := s_iload (by decide +kernel) (by decide +kernel) ok_X12_told_34
theorem ok_X12_told_31 : zOK l D tc A nS xs mM_X12_told 31 q_X12_told_31 := s_aald (t0 := 2) (ty := .array .int) rfl rfl (by decide +kernel) ok_X12_told_32
theorem ok_X12_told_30 : zOK l D tc A nS xs mM_X12_told 30 q_X12_told_30 := s_iload_n (q := 1) rfl (by decide +kernel) (by decide +kernel) ok_X12_told_31
theorem ok_X12_told_27 : zOK l D tc A nS xs mM_X12_told 27 q_X12_told_27 := r_getf kls_12 (by decide) tx_12_2 rfl w_870 (by decide +kernel) ok_X12_told_30
theorem ok_X12_told_26 : zOK l D tc A nS xs mM_X12_told 26 q_X12_told_26 := s_aload_n (q := 0) rfl (by decide +kernel) (by decide +kernel) ok_X12_told_27
theorem ok_X12_told_25 : zOK l D tc A nS xs mM_X12_told 25 q_X12_told_25 := s_imul (by decide +kernel) ok_X12_told_26
theorem ok_X12_told_24 : zOK l D tc A nS xs mM_X12_told 24 q_X12_told_24 := s_iload_n (q := 3) rfl (by decide +kernel) (by decide +kernel) ok_X12_told_25
theorem ok_X12_told_23 : zOK l D tc A nS xs mM_X12_told 23 q_X12_told_23 := s_iconst (n := 2) (by decide) (by decide +kernel) (by decide +kernel) ok_X12_told_24
theorem ok_X12_told_20 : zOK l D tc A nS xs mM_X12_told 20 q_X12_told_20 := s_icmp_ge (tgt := 43) (off := 23) (by decide +kernel) (by decide) ok_X12_told_43 ok_X12_told_23
theorem ok_X12_told_19 : zOK l D tc A nS xs mM_X12_told 19 q_X12_told_19 := s_iconst (n := 4) (by decide) (by decide +kernel) (by decide +kernel) ok_X12_told_20
theorem ok_X12_told_17 : zOK l D tc A nS xs mM_X12_told 17 q_X12_told_17 := s_iload (by decide +kernel) (by decide +kernel) ok_X12_told_19
theorem ok_X12_told_15 : zOK l D tc A nS xs mM_X12_told 15 q_X12_told_15 := s_istore (by decide +kernel) (by decide +kernel) ok_X12_told_17
theorem ok_X12_told_14 : zOK l D tc A nS xs mM_X12_told 14 q_X12_told_14 := s_iconst (n := 0) (by decide) (by decide +kernel) (by decide +kernel) ok_X12_told_15
theorem ok_X12_told_13 : zOK l D tc A nS xs mM_X12_told 13 q_X12_told_13 := s_istore_n (q := 3) rfl (by decide +kernel) (by decide +kernel) ok_X12_told_14
theorem ok_X12_told_12 : zOK l D tc A nS xs mM_X12_told 12 q_X12_told_12 := s_iconst (n := 0) (by decide) (by decide +kernel) (by decide +kernel) ok_X12_told_13
theorem ok_X12_told_11 : zOK l D tc A nS xs mM_X12_told 11 q_X12_told_11 := s_iret rfl (by decide +kernel)
theorem ok_X12_told_10 : zOK l D tc A nS xs mM_X12_told 10 q_X12_told_10 := s_iconst (n := (-1)) (by decide) (by decide +kernel) (by decide +kernel) ok_X12_told_11
theorem ok_X12_told_7 : zOK l D tc A nS xs mM_X12_told 7 q_X12_told_7 := s_if_ne (tgt := 12) (off := 5) (by decide +kernel) (by decide) ok_X12_told_12 ok_X12_told_10
theorem ok_X12_told_4 : zOK l D tc A nS xs mM_X12_told 4 q_X12_told_4 := r_callS zEE_ok zTw_gd (M2 := mM_X12_in) lb_217 calS_X12_in rfl rfl w_771 (by decide +kernel) ok_X12_told_7
theorem ok_X12_told_2 : zOK l D tc A nS xs mM_X12_told 2 q_X12_told_2 := s_bipush (n := 8) (by decide) (by decide +kernel) (by decide +kernel) ok_X12_told_4
theorem ok_X12_told_1 : zOK l D tc A nS xs mM_X12_told 1 q_X12_told_1 := s_iconst (n := 0) (by decide) (by decide +kernel) (by decide +kernel) ok_X12_told_2
theorem ok_X12_told_0 : zOK l D tc A nS xs mM_X12_told 0 q_X12_told_0 := s_iload_n (q := 2) rfl (by decide +kernel) (by decide +kernel) ok_X12_told_1
theorem ok_X12_variableOf_29 : zOK l D tc A nS xs mM_X12_variableOf 29 q_X12_variableOf_29 := s_iret rfl (by decide +kernel)
theorem ok_X12_variableOf_28 : zOK l D tc A nS xs mM_X12_variableOf 28 q_X12_variableOf_28 := s_iconst (n := (-1)) (by decide) (by decide +kernel) (by decide +kernel) ok_X12_variableOf_29
theorem ok_X12_variableOf_25 : zOK l D tc A nS xs mM_X12_variableOf 25 q_X12_variableOf_25 := s_goto (tgt := 2) (off := (-23)) (by decide +kernel) (by decide) (s_back lb_292)
theorem ok_X12_variableOf_22 : zOK l D tc A nS xs mM_X12_variableOf 22 q_X12_variableOf_22 := s_iinc (n := 1) (by decide +kernel) (by decide +kernel) (by decide +kernel) ok_X12_variableOf_25
theorem ok_X12_variableOf_21 : zOK l D tc A nS xs mM_X12_variableOf 21 q_X12_variableOf_21 := s_iret rfl (by decide +kernel)
theorem ok_X12_variableOf_20 : zOK l D tc A nS xs mM_X12_variableOf 20 q_X12_variableOf_20 := s_iload_n (q := 2) rfl (by decide +kernel) (by decide +kernel) ok_X12_variableOf_21
theorem ok_X12_variableOf_17 : zOK l D tc A nS xs mM_X12_variableOf 17 q_X12_variableOf_17 := s_icmp_ne (tgt := 22) (off := 5) (by decide +kernel) (by decide) ok_X12_variableOf_22 ok_X12_variableOf_20
theorem ok_X12_variableOf_16 : zOK l D tc A nS xs mM_X12_variableOf 16 q_X12_variableOf_16 := s_iload_n (q := 1) rfl (by decide +kernel) (by decide +kernel) ok_X12_variableOf_17
theorem ok_X12_variableOf_15 : zOK l D tc A nS xs mM_X12_variableOf 15 q_X12_variableOf_15 := s_iald (t0 := 0) (by decide) (by decide) rfl (by decide +kernel) ok_X12_variableOf_16
theorem ok_X12_variableOf_14 : zOK l D tc A nS xs mM_X12_variableOf 14 q_X12_variableOf_14 := s_iload_n (q := 2) rfl (by decide +kernel) (by decide +kernel) ok_X12_variableOf_15
theorem ok_X12_variableOf_11 : zOK l D tc A nS xs mM_X12_variableOf 11 q_X12_variableOf_11 := r_getf kls_12 (by decide) tx_12_74 rfl w_805 (by decide +kernel) ok_X12_variableOf_14
theorem ok_X12_variableOf_10 : zOK l D tc A nS xs mM_X12_variableOf 10 q_X12_variableOf_10 := s_aload_n (q := 0) rfl (by decide +kernel) (by decide +kernel) ok_X12_variableOf_11
theorem ok_X12_variableOf_7 : zOK l D tc A nS xs mM_X12_variableOf 7 q_X12_variableOf_7 := s_icmp_ge (tgt := 28) (off := 21) (by decide +kernel) (by decide) ok_X12_variableOf_28 ok_X12_variableOf_10
theorem ok_X12_variableOf_4 : zOK l D tc A nS xs mM_X12_variableOf 4 q_X12_variableOf_4 := r_getf kls_12 (by decide) tx_12_76 rfl w_703 (by decide +kernel) ok_X12_variableOf_7
theorem ok_X12_variableOf_3 : zOK l D tc A nS xs mM_X12_variableOf 3 q_X12_variableOf_3 := s_aload_n (q := 0) rfl (by decide +kernel) (by decide +kernel) ok_X12_variableOf_4
theorem ok_X12_variableOf_2 : zOK l D tc A nS xs mM_X12_variableOf 2 q_X12_variableOf_2 := s_iload_n (q := 2) rfl (by decide +kernel) (by decide +kernel) ok_X12_variableOf_3
theorem ok_X12_variableOf_1 : zOK l D tc A nS xs mM_X12_variableOf 1 q_X12_variableOf_1 := s_istore_n (q := 2) rfl (by decide +kernel) (by decide +kernel) ok_X12_variableOf_2
theorem ok_X12_variableOf_0 : zOK l D tc A nS xs mM_X12_variableOf 0 q_X12_variableOf_0 := s_iconst (n := 0) (by decide) (by decide +kernel) (by decide +kernel) ok_X12_variableOf_1
theorem ok_X12_word_45 : zOK l D tc A nS xs mM_X12_word 45 q_X12_word_45 := s_vret rfl (by decide +kernel)
theorem ok_X12_word_42 : zOK l D tc A nS xs mM_X12_word 42 q_X12_word_42 := r_putf kls_12 ty_12_10 zck_int (by decide) tx_12_10 rfl w_803 (by decide +kernel) ok_X12_word_45
theorem ok_X12_word_41 : zOK l D tc A nS xs mM_X12_word 41 q_X12_word_41 := s_iadd (by decide +kernel) ok_X12_word_42
theorem ok_X12_word_40 : zOK l D tc A nS xs mM_X12_word 40 q_X12_word_40 := s_iconst (n := 2) (by decide) (by decide +kernel) (by decide +kernel) ok_X12_word_41
theorem ok_X12_word_37 : zOK l D tc A nS xs mM_X12_word 37 q_X12_word_37 := r_getf kls_12 (by decide) tx_12_10 rfl w_803 (by decide +kernel) ok_X12_word_40
theorem ok_X12_word_36 : zOK l D tc A nS xs mM_X12_word 36 q_X12_word_36 := s_dup (by decide +kernel) ok_X12_word_37
theorem ok_X12_word_35 : zOK l D tc A nS xs mM_X12_word 35 q_X12_word_35 := s_aload_n (q := 0) rfl (by decide +kernel) (by decide +kernel) ok_X12_word_36
theorem ok_X12_word_32 : zOK l D tc A nS xs mM_X12_word 32 q_X12_word_32 := r_callV zEE_ok zTw_gd kls_12 (M2 := mM_X12_setCell) (na := 2) lb_271 calV_X12_setCell rfl rfl w_920 (by decide +kernel) ok_X12_word_35
theorem ok_X12_word_31 : zOK l D tc A nS xs mM_X12_word 31 q_X12_word_31 := s_iload_n (q := 1) rfl (by decide +kernel) (by decide +kernel) ok_X12_word_32
theorem ok_X12_word_28 : zOK l D tc A nS xs mM_X12_word 28 q_X12_word_28 := r_getf kls_12 (by decide) tx_12_10 rfl w_803 (by decide +kernel) ok_X12_word_31
theorem ok_X12_word_27 : zOK l D tc A nS xs mM_X12_word 27 q_X12_word_27 := s_aload_n (q := 0) rfl (by decide +kernel) (by decide +kernel) ok_X12_word_28
theorem ok_X12_word_26 : zOK l D tc A nS xs mM_X12_word 26 q_X12_word_26 := s_aload_n (q := 0) rfl (by decide +kernel) (by decide +kernel) ok_X12_word_27
theorem ok_X12_word_16 : zOK l D tc A nS xs mM_X12_word 16 q_X12_word_16 := s_icmp_le (tgt := 26) (off := 10) (by decide +kernel) (by decide) ok_X12_word_26 s_none
theorem ok_X12_word_14 : zOK l D tc A nS xs mM_X12_word 14 q_X12_word_14 := r_ldc (by decide) (x := (32768 : Int32)) (by decide +kernel) rfl w_927 (by decide +kernel) ok_X12_word_16
theorem ok_X12_word_13 : zOK l D tc A nS xs mM_X12_word 13 q_X12_word_13 := s_iadd (by decide +kernel) ok_X12_word_14
theorem ok_X12_word_12 : zOK l D tc A nS xs mM_X12_word 12 q_X12_word_12 := s_iconst (n := 2) (by decide) (by decide +kernel) (by decide +kernel) ok_X12_word_13
theorem ok_X12_word_9 : zOK l D tc A nS xs mM_X12_word 9 q_X12_word_9 := r_getf kls_12 (by decide) tx_12_10 rfl w_803 (by decide +kernel) ok_X12_word_12
theorem ok_X12_word_8 : zOK l D tc A nS xs mM_X12_word 8 q_X12_word_8 := s_aload_n (q := 0) rfl (by decide +kernel) (by decide +kernel) ok_X12_word_9
theorem ok_X12_word_4 : zOK l D tc A nS xs mM_X12_word 4 q_X12_word_4 := s_if_le (tgt := 8) (off := 4) (by decide +kernel) (by decide) ok_X12_word_8 s_none
theorem ok_X12_word_1 : zOK l D tc A nS xs mM_X12_word 1 q_X12_word_1 := r_getf kls_12 (by decide) tx_12_40 rfl w_775 (by decide +kernel) ok_X12_word_4
theorem ok_X12_word_0 : zOK l D tc A nS xs mM_X12_word 0 q_X12_word_0 := s_aload_n (q := 0) rfl (by decide +kernel) (by decide +kernel) ok_X12_word_1
theorem ok_X12_wordAt_67 : zOK l D tc A nS xs mM_X12_wordAt 67 q_X12_wordAt_67 := s_iret rfl (by decide +kernel)
theorem ok_X12_wordAt_66 : zOK l D tc A nS xs mM_X12_wordAt 66 q_X12_wordAt_66 := s_ior (by decide +kernel) ok_X12_wordAt_67
theorem ok_X12_wordAt_65 : zOK l D tc A nS xs mM_X12_wordAt 65 q_X12_wordAt_65 := s_ishl (by decide +kernel) ok_X12_wordAt_66
theorem ok_X12_wordAt_63 : zOK l D tc A nS xs mM_X12_wordAt 63 q_X12_wordAt_63 := s_bipush (n := 8) (by decide) (by decide +kernel) (by decide +kernel) ok_X12_wordAt_65
theorem ok_X12_wordAt_62 : zOK l D tc A nS xs mM_X12_wordAt 62 q_X12_wordAt_62 := s_iald (t0 := 0) (by decide) (by decide) rfl (by decide +kernel) ok_X12_wordAt_63
theorem ok_X12_wordAt_61 : zOK l D tc A nS xs mM_X12_wordAt 61 q_X12_wordAt_61 := s_iadd (by decide +kernel) ok_X12_wordAt_62
theorem ok_X12_wordAt_60 : zOK l D tc A nS xs mM_X12_wordAt 60 q_X12_wordAt_60 := s_iconst (n := 1) (by decide) (by decide +kernel) (by decide +kernel) ok_X12_wordAt_61
theorem ok_X12_wordAt_59 : zOK l D tc A nS xs mM_X12_wordAt 59 q_X12_wordAt_59 := s_iload_n (q := 1) rfl (by decide +kernel) (by decide +kernel) ok_X12_wordAt_60
theorem ok_X12_wordAt_58 : zOK l D tc A nS xs mM_X12_wordAt 58 q_X12_wordAt_58 := s_aald (t0 := 2) (ty := .array .int) rfl rfl (by decide +kernel) ok_X12_wordAt_59
theorem ok_X12_wordAt_55 : zOK l D tc A nS xs mM_X12_wordAt 55 q_X12_wordAt_55 := r_getf kls_12 (by decide) tx_12_3 rfl w_822 (by decide +kernel) ok_X12_wordAt_58
theorem ok_X12_wordAt_54 : zOK l D tc A nS xs mM_X12_wordAt 54 q_X12_wordAt_54 := s_aload_n (q := 0) rfl (by decide +kernel) (by decide +kernel) ok_X12_wordAt_55
theorem ok_X12_wordAt_51 : zOK l D tc A nS xs mM_X12_wordAt 51 q_X12_wordAt_51 := r_getf kls_12 (by decide) tx_12_0 rfl w_724 (by decide +kernel) ok_X12_wordAt_54
theorem ok_X12_wordAt_50 : zOK l D tc A nS xs mM_X12_wordAt 50 q_X12_wordAt_50 := s_aload_n (q := 0) rfl (by decide +kernel) (by decide +kernel) ok_X12_wordAt_51
theorem ok_X12_wordAt_49 : zOK l D tc A nS xs mM_X12_wordAt 49 q_X12_wordAt_49 := s_iald (t0 := 0) (by decide) (by decide) rfl (by decide +kernel) ok_X12_wordAt_50
theorem ok_X12_wordAt_48 : zOK l D tc A nS xs mM_X12_wordAt 48 q_X12_wordAt_48 := s_iload_n (q := 1) rfl (by decide +kernel) (by decide +kernel) ok_X12_wordAt_49
theorem ok_X12_wordAt_47 : zOK l D tc A nS xs mM_X12_wordAt 47 q_X12_wordAt_47 := s_aald (t0 := 2) (ty := .array .int) rfl rfl (by decide +kernel) ok_X12_wordAt_48
theorem ok_X12_wordAt_44 : zOK l D tc A nS xs mM_X12_wordAt 44 q_X12_wordAt_44 := r_getf kls_12 (by decide) tx_12_3 rfl w_822 (by decide +kernel) ok_X12_wordAt_47
theorem ok_X12_wordAt_43 : zOK l D tc A nS xs mM_X12_wordAt 43 q_X12_wordAt_43 := s_aload_n (q := 0) rfl (by decide +kernel) (by decide +kernel) ok_X12_wordAt_44
theorem ok_X12_wordAt_40 : zOK l D tc A nS xs mM_X12_wordAt 40 q_X12_wordAt_40 := r_getf kls_12 (by decide) tx_12_0 rfl w_724 (by decide +kernel) ok_X12_wordAt_43
theorem ok_X12_wordAt_39 : zOK l D tc A nS xs mM_X12_wordAt 39 q_X12_wordAt_39 := s_aload_n (q := 0) rfl (by decide +kernel) (by decide +kernel) ok_X12_wordAt_40
theorem ok_X12_wordAt_29 : zOK l D tc A nS xs mM_X12_wordAt 29 q_X12_wordAt_29 := s_icmp_lt (tgt := 39) (off := 10) (by decide +kernel) (by decide) ok_X12_wordAt_39 s_none
theorem ok_X12_wordAt_28 : zOK l D tc A nS xs mM_X12_wordAt 28 q_X12_wordAt_28 := s_len (t0 := 0) (ty := .int) (by decide) (by decide) rfl (by decide +kernel) ok_X12_wordAt_29
theorem ok_X12_wordAt_27 : zOK l D tc A nS xs mM_X12_wordAt 27 q_X12_wordAt_27 := s_aald (t0 := 2) (ty := .array .int) rfl rfl (by decide +kernel) ok_X12_wordAt_28
theorem ok_X12_wordAt_24 : zOK l D tc A nS xs mM_X12_wordAt 24 q_X12_wordAt_24 := r_getf kls_12 (by decide) tx_12_3 rfl w_822 (by decide +kernel) ok_X12_wordAt_27
theorem ok_X12_wordAt_23 : zOK l D tc A nS xs mM_X12_wordAt 23 q_X12_wordAt_23 := s_aload_n (q := 0) rfl (by decide +kernel) (by decide +kernel) ok_X12_wordAt_24
theorem ok_X12_wordAt_20 : zOK l D tc A nS xs mM_X12_wordAt 20 q_X12_wordAt_20 := r_getf kls_12 (by decide) tx_12_0 rfl w_724 (by decide +kernel) ok_X12_wordAt_23
theorem ok_X12_wordAt_19 : zOK l D tc A nS xs mM_X12_wordAt 19 q_X12_wordAt_19 := s_aload_n (q := 0) rfl (by decide +kernel) (by decide +kernel) ok_X12_wordAt_20
theorem ok_X12_wordAt_18 : zOK l D tc A nS xs mM_X12_wordAt 18 q_X12_wordAt_18 := s_iadd (by decide +kernel) ok_X12_wordAt_19
theorem ok_X12_wordAt_17 : zOK l D tc A nS xs mM_X12_wordAt 17 q_X12_wordAt_17 := s_iconst (n := 1) (by decide) (by decide +kernel) (by decide +kernel) ok_X12_wordAt_18
theorem ok_X12_wordAt_16 : zOK l D tc A nS xs mM_X12_wordAt 16 q_X12_wordAt_16 := s_iload_n (q := 1) rfl (by decide +kernel) (by decide +kernel) ok_X12_wordAt_17
theorem ok_X12_wordAt_13 : zOK l D tc A nS xs mM_X12_wordAt 13 q_X12_wordAt_13 := s_icmp_eq (tgt := 32) (off := 19) (by decide +kernel) (by decide) s_none ok_X12_wordAt_16
theorem ok_X12_wordAt_12 : zOK l D tc A nS xs mM_X12_wordAt 12 q_X12_wordAt_12 := s_iconst (n := 1) (by decide) (by decide +kernel) (by decide +kernel) ok_X12_wordAt_13
theorem ok_X12_wordAt_11 : zOK l D tc A nS xs mM_X12_wordAt 11 q_X12_wordAt_11 := s_iand (by decide +kernel) ok_X12_wordAt_12
theorem ok_X12_wordAt_10 : zOK l D tc A nS xs mM_X12_wordAt 10 q_X12_wordAt_10 := s_iconst (n := 1) (by decide) (by decide +kernel) (by decide +kernel) ok_X12_wordAt_11
theorem ok_X12_wordAt_9 : zOK l D tc A nS xs mM_X12_wordAt 9 q_X12_wordAt_9 := s_iload_n (q := 1) rfl (by decide +kernel) (by decide +kernel) ok_X12_wordAt_10
theorem ok_X12_wordAt_4 : zOK l D tc A nS xs mM_X12_wordAt 4 q_X12_wordAt_4 := s_if_le (tgt := 9) (off := 5) (by decide +kernel) (by decide) ok_X12_wordAt_9 s_none
theorem ok_X12_wordAt_1 : zOK l D tc A nS xs mM_X12_wordAt 1 q_X12_wordAt_1 := r_getf kls_12 (by decide) tx_12_4 rfl w_786 (by decide +kernel) ok_X12_wordAt_4
theorem ok_X12_wordAt_0 : zOK l D tc A nS xs mM_X12_wordAt 0 q_X12_wordAt_0 := s_aload_n (q := 0) rfl (by decide +kernel) (by decide +kernel) ok_X12_wordAt_1
theorem ok_X12_word__25 : zOK l D tc A nS xs mM_X12_word_ 25 q_X12_word__25 := s_iret rfl (by decide +kernel)
theorem ok_X12_word__24 : zOK l D tc A nS xs mM_X12_word_ 24 q_X12_word__24 := s_iconst (n := (-1)) (by decide) (by decide +kernel) (by decide +kernel) ok_X12_word__25
theorem ok_X12_word__21 : zOK l D tc A nS xs mM_X12_word_ 21 q_X12_word__21 := s_goto (tgt := 25) (off := 4) (by decide +kernel) (by decide) ok_X12_word__25
theorem ok_X12_word__18 : zOK l D tc A nS xs mM_X12_word_ 18 q_X12_word__18 := r_callV zEE_ok zTw_gd kls_12 (M2 := mM_X12_cell) (na := 1) lb_188 calV_X12_cell rfl rfl w_971 (by decide +kernel) ok_X12_word__21
theorem ok_X12_word__17 : zOK l D tc A nS xs mM_X12_word_ 17 q_X12_word__17 := s_iload_n (q := 1) rfl (by decide +kernel) (by decide +kernel) ok_X12_word__18
theorem ok_X12_word__16 : zOK l D tc A nS xs mM_X12_word_ 16 q_X12_word__16 := s_aload_n (q := 0) rfl (by decide +kernel) (by decide +kernel) ok_X12_word__17
theorem ok_X12_word__13 : zOK l D tc A nS xs mM_X12_word_ 13 q_X12_word__13 := s_if_ne (tgt := 24) (off := 11) (by decide +kernel) (by decide) ok_X12_word__24 ok_X12_word__16
theorem ok_X12_word__12 : zOK l D tc A nS xs mM_X12_word_ 12 q_X12_word__12 := s_iand (by decide +kernel) ok_X12_word__13
theorem ok_X12_word__11 : zOK l D tc A nS xs mM_X12_word_ 11 q_X12_word__11 := s_iconst (n := 1) (by decide) (by decide +kernel) (by decide +kernel) ok_X12_word__12
theorem ok_X12_word__10 : zOK l D tc A nS xs mM_X12_word_ 10 q_X12_word__10 := s_iload_n (q := 1) rfl (by decide +kernel) (by decide +kernel) ok_X12_word__11
theorem ok_X12_word__7 : zOK l D tc A nS xs mM_X12_word_ 7 q_X12_word__7 := s_if_eq (tgt := 24) (off := 17) (by decide +kernel) (by decide) ok_X12_word__24 ok_X12_word__10
theorem ok_X12_word__4 : zOK l D tc A nS xs mM_X12_word_ 4 q_X12_word__4 := r_callS zEE_ok zTw_gd (M2 := mM_X12_in) lb_217 calS_X12_in rfl rfl w_771 (by decide +kernel) ok_X12_word__7
theorem ok_X12_word__2 : zOK l D tc A nS xs mM_X12_word_ 2 q_X12_word__2 := r_ldc (by decide) (x := (65535 : Int32)) (by decide +kernel) rfl w_935 (by decide +kernel) ok_X12_word__4
theorem ok_X12_word__1 : zOK l D tc A nS xs mM_X12_word_ 1 q_X12_word__1 := s_iconst (n := 0) (by decide) (by decide +kernel) (by decide +kernel) ok_X12_word__2
theorem ok_X12_word__0 : zOK l D tc A nS xs mM_X12_word_ 0 q_X12_word__0 := s_iload_n (q := 1) rfl (by decide +kernel) (by decide +kernel) ok_X12_word__1
theorem ok_X12_write_77 : zOK l D tc A nS xs mM_X12_write 77 q_X12_write_77 := s_vret rfl (by decide +kernel)
theorem ok_X12_write_74 : zOK l D tc A nS xs mM_X12_write 74 q_X12_write_74 := r_callV zEE_ok zTw_gd kls_12 (M2 := mM_X12_item) (na := 1) lb_234 calV_X12_item rfl rfl w_974 (by decide +kernel) ok_X12_write_77
theorem ok_X12_write_73 : zOK l D tc A nS xs mM_X12_write 73 q_X12_write_73 := s_iload_n (q := 1) rfl (by decide +kernel) (by decide +kernel) ok_X12_write_74
theorem ok_X12_write_72 : zOK l D tc A nS xs mM_X12_write 72 q_X12_write_72 := s_aload_n (q := 0) rfl (by decide +kernel) (by decide +kernel) ok_X12_write_73
theorem ok_X12_write_60 : zOK l D tc A nS xs mM_X12_write 60 q_X12_write_60 := s_if_eq (tgt := 72) (off := 12) (by decide +kernel) (by decide) ok_X12_write_72 s_none
theorem ok_X12_write_57 : zOK l D tc A nS xs mM_X12_write 57 q_X12_write_57 := r_callV zEE_ok zTw_gd kls_12 (M2 := mM_X12_is_) (na := 2) lb_233 calV_X12_is_ rfl rfl w_878 (by decide +kernel) ok_X12_write_60
theorem ok_X12_write_56 : zOK l D tc A nS xs mM_X12_write 56 q_X12_write_56 := s_iconst (n := 1) (by decide) (by decide +kernel) (by decide +kernel) ok_X12_write_57
theorem ok_X12_write_55 : zOK l D tc A nS xs mM_X12_write 55 q_X12_write_55 := s_iload_n (q := 1) rfl (by decide +kernel) (by decide +kernel) ok_X12_write_56
theorem ok_X12_write_54 : zOK l D tc A nS xs mM_X12_write 54 q_X12_write_54 := s_aload_n (q := 0) rfl (by decide +kernel) (by decide +kernel) ok_X12_write_55
theorem ok_X12_write_51 : zOK l D tc A nS xs mM_X12_write 51 q_X12_write_51 := r_putf kls_12 ty_12_29 zck_int (by decide) tx_12_29 rfl w_977 (by decide +kernel) ok_X12_write_54
theorem ok_X12_write_50 : zOK l D tc A nS xs mM_X12_write 50 q_X12_write_50 := s_iadd (by decide +kernel) ok_X12_write_51
theorem ok_X12_write_49 : zOK l D tc A nS xs mM_X12_write 49 q_X12_write_49 := s_iconst (n := 1) (by decide) (by decide +kernel) (by decide +kernel) ok_X12_write_50
theorem ok_X12_write_46 : zOK l D tc A nS xs mM_X12_write 46 q_X12_write_46 := r_getf kls_12 (by decide) tx_12_29 rfl w_977 (by decide +kernel) ok_X12_write_49
theorem ok_X12_write_45 : zOK l D tc A nS xs mM_X12_write 45 q_X12_write_45 := s_dup (by decide +kernel) ok_X12_write_46
theorem ok_X12_write_44 : zOK l D tc A nS xs mM_X12_write 44 q_X12_write_44 := s_aload_n (q := 0) rfl (by decide +kernel) (by decide +kernel) ok_X12_write_45
theorem ok_X12_write_35 : zOK l D tc A nS xs mM_X12_write 35 q_X12_write_35 := s_if_eq (tgt := 44) (off := 9) (by decide +kernel) (by decide) ok_X12_write_44 s_none
theorem ok_X12_write_32 : zOK l D tc A nS xs mM_X12_write 32 q_X12_write_32 := r_callV zEE_ok zTw_gd kls_12 (M2 := mM_X12_is_) (na := 2) lb_233 calV_X12_is_ rfl rfl w_878 (by decide +kernel) ok_X12_write_35
theorem ok_X12_write_31 : zOK l D tc A nS xs mM_X12_write 31 q_X12_write_31 := s_iconst (n := 1) (by decide) (by decide +kernel) (by decide +kernel) ok_X12_write_32
theorem ok_X12_write_30 : zOK l D tc A nS xs mM_X12_write 30 q_X12_write_30 := s_iload_n (q := 1) rfl (by decide +kernel) (by decide +kernel) ok_X12_write_31
theorem ok_X12_write_29 : zOK l D tc A nS xs mM_X12_write 29 q_X12_write_29 := s_aload_n (q := 0) rfl (by decide +kernel) (by decide +kernel) ok_X12_write_30
theorem ok_X12_write_14 : zOK l D tc A nS xs mM_X12_write 14 q_X12_write_14 := s_icmp_ne (tgt := 29) (off := 15) (by decide +kernel) (by decide) ok_X12_write_29 s_none
theorem ok_X12_write_12 : zOK l D tc A nS xs mM_X12_write 12 q_X12_write_12 := s_bipush (n := 60) (by decide) (by decide +kernel) (by decide +kernel) ok_X12_write_14
theorem ok_X12_write_9 : zOK l D tc A nS xs mM_X12_write 9 q_X12_write_9 := r_getf kls_12 (by decide) tx_12_29 rfl w_977 (by decide +kernel) ok_X12_write_12
theorem ok_X12_write_8 : zOK l D tc A nS xs mM_X12_write 8 q_X12_write_8 := s_aload_n (q := 0) rfl (by decide +kernel) (by decide +kernel) ok_X12_write_9
theorem ok_X12_write_4 : zOK l D tc A nS xs mM_X12_write 4 q_X12_write_4 := s_if_eq (tgt := 8) (off := 4) (by decide +kernel) (by decide) ok_X12_write_8 s_none
theorem ok_X12_write_1 : zOK l D tc A nS xs mM_X12_write 1 q_X12_write_1 := r_getf kls_12 (by decide) tx_12_30 rfl w_978 (by decide +kernel) ok_X12_write_4
theorem ok_X12_write_0 : zOK l D tc A nS xs mM_X12_write 0 q_X12_write_0 := s_aload_n (q := 0) rfl (by decide +kernel) (by decide +kernel) ok_X12_write_1
end ZRows
