section ZRows
variable {l : Launch} {D : va_G} {tc : Nat → ClassId} {A : Nat → Prop} {nS : Nat} {xs : Nat → Int32}
theorem ok_X11_input_8 : zOK l D tc A nS xs mM_X11_input 8 q_X11_input_8 := s_zret rfl (by decide +kernel)
theorem ok_X11_input_5 : zOK l D tc A nS xs mM_X11_input 5 q_X11_input_5 := r_callV zEE_ok zTw_gd kls_6 (M2 := mM_X6_offer) (na := 1) lb_89 calV_X6_offer rfl rfl w_616 (by decide +kernel) ok_X11_input_8
theorem ok_X11_input_4 : zOK l D tc A nS xs mM_X11_input 4 q_X11_input_4 := s_iload_n (q := 1) rfl (by decide +kernel) (by decide +kernel) ok_X11_input_5
theorem ok_X11_input_1 : zOK l D tc A nS xs mM_X11_input 1 q_X11_input_1 := r_getf kls_11 (by decide) tx_11_8 rfl w_517 (by decide +kernel) ok_X11_input_4
theorem ok_X11_input_0 : zOK l D tc A nS xs mM_X11_input 0 q_X11_input_0 := s_aload_n (q := 0) rfl (by decide +kernel) (by decide +kernel) ok_X11_input_1
theorem ok_X11_isPrimitive_23 : zOK l D tc A nS xs mM_X11_isPrimitive 23 q_X11_isPrimitive_23 := s_zret rfl (by decide +kernel)
theorem ok_X11_isPrimitive_22 : zOK l D tc A nS xs mM_X11_isPrimitive 22 q_X11_isPrimitive_22 := s_iconst (n := 0) (by decide) (by decide +kernel) (by decide +kernel) ok_X11_isPrimitive_23
theorem ok_X11_isPrimitive_9 : zOK l D tc A nS xs mM_X11_isPrimitive 9 q_X11_isPrimitive_9 := s_icmp_lt (tgt := 22) (off := 13) (by decide +kernel) (by decide) ok_X11_isPrimitive_22 s_none
theorem ok_X11_isPrimitive_7 : zOK l D tc A nS xs mM_X11_isPrimitive 7 q_X11_isPrimitive_7 := s_bipush (n := 16) (by decide) (by decide +kernel) (by decide +kernel) ok_X11_isPrimitive_9
theorem ok_X11_isPrimitive_6 : zOK l D tc A nS xs mM_X11_isPrimitive 6 q_X11_isPrimitive_6 := s_iload_n (q := 0) rfl (by decide +kernel) (by decide +kernel) ok_X11_isPrimitive_7
theorem ok_X11_isPrimitive_3 : zOK l D tc A nS xs mM_X11_isPrimitive 3 q_X11_isPrimitive_3 := s_if_ne (tgt := 22) (off := 19) (by decide +kernel) (by decide) ok_X11_isPrimitive_22 ok_X11_isPrimitive_6
theorem ok_X11_isPrimitive_2 : zOK l D tc A nS xs mM_X11_isPrimitive 2 q_X11_isPrimitive_2 := s_iand (by decide +kernel) ok_X11_isPrimitive_3
theorem ok_X11_isPrimitive_1 : zOK l D tc A nS xs mM_X11_isPrimitive 1 q_X11_isPrimitive_1 := s_iconst (n := 1) (by decide) (by decide +kernel) (by decide +kernel) ok_X11_isPrimitive_2
theorem ok_X11_isPrimitive_0 : zOK l D tc A nS xs mM_X11_isPrimitive 0 q_X11_isPrimitive_0 := s_iload_n (q := 0) rfl (by decide +kernel) (by decide +kernel) ok_X11_isPrimitive_1
theorem ok_X11_letter_9 : zOK l D tc A nS xs mM_X11_letter 9 q_X11_letter_9 := s_iret rfl (by decide +kernel)
theorem ok_X11_letter_6 : zOK l D tc A nS xs mM_X11_letter 6 q_X11_letter_6 := r_callV zEE_ok zTw_gd kls_2 (M2 := mM_X2_letterOf) (na := 2) lb_39 calV_X2_letterOf rfl rfl w_620 (by decide +kernel) ok_X11_letter_9
theorem ok_X11_letter_5 : zOK l D tc A nS xs mM_X11_letter 5 q_X11_letter_5 := s_iload_n (q := 2) rfl (by decide +kernel) (by decide +kernel) ok_X11_letter_6
theorem ok_X11_letter_4 : zOK l D tc A nS xs mM_X11_letter 4 q_X11_letter_4 := s_iload_n (q := 1) rfl (by decide +kernel) (by decide +kernel) ok_X11_letter_5
theorem ok_X11_letter_1 : zOK l D tc A nS xs mM_X11_letter 1 q_X11_letter_1 := r_getf kls_11 (by decide) tx_11_5 rfl w_532 (by decide +kernel) ok_X11_letter_4
theorem ok_X11_letter_0 : zOK l D tc A nS xs mM_X11_letter 0 q_X11_letter_0 := s_aload_n (q := 0) rfl (by decide +kernel) (by decide +kernel) ok_X11_letter_1
theorem ok_X11_load_93 : zOK l D tc A nS xs mM_X11_load 93 q_X11_load_93 := s_iret rfl (by decide +kernel)
theorem ok_X11_load_90 : zOK l D tc A nS xs mM_X11_load 90 q_X11_load_90 := r_getN kls_6 (by decide) tx_6_6 rfl (fun U f h => h.1 _ (zNest_19)) (by decide +kernel) ok_X11_load_93
theorem ok_X11_load_87 : zOK l D tc A nS xs mM_X11_load 87 q_X11_load_87 := r_getf kls_11 (by decide) tx_11_8 rfl w_517 (by decide +kernel) ok_X11_load_90
theorem ok_X11_load_86 : zOK l D tc A nS xs mM_X11_load 86 q_X11_load_86 := s_aload_n (q := 0) rfl (by decide +kernel) (by decide +kernel) ok_X11_load_87
theorem ok_X11_load_58 : zOK l D tc A nS xs mM_X11_load 58 q_X11_load_58 := s_icmp_ge (tgt := 86) (off := 28) (by decide +kernel) (by decide) ok_X11_load_86 s_none
theorem ok_X11_load_55 : zOK l D tc A nS xs mM_X11_load 55 q_X11_load_55 := r_getN kls_5 (by decide) tx_5_3 rfl (fun U f h => h.1 _ (zNest_30)) (by decide +kernel) ok_X11_load_58
theorem ok_X11_load_52 : zOK l D tc A nS xs mM_X11_load 52 q_X11_load_52 := r_getf kls_11 (by decide) tx_11_11 rfl w_573 (by decide +kernel) ok_X11_load_55
theorem ok_X11_load_51 : zOK l D tc A nS xs mM_X11_load 51 q_X11_load_51 := s_aload_n (q := 0) rfl (by decide +kernel) (by decide +kernel) ok_X11_load_52
theorem ok_X11_load_50 : zOK l D tc A nS xs mM_X11_load 50 q_X11_load_50 := s_iload_n (q := 3) rfl (by decide +kernel) (by decide +kernel) ok_X11_load_51
theorem ok_X11_load_49 : zOK l D tc A nS xs mM_X11_load 49 q_X11_load_49 := s_istore_n (q := 3) rfl (by decide +kernel) (by decide +kernel) ok_X11_load_50
theorem ok_X11_load_48 : zOK l D tc A nS xs mM_X11_load 48 q_X11_load_48 := s_iconst (n := 0) (by decide) (by decide +kernel) (by decide +kernel) ok_X11_load_49
theorem ok_X11_load_43 : zOK l D tc A nS xs mM_X11_load 43 q_X11_load_43 := s_if_ne (tgt := 48) (off := 5) (by decide +kernel) (by decide) ok_X11_load_48 s_none
theorem ok_X11_load_42 : zOK l D tc A nS xs mM_X11_load 42 q_X11_load_42 := s_iload_n (q := 2) rfl (by decide +kernel) (by decide +kernel) ok_X11_load_43
theorem ok_X11_load_39 : zOK l D tc A nS xs mM_X11_load 39 q_X11_load_39 := r_putf kls_11 ty_11_17 zck_int (by decide) tx_11_17 rfl w_500 (by decide +kernel) ok_X11_load_42
theorem ok_X11_load_36 : zOK l D tc A nS xs mM_X11_load 36 q_X11_load_36 := r_getN kls_10 (by decide) tx_10_7 rfl (fun U f h => h.1 _ (zNest_28)) (by decide +kernel) ok_X11_load_39
theorem ok_X11_load_33 : zOK l D tc A nS xs mM_X11_load 33 q_X11_load_33 := r_getf kls_11 (by decide) tx_11_9 rfl w_511 (by decide +kernel) ok_X11_load_36
theorem ok_X11_load_32 : zOK l D tc A nS xs mM_X11_load 32 q_X11_load_32 := s_aload_n (q := 0) rfl (by decide +kernel) (by decide +kernel) ok_X11_load_33
theorem ok_X11_load_31 : zOK l D tc A nS xs mM_X11_load 31 q_X11_load_31 := s_aload_n (q := 0) rfl (by decide +kernel) (by decide +kernel) ok_X11_load_32
theorem ok_X11_load_28 : zOK l D tc A nS xs mM_X11_load 28 q_X11_load_28 := r_putf kls_11 ty_11_16 zck_int (by decide) tx_11_16 rfl w_501 (by decide +kernel) ok_X11_load_31
theorem ok_X11_load_25 : zOK l D tc A nS xs mM_X11_load 25 q_X11_load_25 := r_getN kls_10 (by decide) tx_10_6 rfl (fun U f h => h.1 _ (zNest_26)) (by decide +kernel) ok_X11_load_28
theorem ok_X11_load_22 : zOK l D tc A nS xs mM_X11_load 22 q_X11_load_22 := r_getf kls_11 (by decide) tx_11_9 rfl w_511 (by decide +kernel) ok_X11_load_25
theorem ok_X11_load_21 : zOK l D tc A nS xs mM_X11_load 21 q_X11_load_21 := s_aload_n (q := 0) rfl (by decide +kernel) (by decide +kernel) ok_X11_load_22
theorem ok_X11_load_20 : zOK l D tc A nS xs mM_X11_load 20 q_X11_load_20 := s_aload_n (q := 0) rfl (by decide +kernel) (by decide +kernel) ok_X11_load_21
theorem ok_X11_load_19 : zOK l D tc A nS xs mM_X11_load 19 q_X11_load_19 := s_istore_n (q := 2) rfl (by decide +kernel) (by decide +kernel) ok_X11_load_20
theorem ok_X11_load_16 : zOK l D tc A nS xs mM_X11_load 16 q_X11_load_16 := r_callV zEE_ok zTw_gd kls_11 (M2 := mM_X11_takeText) (na := 2) lb_169 calV_X11_takeText rfl rfl w_552 (by decide +kernel) ok_X11_load_19
theorem ok_X11_load_15 : zOK l D tc A nS xs mM_X11_load 15 q_X11_load_15 := s_iload_n (q := 1) rfl (by decide +kernel) (by decide +kernel) ok_X11_load_16
theorem ok_X11_load_12 : zOK l D tc A nS xs mM_X11_load 12 q_X11_load_12 := r_getf kls_11 (by decide) tx_11_0 rfl w_614 (by decide +kernel) ok_X11_load_15
theorem ok_X11_load_11 : zOK l D tc A nS xs mM_X11_load 11 q_X11_load_11 := s_aload_n (q := 0) rfl (by decide +kernel) (by decide +kernel) ok_X11_load_12
theorem ok_X11_load_10 : zOK l D tc A nS xs mM_X11_load 10 q_X11_load_10 := s_aload_n (q := 0) rfl (by decide +kernel) (by decide +kernel) ok_X11_load_11
theorem ok_X11_load_7 : zOK l D tc A nS xs mM_X11_load 7 q_X11_load_7 := r_putf kls_11 ty_11_1 zck_int (by decide) tx_11_1 rfl w_538 (by decide +kernel) ok_X11_load_10
theorem ok_X11_load_6 : zOK l D tc A nS xs mM_X11_load 6 q_X11_load_6 := s_iconst (n := 0) (by decide) (by decide +kernel) (by decide +kernel) ok_X11_load_7
theorem ok_X11_load_5 : zOK l D tc A nS xs mM_X11_load 5 q_X11_load_5 := s_aload_n (q := 0) rfl (by decide +kernel) (by decide +kernel) ok_X11_load_6
theorem ok_X11_load_4 : zOK l D tc A nS xs mM_X11_load 4 q_X11_load_4 := s_istore_n (q := 1) rfl (by decide +kernel) (by decide +kernel) ok_X11_load_5
theorem ok_X11_load_1 : zOK l D tc A nS xs mM_X11_load 1 q_X11_load_1 := r_getf kls_11 (by decide) tx_11_1 rfl w_538 (by decide +kernel) ok_X11_load_4
theorem ok_X11_load_0 : zOK l D tc A nS xs mM_X11_load 0 q_X11_load_0 := s_aload_n (q := 0) rfl (by decide +kernel) (by decide +kernel) ok_X11_load_1
theorem ok_X11_look_149 : zOK l D tc A nS xs mM_X11_look 149 q_X11_look_149 := s_iret rfl (by decide +kernel)
theorem ok_X11_look_148 : zOK l D tc A nS xs mM_X11_look 148 q_X11_look_148 := s_iconst (n := (-1)) (by decide) (by decide +kernel) (by decide +kernel) ok_X11_look_149
theorem ok_X11_look_147 : zOK l D tc A nS xs mM_X11_look 147 q_X11_look_147 := s_iret rfl (by decide +kernel)
theorem ok_X11_look_144 : zOK l D tc A nS xs mM_X11_look 144 q_X11_look_144 := r_getN kls_6 (by decide) tx_6_14 rfl (fun U f h => h.1 _ (zNest_22)) (by decide +kernel) ok_X11_look_147
theorem ok_X11_look_141 : zOK l D tc A nS xs mM_X11_look 141 q_X11_look_141 := r_getf kls_11 (by decide) tx_11_8 rfl w_517 (by decide +kernel) ok_X11_look_144
theorem ok_X11_look_140 : zOK l D tc A nS xs mM_X11_look 140 q_X11_look_140 := s_aload_n (q := 0) rfl (by decide +kernel) (by decide +kernel) ok_X11_look_141
theorem ok_X11_look_139 : zOK l D tc A nS xs mM_X11_look 139 q_X11_look_139 := s_iret rfl (by decide +kernel)
theorem ok_X11_look_136 : zOK l D tc A nS xs mM_X11_look 136 q_X11_look_136 := r_getN kls_7 (by decide) tx_7_10 rfl (fun U f h => h.1 _ (zNest_29)) (by decide +kernel) ok_X11_look_139
theorem ok_X11_look_133 : zOK l D tc A nS xs mM_X11_look 133 q_X11_look_133 := r_getf kls_11 (by decide) tx_11_10 rfl w_506 (by decide +kernel) ok_X11_look_136
theorem ok_X11_look_132 : zOK l D tc A nS xs mM_X11_look 132 q_X11_look_132 := s_aload_n (q := 0) rfl (by decide +kernel) (by decide +kernel) ok_X11_look_133
theorem ok_X11_look_131 : zOK l D tc A nS xs mM_X11_look 131 q_X11_look_131 := s_iret rfl (by decide +kernel)
theorem ok_X11_look_128 : zOK l D tc A nS xs mM_X11_look 128 q_X11_look_128 := r_getN kls_8 (by decide) tx_8_8 rfl (fun U f h => h.1 _ (zNest_18)) (by decide +kernel) ok_X11_look_131
theorem ok_X11_look_125 : zOK l D tc A nS xs mM_X11_look 125 q_X11_look_125 := r_getf kls_11 (by decide) tx_11_7 rfl w_522 (by decide +kernel) ok_X11_look_128
theorem ok_X11_look_124 : zOK l D tc A nS xs mM_X11_look 124 q_X11_look_124 := s_aload_n (q := 0) rfl (by decide +kernel) (by decide +kernel) ok_X11_look_125
theorem ok_X11_look_123 : zOK l D tc A nS xs mM_X11_look 123 q_X11_look_123 := s_iret rfl (by decide +kernel)
theorem ok_X11_look_120 : zOK l D tc A nS xs mM_X11_look 120 q_X11_look_120 := r_getN kls_6 (by decide) tx_6_8 rfl (fun U f h => h.1 _ (zNest_20)) (by decide +kernel) ok_X11_look_123
theorem ok_X11_look_117 : zOK l D tc A nS xs mM_X11_look 117 q_X11_look_117 := r_getf kls_11 (by decide) tx_11_8 rfl w_517 (by decide +kernel) ok_X11_look_120
theorem ok_X11_look_116 : zOK l D tc A nS xs mM_X11_look 116 q_X11_look_116 := s_aload_n (q := 0) rfl (by decide +kernel) (by decide +kernel) ok_X11_look_117
theorem ok_X11_look_115 : zOK l D tc A nS xs mM_X11_look 115 q_X11_look_115 := s_iret rfl (by decide +kernel)
theorem ok_X11_look_112 : zOK l D tc A nS xs mM_X11_look 112 q_X11_look_112 := r_getN kls_6 (by decide) tx_6_9 rfl (fun U f h => h.1 _ (zNest_21)) (by decide +kernel) ok_X11_look_115
theorem ok_X11_look_109 : zOK l D tc A nS xs mM_X11_look 109 q_X11_look_109 := r_getf kls_11 (by decide) tx_11_8 rfl w_517 (by decide +kernel) ok_X11_look_112
theorem ok_X11_look_108 : zOK l D tc A nS xs mM_X11_look 108 q_X11_look_108 := s_aload_n (q := 0) rfl (by decide +kernel) (by decide +kernel) ok_X11_look_109
theorem ok_X11_look_107 : zOK l D tc A nS xs mM_X11_look 107 q_X11_look_107 := s_iret rfl (by decide +kernel)
theorem ok_X11_look_104 : zOK l D tc A nS xs mM_X11_look 104 q_X11_look_104 := r_getN kls_2 (by decide) tx_2_4 rfl (fun U f h => h.1 _ (zNest_5)) (by decide +kernel) ok_X11_look_107
theorem ok_X11_look_101 : zOK l D tc A nS xs mM_X11_look 101 q_X11_look_101 := r_getf kls_11 (by decide) tx_11_5 rfl w_532 (by decide +kernel) ok_X11_look_104
theorem ok_X11_look_100 : zOK l D tc A nS xs mM_X11_look 100 q_X11_look_100 := s_aload_n (q := 0) rfl (by decide +kernel) (by decide +kernel) ok_X11_look_101
theorem ok_X11_look_99 : zOK l D tc A nS xs mM_X11_look 99 q_X11_look_99 := s_iret rfl (by decide +kernel)
theorem ok_X11_look_96 : zOK l D tc A nS xs mM_X11_look 96 q_X11_look_96 := r_getN kls_1 (by decide) tx_1_6 rfl (fun U f h => h.1 _ (zNest_13)) (by decide +kernel) ok_X11_look_99
theorem ok_X11_look_93 : zOK l D tc A nS xs mM_X11_look 93 q_X11_look_93 := r_getf kls_11 (by decide) tx_11_6 rfl w_527 (by decide +kernel) ok_X11_look_96
theorem ok_X11_look_92 : zOK l D tc A nS xs mM_X11_look 92 q_X11_look_92 := s_aload_n (q := 0) rfl (by decide +kernel) (by decide +kernel) ok_X11_look_93
theorem ok_X11_look_91 : zOK l D tc A nS xs mM_X11_look 91 q_X11_look_91 := s_iret rfl (by decide +kernel)
theorem ok_X11_look_88 : zOK l D tc A nS xs mM_X11_look 88 q_X11_look_88 := r_getN kls_1 (by decide) tx_1_5 rfl (fun U f h => h.1 _ (zNest_12)) (by decide +kernel) ok_X11_look_91
theorem ok_X11_look_85 : zOK l D tc A nS xs mM_X11_look 85 q_X11_look_85 := r_getf kls_11 (by decide) tx_11_6 rfl w_527 (by decide +kernel) ok_X11_look_88
theorem ok_X11_look_84 : zOK l D tc A nS xs mM_X11_look 84 q_X11_look_84 := s_aload_n (q := 0) rfl (by decide +kernel) (by decide +kernel) ok_X11_look_85
theorem ok_X11_look_83 : zOK l D tc A nS xs mM_X11_look 83 q_X11_look_83 := s_iret rfl (by decide +kernel)
theorem ok_X11_look_80 : zOK l D tc A nS xs mM_X11_look 80 q_X11_look_80 := r_getN kls_2 (by decide) tx_2_6 rfl (fun U f h => h.1 _ (zNest_10)) (by decide +kernel) ok_X11_look_83
theorem ok_X11_look_77 : zOK l D tc A nS xs mM_X11_look 77 q_X11_look_77 := r_getf kls_11 (by decide) tx_11_5 rfl w_532 (by decide +kernel) ok_X11_look_80
theorem ok_X11_look_76 : zOK l D tc A nS xs mM_X11_look 76 q_X11_look_76 := s_aload_n (q := 0) rfl (by decide +kernel) (by decide +kernel) ok_X11_look_77
theorem ok_X11_look_75 : zOK l D tc A nS xs mM_X11_look 75 q_X11_look_75 := s_iret rfl (by decide +kernel)
theorem ok_X11_look_72 : zOK l D tc A nS xs mM_X11_look 72 q_X11_look_72 := r_getN kls_2 (by decide) tx_2_5 rfl (fun U f h => h.1 _ (zNest_8)) (by decide +kernel) ok_X11_look_75
theorem ok_X11_look_69 : zOK l D tc A nS xs mM_X11_look 69 q_X11_look_69 := r_getf kls_11 (by decide) tx_11_5 rfl w_532 (by decide +kernel) ok_X11_look_72
theorem ok_X11_look_68 : zOK l D tc A nS xs mM_X11_look 68 q_X11_look_68 := s_aload_n (q := 0) rfl (by decide +kernel) (by decide +kernel) ok_X11_look_69
theorem ok_X11_look_67 : zOK l D tc A nS xs mM_X11_look 67 q_X11_look_67 := s_iret rfl (by decide +kernel)
theorem ok_X11_look_64 : zOK l D tc A nS xs mM_X11_look 64 q_X11_look_64 := r_getN kls_6 (by decide) tx_6_6 rfl (fun U f h => h.1 _ (zNest_19)) (by decide +kernel) ok_X11_look_67
theorem ok_X11_look_61 : zOK l D tc A nS xs mM_X11_look 61 q_X11_look_61 := r_getf kls_11 (by decide) tx_11_8 rfl w_517 (by decide +kernel) ok_X11_look_64
theorem ok_X11_look_60 : zOK l D tc A nS xs mM_X11_look 60 q_X11_look_60 := s_aload_n (q := 0) rfl (by decide +kernel) (by decide +kernel) ok_X11_look_61
theorem ok_X11_look_1 : zOK l D tc A nS xs mM_X11_look 1 q_X11_look_1 := r_tsw (ts := [(59, 60, q_X11_look_60), (67, 68, q_X11_look_68), (75, 76, q_X11_look_76), (83, 84, q_X11_look_84), (91, 92, q_X11_look_92), (99, 100, q_X11_look_100), (107, 108, q_X11_look_108), (115, 116, q_X11_look_116), (123, 124, q_X11_look_124), (131, 132, q_X11_look_132), (139, 140, q_X11_look_140)]) (dflt := 147) (hi := 10) (offs := #[59, 67, 75, 83, 91, 99, 107, 115, 123, 131, 139]) (len := 59) (tgt := 148) (by decide +kernel) (by decide +kernel) (by decide) (by decide) (by decide) ok_X11_look_148 (List.forall_mem_cons.mpr ⟨⟨by decide, ok_X11_look_60⟩, (List.forall_mem_cons.mpr ⟨⟨by decide, ok_X11_look_68⟩, (List.forall_mem_cons.mpr ⟨⟨by decide, ok_X11_look_76⟩, (List.forall_mem_cons.mpr ⟨⟨by decide, ok_X11_look_84⟩, (List.forall_mem_cons.mpr ⟨⟨by decide, ok_X11_look_92⟩, (List.forall_mem_cons.mpr ⟨⟨by decide, ok_X11_look_100⟩, (List.forall_mem_cons.mpr ⟨⟨by decide, ok_X11_look_108⟩, (List.forall_mem_cons.mpr ⟨⟨by decide, ok_X11_look_116⟩, (List.forall_mem_cons.mpr ⟨⟨by decide, ok_X11_look_124⟩, (List.forall_mem_cons.mpr ⟨⟨by decide, ok_X11_look_132⟩, (List.forall_mem_cons.mpr ⟨⟨by decide, ok_X11_look_140⟩, fun _ h => absurd h List.not_mem_nil⟩)⟩)⟩)⟩)⟩)⟩)⟩)⟩)⟩)⟩)⟩)
theorem ok_X11_look_0 : zOK l D tc A nS xs mM_X11_look 0 q_X11_look_0 := s_iload_n (q := 1) rfl (by decide +kernel) (by decide +kernel) ok_X11_look_1
theorem ok_X11_out_40 : zOK l D tc A nS xs mM_X11_out 40 q_X11_out_40 := s_iret rfl (by decide +kernel)
theorem ok_X11_out_39 : zOK l D tc A nS xs mM_X11_out 39 q_X11_out_39 := s_iconst (n := (-1)) (by decide) (by decide +kernel) (by decide +kernel) ok_X11_out_40
theorem ok_X11_out_12 : zOK l D tc A nS xs mM_X11_out 12 q_X11_out_12 := s_icmp_ge (tgt := 39) (off := 27) (by decide +kernel) (by decide) ok_X11_out_39 s_none
theorem ok_X11_out_9 : zOK l D tc A nS xs mM_X11_out 9 q_X11_out_9 := r_getN kls_8 (by decide) tx_8_7 rfl (fun U f h => h.1 _ (zNest_17)) (by decide +kernel) ok_X11_out_12
theorem ok_X11_out_6 : zOK l D tc A nS xs mM_X11_out 6 q_X11_out_6 := r_getf kls_11 (by decide) tx_11_7 rfl w_522 (by decide +kernel) ok_X11_out_9
theorem ok_X11_out_5 : zOK l D tc A nS xs mM_X11_out 5 q_X11_out_5 := s_aload_n (q := 0) rfl (by decide +kernel) (by decide +kernel) ok_X11_out_6
theorem ok_X11_out_4 : zOK l D tc A nS xs mM_X11_out 4 q_X11_out_4 := s_iload_n (q := 1) rfl (by decide +kernel) (by decide +kernel) ok_X11_out_5
theorem ok_X11_out_1 : zOK l D tc A nS xs mM_X11_out 1 q_X11_out_1 := s_if_lt (tgt := 39) (off := 38) (by decide +kernel) (by decide) ok_X11_out_39 ok_X11_out_4
theorem ok_X11_out_0 : zOK l D tc A nS xs mM_X11_out 0 q_X11_out_0 := s_iload_n (q := 1) rfl (by decide +kernel) (by decide +kernel) ok_X11_out_1
theorem ok_X11_peek_23 : zOK l D tc A nS xs mM_X11_peek 23 q_X11_peek_23 := s_iret rfl (by decide +kernel)
theorem ok_X11_peek_22 : zOK l D tc A nS xs mM_X11_peek 22 q_X11_peek_22 := s_iconst (n := (-1)) (by decide) (by decide +kernel) (by decide +kernel) ok_X11_peek_23
theorem ok_X11_peek_19 : zOK l D tc A nS xs mM_X11_peek 19 q_X11_peek_19 := s_goto (tgt := 23) (off := 4) (by decide +kernel) (by decide) ok_X11_peek_23
theorem ok_X11_peek_16 : zOK l D tc A nS xs mM_X11_peek 16 q_X11_peek_16 := r_callV zEE_ok zTw_gd kls_3 (M2 := mM_X3_at) (na := 1) lb_44 calV_X3_at rfl rfl w_624 (by decide +kernel) ok_X11_peek_19
theorem ok_X11_peek_15 : zOK l D tc A nS xs mM_X11_peek 15 q_X11_peek_15 := s_iload_n (q := 1) rfl (by decide +kernel) (by decide +kernel) ok_X11_peek_16
theorem ok_X11_peek_12 : zOK l D tc A nS xs mM_X11_peek 12 q_X11_peek_12 := r_getf kls_11 (by decide) tx_11_2 rfl w_547 (by decide +kernel) ok_X11_peek_15
theorem ok_X11_peek_11 : zOK l D tc A nS xs mM_X11_peek 11 q_X11_peek_11 := s_aload_n (q := 0) rfl (by decide +kernel) (by decide +kernel) ok_X11_peek_12
theorem ok_X11_peek_8 : zOK l D tc A nS xs mM_X11_peek 8 q_X11_peek_8 := s_if_eq (tgt := 22) (off := 14) (by decide +kernel) (by decide) ok_X11_peek_22 ok_X11_peek_11
theorem ok_X11_peek_5 : zOK l D tc A nS xs mM_X11_peek 5 q_X11_peek_5 := r_callV zEE_ok zTw_gd kls_3 (M2 := mM_X3_holds) (na := 1) lb_46 calV_X3_holds rfl rfl w_628 (by decide +kernel) ok_X11_peek_8
theorem ok_X11_peek_4 : zOK l D tc A nS xs mM_X11_peek 4 q_X11_peek_4 := s_iload_n (q := 1) rfl (by decide +kernel) (by decide +kernel) ok_X11_peek_5
theorem ok_X11_peek_1 : zOK l D tc A nS xs mM_X11_peek 1 q_X11_peek_1 := r_getf kls_11 (by decide) tx_11_2 rfl w_547 (by decide +kernel) ok_X11_peek_4
theorem ok_X11_peek_0 : zOK l D tc A nS xs mM_X11_peek 0 q_X11_peek_0 := s_aload_n (q := 0) rfl (by decide +kernel) (by decide +kernel) ok_X11_peek_1
theorem ok_X11_poke_23 : zOK l D tc A nS xs mM_X11_poke 23 q_X11_poke_23 := s_zret rfl (by decide +kernel)
theorem ok_X11_poke_22 : zOK l D tc A nS xs mM_X11_poke 22 q_X11_poke_22 := s_iconst (n := 1) (by decide) (by decide +kernel) (by decide +kernel) ok_X11_poke_23
theorem ok_X11_poke_19 : zOK l D tc A nS xs mM_X11_poke 19 q_X11_poke_19 := r_callV zEE_ok zTw_gd kls_3 (M2 := mM_X3_put) (na := 2) lb_49 calV_X3_put rfl rfl w_629 (by decide +kernel) ok_X11_poke_22
theorem ok_X11_poke_18 : zOK l D tc A nS xs mM_X11_poke 18 q_X11_poke_18 := s_iload_n (q := 2) rfl (by decide +kernel) (by decide +kernel) ok_X11_poke_19
theorem ok_X11_poke_17 : zOK l D tc A nS xs mM_X11_poke 17 q_X11_poke_17 := s_iload_n (q := 1) rfl (by decide +kernel) (by decide +kernel) ok_X11_poke_18
theorem ok_X11_poke_14 : zOK l D tc A nS xs mM_X11_poke 14 q_X11_poke_14 := r_getf kls_11 (by decide) tx_11_2 rfl w_547 (by decide +kernel) ok_X11_poke_17
theorem ok_X11_poke_13 : zOK l D tc A nS xs mM_X11_poke 13 q_X11_poke_13 := s_aload_n (q := 0) rfl (by decide +kernel) (by decide +kernel) ok_X11_poke_14
theorem ok_X11_poke_12 : zOK l D tc A nS xs mM_X11_poke 12 q_X11_poke_12 := s_zret rfl (by decide +kernel)
theorem ok_X11_poke_11 : zOK l D tc A nS xs mM_X11_poke 11 q_X11_poke_11 := s_iconst (n := 0) (by decide) (by decide +kernel) (by decide +kernel) ok_X11_poke_12
theorem ok_X11_poke_8 : zOK l D tc A nS xs mM_X11_poke 8 q_X11_poke_8 := s_if_ne (tgt := 13) (off := 5) (by decide +kernel) (by decide) ok_X11_poke_13 ok_X11_poke_11
theorem ok_X11_poke_5 : zOK l D tc A nS xs mM_X11_poke 5 q_X11_poke_5 := r_callV zEE_ok zTw_gd kls_3 (M2 := mM_X3_holds) (na := 1) lb_46 calV_X3_holds rfl rfl w_628 (by decide +kernel) ok_X11_poke_8
theorem ok_X11_poke_4 : zOK l D tc A nS xs mM_X11_poke 4 q_X11_poke_4 := s_iload_n (q := 1) rfl (by decide +kernel) (by decide +kernel) ok_X11_poke_5
theorem ok_X11_poke_1 : zOK l D tc A nS xs mM_X11_poke 1 q_X11_poke_1 := r_getf kls_11 (by decide) tx_11_2 rfl w_547 (by decide +kernel) ok_X11_poke_4
theorem ok_X11_poke_0 : zOK l D tc A nS xs mM_X11_poke 0 q_X11_poke_0 := s_aload_n (q := 0) rfl (by decide +kernel) (by decide +kernel) ok_X11_poke_1
theorem ok_X11_readNames_85 : zOK l D tc A nS xs mM_X11_readNames 85 q_X11_readNames_85 := s_vret rfl (by decide +kernel)
theorem ok_X11_readNames_82 : zOK l D tc A nS xs mM_X11_readNames 82 q_X11_readNames_82 := s_goto (tgt := 47) (off := (-35)) (by decide +kernel) (by decide) (s_back lb_163)
theorem ok_X11_readNames_79 : zOK l D tc A nS xs mM_X11_readNames 79 q_X11_readNames_79 := s_iinc (n := 1) (by decide +kernel) (by decide +kernel) (by decide +kernel) ok_X11_readNames_82
theorem ok_X11_readNames_76 : zOK l D tc A nS xs mM_X11_readNames 76 q_X11_readNames_76 := r_callV zEE_ok zTw_gd kls_3 (M2 := mM_X3_put) (na := 2) lb_49 calV_X3_put rfl rfl w_629 (by decide +kernel) ok_X11_readNames_79
theorem ok_X11_readNames_75 : zOK l D tc A nS xs mM_X11_readNames 75 q_X11_readNames_75 := s_iadd (by decide +kernel) ok_X11_readNames_76
theorem ok_X11_readNames_74 : zOK l D tc A nS xs mM_X11_readNames 74 q_X11_readNames_74 := s_imul (by decide +kernel) ok_X11_readNames_75
theorem ok_X11_readNames_73 : zOK l D tc A nS xs mM_X11_readNames 73 q_X11_readNames_73 := s_iload_n (q := 1) rfl (by decide +kernel) (by decide +kernel) ok_X11_readNames_74
theorem ok_X11_readNames_72 : zOK l D tc A nS xs mM_X11_readNames 72 q_X11_readNames_72 := s_iconst (n := 2) (by decide) (by decide +kernel) (by decide +kernel) ok_X11_readNames_73
theorem ok_X11_readNames_70 : zOK l D tc A nS xs mM_X11_readNames 70 q_X11_readNames_70 := s_bipush (n := 16) (by decide) (by decide +kernel) (by decide +kernel) ok_X11_readNames_72
theorem ok_X11_readNames_69 : zOK l D tc A nS xs mM_X11_readNames 69 q_X11_readNames_69 := s_iadd (by decide +kernel) ok_X11_readNames_70
theorem ok_X11_readNames_68 : zOK l D tc A nS xs mM_X11_readNames 68 q_X11_readNames_68 := s_iconst (n := 2) (by decide) (by decide +kernel) (by decide +kernel) ok_X11_readNames_69
theorem ok_X11_readNames_65 : zOK l D tc A nS xs mM_X11_readNames 65 q_X11_readNames_65 := r_callV zEE_ok zTw_gd kls_2 (M2 := mM_X2_placeOf) (na := 1) lb_41 calV_X2_placeOf rfl rfl w_630 (by decide +kernel) ok_X11_readNames_68
theorem ok_X11_readNames_64 : zOK l D tc A nS xs mM_X11_readNames 64 q_X11_readNames_64 := s_iadd (by decide +kernel) ok_X11_readNames_65
theorem ok_X11_readNames_63 : zOK l D tc A nS xs mM_X11_readNames 63 q_X11_readNames_63 := s_iload_n (q := 1) rfl (by decide +kernel) (by decide +kernel) ok_X11_readNames_64
theorem ok_X11_readNames_61 : zOK l D tc A nS xs mM_X11_readNames 61 q_X11_readNames_61 := s_bipush (n := 11) (by decide) (by decide +kernel) (by decide +kernel) ok_X11_readNames_63
theorem ok_X11_readNames_58 : zOK l D tc A nS xs mM_X11_readNames 58 q_X11_readNames_58 := r_getf kls_11 (by decide) tx_11_5 rfl w_532 (by decide +kernel) ok_X11_readNames_61
theorem ok_X11_readNames_57 : zOK l D tc A nS xs mM_X11_readNames 57 q_X11_readNames_57 := s_aload_n (q := 0) rfl (by decide +kernel) (by decide +kernel) ok_X11_readNames_58
theorem ok_X11_readNames_54 : zOK l D tc A nS xs mM_X11_readNames 54 q_X11_readNames_54 := r_getf kls_11 (by decide) tx_11_4 rfl w_537 (by decide +kernel) ok_X11_readNames_57
theorem ok_X11_readNames_53 : zOK l D tc A nS xs mM_X11_readNames 53 q_X11_readNames_53 := s_aload_n (q := 0) rfl (by decide +kernel) (by decide +kernel) ok_X11_readNames_54
theorem ok_X11_readNames_50 : zOK l D tc A nS xs mM_X11_readNames 50 q_X11_readNames_50 := s_icmp_ge (tgt := 85) (off := 35) (by decide +kernel) (by decide) ok_X11_readNames_85 ok_X11_readNames_53
theorem ok_X11_readNames_48 : zOK l D tc A nS xs mM_X11_readNames 48 q_X11_readNames_48 := s_bipush (n := 27) (by decide) (by decide +kernel) (by decide +kernel) ok_X11_readNames_50
theorem ok_X11_readNames_47 : zOK l D tc A nS xs mM_X11_readNames 47 q_X11_readNames_47 := s_iload_n (q := 1) rfl (by decide +kernel) (by decide +kernel) ok_X11_readNames_48
theorem ok_X11_readNames_46 : zOK l D tc A nS xs mM_X11_readNames 46 q_X11_readNames_46 := s_istore_n (q := 1) rfl (by decide +kernel) (by decide +kernel) ok_X11_readNames_47
theorem ok_X11_readNames_45 : zOK l D tc A nS xs mM_X11_readNames 45 q_X11_readNames_45 := s_iconst (n := 0) (by decide) (by decide +kernel) (by decide +kernel) ok_X11_readNames_46
theorem ok_X11_readNames_42 : zOK l D tc A nS xs mM_X11_readNames 42 q_X11_readNames_42 := r_callV zEE_ok zTw_gd kls_5 (M2 := mM_X5_readAll) (na := 2) lb_77 calV_X5_readAll rfl rfl w_631 (by decide +kernel) ok_X11_readNames_45
theorem ok_X11_readNames_39 : zOK l D tc A nS xs mM_X11_readNames 39 q_X11_readNames_39 := r_getf kls_11 (by decide) tx_11_15 rfl w_555 (by decide +kernel) ok_X11_readNames_42
theorem ok_X11_readNames_38 : zOK l D tc A nS xs mM_X11_readNames 38 q_X11_readNames_38 := s_aload_n (q := 0) rfl (by decide +kernel) (by decide +kernel) ok_X11_readNames_39
theorem ok_X11_readNames_35 : zOK l D tc A nS xs mM_X11_readNames 35 q_X11_readNames_35 := r_getf kls_11 (by decide) tx_11_14 rfl w_556 (by decide +kernel) ok_X11_readNames_38
theorem ok_X11_readNames_34 : zOK l D tc A nS xs mM_X11_readNames 34 q_X11_readNames_34 := s_aload_n (q := 0) rfl (by decide +kernel) (by decide +kernel) ok_X11_readNames_35
theorem ok_X11_readNames_31 : zOK l D tc A nS xs mM_X11_readNames 31 q_X11_readNames_31 := r_getf kls_11 (by decide) tx_11_11 rfl w_573 (by decide +kernel) ok_X11_readNames_34
theorem ok_X11_readNames_30 : zOK l D tc A nS xs mM_X11_readNames 30 q_X11_readNames_30 := s_aload_n (q := 0) rfl (by decide +kernel) (by decide +kernel) ok_X11_readNames_31
theorem ok_X11_readNames_27 : zOK l D tc A nS xs mM_X11_readNames 27 q_X11_readNames_27 := r_callV zEE_ok zTw_gd kls_10 (M2 := mM_X10_begin) (na := 0) lb_119 calV_X10_begin rfl rfl w_635 (by decide +kernel) ok_X11_readNames_30
theorem ok_X11_readNames_24 : zOK l D tc A nS xs mM_X11_readNames 24 q_X11_readNames_24 := r_getf kls_11 (by decide) tx_11_9 rfl w_511 (by decide +kernel) ok_X11_readNames_27
theorem ok_X11_readNames_23 : zOK l D tc A nS xs mM_X11_readNames 23 q_X11_readNames_23 := s_aload_n (q := 0) rfl (by decide +kernel) (by decide +kernel) ok_X11_readNames_24
theorem ok_X11_readNames_20 : zOK l D tc A nS xs mM_X11_readNames 20 q_X11_readNames_20 := r_callV zEE_ok zTw_gd kls_11 (M2 := mM_X11_write) (na := 1) lb_175 calV_X11_write rfl rfl w_636 (by decide +kernel) ok_X11_readNames_23
theorem ok_X11_readNames_18 : zOK l D tc A nS xs mM_X11_readNames 18 q_X11_readNames_18 := r_ldcS (j := 2) (by decide) rfl zstr_2 (by decide +kernel) ok_X11_readNames_20
theorem ok_X11_readNames_17 : zOK l D tc A nS xs mM_X11_readNames 17 q_X11_readNames_17 := s_aload_n (q := 0) rfl (by decide +kernel) (by decide +kernel) ok_X11_readNames_18
theorem ok_X11_readNames_14 : zOK l D tc A nS xs mM_X11_readNames 14 q_X11_readNames_14 := r_callV zEE_ok zTw_gd kls_11 (M2 := mM_X11_write) (na := 1) lb_175 calV_X11_write rfl rfl w_636 (by decide +kernel) ok_X11_readNames_17
theorem ok_X11_readNames_12 : zOK l D tc A nS xs mM_X11_readNames 12 q_X11_readNames_12 := r_ldcS (j := 1) (by decide) rfl zstr_1 (by decide +kernel) ok_X11_readNames_14
theorem ok_X11_readNames_11 : zOK l D tc A nS xs mM_X11_readNames 11 q_X11_readNames_11 := s_aload_n (q := 0) rfl (by decide +kernel) (by decide +kernel) ok_X11_readNames_12
theorem ok_X11_readNames_8 : zOK l D tc A nS xs mM_X11_readNames 8 q_X11_readNames_8 := r_callV zEE_ok zTw_gd kls_11 (M2 := mM_X11_write) (na := 1) lb_175 calV_X11_write rfl rfl w_636 (by decide +kernel) ok_X11_readNames_11
theorem ok_X11_readNames_6 : zOK l D tc A nS xs mM_X11_readNames 6 q_X11_readNames_6 := r_ldcS (j := 0) (by decide) rfl zstr_0 (by decide +kernel) ok_X11_readNames_8
theorem ok_X11_readNames_5 : zOK l D tc A nS xs mM_X11_readNames 5 q_X11_readNames_5 := s_aload_n (q := 0) rfl (by decide +kernel) (by decide +kernel) ok_X11_readNames_6
theorem ok_X11_readNames_2 : zOK l D tc A nS xs mM_X11_readNames 2 q_X11_readNames_2 := r_putf kls_11 ty_11_15 zck_int (by decide) tx_11_15 rfl w_555 (by decide +kernel) ok_X11_readNames_5
theorem ok_X11_readNames_1 : zOK l D tc A nS xs mM_X11_readNames 1 q_X11_readNames_1 := s_iconst (n := 0) (by decide) (by decide +kernel) (by decide +kernel) ok_X11_readNames_2
theorem ok_X11_readNames_0 : zOK l D tc A nS xs mM_X11_readNames 0 q_X11_readNames_0 := s_aload_n (q := 0) rfl (by decide +kernel) (by decide +kernel) ok_X11_readNames_1
theorem ok_X11_register_8 : zOK l D tc A nS xs mM_X11_register 8 q_X11_register_8 := s_iret rfl (by decide +kernel)
theorem ok_X11_register_5 : zOK l D tc A nS xs mM_X11_register 5 q_X11_register_5 := r_callV zEE_ok zTw_gd kls_3 (M2 := mM_X3_told) (na := 1) lb_52 calV_X3_told rfl rfl w_548 (by decide +kernel) ok_X11_register_8
theorem ok_X11_register_4 : zOK l D tc A nS xs mM_X11_register 4 q_X11_register_4 := s_iload_n (q := 1) rfl (by decide +kernel) (by decide +kernel) ok_X11_register_5
theorem ok_X11_register_1 : zOK l D tc A nS xs mM_X11_register 1 q_X11_register_1 := r_getf kls_11 (by decide) tx_11_4 rfl w_537 (by decide +kernel) ok_X11_register_4
theorem ok_X11_register_0 : zOK l D tc A nS xs mM_X11_register 0 q_X11_register_0 := s_aload_n (q := 0) rfl (by decide +kernel) (by decide +kernel) ok_X11_register_1
theorem ok_X11_reset_25 : zOK l D tc A nS xs mM_X11_reset 25 q_X11_reset_25 := s_vret rfl (by decide +kernel)
theorem ok_X11_reset_24 : zOK l D tc A nS xs mM_X11_reset 24 q_X11_reset_24 := s_pop (by decide +kernel) ok_X11_reset_25
theorem ok_X11_reset_21 : zOK l D tc A nS xs mM_X11_reset 21 q_X11_reset_21 := r_callV zEE_ok zTw_gd kls_11 (M2 := mM_X11_takeText) (na := 2) lb_169 calV_X11_takeText rfl rfl w_552 (by decide +kernel) ok_X11_reset_24
theorem ok_X11_reset_18 : zOK l D tc A nS xs mM_X11_reset 18 q_X11_reset_18 := r_getf kls_11 (by decide) tx_11_15 rfl w_555 (by decide +kernel) ok_X11_reset_21
theorem ok_X11_reset_17 : zOK l D tc A nS xs mM_X11_reset 17 q_X11_reset_17 := s_aload_n (q := 0) rfl (by decide +kernel) (by decide +kernel) ok_X11_reset_18
theorem ok_X11_reset_14 : zOK l D tc A nS xs mM_X11_reset 14 q_X11_reset_14 := r_getf kls_11 (by decide) tx_11_14 rfl w_556 (by decide +kernel) ok_X11_reset_17
theorem ok_X11_reset_13 : zOK l D tc A nS xs mM_X11_reset 13 q_X11_reset_13 := s_aload_n (q := 0) rfl (by decide +kernel) (by decide +kernel) ok_X11_reset_14
theorem ok_X11_reset_12 : zOK l D tc A nS xs mM_X11_reset 12 q_X11_reset_12 := s_aload_n (q := 0) rfl (by decide +kernel) (by decide +kernel) ok_X11_reset_13
theorem ok_X11_reset_9 : zOK l D tc A nS xs mM_X11_reset 9 q_X11_reset_9 := r_callV zEE_ok zTw_gd kls_11 (M2 := mM_X11_writePrelude) (na := 0) lb_177 calV_X11_writePrelude rfl rfl w_557 (by decide +kernel) ok_X11_reset_12
theorem ok_X11_reset_8 : zOK l D tc A nS xs mM_X11_reset 8 q_X11_reset_8 := s_aload_n (q := 0) rfl (by decide +kernel) (by decide +kernel) ok_X11_reset_9
theorem ok_X11_reset_5 : zOK l D tc A nS xs mM_X11_reset 5 q_X11_reset_5 := r_callV zEE_ok zTw_gd kls_11 (M2 := mM_X11_readNames) (na := 0) lb_162 calV_X11_readNames rfl rfl w_560 (by decide +kernel) ok_X11_reset_8
theorem ok_X11_reset_4 : zOK l D tc A nS xs mM_X11_reset 4 q_X11_reset_4 := s_aload_n (q := 0) rfl (by decide +kernel) (by decide +kernel) ok_X11_reset_5
theorem ok_X11_reset_1 : zOK l D tc A nS xs mM_X11_reset 1 q_X11_reset_1 := r_callV zEE_ok zTw_gd kls_11 (M2 := mM_X11_clearScheme) (na := 0) lb_145 calV_X11_clearScheme rfl rfl w_563 (by decide +kernel) ok_X11_reset_4
theorem ok_X11_reset_0 : zOK l D tc A nS xs mM_X11_reset 0 q_X11_reset_0 := s_aload_n (q := 0) rfl (by decide +kernel) (by decide +kernel) ok_X11_reset_1
theorem ok_X11_run_22 : zOK l D tc A nS xs mM_X11_run 22 q_X11_run_22 := s_iret rfl (by decide +kernel)
theorem ok_X11_run_19 : zOK l D tc A nS xs mM_X11_run 19 q_X11_run_19 := r_callV zEE_ok zTw_gd kls_6 (M2 := mM_X6_proceed) (na := 1) lb_90 calV_X6_proceed rfl rfl w_639 (by decide +kernel) ok_X11_run_22
theorem ok_X11_run_18 : zOK l D tc A nS xs mM_X11_run 18 q_X11_run_18 := s_iload_n (q := 1) rfl (by decide +kernel) (by decide +kernel) ok_X11_run_19
theorem ok_X11_run_15 : zOK l D tc A nS xs mM_X11_run 15 q_X11_run_15 := r_getf kls_11 (by decide) tx_11_8 rfl w_517 (by decide +kernel) ok_X11_run_18
theorem ok_X11_run_14 : zOK l D tc A nS xs mM_X11_run 14 q_X11_run_14 := s_aload_n (q := 0) rfl (by decide +kernel) (by decide +kernel) ok_X11_run_15
theorem ok_X11_run_13 : zOK l D tc A nS xs mM_X11_run 13 q_X11_run_13 := s_iret rfl (by decide +kernel)
theorem ok_X11_run_12 : zOK l D tc A nS xs mM_X11_run 12 q_X11_run_12 := s_iconst (n := (-1)) (by decide) (by decide +kernel) (by decide +kernel) ok_X11_run_13
theorem ok_X11_run_9 : zOK l D tc A nS xs mM_X11_run 9 q_X11_run_9 := s_icmp_le (tgt := 14) (off := 5) (by decide +kernel) (by decide) ok_X11_run_14 ok_X11_run_12
theorem ok_X11_run_6 : zOK l D tc A nS xs mM_X11_run 6 q_X11_run_6 := s_sipush (n := 20000) (by decide) (by decide +kernel) (by decide +kernel) ok_X11_run_9
theorem ok_X11_run_5 : zOK l D tc A nS xs mM_X11_run 5 q_X11_run_5 := s_iload_n (q := 1) rfl (by decide +kernel) (by decide +kernel) ok_X11_run_6
theorem ok_X11_run_2 : zOK l D tc A nS xs mM_X11_run 2 q_X11_run_2 := s_icmp_lt (tgt := 12) (off := 10) (by decide +kernel) (by decide) ok_X11_run_12 ok_X11_run_5
theorem ok_X11_run_1 : zOK l D tc A nS xs mM_X11_run 1 q_X11_run_1 := s_iconst (n := 1) (by decide) (by decide +kernel) (by decide +kernel) ok_X11_run_2
theorem ok_X11_run_0 : zOK l D tc A nS xs mM_X11_run 0 q_X11_run_0 := s_iload_n (q := 1) rfl (by decide +kernel) (by decide +kernel) ok_X11_run_1
theorem ok_X11_set_42 : zOK l D tc A nS xs mM_X11_set 42 q_X11_set_42 := s_zret rfl (by decide +kernel)
theorem ok_X11_set_41 : zOK l D tc A nS xs mM_X11_set 41 q_X11_set_41 := s_iconst (n := 1) (by decide) (by decide +kernel) (by decide +kernel) ok_X11_set_42
theorem ok_X11_set_40 : zOK l D tc A nS xs mM_X11_set 40 q_X11_set_40 := s_iast (t0 := 0) (by decide) (by decide) rfl (by decide +kernel) ok_X11_set_41
theorem ok_X11_set_39 : zOK l D tc A nS xs mM_X11_set 39 q_X11_set_39 := s_iand (by decide +kernel) ok_X11_set_40
theorem ok_X11_set_37 : zOK l D tc A nS xs mM_X11_set 37 q_X11_set_37 := r_ldc (by decide) (x := (65535 : Int32)) (by decide +kernel) rfl w_643 (by decide +kernel) ok_X11_set_39
theorem ok_X11_set_36 : zOK l D tc A nS xs mM_X11_set 36 q_X11_set_36 := s_iload_n (q := 2) rfl (by decide +kernel) (by decide +kernel) ok_X11_set_37
theorem ok_X11_set_35 : zOK l D tc A nS xs mM_X11_set 35 q_X11_set_35 := s_iload_n (q := 1) rfl (by decide +kernel) (by decide +kernel) ok_X11_set_36
theorem ok_X11_set_32 : zOK l D tc A nS xs mM_X11_set 32 q_X11_set_32 := r_getN kls_3 (by decide) tx_3_1 rfl (fun U f h => h.1 _ (zNest_1)) (by decide +kernel) ok_X11_set_35
theorem ok_X11_set_29 : zOK l D tc A nS xs mM_X11_set 29 q_X11_set_29 := r_getf kls_11 (by decide) tx_11_2 rfl w_547 (by decide +kernel) ok_X11_set_32
theorem ok_X11_set_28 : zOK l D tc A nS xs mM_X11_set 28 q_X11_set_28 := s_aload_n (q := 0) rfl (by decide +kernel) (by decide +kernel) ok_X11_set_29
theorem ok_X11_set_27 : zOK l D tc A nS xs mM_X11_set 27 q_X11_set_27 := s_zret rfl (by decide +kernel)
theorem ok_X11_set_26 : zOK l D tc A nS xs mM_X11_set 26 q_X11_set_26 := s_iconst (n := 0) (by decide) (by decide +kernel) (by decide +kernel) ok_X11_set_27
theorem ok_X11_set_23 : zOK l D tc A nS xs mM_X11_set 23 q_X11_set_23 := s_icmp_le (tgt := 28) (off := 5) (by decide +kernel) (by decide) ok_X11_set_28 ok_X11_set_26
theorem ok_X11_set_21 : zOK l D tc A nS xs mM_X11_set 21 q_X11_set_21 := s_bipush (n := 7) (by decide) (by decide +kernel) (by decide +kernel) ok_X11_set_23
theorem ok_X11_set_20 : zOK l D tc A nS xs mM_X11_set 20 q_X11_set_20 := s_iload_n (q := 1) rfl (by decide +kernel) (by decide +kernel) ok_X11_set_21
theorem ok_X11_set_17 : zOK l D tc A nS xs mM_X11_set 17 q_X11_set_17 := s_if_lt (tgt := 26) (off := 9) (by decide +kernel) (by decide) ok_X11_set_26 ok_X11_set_20
theorem ok_X11_set_16 : zOK l D tc A nS xs mM_X11_set 16 q_X11_set_16 := s_iload_n (q := 1) rfl (by decide +kernel) (by decide +kernel) ok_X11_set_17
theorem ok_X11_set_15 : zOK l D tc A nS xs mM_X11_set 15 q_X11_set_15 := s_zret rfl (by decide +kernel)
theorem ok_X11_set_14 : zOK l D tc A nS xs mM_X11_set 14 q_X11_set_14 := s_iconst (n := 1) (by decide) (by decide +kernel) (by decide +kernel) ok_X11_set_15
theorem ok_X11_set_11 : zOK l D tc A nS xs mM_X11_set 11 q_X11_set_11 := r_callV zEE_ok zTw_gd kls_3 (M2 := mM_X3_putFlags) (na := 1) lb_50 calV_X3_putFlags rfl rfl w_644 (by decide +kernel) ok_X11_set_14
theorem ok_X11_set_10 : zOK l D tc A nS xs mM_X11_set 10 q_X11_set_10 := s_iload_n (q := 2) rfl (by decide +kernel) (by decide +kernel) ok_X11_set_11
theorem ok_X11_set_7 : zOK l D tc A nS xs mM_X11_set 7 q_X11_set_7 := r_getf kls_11 (by decide) tx_11_2 rfl w_547 (by decide +kernel) ok_X11_set_10
theorem ok_X11_set_6 : zOK l D tc A nS xs mM_X11_set 6 q_X11_set_6 := s_aload_n (q := 0) rfl (by decide +kernel) (by decide +kernel) ok_X11_set_7
theorem ok_X11_set_3 : zOK l D tc A nS xs mM_X11_set 3 q_X11_set_3 := s_icmp_ne (tgt := 16) (off := 13) (by decide +kernel) (by decide) ok_X11_set_16 ok_X11_set_6
theorem ok_X11_set_1 : zOK l D tc A nS xs mM_X11_set 1 q_X11_set_1 := s_bipush (n := 8) (by decide) (by decide +kernel) (by decide +kernel) ok_X11_set_3
theorem ok_X11_set_0 : zOK l D tc A nS xs mM_X11_set 0 q_X11_set_0 := s_iload_n (q := 1) rfl (by decide +kernel) (by decide +kernel) ok_X11_set_1
theorem ok_X11_shown_56 : zOK l D tc A nS xs mM_X11_shown 56 q_X11_shown_56 := s_iret rfl (by decide +kernel)
theorem ok_X11_shown_55 : zOK l D tc A nS xs mM_X11_shown 55 q_X11_shown_55 := s_iconst (n := (-1)) (by decide) (by decide +kernel) (by decide +kernel) ok_X11_shown_56
theorem ok_X11_shown_28 : zOK l D tc A nS xs mM_X11_shown 28 q_X11_shown_28 := s_icmp_ge (tgt := 55) (off := 27) (by decide +kernel) (by decide) ok_X11_shown_55 s_none
theorem ok_X11_shown_25 : zOK l D tc A nS xs mM_X11_shown 25 q_X11_shown_25 := r_getN kls_8 (by decide) tx_8_3 rfl (fun U f h => h.1 _ (zNest_15)) (by decide +kernel) ok_X11_shown_28
theorem ok_X11_shown_22 : zOK l D tc A nS xs mM_X11_shown 22 q_X11_shown_22 := r_getf kls_11 (by decide) tx_11_7 rfl w_522 (by decide +kernel) ok_X11_shown_25
theorem ok_X11_shown_21 : zOK l D tc A nS xs mM_X11_shown 21 q_X11_shown_21 := s_aload_n (q := 0) rfl (by decide +kernel) (by decide +kernel) ok_X11_shown_22
theorem ok_X11_shown_20 : zOK l D tc A nS xs mM_X11_shown 20 q_X11_shown_20 := s_iload_n (q := 1) rfl (by decide +kernel) (by decide +kernel) ok_X11_shown_21
theorem ok_X11_shown_17 : zOK l D tc A nS xs mM_X11_shown 17 q_X11_shown_17 := s_if_lt (tgt := 55) (off := 38) (by decide +kernel) (by decide) ok_X11_shown_55 ok_X11_shown_20
theorem ok_X11_shown_16 : zOK l D tc A nS xs mM_X11_shown 16 q_X11_shown_16 := s_iload_n (q := 1) rfl (by decide +kernel) (by decide +kernel) ok_X11_shown_17
theorem ok_X11_shown_13 : zOK l D tc A nS xs mM_X11_shown 13 q_X11_shown_13 := r_callV zEE_ok zTw_gd kls_8 (M2 := mM_X8_render) (na := 1) lb_107 calV_X8_render rfl rfl w_645 (by decide +kernel) ok_X11_shown_16
theorem ok_X11_shown_12 : zOK l D tc A nS xs mM_X11_shown 12 q_X11_shown_12 := s_iald (t0 := 0) (by decide) (by decide) rfl (by decide +kernel) ok_X11_shown_13
theorem ok_X11_shown_11 : zOK l D tc A nS xs mM_X11_shown 11 q_X11_shown_11 := s_iconst (n := 0) (by decide) (by decide +kernel) (by decide +kernel) ok_X11_shown_12
theorem ok_X11_shown_8 : zOK l D tc A nS xs mM_X11_shown 8 q_X11_shown_8 := r_getN kls_3 (by decide) tx_3_1 rfl (fun U f h => h.1 _ (zNest_1)) (by decide +kernel) ok_X11_shown_11
theorem ok_X11_shown_5 : zOK l D tc A nS xs mM_X11_shown 5 q_X11_shown_5 := r_getf kls_11 (by decide) tx_11_4 rfl w_537 (by decide +kernel) ok_X11_shown_8
theorem ok_X11_shown_4 : zOK l D tc A nS xs mM_X11_shown 4 q_X11_shown_4 := s_aload_n (q := 0) rfl (by decide +kernel) (by decide +kernel) ok_X11_shown_5
theorem ok_X11_shown_1 : zOK l D tc A nS xs mM_X11_shown 1 q_X11_shown_1 := r_getf kls_11 (by decide) tx_11_7 rfl w_522 (by decide +kernel) ok_X11_shown_4
theorem ok_X11_shown_0 : zOK l D tc A nS xs mM_X11_shown 0 q_X11_shown_0 := s_aload_n (q := 0) rfl (by decide +kernel) (by decide +kernel) ok_X11_shown_1
theorem ok_X11_takeText_168 : zOK l D tc A nS xs mM_X11_takeText 168 q_X11_takeText_168 := s_zret rfl (by decide +kernel)
theorem ok_X11_takeText_167 : zOK l D tc A nS xs mM_X11_takeText 167 q_X11_takeText_167 := s_iconst (n := 1) (by decide) (by decide +kernel) (by decide +kernel) ok_X11_takeText_168
theorem ok_X11_takeText_164 : zOK l D tc A nS xs mM_X11_takeText 164 q_X11_takeText_164 := r_callV zEE_ok zTw_gd kls_7 (M2 := mM_X7_keep) (na := 0) lb_94 calV_X7_keep rfl rfl w_649 (by decide +kernel) ok_X11_takeText_167
theorem ok_X11_takeText_161 : zOK l D tc A nS xs mM_X11_takeText 161 q_X11_takeText_161 := r_getf kls_11 (by decide) tx_11_10 rfl w_506 (by decide +kernel) ok_X11_takeText_164
theorem ok_X11_takeText_160 : zOK l D tc A nS xs mM_X11_takeText 160 q_X11_takeText_160 := s_aload_n (q := 0) rfl (by decide +kernel) (by decide +kernel) ok_X11_takeText_161
theorem ok_X11_takeText_141 : zOK l D tc A nS xs mM_X11_takeText 141 q_X11_takeText_141 := s_if_eq (tgt := 160) (off := 19) (by decide +kernel) (by decide) ok_X11_takeText_160 s_none
theorem ok_X11_takeText_138 : zOK l D tc A nS xs mM_X11_takeText 138 q_X11_takeText_138 := r_getN kls_10 (by decide) tx_10_6 rfl (fun U f h => h.1 _ (zNest_26)) (by decide +kernel) ok_X11_takeText_141
theorem ok_X11_takeText_135 : zOK l D tc A nS xs mM_X11_takeText 135 q_X11_takeText_135 := r_getf kls_11 (by decide) tx_11_9 rfl w_511 (by decide +kernel) ok_X11_takeText_138
theorem ok_X11_takeText_134 : zOK l D tc A nS xs mM_X11_takeText 134 q_X11_takeText_134 := s_aload_n (q := 0) rfl (by decide +kernel) (by decide +kernel) ok_X11_takeText_135
theorem ok_X11_takeText_131 : zOK l D tc A nS xs mM_X11_takeText 131 q_X11_takeText_131 := s_goto (tgt := 39) (off := (-92)) (by decide +kernel) (by decide) (s_back lb_170)
theorem ok_X11_takeText_128 : zOK l D tc A nS xs mM_X11_takeText 128 q_X11_takeText_128 := s_iinc (n := 1) (by decide +kernel) (by decide +kernel) (by decide +kernel) ok_X11_takeText_131
theorem ok_X11_takeText_125 : zOK l D tc A nS xs mM_X11_takeText 125 q_X11_takeText_125 := s_goto (tgt := 97) (off := (-28)) (by decide +kernel) (by decide) (s_back lb_171)
theorem ok_X11_takeText_122 : zOK l D tc A nS xs mM_X11_takeText 122 q_X11_takeText_122 := s_iinc (n := 1) (by decide +kernel) (by decide +kernel) (by decide +kernel) ok_X11_takeText_125
theorem ok_X11_takeText_119 : zOK l D tc A nS xs mM_X11_takeText 119 q_X11_takeText_119 := r_callV zEE_ok zTw_gd kls_0 (M2 := mM_X0_work) (na := 0) lb_27 calV_X0_work rfl rfl w_653 (by decide +kernel) ok_X11_takeText_122
theorem ok_X11_takeText_116 : zOK l D tc A nS xs mM_X11_takeText 116 q_X11_takeText_116 := r_getf kls_11 (by decide) tx_11_12 rfl w_567 (by decide +kernel) ok_X11_takeText_119
theorem ok_X11_takeText_115 : zOK l D tc A nS xs mM_X11_takeText 115 q_X11_takeText_115 := s_aload_n (q := 0) rfl (by decide +kernel) (by decide +kernel) ok_X11_takeText_116
theorem ok_X11_takeText_112 : zOK l D tc A nS xs mM_X11_takeText 112 q_X11_takeText_112 := s_if_eq (tgt := 128) (off := 16) (by decide +kernel) (by decide) ok_X11_takeText_128 ok_X11_takeText_115
theorem ok_X11_takeText_109 : zOK l D tc A nS xs mM_X11_takeText 109 q_X11_takeText_109 := r_callV zEE_ok zTw_gd kls_0 (M2 := mM_X0_isBusy) (na := 0) lb_21 calV_X0_isBusy rfl rfl w_657 (by decide +kernel) ok_X11_takeText_112
theorem ok_X11_takeText_106 : zOK l D tc A nS xs mM_X11_takeText 106 q_X11_takeText_106 := r_getf kls_11 (by decide) tx_11_12 rfl w_567 (by decide +kernel) ok_X11_takeText_109
theorem ok_X11_takeText_105 : zOK l D tc A nS xs mM_X11_takeText 105 q_X11_takeText_105 := s_aload_n (q := 0) rfl (by decide +kernel) (by decide +kernel) ok_X11_takeText_106
theorem ok_X11_takeText_102 : zOK l D tc A nS xs mM_X11_takeText 102 q_X11_takeText_102 := s_icmp_ge (tgt := 128) (off := 26) (by decide +kernel) (by decide) ok_X11_takeText_128 ok_X11_takeText_105
theorem ok_X11_takeText_99 : zOK l D tc A nS xs mM_X11_takeText 99 q_X11_takeText_99 := r_ldcw (by decide) (x := (10000000 : Int32)) (by decide +kernel) rfl w_661 (by decide +kernel) ok_X11_takeText_102
theorem ok_X11_takeText_97 : zOK l D tc A nS xs mM_X11_takeText 97 q_X11_takeText_97 := s_iload (by decide +kernel) (by decide +kernel) ok_X11_takeText_99
theorem ok_X11_takeText_95 : zOK l D tc A nS xs mM_X11_takeText 95 q_X11_takeText_95 := s_istore (by decide +kernel) (by decide +kernel) ok_X11_takeText_97
theorem ok_X11_takeText_94 : zOK l D tc A nS xs mM_X11_takeText 94 q_X11_takeText_94 := s_iconst (n := 0) (by decide) (by decide +kernel) (by decide +kernel) ok_X11_takeText_95
theorem ok_X11_takeText_91 : zOK l D tc A nS xs mM_X11_takeText 91 q_X11_takeText_91 := r_callV zEE_ok zTw_gd kls_0 (M2 := mM_X0_beginForm) (na := 1) lb_14 calV_X0_beginForm rfl rfl w_662 (by decide +kernel) ok_X11_takeText_94
theorem ok_X11_takeText_88 : zOK l D tc A nS xs mM_X11_takeText 88 q_X11_takeText_88 := r_callV zEE_ok zTw_gd kls_5 (M2 := mM_X5_formAt) (na := 1) lb_72 calV_X5_formAt rfl rfl w_666 (by decide +kernel) ok_X11_takeText_91
theorem ok_X11_takeText_87 : zOK l D tc A nS xs mM_X11_takeText 87 q_X11_takeText_87 := s_iload_n (q := 3) rfl (by decide +kernel) (by decide +kernel) ok_X11_takeText_88
theorem ok_X11_takeText_84 : zOK l D tc A nS xs mM_X11_takeText 84 q_X11_takeText_84 := r_getf kls_11 (by decide) tx_11_11 rfl w_573 (by decide +kernel) ok_X11_takeText_87
theorem ok_X11_takeText_83 : zOK l D tc A nS xs mM_X11_takeText 83 q_X11_takeText_83 := s_aload_n (q := 0) rfl (by decide +kernel) (by decide +kernel) ok_X11_takeText_84
theorem ok_X11_takeText_80 : zOK l D tc A nS xs mM_X11_takeText 80 q_X11_takeText_80 := r_getf kls_11 (by decide) tx_11_12 rfl w_567 (by decide +kernel) ok_X11_takeText_83
theorem ok_X11_takeText_79 : zOK l D tc A nS xs mM_X11_takeText 79 q_X11_takeText_79 := s_aload_n (q := 0) rfl (by decide +kernel) (by decide +kernel) ok_X11_takeText_80
theorem ok_X11_takeText_78 : zOK l D tc A nS xs mM_X11_takeText 78 q_X11_takeText_78 := s_iast (t0 := 0) (by decide) (by decide) rfl (by decide +kernel) ok_X11_takeText_79
theorem ok_X11_takeText_75 : zOK l D tc A nS xs mM_X11_takeText 75 q_X11_takeText_75 := r_getN kls_2 (by decide) tx_2_6 rfl (fun U f h => h.1 _ (zNest_10)) (by decide +kernel) ok_X11_takeText_78
theorem ok_X11_takeText_72 : zOK l D tc A nS xs mM_X11_takeText 72 q_X11_takeText_72 := r_getf kls_11 (by decide) tx_11_5 rfl w_532 (by decide +kernel) ok_X11_takeText_75
theorem ok_X11_takeText_71 : zOK l D tc A nS xs mM_X11_takeText 71 q_X11_takeText_71 := s_aload_n (q := 0) rfl (by decide +kernel) (by decide +kernel) ok_X11_takeText_72
theorem ok_X11_takeText_70 : zOK l D tc A nS xs mM_X11_takeText 70 q_X11_takeText_70 := s_iload_n (q := 3) rfl (by decide +kernel) (by decide +kernel) ok_X11_takeText_71
theorem ok_X11_takeText_67 : zOK l D tc A nS xs mM_X11_takeText 67 q_X11_takeText_67 := r_getf kls_11 (by decide) tx_11_13 rfl w_566 (by decide +kernel) ok_X11_takeText_70
theorem ok_X11_takeText_66 : zOK l D tc A nS xs mM_X11_takeText 66 q_X11_takeText_66 := s_aload_n (q := 0) rfl (by decide +kernel) (by decide +kernel) ok_X11_takeText_67
theorem ok_X11_takeText_63 : zOK l D tc A nS xs mM_X11_takeText 63 q_X11_takeText_63 := s_if_ne (tgt := 134) (off := 71) (by decide +kernel) (by decide) ok_X11_takeText_134 ok_X11_takeText_66
theorem ok_X11_takeText_60 : zOK l D tc A nS xs mM_X11_takeText 60 q_X11_takeText_60 := r_getN kls_10 (by decide) tx_10_6 rfl (fun U f h => h.1 _ (zNest_26)) (by decide +kernel) ok_X11_takeText_63
theorem ok_X11_takeText_57 : zOK l D tc A nS xs mM_X11_takeText 57 q_X11_takeText_57 := r_getf kls_11 (by decide) tx_11_9 rfl w_511 (by decide +kernel) ok_X11_takeText_60
theorem ok_X11_takeText_56 : zOK l D tc A nS xs mM_X11_takeText 56 q_X11_takeText_56 := s_aload_n (q := 0) rfl (by decide +kernel) (by decide +kernel) ok_X11_takeText_57
theorem ok_X11_takeText_53 : zOK l D tc A nS xs mM_X11_takeText 53 q_X11_takeText_53 := s_icmp_ge (tgt := 134) (off := 81) (by decide +kernel) (by decide) ok_X11_takeText_134 ok_X11_takeText_56
theorem ok_X11_takeText_51 : zOK l D tc A nS xs mM_X11_takeText 51 q_X11_takeText_51 := s_bipush (n := 40) (by decide) (by decide +kernel) (by decide +kernel) ok_X11_takeText_53
theorem ok_X11_takeText_50 : zOK l D tc A nS xs mM_X11_takeText 50 q_X11_takeText_50 := s_iload_n (q := 3) rfl (by decide +kernel) (by decide +kernel) ok_X11_takeText_51
theorem ok_X11_takeText_47 : zOK l D tc A nS xs mM_X11_takeText 47 q_X11_takeText_47 := s_icmp_ge (tgt := 134) (off := 87) (by decide +kernel) (by decide) ok_X11_takeText_134 ok_X11_takeText_50
theorem ok_X11_takeText_44 : zOK l D tc A nS xs mM_X11_takeText 44 q_X11_takeText_44 := r_getN kls_5 (by decide) tx_5_3 rfl (fun U f h => h.1 _ (zNest_30)) (by decide +kernel) ok_X11_takeText_47
theorem ok_X11_takeText_41 : zOK l D tc A nS xs mM_X11_takeText 41 q_X11_takeText_41 := r_getf kls_11 (by decide) tx_11_11 rfl w_573 (by decide +kernel) ok_X11_takeText_44
theorem ok_X11_takeText_40 : zOK l D tc A nS xs mM_X11_takeText 40 q_X11_takeText_40 := s_aload_n (q := 0) rfl (by decide +kernel) (by decide +kernel) ok_X11_takeText_41
theorem ok_X11_takeText_39 : zOK l D tc A nS xs mM_X11_takeText 39 q_X11_takeText_39 := s_iload_n (q := 3) rfl (by decide +kernel) (by decide +kernel) ok_X11_takeText_40
theorem ok_X11_takeText_38 : zOK l D tc A nS xs mM_X11_takeText 38 q_X11_takeText_38 := s_istore_n (q := 3) rfl (by decide +kernel) (by decide +kernel) ok_X11_takeText_39
theorem ok_X11_takeText_37 : zOK l D tc A nS xs mM_X11_takeText 37 q_X11_takeText_37 := s_iconst (n := 0) (by decide) (by decide +kernel) (by decide +kernel) ok_X11_takeText_38
theorem ok_X11_takeText_34 : zOK l D tc A nS xs mM_X11_takeText 34 q_X11_takeText_34 := r_callV zEE_ok zTw_gd kls_5 (M2 := mM_X5_readAll) (na := 2) lb_77 calV_X5_readAll rfl rfl w_631 (by decide +kernel) ok_X11_takeText_37
theorem ok_X11_takeText_33 : zOK l D tc A nS xs mM_X11_takeText 33 q_X11_takeText_33 := s_iload_n (q := 2) rfl (by decide +kernel) (by decide +kernel) ok_X11_takeText_34
theorem ok_X11_takeText_32 : zOK l D tc A nS xs mM_X11_takeText 32 q_X11_takeText_32 := s_aload_n (q := 1) rfl (by decide +kernel) (by decide +kernel) ok_X11_takeText_33
theorem ok_X11_takeText_29 : zOK l D tc A nS xs mM_X11_takeText 29 q_X11_takeText_29 := r_getf kls_11 (by decide) tx_11_11 rfl w_573 (by decide +kernel) ok_X11_takeText_32
theorem ok_X11_takeText_28 : zOK l D tc A nS xs mM_X11_takeText 28 q_X11_takeText_28 := s_aload_n (q := 0) rfl (by decide +kernel) (by decide +kernel) ok_X11_takeText_29
theorem ok_X11_takeText_25 : zOK l D tc A nS xs mM_X11_takeText 25 q_X11_takeText_25 := r_callV zEE_ok zTw_gd kls_0 (M2 := mM_X0_begin) (na := 0) lb_13 calV_X0_begin rfl rfl w_670 (by decide +kernel) ok_X11_takeText_28
theorem ok_X11_takeText_22 : zOK l D tc A nS xs mM_X11_takeText 22 q_X11_takeText_22 := r_getf kls_11 (by decide) tx_11_12 rfl w_567 (by decide +kernel) ok_X11_takeText_25
theorem ok_X11_takeText_21 : zOK l D tc A nS xs mM_X11_takeText 21 q_X11_takeText_21 := s_aload_n (q := 0) rfl (by decide +kernel) (by decide +kernel) ok_X11_takeText_22
theorem ok_X11_takeText_18 : zOK l D tc A nS xs mM_X11_takeText 18 q_X11_takeText_18 := r_callV zEE_ok zTw_gd kls_7 (M2 := mM_X7_mark) (na := 0) lb_97 calV_X7_mark rfl rfl w_674 (by decide +kernel) ok_X11_takeText_21
theorem ok_X11_takeText_15 : zOK l D tc A nS xs mM_X11_takeText 15 q_X11_takeText_15 := r_getf kls_11 (by decide) tx_11_10 rfl w_506 (by decide +kernel) ok_X11_takeText_18
theorem ok_X11_takeText_14 : zOK l D tc A nS xs mM_X11_takeText 14 q_X11_takeText_14 := s_aload_n (q := 0) rfl (by decide +kernel) (by decide +kernel) ok_X11_takeText_15
theorem ok_X11_takeText_11 : zOK l D tc A nS xs mM_X11_takeText 11 q_X11_takeText_11 := r_callV zEE_ok zTw_gd kls_2 (M2 := mM_X2_mark) (na := 0) lb_40 calV_X2_mark rfl rfl w_678 (by decide +kernel) ok_X11_takeText_14
theorem ok_X11_takeText_8 : zOK l D tc A nS xs mM_X11_takeText 8 q_X11_takeText_8 := r_getf kls_11 (by decide) tx_11_5 rfl w_532 (by decide +kernel) ok_X11_takeText_11
theorem ok_X11_takeText_7 : zOK l D tc A nS xs mM_X11_takeText 7 q_X11_takeText_7 := s_aload_n (q := 0) rfl (by decide +kernel) (by decide +kernel) ok_X11_takeText_8
theorem ok_X11_takeText_4 : zOK l D tc A nS xs mM_X11_takeText 4 q_X11_takeText_4 := r_callV zEE_ok zTw_gd kls_10 (M2 := mM_X10_begin) (na := 0) lb_119 calV_X10_begin rfl rfl w_635 (by decide +kernel) ok_X11_takeText_7
theorem ok_X11_takeText_1 : zOK l D tc A nS xs mM_X11_takeText 1 q_X11_takeText_1 := r_getf kls_11 (by decide) tx_11_9 rfl w_511 (by decide +kernel) ok_X11_takeText_4
theorem ok_X11_takeText_0 : zOK l D tc A nS xs mM_X11_takeText 0 q_X11_takeText_0 := s_aload_n (q := 0) rfl (by decide +kernel) (by decide +kernel) ok_X11_takeText_1
theorem ok_X11_tapeFour_49 : zOK l D tc A nS xs mM_X11_tapeFour 49 q_X11_tapeFour_49 := s_vret rfl (by decide +kernel)
theorem ok_X11_tapeFour_46 : zOK l D tc A nS xs mM_X11_tapeFour 46 q_X11_tapeFour_46 := s_goto (tgt := 3) (off := (-43)) (by decide +kernel) (by decide) (s_back lb_173)
theorem ok_X11_tapeFour_43 : zOK l D tc A nS xs mM_X11_tapeFour 43 q_X11_tapeFour_43 := s_iinc (n := (-8)) (by decide +kernel) (by decide +kernel) (by decide +kernel) ok_X11_tapeFour_46
theorem ok_X11_tapeFour_40 : zOK l D tc A nS xs mM_X11_tapeFour 40 q_X11_tapeFour_40 := r_putf kls_11 ty_11_1 zck_int (by decide) tx_11_1 rfl w_538 (by decide +kernel) ok_X11_tapeFour_43
theorem ok_X11_tapeFour_39 : zOK l D tc A nS xs mM_X11_tapeFour 39 q_X11_tapeFour_39 := s_iadd (by decide +kernel) ok_X11_tapeFour_40
theorem ok_X11_tapeFour_38 : zOK l D tc A nS xs mM_X11_tapeFour 38 q_X11_tapeFour_38 := s_iconst (n := 1) (by decide) (by decide +kernel) (by decide +kernel) ok_X11_tapeFour_39
theorem ok_X11_tapeFour_35 : zOK l D tc A nS xs mM_X11_tapeFour 35 q_X11_tapeFour_35 := r_getf kls_11 (by decide) tx_11_1 rfl w_538 (by decide +kernel) ok_X11_tapeFour_38
theorem ok_X11_tapeFour_34 : zOK l D tc A nS xs mM_X11_tapeFour 34 q_X11_tapeFour_34 := s_dup (by decide +kernel) ok_X11_tapeFour_35
theorem ok_X11_tapeFour_33 : zOK l D tc A nS xs mM_X11_tapeFour 33 q_X11_tapeFour_33 := s_aload_n (q := 0) rfl (by decide +kernel) (by decide +kernel) ok_X11_tapeFour_34
theorem ok_X11_tapeFour_32 : zOK l D tc A nS xs mM_X11_tapeFour 32 q_X11_tapeFour_32 := s_iast (t0 := 0) (by decide) (by decide) rfl (by decide +kernel) ok_X11_tapeFour_33
theorem ok_X11_tapeFour_31 : zOK l D tc A nS xs mM_X11_tapeFour 31 q_X11_tapeFour_31 := s_iand (by decide +kernel) ok_X11_tapeFour_32
theorem ok_X11_tapeFour_28 : zOK l D tc A nS xs mM_X11_tapeFour 28 q_X11_tapeFour_28 := s_sipush (n := 255) (by decide) (by decide +kernel) (by decide +kernel) ok_X11_tapeFour_31
theorem ok_X11_tapeFour_27 : zOK l D tc A nS xs mM_X11_tapeFour 27 q_X11_tapeFour_27 := s_ishr (by decide +kernel) ok_X11_tapeFour_28
theorem ok_X11_tapeFour_26 : zOK l D tc A nS xs mM_X11_tapeFour 26 q_X11_tapeFour_26 := s_iload_n (q := 2) rfl (by decide +kernel) (by decide +kernel) ok_X11_tapeFour_27
theorem ok_X11_tapeFour_25 : zOK l D tc A nS xs mM_X11_tapeFour 25 q_X11_tapeFour_25 := s_iload_n (q := 1) rfl (by decide +kernel) (by decide +kernel) ok_X11_tapeFour_26
theorem ok_X11_tapeFour_22 : zOK l D tc A nS xs mM_X11_tapeFour 22 q_X11_tapeFour_22 := r_getf kls_11 (by decide) tx_11_1 rfl w_538 (by decide +kernel) ok_X11_tapeFour_25
theorem ok_X11_tapeFour_21 : zOK l D tc A nS xs mM_X11_tapeFour 21 q_X11_tapeFour_21 := s_aload_n (q := 0) rfl (by decide +kernel) (by decide +kernel) ok_X11_tapeFour_22
theorem ok_X11_tapeFour_18 : zOK l D tc A nS xs mM_X11_tapeFour 18 q_X11_tapeFour_18 := r_getf kls_11 (by decide) tx_11_0 rfl w_614 (by decide +kernel) ok_X11_tapeFour_21
theorem ok_X11_tapeFour_17 : zOK l D tc A nS xs mM_X11_tapeFour 17 q_X11_tapeFour_17 := s_aload_n (q := 0) rfl (by decide +kernel) (by decide +kernel) ok_X11_tapeFour_18
theorem ok_X11_tapeFour_14 : zOK l D tc A nS xs mM_X11_tapeFour 14 q_X11_tapeFour_14 := s_icmp_ge (tgt := 43) (off := 29) (by decide +kernel) (by decide) ok_X11_tapeFour_43 ok_X11_tapeFour_17
theorem ok_X11_tapeFour_11 : zOK l D tc A nS xs mM_X11_tapeFour 11 q_X11_tapeFour_11 := s_sipush (n := 2000) (by decide) (by decide +kernel) (by decide +kernel) ok_X11_tapeFour_14
theorem ok_X11_tapeFour_8 : zOK l D tc A nS xs mM_X11_tapeFour 8 q_X11_tapeFour_8 := r_getf kls_11 (by decide) tx_11_1 rfl w_538 (by decide +kernel) ok_X11_tapeFour_11
theorem ok_X11_tapeFour_7 : zOK l D tc A nS xs mM_X11_tapeFour 7 q_X11_tapeFour_7 := s_aload_n (q := 0) rfl (by decide +kernel) (by decide +kernel) ok_X11_tapeFour_8
theorem ok_X11_tapeFour_4 : zOK l D tc A nS xs mM_X11_tapeFour 4 q_X11_tapeFour_4 := s_if_lt (tgt := 49) (off := 45) (by decide +kernel) (by decide) ok_X11_tapeFour_49 ok_X11_tapeFour_7
theorem ok_X11_tapeFour_3 : zOK l D tc A nS xs mM_X11_tapeFour 3 q_X11_tapeFour_3 := s_iload_n (q := 2) rfl (by decide +kernel) (by decide +kernel) ok_X11_tapeFour_4
theorem ok_X11_tapeFour_2 : zOK l D tc A nS xs mM_X11_tapeFour 2 q_X11_tapeFour_2 := s_istore_n (q := 2) rfl (by decide +kernel) (by decide +kernel) ok_X11_tapeFour_3
theorem ok_X11_tapeFour_0 : zOK l D tc A nS xs mM_X11_tapeFour 0 q_X11_tapeFour_0 := s_bipush (n := 24) (by decide) (by decide +kernel) (by decide +kernel) ok_X11_tapeFour_2
theorem ok_X11_word_23 : zOK l D tc A nS xs mM_X11_word 23 q_X11_word_23 := s_iret rfl (by decide +kernel)
theorem ok_X11_word_22 : zOK l D tc A nS xs mM_X11_word 22 q_X11_word_22 := s_iconst (n := (-1)) (by decide) (by decide +kernel) (by decide +kernel) ok_X11_word_23
theorem ok_X11_word_19 : zOK l D tc A nS xs mM_X11_word 19 q_X11_word_19 := s_goto (tgt := 23) (off := 4) (by decide +kernel) (by decide) ok_X11_word_23
theorem ok_X11_word_16 : zOK l D tc A nS xs mM_X11_word 16 q_X11_word_16 := r_callV zEE_ok zTw_gd kls_3 (M2 := mM_X3_at) (na := 1) lb_44 calV_X3_at rfl rfl w_624 (by decide +kernel) ok_X11_word_19
theorem ok_X11_word_15 : zOK l D tc A nS xs mM_X11_word 15 q_X11_word_15 := s_iload_n (q := 1) rfl (by decide +kernel) (by decide +kernel) ok_X11_word_16
theorem ok_X11_word_12 : zOK l D tc A nS xs mM_X11_word 12 q_X11_word_12 := r_getf kls_11 (by decide) tx_11_4 rfl w_537 (by decide +kernel) ok_X11_word_15
theorem ok_X11_word_11 : zOK l D tc A nS xs mM_X11_word 11 q_X11_word_11 := s_aload_n (q := 0) rfl (by decide +kernel) (by decide +kernel) ok_X11_word_12
theorem ok_X11_word_8 : zOK l D tc A nS xs mM_X11_word 8 q_X11_word_8 := s_if_eq (tgt := 22) (off := 14) (by decide +kernel) (by decide) ok_X11_word_22 ok_X11_word_11
theorem ok_X11_word_5 : zOK l D tc A nS xs mM_X11_word 5 q_X11_word_5 := r_callV zEE_ok zTw_gd kls_3 (M2 := mM_X3_holds) (na := 1) lb_46 calV_X3_holds rfl rfl w_628 (by decide +kernel) ok_X11_word_8
theorem ok_X11_word_4 : zOK l D tc A nS xs mM_X11_word 4 q_X11_word_4 := s_iload_n (q := 1) rfl (by decide +kernel) (by decide +kernel) ok_X11_word_5
theorem ok_X11_word_1 : zOK l D tc A nS xs mM_X11_word 1 q_X11_word_1 := r_getf kls_11 (by decide) tx_11_4 rfl w_537 (by decide +kernel) ok_X11_word_4
theorem ok_X11_word_0 : zOK l D tc A nS xs mM_X11_word 0 q_X11_word_0 := s_aload_n (q := 0) rfl (by decide +kernel) (by decide +kernel) ok_X11_word_1
theorem ok_X11_write_50 : zOK l D tc A nS xs mM_X11_write 50 q_X11_write_50 := s_vret rfl (by decide +kernel)
theorem ok_X11_write_47 : zOK l D tc A nS xs mM_X11_write 47 q_X11_write_47 := s_goto (tgt := 2) (off := (-45)) (by decide +kernel) (by decide) (s_back lb_176)
theorem ok_X11_write_44 : zOK l D tc A nS xs mM_X11_write 44 q_X11_write_44 := s_iinc (n := 1) (by decide +kernel) (by decide +kernel) (by decide +kernel) ok_X11_write_47
theorem ok_X11_write_41 : zOK l D tc A nS xs mM_X11_write 41 q_X11_write_41 := r_putf kls_11 ty_11_15 zck_int (by decide) tx_11_15 rfl w_555 (by decide +kernel) ok_X11_write_44
theorem ok_X11_write_40 : zOK l D tc A nS xs mM_X11_write 40 q_X11_write_40 := s_iadd (by decide +kernel) ok_X11_write_41
theorem ok_X11_write_39 : zOK l D tc A nS xs mM_X11_write 39 q_X11_write_39 := s_iconst (n := 1) (by decide) (by decide +kernel) (by decide +kernel) ok_X11_write_40
theorem ok_X11_write_36 : zOK l D tc A nS xs mM_X11_write 36 q_X11_write_36 := r_getf kls_11 (by decide) tx_11_15 rfl w_555 (by decide +kernel) ok_X11_write_39
theorem ok_X11_write_35 : zOK l D tc A nS xs mM_X11_write 35 q_X11_write_35 := s_dup (by decide +kernel) ok_X11_write_36
theorem ok_X11_write_34 : zOK l D tc A nS xs mM_X11_write 34 q_X11_write_34 := s_aload_n (q := 0) rfl (by decide +kernel) (by decide +kernel) ok_X11_write_35
theorem ok_X11_write_33 : zOK l D tc A nS xs mM_X11_write 33 q_X11_write_33 := s_iast (t0 := 0) (by decide) (by decide) rfl (by decide +kernel) ok_X11_write_34
theorem ok_X11_write_30 : zOK l D tc A nS xs mM_X11_write 30 q_X11_write_30 := r_callT zEE_ok zTw_gd (fun U f h => h.2.1) (M2 := mM_J0_charAt_5068e) (na := 1) lb_0 calV_J0_charAt_5068e rfl rfl w_682 (by decide +kernel) ok_X11_write_33
theorem ok_X11_write_29 : zOK l D tc A nS xs mM_X11_write 29 q_X11_write_29 := s_iload_n (q := 2) rfl (by decide +kernel) (by decide +kernel) ok_X11_write_30
theorem ok_X11_write_28 : zOK l D tc A nS xs mM_X11_write 28 q_X11_write_28 := s_aload_n (q := 1) rfl (by decide +kernel) (by decide +kernel) ok_X11_write_29
theorem ok_X11_write_25 : zOK l D tc A nS xs mM_X11_write 25 q_X11_write_25 := r_getf kls_11 (by decide) tx_11_15 rfl w_555 (by decide +kernel) ok_X11_write_28
theorem ok_X11_write_24 : zOK l D tc A nS xs mM_X11_write 24 q_X11_write_24 := s_aload_n (q := 0) rfl (by decide +kernel) (by decide +kernel) ok_X11_write_25
theorem ok_X11_write_21 : zOK l D tc A nS xs mM_X11_write 21 q_X11_write_21 := r_getf kls_11 (by decide) tx_11_14 rfl w_556 (by decide +kernel) ok_X11_write_24
theorem ok_X11_write_20 : zOK l D tc A nS xs mM_X11_write 20 q_X11_write_20 := s_aload_n (q := 0) rfl (by decide +kernel) (by decide +kernel) ok_X11_write_21
theorem ok_X11_write_17 : zOK l D tc A nS xs mM_X11_write 17 q_X11_write_17 := s_icmp_ge (tgt := 50) (off := 33) (by decide +kernel) (by decide) ok_X11_write_50 ok_X11_write_20
theorem ok_X11_write_14 : zOK l D tc A nS xs mM_X11_write 14 q_X11_write_14 := s_sipush (n := 2000) (by decide) (by decide +kernel) (by decide +kernel) ok_X11_write_17
theorem ok_X11_write_11 : zOK l D tc A nS xs mM_X11_write 11 q_X11_write_11 := r_getf kls_11 (by decide) tx_11_15 rfl w_555 (by decide +kernel) ok_X11_write_14
theorem ok_X11_write_10 : zOK l D tc A nS xs mM_X11_write 10 q_X11_write_10 := s_aload_n (q := 0) rfl (by decide +kernel) (by decide +kernel) ok_X11_write_11
theorem ok_X11_write_7 : zOK l D tc A nS xs mM_X11_write 7 q_X11_write_7 := s_icmp_ge (tgt := 50) (off := 43) (by decide +kernel) (by decide) ok_X11_write_50 ok_X11_write_10
theorem ok_X11_write_4 : zOK l D tc A nS xs mM_X11_write 4 q_X11_write_4 := r_callT zEE_ok zTw_gd (fun U f h => h.2.1) (M2 := mM_J0_length_8abf5) (na := 0) lb_5 calV_J0_length_8abf5 rfl rfl w_686 (by decide +kernel) ok_X11_write_7
theorem ok_X11_write_3 : zOK l D tc A nS xs mM_X11_write 3 q_X11_write_3 := s_aload_n (q := 1) rfl (by decide +kernel) (by decide +kernel) ok_X11_write_4
theorem ok_X11_write_2 : zOK l D tc A nS xs mM_X11_write 2 q_X11_write_2 := s_iload_n (q := 2) rfl (by decide +kernel) (by decide +kernel) ok_X11_write_3
theorem ok_X11_write_1 : zOK l D tc A nS xs mM_X11_write 1 q_X11_write_1 := s_istore_n (q := 2) rfl (by decide +kernel) (by decide +kernel) ok_X11_write_2
theorem ok_X11_write_0 : zOK l D tc A nS xs mM_X11_write 0 q_X11_write_0 := s_iconst (n := 0) (by decide) (by decide +kernel) (by decide +kernel) ok_X11_write_1
theorem ok_X11_writePrelude_82 : zOK l D tc A nS xs mM_X11_writePrelude 82 q_X11_writePrelude_82 := s_vret rfl (by decide +kernel)
theorem ok_X11_writePrelude_79 : zOK l D tc A nS xs mM_X11_writePrelude 79 q_X11_writePrelude_79 := r_callV zEE_ok zTw_gd kls_11 (M2 := mM_X11_write) (na := 1) lb_175 calV_X11_write rfl rfl w_636 (by decide +kernel) ok_X11_writePrelude_82
theorem ok_X11_writePrelude_76 : zOK l D tc A nS xs mM_X11_writePrelude 76 q_X11_writePrelude_76 := r_ldcwS (j := 13) (by decide) rfl zstr_13 (by decide +kernel) ok_X11_writePrelude_79
theorem ok_X11_writePrelude_75 : zOK l D tc A nS xs mM_X11_writePrelude 75 q_X11_writePrelude_75 := s_aload_n (q := 0) rfl (by decide +kernel) (by decide +kernel) ok_X11_writePrelude_76
theorem ok_X11_writePrelude_72 : zOK l D tc A nS xs mM_X11_writePrelude 72 q_X11_writePrelude_72 := r_callV zEE_ok zTw_gd kls_11 (M2 := mM_X11_write) (na := 1) lb_175 calV_X11_write rfl rfl w_636 (by decide +kernel) ok_X11_writePrelude_75
theorem ok_X11_writePrelude_69 : zOK l D tc A nS xs mM_X11_writePrelude 69 q_X11_writePrelude_69 := r_ldcwS (j := 12) (by decide) rfl zstr_12 (by decide +kernel) ok_X11_writePrelude_72
theorem ok_X11_writePrelude_68 : zOK l D tc A nS xs mM_X11_writePrelude 68 q_X11_writePrelude_68 := s_aload_n (q := 0) rfl (by decide +kernel) (by decide +kernel) ok_X11_writePrelude_69
theorem ok_X11_writePrelude_65 : zOK l D tc A nS xs mM_X11_writePrelude 65 q_X11_writePrelude_65 := r_callV zEE_ok zTw_gd kls_11 (M2 := mM_X11_write) (na := 1) lb_175 calV_X11_write rfl rfl w_636 (by decide +kernel) ok_X11_writePrelude_68
theorem ok_X11_writePrelude_62 : zOK l D tc A nS xs mM_X11_writePrelude 62 q_X11_writePrelude_62 := r_ldcwS (j := 11) (by decide) rfl zstr_11 (by decide +kernel) ok_X11_writePrelude_65
theorem ok_X11_writePrelude_61 : zOK l D tc A nS xs mM_X11_writePrelude 61 q_X11_writePrelude_61 := s_aload_n (q := 0) rfl (by decide +kernel) (by decide +kernel) ok_X11_writePrelude_62
theorem ok_X11_writePrelude_58 : zOK l D tc A nS xs mM_X11_writePrelude 58 q_X11_writePrelude_58 := r_callV zEE_ok zTw_gd kls_11 (M2 := mM_X11_write) (na := 1) lb_175 calV_X11_write rfl rfl w_636 (by decide +kernel) ok_X11_writePrelude_61
theorem ok_X11_writePrelude_55 : zOK l D tc A nS xs mM_X11_writePrelude 55 q_X11_writePrelude_55 := r_ldcwS (j := 10) (by decide) rfl zstr_10 (by decide +kernel) ok_X11_writePrelude_58
theorem ok_X11_writePrelude_54 : zOK l D tc A nS xs mM_X11_writePrelude 54 q_X11_writePrelude_54 := s_aload_n (q := 0) rfl (by decide +kernel) (by decide +kernel) ok_X11_writePrelude_55
theorem ok_X11_writePrelude_51 : zOK l D tc A nS xs mM_X11_writePrelude 51 q_X11_writePrelude_51 := r_callV zEE_ok zTw_gd kls_11 (M2 := mM_X11_write) (na := 1) lb_175 calV_X11_write rfl rfl w_636 (by decide +kernel) ok_X11_writePrelude_54
theorem ok_X11_writePrelude_48 : zOK l D tc A nS xs mM_X11_writePrelude 48 q_X11_writePrelude_48 := r_ldcwS (j := 9) (by decide) rfl zstr_9 (by decide +kernel) ok_X11_writePrelude_51
theorem ok_X11_writePrelude_47 : zOK l D tc A nS xs mM_X11_writePrelude 47 q_X11_writePrelude_47 := s_aload_n (q := 0) rfl (by decide +kernel) (by decide +kernel) ok_X11_writePrelude_48
theorem ok_X11_writePrelude_44 : zOK l D tc A nS xs mM_X11_writePrelude 44 q_X11_writePrelude_44 := r_callV zEE_ok zTw_gd kls_11 (M2 := mM_X11_write) (na := 1) lb_175 calV_X11_write rfl rfl w_636 (by decide +kernel) ok_X11_writePrelude_47
theorem ok_X11_writePrelude_41 : zOK l D tc A nS xs mM_X11_writePrelude 41 q_X11_writePrelude_41 := r_ldcwS (j := 8) (by decide) rfl zstr_8 (by decide +kernel) ok_X11_writePrelude_44
theorem ok_X11_writePrelude_40 : zOK l D tc A nS xs mM_X11_writePrelude 40 q_X11_writePrelude_40 := s_aload_n (q := 0) rfl (by decide +kernel) (by decide +kernel) ok_X11_writePrelude_41
theorem ok_X11_writePrelude_37 : zOK l D tc A nS xs mM_X11_writePrelude 37 q_X11_writePrelude_37 := r_callV zEE_ok zTw_gd kls_11 (M2 := mM_X11_write) (na := 1) lb_175 calV_X11_write rfl rfl w_636 (by decide +kernel) ok_X11_writePrelude_40
theorem ok_X11_writePrelude_34 : zOK l D tc A nS xs mM_X11_writePrelude 34 q_X11_writePrelude_34 := r_ldcwS (j := 7) (by decide) rfl zstr_7 (by decide +kernel) ok_X11_writePrelude_37
theorem ok_X11_writePrelude_33 : zOK l D tc A nS xs mM_X11_writePrelude 33 q_X11_writePrelude_33 := s_aload_n (q := 0) rfl (by decide +kernel) (by decide +kernel) ok_X11_writePrelude_34
theorem ok_X11_writePrelude_30 : zOK l D tc A nS xs mM_X11_writePrelude 30 q_X11_writePrelude_30 := r_callV zEE_ok zTw_gd kls_11 (M2 := mM_X11_write) (na := 1) lb_175 calV_X11_write rfl rfl w_636 (by decide +kernel) ok_X11_writePrelude_33
theorem ok_X11_writePrelude_27 : zOK l D tc A nS xs mM_X11_writePrelude 27 q_X11_writePrelude_27 := r_ldcwS (j := 6) (by decide) rfl zstr_6 (by decide +kernel) ok_X11_writePrelude_30
theorem ok_X11_writePrelude_26 : zOK l D tc A nS xs mM_X11_writePrelude 26 q_X11_writePrelude_26 := s_aload_n (q := 0) rfl (by decide +kernel) (by decide +kernel) ok_X11_writePrelude_27
theorem ok_X11_writePrelude_23 : zOK l D tc A nS xs mM_X11_writePrelude 23 q_X11_writePrelude_23 := r_callV zEE_ok zTw_gd kls_11 (M2 := mM_X11_write) (na := 1) lb_175 calV_X11_write rfl rfl w_636 (by decide +kernel) ok_X11_writePrelude_26
theorem ok_X11_writePrelude_20 : zOK l D tc A nS xs mM_X11_writePrelude 20 q_X11_writePrelude_20 := r_ldcwS (j := 5) (by decide) rfl zstr_5 (by decide +kernel) ok_X11_writePrelude_23
theorem ok_X11_writePrelude_19 : zOK l D tc A nS xs mM_X11_writePrelude 19 q_X11_writePrelude_19 := s_aload_n (q := 0) rfl (by decide +kernel) (by decide +kernel) ok_X11_writePrelude_20
theorem ok_X11_writePrelude_16 : zOK l D tc A nS xs mM_X11_writePrelude 16 q_X11_writePrelude_16 := r_callV zEE_ok zTw_gd kls_11 (M2 := mM_X11_write) (na := 1) lb_175 calV_X11_write rfl rfl w_636 (by decide +kernel) ok_X11_writePrelude_19
theorem ok_X11_writePrelude_13 : zOK l D tc A nS xs mM_X11_writePrelude 13 q_X11_writePrelude_13 := r_ldcwS (j := 4) (by decide) rfl zstr_4 (by decide +kernel) ok_X11_writePrelude_16
theorem ok_X11_writePrelude_12 : zOK l D tc A nS xs mM_X11_writePrelude 12 q_X11_writePrelude_12 := s_aload_n (q := 0) rfl (by decide +kernel) (by decide +kernel) ok_X11_writePrelude_13
theorem ok_X11_writePrelude_9 : zOK l D tc A nS xs mM_X11_writePrelude 9 q_X11_writePrelude_9 := r_callV zEE_ok zTw_gd kls_11 (M2 := mM_X11_write) (na := 1) lb_175 calV_X11_write rfl rfl w_636 (by decide +kernel) ok_X11_writePrelude_12
theorem ok_X11_writePrelude_6 : zOK l D tc A nS xs mM_X11_writePrelude 6 q_X11_writePrelude_6 := r_ldcwS (j := 3) (by decide) rfl zstr_3 (by decide +kernel) ok_X11_writePrelude_9
theorem ok_X11_writePrelude_5 : zOK l D tc A nS xs mM_X11_writePrelude 5 q_X11_writePrelude_5 := s_aload_n (q := 0) rfl (by decide +kernel) (by decide +kernel) ok_X11_writePrelude_6
theorem ok_X11_writePrelude_2 : zOK l D tc A nS xs mM_X11_writePrelude 2 q_X11_writePrelude_2 := r_putf kls_11 ty_11_15 zck_int (by decide) tx_11_15 rfl w_555 (by decide +kernel) ok_X11_writePrelude_5
theorem ok_X11_writePrelude_1 : zOK l D tc A nS xs mM_X11_writePrelude 1 q_X11_writePrelude_1 := s_iconst (n := 0) (by decide) (by decide +kernel) (by decide +kernel) ok_X11_writePrelude_2
theorem ok_X11_writePrelude_0 : zOK l D tc A nS xs mM_X11_writePrelude 0 q_X11_writePrelude_0 := s_aload_n (q := 0) rfl (by decide +kernel) (by decide +kernel) ok_X11_writePrelude_1
theorem ok_X12_areRules_204 : zOK l D tc A nS xs mM_X12_areRules 204 q_X12_areRules_204 := s_zret rfl (by decide +kernel)
theorem ok_X12_areRules_203 : zOK l D tc A nS xs mM_X12_areRules 203 q_X12_areRules_203 := s_iconst (n := 1) (by decide) (by decide +kernel) (by decide +kernel) ok_X12_areRules_204
theorem ok_X12_areRules_200 : zOK l D tc A nS xs mM_X12_areRules 200 q_X12_areRules_200 := s_goto (tgt := 96) (off := (-104)) (by decide +kernel) (by decide) (s_back lb_180)
theorem ok_X12_areRules_199 : zOK l D tc A nS xs mM_X12_areRules 199 q_X12_areRules_199 := s_istore_n (q := 2) rfl (by decide +kernel) (by decide +kernel) ok_X12_areRules_200
theorem ok_X12_areRules_198 : zOK l D tc A nS xs mM_X12_areRules 198 q_X12_areRules_198 := s_iald (t0 := 0) (by decide) (by decide) rfl (by decide +kernel) ok_X12_areRules_199
theorem ok_X12_areRules_197 : zOK l D tc A nS xs mM_X12_areRules 197 q_X12_areRules_197 := s_iload_n (q := 2) rfl (by decide +kernel) (by decide +kernel) ok_X12_areRules_198
theorem ok_X12_areRules_194 : zOK l D tc A nS xs mM_X12_areRules 194 q_X12_areRules_194 := r_getf kls_12 (by decide) tx_12_35 rfl w_687 (by decide +kernel) ok_X12_areRules_197
theorem ok_X12_areRules_193 : zOK l D tc A nS xs mM_X12_areRules 193 q_X12_areRules_193 := s_aload_n (q := 0) rfl (by decide +kernel) (by decide +kernel) ok_X12_areRules_194
theorem ok_X12_areRules_188 : zOK l D tc A nS xs mM_X12_areRules 188 q_X12_areRules_188 := s_if_ne (tgt := 193) (off := 5) (by decide +kernel) (by decide) ok_X12_areRules_193 s_none
theorem ok_X12_areRules_185 : zOK l D tc A nS xs mM_X12_areRules 185 q_X12_areRules_185 := r_callV zEE_ok zTw_gd kls_12 (M2 := mM_X12_isRight) (na := 2) lb_230 calV_X12_isRight rfl rfl w_688 (by decide +kernel) ok_X12_areRules_188
theorem ok_X12_areRules_184 : zOK l D tc A nS xs mM_X12_areRules 184 q_X12_areRules_184 := s_iconst (n := 0) (by decide) (by decide +kernel) (by decide +kernel) ok_X12_areRules_185
theorem ok_X12_areRules_181 : zOK l D tc A nS xs mM_X12_areRules 181 q_X12_areRules_181 := r_callV zEE_ok zTw_gd kls_12 (M2 := mM_X12_part) (na := 2) lb_250 calV_X12_part rfl rfl w_692 (by decide +kernel) ok_X12_areRules_184
theorem ok_X12_areRules_180 : zOK l D tc A nS xs mM_X12_areRules 180 q_X12_areRules_180 := s_iconst (n := 1) (by decide) (by decide +kernel) (by decide +kernel) ok_X12_areRules_181
theorem ok_X12_areRules_179 : zOK l D tc A nS xs mM_X12_areRules 179 q_X12_areRules_179 := s_iload_n (q := 3) rfl (by decide +kernel) (by decide +kernel) ok_X12_areRules_180
theorem ok_X12_areRules_178 : zOK l D tc A nS xs mM_X12_areRules 178 q_X12_areRules_178 := s_aload_n (q := 0) rfl (by decide +kernel) (by decide +kernel) ok_X12_areRules_179
theorem ok_X12_areRules_177 : zOK l D tc A nS xs mM_X12_areRules 177 q_X12_areRules_177 := s_aload_n (q := 0) rfl (by decide +kernel) (by decide +kernel) ok_X12_areRules_178
theorem ok_X12_areRules_174 : zOK l D tc A nS xs mM_X12_areRules 174 q_X12_areRules_174 := s_if_eq (tgt := 191) (off := 17) (by decide +kernel) (by decide) s_none ok_X12_areRules_177
theorem ok_X12_areRules_171 : zOK l D tc A nS xs mM_X12_areRules 171 q_X12_areRules_171 := r_callV zEE_ok zTw_gd kls_12 (M2 := mM_X12_gathers) (na := 2) lb_208 calV_X12_gathers rfl rfl w_695 (by decide +kernel) ok_X12_areRules_174
theorem ok_X12_areRules_170 : zOK l D tc A nS xs mM_X12_areRules 170 q_X12_areRules_170 := s_iconst (n := 0) (by decide) (by decide +kernel) (by decide +kernel) ok_X12_areRules_171
theorem ok_X12_areRules_169 : zOK l D tc A nS xs mM_X12_areRules 169 q_X12_areRules_169 := s_iald (t0 := 0) (by decide) (by decide) rfl (by decide +kernel) ok_X12_areRules_170
theorem ok_X12_areRules_167 : zOK l D tc A nS xs mM_X12_areRules 167 q_X12_areRules_167 := s_iload (by decide +kernel) (by decide +kernel) ok_X12_areRules_169
theorem ok_X12_areRules_164 : zOK l D tc A nS xs mM_X12_areRules 164 q_X12_areRules_164 := r_getf kls_12 (by decide) tx_12_35 rfl w_687 (by decide +kernel) ok_X12_areRules_167
theorem ok_X12_areRules_163 : zOK l D tc A nS xs mM_X12_areRules 163 q_X12_areRules_163 := s_aload_n (q := 0) rfl (by decide +kernel) (by decide +kernel) ok_X12_areRules_164
theorem ok_X12_areRules_162 : zOK l D tc A nS xs mM_X12_areRules 162 q_X12_areRules_162 := s_aload_n (q := 0) rfl (by decide +kernel) (by decide +kernel) ok_X12_areRules_163
theorem ok_X12_areRules_159 : zOK l D tc A nS xs mM_X12_areRules 159 q_X12_areRules_159 := s_if_eq (tgt := 191) (off := 32) (by decide +kernel) (by decide) s_none ok_X12_areRules_162
theorem ok_X12_areRules_156 : zOK l D tc A nS xs mM_X12_areRules 156 q_X12_areRules_156 := r_callV zEE_ok zTw_gd kls_12 (M2 := mM_X12_isName) (na := 1) lb_225 calV_X12_isName rfl rfl w_698 (by decide +kernel) ok_X12_areRules_159
theorem ok_X12_areRules_155 : zOK l D tc A nS xs mM_X12_areRules 155 q_X12_areRules_155 := s_iald (t0 := 0) (by decide) (by decide) rfl (by decide +kernel) ok_X12_areRules_156
theorem ok_X12_areRules_153 : zOK l D tc A nS xs mM_X12_areRules 153 q_X12_areRules_153 := s_iload (by decide +kernel) (by decide +kernel) ok_X12_areRules_155
theorem ok_X12_areRules_150 : zOK l D tc A nS xs mM_X12_areRules 150 q_X12_areRules_150 := r_getf kls_12 (by decide) tx_12_34 rfl w_701 (by decide +kernel) ok_X12_areRules_153
theorem ok_X12_areRules_149 : zOK l D tc A nS xs mM_X12_areRules 149 q_X12_areRules_149 := s_aload_n (q := 0) rfl (by decide +kernel) (by decide +kernel) ok_X12_areRules_150
theorem ok_X12_areRules_148 : zOK l D tc A nS xs mM_X12_areRules 148 q_X12_areRules_148 := s_aload_n (q := 0) rfl (by decide +kernel) (by decide +kernel) ok_X12_areRules_149
theorem ok_X12_areRules_145 : zOK l D tc A nS xs mM_X12_areRules 145 q_X12_areRules_145 := s_icmp_ne (tgt := 191) (off := 46) (by decide +kernel) (by decide) s_none ok_X12_areRules_148
theorem ok_X12_areRules_144 : zOK l D tc A nS xs mM_X12_areRules 144 q_X12_areRules_144 := s_iconst (n := 5) (by decide) (by decide +kernel) (by decide +kernel) ok_X12_areRules_145
theorem ok_X12_areRules_143 : zOK l D tc A nS xs mM_X12_areRules 143 q_X12_areRules_143 := s_iald (t0 := 0) (by decide) (by decide) rfl (by decide +kernel) ok_X12_areRules_144
theorem ok_X12_areRules_141 : zOK l D tc A nS xs mM_X12_areRules 141 q_X12_areRules_141 := s_iload (by decide +kernel) (by decide +kernel) ok_X12_areRules_143
theorem ok_X12_areRules_138 : zOK l D tc A nS xs mM_X12_areRules 138 q_X12_areRules_138 := r_getf kls_12 (by decide) tx_12_33 rfl w_702 (by decide +kernel) ok_X12_areRules_141
theorem ok_X12_areRules_137 : zOK l D tc A nS xs mM_X12_areRules 137 q_X12_areRules_137 := s_aload_n (q := 0) rfl (by decide +kernel) (by decide +kernel) ok_X12_areRules_138
theorem ok_X12_areRules_134 : zOK l D tc A nS xs mM_X12_areRules 134 q_X12_areRules_134 := r_putf kls_12 ty_12_76 zck_int (by decide) tx_12_76 rfl w_703 (by decide +kernel) ok_X12_areRules_137
theorem ok_X12_areRules_133 : zOK l D tc A nS xs mM_X12_areRules 133 q_X12_areRules_133 := s_iconst (n := 0) (by decide) (by decide +kernel) (by decide +kernel) ok_X12_areRules_134
theorem ok_X12_areRules_132 : zOK l D tc A nS xs mM_X12_areRules 132 q_X12_areRules_132 := s_aload_n (q := 0) rfl (by decide +kernel) (by decide +kernel) ok_X12_areRules_133
theorem ok_X12_areRules_130 : zOK l D tc A nS xs mM_X12_areRules 130 q_X12_areRules_130 := s_istore (by decide +kernel) (by decide +kernel) ok_X12_areRules_132
theorem ok_X12_areRules_129 : zOK l D tc A nS xs mM_X12_areRules 129 q_X12_areRules_129 := s_iald (t0 := 0) (by decide) (by decide) rfl (by decide +kernel) ok_X12_areRules_130
theorem ok_X12_areRules_128 : zOK l D tc A nS xs mM_X12_areRules 128 q_X12_areRules_128 := s_iload_n (q := 3) rfl (by decide +kernel) (by decide +kernel) ok_X12_areRules_129
theorem ok_X12_areRules_125 : zOK l D tc A nS xs mM_X12_areRules 125 q_X12_areRules_125 := r_getf kls_12 (by decide) tx_12_34 rfl w_701 (by decide +kernel) ok_X12_areRules_128
theorem ok_X12_areRules_124 : zOK l D tc A nS xs mM_X12_areRules 124 q_X12_areRules_124 := s_aload_n (q := 0) rfl (by decide +kernel) (by decide +kernel) ok_X12_areRules_125
theorem ok_X12_areRules_119 : zOK l D tc A nS xs mM_X12_areRules 119 q_X12_areRules_119 := s_icmp_eq (tgt := 124) (off := 5) (by decide +kernel) (by decide) ok_X12_areRules_124 s_none
theorem ok_X12_areRules_118 : zOK l D tc A nS xs mM_X12_areRules 118 q_X12_areRules_118 := s_iconst (n := 2) (by decide) (by decide +kernel) (by decide +kernel) ok_X12_areRules_119
theorem ok_X12_areRules_115 : zOK l D tc A nS xs mM_X12_areRules 115 q_X12_areRules_115 := r_callV zEE_ok zTw_gd kls_12 (M2 := mM_X12_length) (na := 1) lb_237 calV_X12_length rfl rfl w_704 (by decide +kernel) ok_X12_areRules_118
theorem ok_X12_areRules_114 : zOK l D tc A nS xs mM_X12_areRules 114 q_X12_areRules_114 := s_iload_n (q := 3) rfl (by decide +kernel) (by decide +kernel) ok_X12_areRules_115
theorem ok_X12_areRules_113 : zOK l D tc A nS xs mM_X12_areRules 113 q_X12_areRules_113 := s_aload_n (q := 0) rfl (by decide +kernel) (by decide +kernel) ok_X12_areRules_114
theorem ok_X12_areRules_112 : zOK l D tc A nS xs mM_X12_areRules 112 q_X12_areRules_112 := s_istore_n (q := 3) rfl (by decide +kernel) (by decide +kernel) ok_X12_areRules_113
theorem ok_X12_areRules_111 : zOK l D tc A nS xs mM_X12_areRules 111 q_X12_areRules_111 := s_iald (t0 := 0) (by decide) (by decide) rfl (by decide +kernel) ok_X12_areRules_112
theorem ok_X12_areRules_110 : zOK l D tc A nS xs mM_X12_areRules 110 q_X12_areRules_110 := s_iload_n (q := 2) rfl (by decide +kernel) (by decide +kernel) ok_X12_areRules_111
theorem ok_X12_areRules_107 : zOK l D tc A nS xs mM_X12_areRules 107 q_X12_areRules_107 := r_getf kls_12 (by decide) tx_12_34 rfl w_701 (by decide +kernel) ok_X12_areRules_110
theorem ok_X12_areRules_106 : zOK l D tc A nS xs mM_X12_areRules 106 q_X12_areRules_106 := s_aload_n (q := 0) rfl (by decide +kernel) (by decide +kernel) ok_X12_areRules_107
theorem ok_X12_areRules_103 : zOK l D tc A nS xs mM_X12_areRules 103 q_X12_areRules_103 := s_icmp_ne (tgt := 203) (off := 100) (by decide +kernel) (by decide) ok_X12_areRules_203 ok_X12_areRules_106
theorem ok_X12_areRules_102 : zOK l D tc A nS xs mM_X12_areRules 102 q_X12_areRules_102 := s_iconst (n := 5) (by decide) (by decide +kernel) (by decide +kernel) ok_X12_areRules_103
theorem ok_X12_areRules_101 : zOK l D tc A nS xs mM_X12_areRules 101 q_X12_areRules_101 := s_iald (t0 := 0) (by decide) (by decide) rfl (by decide +kernel) ok_X12_areRules_102
theorem ok_X12_areRules_100 : zOK l D tc A nS xs mM_X12_areRules 100 q_X12_areRules_100 := s_iload_n (q := 2) rfl (by decide +kernel) (by decide +kernel) ok_X12_areRules_101
theorem ok_X12_areRules_97 : zOK l D tc A nS xs mM_X12_areRules 97 q_X12_areRules_97 := r_getf kls_12 (by decide) tx_12_33 rfl w_702 (by decide +kernel) ok_X12_areRules_100
theorem ok_X12_areRules_96 : zOK l D tc A nS xs mM_X12_areRules 96 q_X12_areRules_96 := s_aload_n (q := 0) rfl (by decide +kernel) (by decide +kernel) ok_X12_areRules_97
theorem ok_X12_areRules_95 : zOK l D tc A nS xs mM_X12_areRules 95 q_X12_areRules_95 := s_istore_n (q := 2) rfl (by decide +kernel) (by decide +kernel) ok_X12_areRules_96
theorem ok_X12_areRules_92 : zOK l D tc A nS xs mM_X12_areRules 92 q_X12_areRules_92 := r_callV zEE_ok zTw_gd kls_12 (M2 := mM_X12_behind) (na := 2) lb_184 calV_X12_behind rfl rfl w_707 (by decide +kernel) ok_X12_areRules_95
theorem ok_X12_areRules_91 : zOK l D tc A nS xs mM_X12_areRules 91 q_X12_areRules_91 := s_iconst (n := 2) (by decide) (by decide +kernel) (by decide +kernel) ok_X12_areRules_92
theorem ok_X12_areRules_90 : zOK l D tc A nS xs mM_X12_areRules 90 q_X12_areRules_90 := s_iload_n (q := 1) rfl (by decide +kernel) (by decide +kernel) ok_X12_areRules_91
theorem ok_X12_areRules_89 : zOK l D tc A nS xs mM_X12_areRules 89 q_X12_areRules_89 := s_aload_n (q := 0) rfl (by decide +kernel) (by decide +kernel) ok_X12_areRules_90
theorem ok_X12_areRules_86 : zOK l D tc A nS xs mM_X12_areRules 86 q_X12_areRules_86 := s_goto (tgt := 54) (off := (-32)) (by decide +kernel) (by decide) (s_back lb_179)
theorem ok_X12_areRules_85 : zOK l D tc A nS xs mM_X12_areRules 85 q_X12_areRules_85 := s_istore_n (q := 2) rfl (by decide +kernel) (by decide +kernel) ok_X12_areRules_86
theorem ok_X12_areRules_84 : zOK l D tc A nS xs mM_X12_areRules 84 q_X12_areRules_84 := s_iald (t0 := 0) (by decide) (by decide) rfl (by decide +kernel) ok_X12_areRules_85
theorem ok_X12_areRules_83 : zOK l D tc A nS xs mM_X12_areRules 83 q_X12_areRules_83 := s_iload_n (q := 2) rfl (by decide +kernel) (by decide +kernel) ok_X12_areRules_84
theorem ok_X12_areRules_80 : zOK l D tc A nS xs mM_X12_areRules 80 q_X12_areRules_80 := r_getf kls_12 (by decide) tx_12_35 rfl w_687 (by decide +kernel) ok_X12_areRules_83
theorem ok_X12_areRules_79 : zOK l D tc A nS xs mM_X12_areRules 79 q_X12_areRules_79 := s_aload_n (q := 0) rfl (by decide +kernel) (by decide +kernel) ok_X12_areRules_80
theorem ok_X12_areRules_74 : zOK l D tc A nS xs mM_X12_areRules 74 q_X12_areRules_74 := s_if_ne (tgt := 79) (off := 5) (by decide +kernel) (by decide) ok_X12_areRules_79 s_none
theorem ok_X12_areRules_71 : zOK l D tc A nS xs mM_X12_areRules 71 q_X12_areRules_71 := r_callV zEE_ok zTw_gd kls_12 (M2 := mM_X12_isName) (na := 1) lb_225 calV_X12_isName rfl rfl w_698 (by decide +kernel) ok_X12_areRules_74
theorem ok_X12_areRules_70 : zOK l D tc A nS xs mM_X12_areRules 70 q_X12_areRules_70 := s_iald (t0 := 0) (by decide) (by decide) rfl (by decide +kernel) ok_X12_areRules_71
theorem ok_X12_areRules_69 : zOK l D tc A nS xs mM_X12_areRules 69 q_X12_areRules_69 := s_iload_n (q := 2) rfl (by decide +kernel) (by decide +kernel) ok_X12_areRules_70
theorem ok_X12_areRules_66 : zOK l D tc A nS xs mM_X12_areRules 66 q_X12_areRules_66 := r_getf kls_12 (by decide) tx_12_34 rfl w_701 (by decide +kernel) ok_X12_areRules_69
theorem ok_X12_areRules_65 : zOK l D tc A nS xs mM_X12_areRules 65 q_X12_areRules_65 := s_aload_n (q := 0) rfl (by decide +kernel) (by decide +kernel) ok_X12_areRules_66
theorem ok_X12_areRules_64 : zOK l D tc A nS xs mM_X12_areRules 64 q_X12_areRules_64 := s_aload_n (q := 0) rfl (by decide +kernel) (by decide +kernel) ok_X12_areRules_65
theorem ok_X12_areRules_61 : zOK l D tc A nS xs mM_X12_areRules 61 q_X12_areRules_61 := s_icmp_ne (tgt := 89) (off := 28) (by decide +kernel) (by decide) ok_X12_areRules_89 ok_X12_areRules_64
theorem ok_X12_areRules_60 : zOK l D tc A nS xs mM_X12_areRules 60 q_X12_areRules_60 := s_iconst (n := 5) (by decide) (by decide +kernel) (by decide +kernel) ok_X12_areRules_61
theorem ok_X12_areRules_59 : zOK l D tc A nS xs mM_X12_areRules 59 q_X12_areRules_59 := s_iald (t0 := 0) (by decide) (by decide) rfl (by decide +kernel) ok_X12_areRules_60
theorem ok_X12_areRules_58 : zOK l D tc A nS xs mM_X12_areRules 58 q_X12_areRules_58 := s_iload_n (q := 2) rfl (by decide +kernel) (by decide +kernel) ok_X12_areRules_59
theorem ok_X12_areRules_55 : zOK l D tc A nS xs mM_X12_areRules 55 q_X12_areRules_55 := r_getf kls_12 (by decide) tx_12_33 rfl w_702 (by decide +kernel) ok_X12_areRules_58
theorem ok_X12_areRules_54 : zOK l D tc A nS xs mM_X12_areRules 54 q_X12_areRules_54 := s_aload_n (q := 0) rfl (by decide +kernel) (by decide +kernel) ok_X12_areRules_55
theorem ok_X12_areRules_53 : zOK l D tc A nS xs mM_X12_areRules 53 q_X12_areRules_53 := s_istore_n (q := 2) rfl (by decide +kernel) (by decide +kernel) ok_X12_areRules_54
theorem ok_X12_areRules_50 : zOK l D tc A nS xs mM_X12_areRules 50 q_X12_areRules_50 := r_getf kls_12 (by decide) tx_12_77 rfl w_710 (by decide +kernel) ok_X12_areRules_53
theorem ok_X12_areRules_49 : zOK l D tc A nS xs mM_X12_areRules 49 q_X12_areRules_49 := s_aload_n (q := 0) rfl (by decide +kernel) (by decide +kernel) ok_X12_areRules_50
theorem ok_X12_areRules_44 : zOK l D tc A nS xs mM_X12_areRules 44 q_X12_areRules_44 := s_if_ge (tgt := 49) (off := 5) (by decide +kernel) (by decide) ok_X12_areRules_49 s_none
theorem ok_X12_areRules_41 : zOK l D tc A nS xs mM_X12_areRules 41 q_X12_areRules_41 := r_callV zEE_ok zTw_gd kls_12 (M2 := mM_X12_length) (na := 1) lb_237 calV_X12_length rfl rfl w_704 (by decide +kernel) ok_X12_areRules_44
theorem ok_X12_areRules_38 : zOK l D tc A nS xs mM_X12_areRules 38 q_X12_areRules_38 := r_getf kls_12 (by decide) tx_12_77 rfl w_710 (by decide +kernel) ok_X12_areRules_41
theorem ok_X12_areRules_37 : zOK l D tc A nS xs mM_X12_areRules 37 q_X12_areRules_37 := s_aload_n (q := 0) rfl (by decide +kernel) (by decide +kernel) ok_X12_areRules_38
theorem ok_X12_areRules_36 : zOK l D tc A nS xs mM_X12_areRules 36 q_X12_areRules_36 := s_aload_n (q := 0) rfl (by decide +kernel) (by decide +kernel) ok_X12_areRules_37
theorem ok_X12_areRules_33 : zOK l D tc A nS xs mM_X12_areRules 33 q_X12_areRules_33 := r_putf kls_12 ty_12_77 zck_int (by decide) tx_12_77 rfl w_710 (by decide +kernel) ok_X12_areRules_36
theorem ok_X12_areRules_30 : zOK l D tc A nS xs mM_X12_areRules 30 q_X12_areRules_30 := r_callV zEE_ok zTw_gd kls_12 (M2 := mM_X12_part) (na := 2) lb_250 calV_X12_part rfl rfl w_692 (by decide +kernel) ok_X12_areRules_33
theorem ok_X12_areRules_29 : zOK l D tc A nS xs mM_X12_areRules 29 q_X12_areRules_29 := s_iconst (n := 1) (by decide) (by decide +kernel) (by decide +kernel) ok_X12_areRules_30
theorem ok_X12_areRules_28 : zOK l D tc A nS xs mM_X12_areRules 28 q_X12_areRules_28 := s_iload_n (q := 1) rfl (by decide +kernel) (by decide +kernel) ok_X12_areRules_29
theorem ok_X12_areRules_27 : zOK l D tc A nS xs mM_X12_areRules 27 q_X12_areRules_27 := s_aload_n (q := 0) rfl (by decide +kernel) (by decide +kernel) ok_X12_areRules_28
theorem ok_X12_areRules_26 : zOK l D tc A nS xs mM_X12_areRules 26 q_X12_areRules_26 := s_aload_n (q := 0) rfl (by decide +kernel) (by decide +kernel) ok_X12_areRules_27
theorem ok_X12_areRules_21 : zOK l D tc A nS xs mM_X12_areRules 21 q_X12_areRules_21 := s_if_ne (tgt := 26) (off := 5) (by decide +kernel) (by decide) ok_X12_areRules_26 s_none
theorem ok_X12_areRules_18 : zOK l D tc A nS xs mM_X12_areRules 18 q_X12_areRules_18 := r_callV zEE_ok zTw_gd kls_12 (M2 := mM_X12_isNamed) (na := 2) lb_226 calV_X12_isNamed rfl rfl w_711 (by decide +kernel) ok_X12_areRules_21
theorem ok_X12_areRules_16 : zOK l D tc A nS xs mM_X12_areRules 16 q_X12_areRules_16 := s_bipush (n := 8) (by decide) (by decide +kernel) (by decide +kernel) ok_X12_areRules_18
theorem ok_X12_areRules_15 : zOK l D tc A nS xs mM_X12_areRules 15 q_X12_areRules_15 := s_iald (t0 := 0) (by decide) (by decide) rfl (by decide +kernel) ok_X12_areRules_16
theorem ok_X12_areRules_14 : zOK l D tc A nS xs mM_X12_areRules 14 q_X12_areRules_14 := s_iload_n (q := 1) rfl (by decide +kernel) (by decide +kernel) ok_X12_areRules_15
theorem ok_X12_areRules_11 : zOK l D tc A nS xs mM_X12_areRules 11 q_X12_areRules_11 := r_getf kls_12 (by decide) tx_12_34 rfl w_701 (by decide +kernel) ok_X12_areRules_14
theorem ok_X12_areRules_10 : zOK l D tc A nS xs mM_X12_areRules 10 q_X12_areRules_10 := s_aload_n (q := 0) rfl (by decide +kernel) (by decide +kernel) ok_X12_areRules_11
theorem ok_X12_areRules_9 : zOK l D tc A nS xs mM_X12_areRules 9 q_X12_areRules_9 := s_aload_n (q := 0) rfl (by decide +kernel) (by decide +kernel) ok_X12_areRules_10
theorem ok_X12_areRules_6 : zOK l D tc A nS xs mM_X12_areRules 6 q_X12_areRules_6 := s_icmp_lt (tgt := 24) (off := 18) (by decide +kernel) (by decide) s_none ok_X12_areRules_9
theorem ok_X12_areRules_5 : zOK l D tc A nS xs mM_X12_areRules 5 q_X12_areRules_5 := s_iconst (n := 2) (by decide) (by decide +kernel) (by decide +kernel) ok_X12_areRules_6
theorem ok_X12_areRules_2 : zOK l D tc A nS xs mM_X12_areRules 2 q_X12_areRules_2 := r_callV zEE_ok zTw_gd kls_12 (M2 := mM_X12_length) (na := 1) lb_237 calV_X12_length rfl rfl w_704 (by decide +kernel) ok_X12_areRules_5
theorem ok_X12_areRules_1 : zOK l D tc A nS xs mM_X12_areRules 1 q_X12_areRules_1 := s_iload_n (q := 1) rfl (by decide +kernel) (by decide +kernel) ok_X12_areRules_2
theorem ok_X12_areRules_0 : zOK l D tc A nS xs mM_X12_areRules 0 q_X12_areRules_0 := s_aload_n (q := 0) rfl (by decide +kernel) (by decide +kernel) ok_X12_areRules_1
theorem ok_X12_atLast_24 : zOK l D tc A nS xs mM_X12_atLast 24 q_X12_atLast_24 := s_iret rfl (by decide +kernel)
theorem ok_X12_atLast_23 : zOK l D tc A nS xs mM_X12_atLast 23 q_X12_atLast_23 := s_iload_n (q := 2) rfl (by decide +kernel) (by decide +kernel) ok_X12_atLast_24
theorem ok_X12_atLast_6 : zOK l D tc A nS xs mM_X12_atLast 6 q_X12_atLast_6 := s_icmp_lt (tgt := 23) (off := 17) (by decide +kernel) (by decide) ok_X12_atLast_23 s_none
theorem ok_X12_atLast_3 : zOK l D tc A nS xs mM_X12_atLast 3 q_X12_atLast_3 := s_sipush (n := 1000) (by decide) (by decide +kernel) (by decide +kernel) ok_X12_atLast_6
theorem ok_X12_atLast_2 : zOK l D tc A nS xs mM_X12_atLast 2 q_X12_atLast_2 := s_iload_n (q := 2) rfl (by decide +kernel) (by decide +kernel) ok_X12_atLast_3
theorem ok_X12_atLast_1 : zOK l D tc A nS xs mM_X12_atLast 1 q_X12_atLast_1 := s_istore_n (q := 2) rfl (by decide +kernel) (by decide +kernel) ok_X12_atLast_2
theorem ok_X12_atLast_0 : zOK l D tc A nS xs mM_X12_atLast 0 q_X12_atLast_0 := s_iload_n (q := 1) rfl (by decide +kernel) (by decide +kernel) ok_X12_atLast_1
theorem ok_X12_atom_66 : zOK l D tc A nS xs mM_X12_atom 66 q_X12_atom_66 := s_iret rfl (by decide +kernel)
theorem ok_X12_atom_65 : zOK l D tc A nS xs mM_X12_atom 65 q_X12_atom_65 := s_isub (by decide +kernel) ok_X12_atom_66
theorem ok_X12_atom_64 : zOK l D tc A nS xs mM_X12_atom 64 q_X12_atom_64 := s_iconst (n := 1) (by decide) (by decide +kernel) (by decide +kernel) ok_X12_atom_65
theorem ok_X12_atom_61 : zOK l D tc A nS xs mM_X12_atom 61 q_X12_atom_61 := r_getf kls_12 (by decide) tx_12_39 rfl w_714 (by decide +kernel) ok_X12_atom_64
theorem ok_X12_atom_60 : zOK l D tc A nS xs mM_X12_atom 60 q_X12_atom_60 := s_aload_n (q := 0) rfl (by decide +kernel) (by decide +kernel) ok_X12_atom_61
theorem ok_X12_atom_57 : zOK l D tc A nS xs mM_X12_atom 57 q_X12_atom_57 := r_putf kls_12 ty_12_39 zck_int (by decide) tx_12_39 rfl w_714 (by decide +kernel) ok_X12_atom_60
theorem ok_X12_atom_56 : zOK l D tc A nS xs mM_X12_atom 56 q_X12_atom_56 := s_iadd (by decide +kernel) ok_X12_atom_57
theorem ok_X12_atom_55 : zOK l D tc A nS xs mM_X12_atom 55 q_X12_atom_55 := s_iconst (n := 1) (by decide) (by decide +kernel) (by decide +kernel) ok_X12_atom_56
theorem ok_X12_atom_52 : zOK l D tc A nS xs mM_X12_atom 52 q_X12_atom_52 := r_getf kls_12 (by decide) tx_12_39 rfl w_714 (by decide +kernel) ok_X12_atom_55
theorem ok_X12_atom_51 : zOK l D tc A nS xs mM_X12_atom 51 q_X12_atom_51 := s_dup (by decide +kernel) ok_X12_atom_52
theorem ok_X12_atom_50 : zOK l D tc A nS xs mM_X12_atom 50 q_X12_atom_50 := s_aload_n (q := 0) rfl (by decide +kernel) (by decide +kernel) ok_X12_atom_51
theorem ok_X12_atom_49 : zOK l D tc A nS xs mM_X12_atom 49 q_X12_atom_49 := s_iast (t0 := 0) (by decide) (by decide) rfl (by decide +kernel) ok_X12_atom_50
theorem ok_X12_atom_48 : zOK l D tc A nS xs mM_X12_atom 48 q_X12_atom_48 := s_iconst (n := 0) (by decide) (by decide +kernel) (by decide +kernel) ok_X12_atom_49
theorem ok_X12_atom_45 : zOK l D tc A nS xs mM_X12_atom 45 q_X12_atom_45 := r_getf kls_12 (by decide) tx_12_39 rfl w_714 (by decide +kernel) ok_X12_atom_48
theorem ok_X12_atom_44 : zOK l D tc A nS xs mM_X12_atom 44 q_X12_atom_44 := s_aload_n (q := 0) rfl (by decide +kernel) (by decide +kernel) ok_X12_atom_45
theorem ok_X12_atom_41 : zOK l D tc A nS xs mM_X12_atom 41 q_X12_atom_41 := r_getf kls_12 (by decide) tx_12_38 rfl w_715 (by decide +kernel) ok_X12_atom_44
theorem ok_X12_atom_40 : zOK l D tc A nS xs mM_X12_atom 40 q_X12_atom_40 := s_aload_n (q := 0) rfl (by decide +kernel) (by decide +kernel) ok_X12_atom_41
theorem ok_X12_atom_39 : zOK l D tc A nS xs mM_X12_atom 39 q_X12_atom_39 := s_iast (t0 := 0) (by decide) (by decide) rfl (by decide +kernel) ok_X12_atom_40
theorem ok_X12_atom_38 : zOK l D tc A nS xs mM_X12_atom 38 q_X12_atom_38 := s_iconst (n := 1) (by decide) (by decide +kernel) (by decide +kernel) ok_X12_atom_39
theorem ok_X12_atom_35 : zOK l D tc A nS xs mM_X12_atom 35 q_X12_atom_35 := r_getf kls_12 (by decide) tx_12_39 rfl w_714 (by decide +kernel) ok_X12_atom_38
theorem ok_X12_atom_34 : zOK l D tc A nS xs mM_X12_atom 34 q_X12_atom_34 := s_aload_n (q := 0) rfl (by decide +kernel) (by decide +kernel) ok_X12_atom_35
theorem ok_X12_atom_31 : zOK l D tc A nS xs mM_X12_atom 31 q_X12_atom_31 := r_getf kls_12 (by decide) tx_12_37 rfl w_716 (by decide +kernel) ok_X12_atom_34
theorem ok_X12_atom_30 : zOK l D tc A nS xs mM_X12_atom 30 q_X12_atom_30 := s_aload_n (q := 0) rfl (by decide +kernel) (by decide +kernel) ok_X12_atom_31
theorem ok_X12_atom_29 : zOK l D tc A nS xs mM_X12_atom 29 q_X12_atom_29 := s_iast (t0 := 0) (by decide) (by decide) rfl (by decide +kernel) ok_X12_atom_30
theorem ok_X12_atom_28 : zOK l D tc A nS xs mM_X12_atom 28 q_X12_atom_28 := s_iload_n (q := 3) rfl (by decide +kernel) (by decide +kernel) ok_X12_atom_29
theorem ok_X12_atom_25 : zOK l D tc A nS xs mM_X12_atom 25 q_X12_atom_25 := r_getf kls_12 (by decide) tx_12_39 rfl w_714 (by decide +kernel) ok_X12_atom_28
theorem ok_X12_atom_24 : zOK l D tc A nS xs mM_X12_atom 24 q_X12_atom_24 := s_aload_n (q := 0) rfl (by decide +kernel) (by decide +kernel) ok_X12_atom_25
theorem ok_X12_atom_21 : zOK l D tc A nS xs mM_X12_atom 21 q_X12_atom_21 := r_getf kls_12 (by decide) tx_12_36 rfl w_717 (by decide +kernel) ok_X12_atom_24
theorem ok_X12_atom_20 : zOK l D tc A nS xs mM_X12_atom 20 q_X12_atom_20 := s_aload_n (q := 0) rfl (by decide +kernel) (by decide +kernel) ok_X12_atom_21
theorem ok_X12_atom_19 : zOK l D tc A nS xs mM_X12_atom 19 q_X12_atom_19 := s_iast (t0 := 0) (by decide) (by decide) rfl (by decide +kernel) ok_X12_atom_20
theorem ok_X12_atom_18 : zOK l D tc A nS xs mM_X12_atom 18 q_X12_atom_18 := s_iload_n (q := 2) rfl (by decide +kernel) (by decide +kernel) ok_X12_atom_19
theorem ok_X12_atom_15 : zOK l D tc A nS xs mM_X12_atom 15 q_X12_atom_15 := r_getf kls_12 (by decide) tx_12_39 rfl w_714 (by decide +kernel) ok_X12_atom_18
theorem ok_X12_atom_14 : zOK l D tc A nS xs mM_X12_atom 14 q_X12_atom_14 := s_aload_n (q := 0) rfl (by decide +kernel) (by decide +kernel) ok_X12_atom_15
theorem ok_X12_atom_11 : zOK l D tc A nS xs mM_X12_atom 11 q_X12_atom_11 := r_getf kls_12 (by decide) tx_12_34 rfl w_701 (by decide +kernel) ok_X12_atom_14
theorem ok_X12_atom_10 : zOK l D tc A nS xs mM_X12_atom 10 q_X12_atom_10 := s_aload_n (q := 0) rfl (by decide +kernel) (by decide +kernel) ok_X12_atom_11
theorem ok_X12_atom_9 : zOK l D tc A nS xs mM_X12_atom 9 q_X12_atom_9 := s_iast (t0 := 0) (by decide) (by decide) rfl (by decide +kernel) ok_X12_atom_10
theorem ok_X12_atom_8 : zOK l D tc A nS xs mM_X12_atom 8 q_X12_atom_8 := s_iload_n (q := 1) rfl (by decide +kernel) (by decide +kernel) ok_X12_atom_9
theorem ok_X12_atom_5 : zOK l D tc A nS xs mM_X12_atom 5 q_X12_atom_5 := r_getf kls_12 (by decide) tx_12_39 rfl w_714 (by decide +kernel) ok_X12_atom_8
theorem ok_X12_atom_4 : zOK l D tc A nS xs mM_X12_atom 4 q_X12_atom_4 := s_aload_n (q := 0) rfl (by decide +kernel) (by decide +kernel) ok_X12_atom_5
theorem ok_X12_atom_1 : zOK l D tc A nS xs mM_X12_atom 1 q_X12_atom_1 := r_getf kls_12 (by decide) tx_12_33 rfl w_702 (by decide +kernel) ok_X12_atom_4
theorem ok_X12_atom_0 : zOK l D tc A nS xs mM_X12_atom 0 q_X12_atom_0 := s_aload_n (q := 0) rfl (by decide +kernel) (by decide +kernel) ok_X12_atom_1
theorem ok_X12_behind_25 : zOK l D tc A nS xs mM_X12_behind 25 q_X12_behind_25 := s_iret rfl (by decide +kernel)
theorem ok_X12_behind_24 : zOK l D tc A nS xs mM_X12_behind 24 q_X12_behind_24 := s_iload_n (q := 3) rfl (by decide +kernel) (by decide +kernel) ok_X12_behind_25
theorem ok_X12_behind_21 : zOK l D tc A nS xs mM_X12_behind 21 q_X12_behind_21 := s_goto (tgt := 5) (off := (-16)) (by decide +kernel) (by decide) (s_back lb_185)
theorem ok_X12_behind_18 : zOK l D tc A nS xs mM_X12_behind 18 q_X12_behind_18 := s_iinc (n := 1) (by decide +kernel) (by decide +kernel) (by decide +kernel) ok_X12_behind_21
theorem ok_X12_behind_17 : zOK l D tc A nS xs mM_X12_behind 17 q_X12_behind_17 := s_istore_n (q := 3) rfl (by decide +kernel) (by decide +kernel) ok_X12_behind_18
theorem ok_X12_behind_16 : zOK l D tc A nS xs mM_X12_behind 16 q_X12_behind_16 := s_iald (t0 := 0) (by decide) (by decide) rfl (by decide +kernel) ok_X12_behind_17
theorem ok_X12_behind_15 : zOK l D tc A nS xs mM_X12_behind 15 q_X12_behind_15 := s_iload_n (q := 3) rfl (by decide +kernel) (by decide +kernel) ok_X12_behind_16
theorem ok_X12_behind_12 : zOK l D tc A nS xs mM_X12_behind 12 q_X12_behind_12 := r_getf kls_12 (by decide) tx_12_35 rfl w_687 (by decide +kernel) ok_X12_behind_15
theorem ok_X12_behind_11 : zOK l D tc A nS xs mM_X12_behind 11 q_X12_behind_11 := s_aload_n (q := 0) rfl (by decide +kernel) (by decide +kernel) ok_X12_behind_12
theorem ok_X12_behind_8 : zOK l D tc A nS xs mM_X12_behind 8 q_X12_behind_8 := s_icmp_ge (tgt := 24) (off := 16) (by decide +kernel) (by decide) ok_X12_behind_24 ok_X12_behind_11
theorem ok_X12_behind_7 : zOK l D tc A nS xs mM_X12_behind 7 q_X12_behind_7 := s_iload_n (q := 2) rfl (by decide +kernel) (by decide +kernel) ok_X12_behind_8
theorem ok_X12_behind_5 : zOK l D tc A nS xs mM_X12_behind 5 q_X12_behind_5 := s_iload (by decide +kernel) (by decide +kernel) ok_X12_behind_7
theorem ok_X12_behind_3 : zOK l D tc A nS xs mM_X12_behind 3 q_X12_behind_3 := s_istore (by decide +kernel) (by decide +kernel) ok_X12_behind_5
theorem ok_X12_behind_2 : zOK l D tc A nS xs mM_X12_behind 2 q_X12_behind_2 := s_iconst (n := 0) (by decide) (by decide +kernel) (by decide +kernel) ok_X12_behind_3
theorem ok_X12_behind_1 : zOK l D tc A nS xs mM_X12_behind 1 q_X12_behind_1 := s_istore_n (q := 3) rfl (by decide +kernel) (by decide +kernel) ok_X12_behind_2
theorem ok_X12_behind_0 : zOK l D tc A nS xs mM_X12_behind 0 q_X12_behind_0 := s_iload_n (q := 1) rfl (by decide +kernel) (by decide +kernel) ok_X12_behind_1
theorem ok_X12_blanks_102 : zOK l D tc A nS xs mM_X12_blanks 102 q_X12_blanks_102 := s_vret rfl (by decide +kernel)
theorem ok_X12_blanks_99 : zOK l D tc A nS xs mM_X12_blanks 99 q_X12_blanks_99 := s_goto (tgt := 0) (off := (-99)) (by decide +kernel) (by decide) (s_back lb_186)
theorem ok_X12_blanks_96 : zOK l D tc A nS xs mM_X12_blanks 96 q_X12_blanks_96 := r_putf kls_12 ty_12_48 zck_int (by decide) tx_12_48 rfl w_718 (by decide +kernel) ok_X12_blanks_99
theorem ok_X12_blanks_95 : zOK l D tc A nS xs mM_X12_blanks 95 q_X12_blanks_95 := s_iadd (by decide +kernel) ok_X12_blanks_96
theorem ok_X12_blanks_94 : zOK l D tc A nS xs mM_X12_blanks 94 q_X12_blanks_94 := s_iconst (n := 1) (by decide) (by decide +kernel) (by decide +kernel) ok_X12_blanks_95
theorem ok_X12_blanks_91 : zOK l D tc A nS xs mM_X12_blanks 91 q_X12_blanks_91 := r_getf kls_12 (by decide) tx_12_48 rfl w_718 (by decide +kernel) ok_X12_blanks_94
theorem ok_X12_blanks_90 : zOK l D tc A nS xs mM_X12_blanks 90 q_X12_blanks_90 := s_dup (by decide +kernel) ok_X12_blanks_91
theorem ok_X12_blanks_89 : zOK l D tc A nS xs mM_X12_blanks 89 q_X12_blanks_89 := s_aload_n (q := 0) rfl (by decide +kernel) (by decide +kernel) ok_X12_blanks_90
theorem ok_X12_blanks_49 : zOK l D tc A nS xs mM_X12_blanks 49 q_X12_blanks_49 := s_icmp_ne (tgt := 89) (off := 40) (by decide +kernel) (by decide) ok_X12_blanks_89 s_none
theorem ok_X12_blanks_47 : zOK l D tc A nS xs mM_X12_blanks 47 q_X12_blanks_47 := s_bipush (n := 59) (by decide) (by decide +kernel) (by decide +kernel) ok_X12_blanks_49
theorem ok_X12_blanks_44 : zOK l D tc A nS xs mM_X12_blanks 44 q_X12_blanks_44 := r_callV zEE_ok zTw_gd kls_12 (M2 := mM_X12_byteOf) (na := 1) lb_187 calV_X12_byteOf rfl rfl w_719 (by decide +kernel) ok_X12_blanks_47
theorem ok_X12_blanks_41 : zOK l D tc A nS xs mM_X12_blanks 41 q_X12_blanks_41 := r_getf kls_12 (by decide) tx_12_48 rfl w_718 (by decide +kernel) ok_X12_blanks_44
theorem ok_X12_blanks_40 : zOK l D tc A nS xs mM_X12_blanks 40 q_X12_blanks_40 := s_aload_n (q := 0) rfl (by decide +kernel) (by decide +kernel) ok_X12_blanks_41
theorem ok_X12_blanks_39 : zOK l D tc A nS xs mM_X12_blanks 39 q_X12_blanks_39 := s_aload_n (q := 0) rfl (by decide +kernel) (by decide +kernel) ok_X12_blanks_40
theorem ok_X12_blanks_36 : zOK l D tc A nS xs mM_X12_blanks 36 q_X12_blanks_36 := s_icmp_ne (tgt := 102) (off := 66) (by decide +kernel) (by decide) ok_X12_blanks_102 ok_X12_blanks_39
theorem ok_X12_blanks_34 : zOK l D tc A nS xs mM_X12_blanks 34 q_X12_blanks_34 := s_bipush (n := 59) (by decide) (by decide +kernel) (by decide +kernel) ok_X12_blanks_36
theorem ok_X12_blanks_31 : zOK l D tc A nS xs mM_X12_blanks 31 q_X12_blanks_31 := r_callV zEE_ok zTw_gd kls_12 (M2 := mM_X12_byteOf) (na := 1) lb_187 calV_X12_byteOf rfl rfl w_719 (by decide +kernel) ok_X12_blanks_34
theorem ok_X12_blanks_28 : zOK l D tc A nS xs mM_X12_blanks 28 q_X12_blanks_28 := r_getf kls_12 (by decide) tx_12_48 rfl w_718 (by decide +kernel) ok_X12_blanks_31
theorem ok_X12_blanks_27 : zOK l D tc A nS xs mM_X12_blanks 27 q_X12_blanks_27 := s_aload_n (q := 0) rfl (by decide +kernel) (by decide +kernel) ok_X12_blanks_28
theorem ok_X12_blanks_26 : zOK l D tc A nS xs mM_X12_blanks 26 q_X12_blanks_26 := s_aload_n (q := 0) rfl (by decide +kernel) (by decide +kernel) ok_X12_blanks_27
theorem ok_X12_blanks_23 : zOK l D tc A nS xs mM_X12_blanks 23 q_X12_blanks_23 := s_icmp_eq (tgt := 39) (off := 16) (by decide +kernel) (by decide) ok_X12_blanks_39 ok_X12_blanks_26
theorem ok_X12_blanks_21 : zOK l D tc A nS xs mM_X12_blanks 21 q_X12_blanks_21 := s_bipush (n := 10) (by decide) (by decide +kernel) (by decide +kernel) ok_X12_blanks_23
theorem ok_X12_blanks_18 : zOK l D tc A nS xs mM_X12_blanks 18 q_X12_blanks_18 := r_callV zEE_ok zTw_gd kls_12 (M2 := mM_X12_byteOf) (na := 1) lb_187 calV_X12_byteOf rfl rfl w_719 (by decide +kernel) ok_X12_blanks_21
theorem ok_X12_blanks_15 : zOK l D tc A nS xs mM_X12_blanks 15 q_X12_blanks_15 := r_getf kls_12 (by decide) tx_12_48 rfl w_718 (by decide +kernel) ok_X12_blanks_18
theorem ok_X12_blanks_14 : zOK l D tc A nS xs mM_X12_blanks 14 q_X12_blanks_14 := s_aload_n (q := 0) rfl (by decide +kernel) (by decide +kernel) ok_X12_blanks_15
theorem ok_X12_blanks_13 : zOK l D tc A nS xs mM_X12_blanks 13 q_X12_blanks_13 := s_aload_n (q := 0) rfl (by decide +kernel) (by decide +kernel) ok_X12_blanks_14
theorem ok_X12_blanks_10 : zOK l D tc A nS xs mM_X12_blanks 10 q_X12_blanks_10 := s_icmp_eq (tgt := 39) (off := 29) (by decide +kernel) (by decide) ok_X12_blanks_39 ok_X12_blanks_13
theorem ok_X12_blanks_8 : zOK l D tc A nS xs mM_X12_blanks 8 q_X12_blanks_8 := s_bipush (n := 32) (by decide) (by decide +kernel) (by decide +kernel) ok_X12_blanks_10
theorem ok_X12_blanks_5 : zOK l D tc A nS xs mM_X12_blanks 5 q_X12_blanks_5 := r_callV zEE_ok zTw_gd kls_12 (M2 := mM_X12_byteOf) (na := 1) lb_187 calV_X12_byteOf rfl rfl w_719 (by decide +kernel) ok_X12_blanks_8
theorem ok_X12_blanks_2 : zOK l D tc A nS xs mM_X12_blanks 2 q_X12_blanks_2 := r_getf kls_12 (by decide) tx_12_48 rfl w_718 (by decide +kernel) ok_X12_blanks_5
theorem ok_X12_blanks_1 : zOK l D tc A nS xs mM_X12_blanks 1 q_X12_blanks_1 := s_aload_n (q := 0) rfl (by decide +kernel) (by decide +kernel) ok_X12_blanks_2
theorem ok_X12_blanks_0 : zOK l D tc A nS xs mM_X12_blanks 0 q_X12_blanks_0 := s_aload_n (q := 0) rfl (by decide +kernel) (by decide +kernel) ok_X12_blanks_1
theorem ok_X12_byteOf_18 : zOK l D tc A nS xs mM_X12_byteOf 18 q_X12_byteOf_18 := s_iret rfl (by decide +kernel)
theorem ok_X12_byteOf_17 : zOK l D tc A nS xs mM_X12_byteOf 17 q_X12_byteOf_17 := s_iconst (n := (-1)) (by decide) (by decide +kernel) (by decide +kernel) ok_X12_byteOf_18
theorem ok_X12_byteOf_14 : zOK l D tc A nS xs mM_X12_byteOf 14 q_X12_byteOf_14 := s_goto (tgt := 18) (off := 4) (by decide +kernel) (by decide) ok_X12_byteOf_18
theorem ok_X12_byteOf_13 : zOK l D tc A nS xs mM_X12_byteOf 13 q_X12_byteOf_13 := s_iald (t0 := 0) (by decide) (by decide) rfl (by decide +kernel) ok_X12_byteOf_14
theorem ok_X12_byteOf_12 : zOK l D tc A nS xs mM_X12_byteOf 12 q_X12_byteOf_12 := s_iload_n (q := 1) rfl (by decide +kernel) (by decide +kernel) ok_X12_byteOf_13
theorem ok_X12_byteOf_9 : zOK l D tc A nS xs mM_X12_byteOf 9 q_X12_byteOf_9 := r_getf kls_12 (by decide) tx_12_46 rfl w_722 (by decide +kernel) ok_X12_byteOf_12
theorem ok_X12_byteOf_8 : zOK l D tc A nS xs mM_X12_byteOf 8 q_X12_byteOf_8 := s_aload_n (q := 0) rfl (by decide +kernel) (by decide +kernel) ok_X12_byteOf_9
theorem ok_X12_byteOf_5 : zOK l D tc A nS xs mM_X12_byteOf 5 q_X12_byteOf_5 := s_icmp_ge (tgt := 17) (off := 12) (by decide +kernel) (by decide) ok_X12_byteOf_17 ok_X12_byteOf_8
theorem ok_X12_byteOf_2 : zOK l D tc A nS xs mM_X12_byteOf 2 q_X12_byteOf_2 := r_getf kls_12 (by decide) tx_12_47 rfl w_723 (by decide +kernel) ok_X12_byteOf_5
theorem ok_X12_byteOf_1 : zOK l D tc A nS xs mM_X12_byteOf 1 q_X12_byteOf_1 := s_aload_n (q := 0) rfl (by decide +kernel) (by decide +kernel) ok_X12_byteOf_2
theorem ok_X12_byteOf_0 : zOK l D tc A nS xs mM_X12_byteOf 0 q_X12_byteOf_0 := s_iload_n (q := 1) rfl (by decide +kernel) (by decide +kernel) ok_X12_byteOf_1
theorem ok_X12_cell_22 : zOK l D tc A nS xs mM_X12_cell 22 q_X12_cell_22 := s_iret rfl (by decide +kernel)
theorem ok_X12_cell_21 : zOK l D tc A nS xs mM_X12_cell 21 q_X12_cell_21 := s_ior (by decide +kernel) ok_X12_cell_22
theorem ok_X12_cell_20 : zOK l D tc A nS xs mM_X12_cell 20 q_X12_cell_20 := s_ishl (by decide +kernel) ok_X12_cell_21
theorem ok_X12_cell_18 : zOK l D tc A nS xs mM_X12_cell 18 q_X12_cell_18 := s_bipush (n := 8) (by decide) (by decide +kernel) (by decide +kernel) ok_X12_cell_20
theorem ok_X12_cell_17 : zOK l D tc A nS xs mM_X12_cell 17 q_X12_cell_17 := s_iald (t0 := 0) (by decide) (by decide) rfl (by decide +kernel) ok_X12_cell_18
theorem ok_X12_cell_16 : zOK l D tc A nS xs mM_X12_cell 16 q_X12_cell_16 := s_iadd (by decide +kernel) ok_X12_cell_17
theorem ok_X12_cell_15 : zOK l D tc A nS xs mM_X12_cell 15 q_X12_cell_15 := s_iconst (n := 1) (by decide) (by decide +kernel) (by decide +kernel) ok_X12_cell_16
theorem ok_X12_cell_14 : zOK l D tc A nS xs mM_X12_cell 14 q_X12_cell_14 := s_iload_n (q := 1) rfl (by decide +kernel) (by decide +kernel) ok_X12_cell_15
theorem ok_X12_cell_13 : zOK l D tc A nS xs mM_X12_cell 13 q_X12_cell_13 := s_aald (t0 := 2) (ty := .array .int) rfl rfl (by decide +kernel) ok_X12_cell_14
theorem ok_X12_cell_12 : zOK l D tc A nS xs mM_X12_cell 12 q_X12_cell_12 := s_iconst (n := 0) (by decide) (by decide +kernel) (by decide +kernel) ok_X12_cell_13
theorem ok_X12_cell_9 : zOK l D tc A nS xs mM_X12_cell 9 q_X12_cell_9 := r_getf kls_12 (by decide) tx_12_0 rfl w_724 (by decide +kernel) ok_X12_cell_12
theorem ok_X12_cell_8 : zOK l D tc A nS xs mM_X12_cell 8 q_X12_cell_8 := s_aload_n (q := 0) rfl (by decide +kernel) (by decide +kernel) ok_X12_cell_9
theorem ok_X12_cell_7 : zOK l D tc A nS xs mM_X12_cell 7 q_X12_cell_7 := s_iald (t0 := 0) (by decide) (by decide) rfl (by decide +kernel) ok_X12_cell_8
theorem ok_X12_cell_6 : zOK l D tc A nS xs mM_X12_cell 6 q_X12_cell_6 := s_iload_n (q := 1) rfl (by decide +kernel) (by decide +kernel) ok_X12_cell_7
theorem ok_X12_cell_5 : zOK l D tc A nS xs mM_X12_cell 5 q_X12_cell_5 := s_aald (t0 := 2) (ty := .array .int) rfl rfl (by decide +kernel) ok_X12_cell_6
theorem ok_X12_cell_4 : zOK l D tc A nS xs mM_X12_cell 4 q_X12_cell_4 := s_iconst (n := 0) (by decide) (by decide +kernel) (by decide +kernel) ok_X12_cell_5
theorem ok_X12_cell_1 : zOK l D tc A nS xs mM_X12_cell 1 q_X12_cell_1 := r_getf kls_12 (by decide) tx_12_0 rfl w_724 (by decide +kernel) ok_X12_cell_4
theorem ok_X12_cell_0 : zOK l D tc A nS xs mM_X12_cell 0 q_X12_cell_0 := s_aload_n (q := 0) rfl (by decide +kernel) (by decide +kernel) ok_X12_cell_1
theorem ok_X12_closes_139 : zOK l D tc A nS xs mM_X12_closes 139 q_X12_closes_139 := s_vret rfl (by decide +kernel)
theorem ok_X12_closes_136 : zOK l D tc A nS xs mM_X12_closes 136 q_X12_closes_136 := r_callV zEE_ok zTw_gd kls_12 (M2 := mM_X12_comes) (na := 1) lb_190 calV_X12_comes rfl rfl w_725 (by decide +kernel) ok_X12_closes_139
theorem ok_X12_closes_135 : zOK l D tc A nS xs mM_X12_closes 135 q_X12_closes_135 := s_iload_n (q := 1) rfl (by decide +kernel) (by decide +kernel) ok_X12_closes_136
theorem ok_X12_closes_134 : zOK l D tc A nS xs mM_X12_closes 134 q_X12_closes_134 := s_aload_n (q := 0) rfl (by decide +kernel) (by decide +kernel) ok_X12_closes_135
theorem ok_X12_closes_131 : zOK l D tc A nS xs mM_X12_closes 131 q_X12_closes_131 := r_callV zEE_ok zTw_gd kls_12 (M2 := mM_X12_sized) (na := 1) lb_275 calV_X12_sized rfl rfl w_728 (by decide +kernel) ok_X12_closes_134
theorem ok_X12_closes_130 : zOK l D tc A nS xs mM_X12_closes 130 q_X12_closes_130 := s_iload_n (q := 1) rfl (by decide +kernel) (by decide +kernel) ok_X12_closes_131
theorem ok_X12_closes_129 : zOK l D tc A nS xs mM_X12_closes 129 q_X12_closes_129 := s_aload_n (q := 0) rfl (by decide +kernel) (by decide +kernel) ok_X12_closes_130
theorem ok_X12_closes_128 : zOK l D tc A nS xs mM_X12_closes 128 q_X12_closes_128 := s_iast (t0 := 0) (by decide) (by decide) rfl (by decide +kernel) ok_X12_closes_129
theorem ok_X12_closes_125 : zOK l D tc A nS xs mM_X12_closes 125 q_X12_closes_125 := r_callV zEE_ok zTw_gd kls_12 (M2 := mM_X12_atom) (na := 3) lb_183 calV_X12_atom rfl rfl w_731 (by decide +kernel) ok_X12_closes_128
theorem ok_X12_closes_122 : zOK l D tc A nS xs mM_X12_closes 122 q_X12_closes_122 := r_getf kls_12 (by decide) tx_12_49 rfl w_734 (by decide +kernel) ok_X12_closes_125
theorem ok_X12_closes_121 : zOK l D tc A nS xs mM_X12_closes 121 q_X12_closes_121 := s_aload_n (q := 0) rfl (by decide +kernel) (by decide +kernel) ok_X12_closes_122
theorem ok_X12_closes_120 : zOK l D tc A nS xs mM_X12_closes 120 q_X12_closes_120 := s_iconst (n := 0) (by decide) (by decide +kernel) (by decide +kernel) ok_X12_closes_121
theorem ok_X12_closes_119 : zOK l D tc A nS xs mM_X12_closes 119 q_X12_closes_119 := s_iconst (n := 0) (by decide) (by decide +kernel) (by decide +kernel) ok_X12_closes_120
theorem ok_X12_closes_118 : zOK l D tc A nS xs mM_X12_closes 118 q_X12_closes_118 := s_aload_n (q := 0) rfl (by decide +kernel) (by decide +kernel) ok_X12_closes_119
theorem ok_X12_closes_117 : zOK l D tc A nS xs mM_X12_closes 117 q_X12_closes_117 := s_iald (t0 := 0) (by decide) (by decide) rfl (by decide +kernel) ok_X12_closes_118
theorem ok_X12_closes_114 : zOK l D tc A nS xs mM_X12_closes 114 q_X12_closes_114 := r_getf kls_12 (by decide) tx_12_56 rfl w_735 (by decide +kernel) ok_X12_closes_117
theorem ok_X12_closes_113 : zOK l D tc A nS xs mM_X12_closes 113 q_X12_closes_113 := s_aload_n (q := 0) rfl (by decide +kernel) (by decide +kernel) ok_X12_closes_114
theorem ok_X12_closes_110 : zOK l D tc A nS xs mM_X12_closes 110 q_X12_closes_110 := r_getf kls_12 (by decide) tx_12_53 rfl w_736 (by decide +kernel) ok_X12_closes_113
theorem ok_X12_closes_109 : zOK l D tc A nS xs mM_X12_closes 109 q_X12_closes_109 := s_aload_n (q := 0) rfl (by decide +kernel) (by decide +kernel) ok_X12_closes_110
theorem ok_X12_closes_106 : zOK l D tc A nS xs mM_X12_closes 106 q_X12_closes_106 := r_getf kls_12 (by decide) tx_12_35 rfl w_687 (by decide +kernel) ok_X12_closes_109
theorem ok_X12_closes_105 : zOK l D tc A nS xs mM_X12_closes 105 q_X12_closes_105 := s_aload_n (q := 0) rfl (by decide +kernel) (by decide +kernel) ok_X12_closes_106
theorem ok_X12_closes_102 : zOK l D tc A nS xs mM_X12_closes 102 q_X12_closes_102 := s_if_ne (tgt := 129) (off := 27) (by decide +kernel) (by decide) ok_X12_closes_129 ok_X12_closes_105
theorem ok_X12_closes_101 : zOK l D tc A nS xs mM_X12_closes 101 q_X12_closes_101 := s_iald (t0 := 0) (by decide) (by decide) rfl (by decide +kernel) ok_X12_closes_102
theorem ok_X12_closes_98 : zOK l D tc A nS xs mM_X12_closes 98 q_X12_closes_98 := r_getf kls_12 (by decide) tx_12_56 rfl w_735 (by decide +kernel) ok_X12_closes_101
theorem ok_X12_closes_97 : zOK l D tc A nS xs mM_X12_closes 97 q_X12_closes_97 := s_aload_n (q := 0) rfl (by decide +kernel) (by decide +kernel) ok_X12_closes_98
theorem ok_X12_closes_94 : zOK l D tc A nS xs mM_X12_closes 94 q_X12_closes_94 := r_getf kls_12 (by decide) tx_12_54 rfl w_737 (by decide +kernel) ok_X12_closes_97
theorem ok_X12_closes_93 : zOK l D tc A nS xs mM_X12_closes 93 q_X12_closes_93 := s_aload_n (q := 0) rfl (by decide +kernel) (by decide +kernel) ok_X12_closes_94
theorem ok_X12_closes_92 : zOK l D tc A nS xs mM_X12_closes 92 q_X12_closes_92 := s_vret rfl (by decide +kernel)
theorem ok_X12_closes_89 : zOK l D tc A nS xs mM_X12_closes 89 q_X12_closes_89 := r_callV zEE_ok zTw_gd kls_12 (M2 := mM_X12_comes) (na := 1) lb_190 calV_X12_comes rfl rfl w_725 (by decide +kernel) ok_X12_closes_92
theorem ok_X12_closes_86 : zOK l D tc A nS xs mM_X12_closes 86 q_X12_closes_86 := r_callV zEE_ok zTw_gd kls_12 (M2 := mM_X12_atom) (na := 3) lb_183 calV_X12_atom rfl rfl w_731 (by decide +kernel) ok_X12_closes_89
theorem ok_X12_closes_85 : zOK l D tc A nS xs mM_X12_closes 85 q_X12_closes_85 := s_iald (t0 := 0) (by decide) (by decide) rfl (by decide +kernel) ok_X12_closes_86
theorem ok_X12_closes_82 : zOK l D tc A nS xs mM_X12_closes 82 q_X12_closes_82 := r_getf kls_12 (by decide) tx_12_56 rfl w_735 (by decide +kernel) ok_X12_closes_85
theorem ok_X12_closes_81 : zOK l D tc A nS xs mM_X12_closes 81 q_X12_closes_81 := s_aload_n (q := 0) rfl (by decide +kernel) (by decide +kernel) ok_X12_closes_82
theorem ok_X12_closes_78 : zOK l D tc A nS xs mM_X12_closes 78 q_X12_closes_78 := r_getf kls_12 (by decide) tx_12_55 rfl w_738 (by decide +kernel) ok_X12_closes_81
theorem ok_X12_closes_77 : zOK l D tc A nS xs mM_X12_closes 77 q_X12_closes_77 := s_aload_n (q := 0) rfl (by decide +kernel) (by decide +kernel) ok_X12_closes_78
theorem ok_X12_closes_76 : zOK l D tc A nS xs mM_X12_closes 76 q_X12_closes_76 := s_iconst (n := 0) (by decide) (by decide +kernel) (by decide +kernel) ok_X12_closes_77
theorem ok_X12_closes_75 : zOK l D tc A nS xs mM_X12_closes 75 q_X12_closes_75 := s_iconst (n := 0) (by decide) (by decide +kernel) (by decide +kernel) ok_X12_closes_76
theorem ok_X12_closes_74 : zOK l D tc A nS xs mM_X12_closes 74 q_X12_closes_74 := s_aload_n (q := 0) rfl (by decide +kernel) (by decide +kernel) ok_X12_closes_75
theorem ok_X12_closes_73 : zOK l D tc A nS xs mM_X12_closes 73 q_X12_closes_73 := s_aload_n (q := 0) rfl (by decide +kernel) (by decide +kernel) ok_X12_closes_74
theorem ok_X12_closes_70 : zOK l D tc A nS xs mM_X12_closes 70 q_X12_closes_70 := s_icmp_ne (tgt := 93) (off := 23) (by decide +kernel) (by decide) ok_X12_closes_93 ok_X12_closes_73
theorem ok_X12_closes_69 : zOK l D tc A nS xs mM_X12_closes 69 q_X12_closes_69 := s_iconst (n := (-1)) (by decide) (by decide +kernel) (by decide +kernel) ok_X12_closes_70
theorem ok_X12_closes_68 : zOK l D tc A nS xs mM_X12_closes 68 q_X12_closes_68 := s_iload_n (q := 1) rfl (by decide +kernel) (by decide +kernel) ok_X12_closes_69
theorem ok_X12_closes_67 : zOK l D tc A nS xs mM_X12_closes 67 q_X12_closes_67 := s_istore_n (q := 1) rfl (by decide +kernel) (by decide +kernel) ok_X12_closes_68
theorem ok_X12_closes_66 : zOK l D tc A nS xs mM_X12_closes 66 q_X12_closes_66 := s_iald (t0 := 0) (by decide) (by decide) rfl (by decide +kernel) ok_X12_closes_67
theorem ok_X12_closes_63 : zOK l D tc A nS xs mM_X12_closes 63 q_X12_closes_63 := r_getf kls_12 (by decide) tx_12_56 rfl w_735 (by decide +kernel) ok_X12_closes_66
theorem ok_X12_closes_62 : zOK l D tc A nS xs mM_X12_closes 62 q_X12_closes_62 := s_aload_n (q := 0) rfl (by decide +kernel) (by decide +kernel) ok_X12_closes_63
theorem ok_X12_closes_59 : zOK l D tc A nS xs mM_X12_closes 59 q_X12_closes_59 := r_getf kls_12 (by decide) tx_12_52 rfl w_739 (by decide +kernel) ok_X12_closes_62
theorem ok_X12_closes_58 : zOK l D tc A nS xs mM_X12_closes 58 q_X12_closes_58 := s_aload_n (q := 0) rfl (by decide +kernel) (by decide +kernel) ok_X12_closes_59
theorem ok_X12_closes_55 : zOK l D tc A nS xs mM_X12_closes 55 q_X12_closes_55 := r_putf kls_12 ty_12_56 zck_int (by decide) tx_12_56 rfl w_735 (by decide +kernel) ok_X12_closes_58
theorem ok_X12_closes_54 : zOK l D tc A nS xs mM_X12_closes 54 q_X12_closes_54 := s_isub (by decide +kernel) ok_X12_closes_55
theorem ok_X12_closes_53 : zOK l D tc A nS xs mM_X12_closes 53 q_X12_closes_53 := s_iconst (n := 1) (by decide) (by decide +kernel) (by decide +kernel) ok_X12_closes_54
theorem ok_X12_closes_50 : zOK l D tc A nS xs mM_X12_closes 50 q_X12_closes_50 := r_getf kls_12 (by decide) tx_12_56 rfl w_735 (by decide +kernel) ok_X12_closes_53
theorem ok_X12_closes_49 : zOK l D tc A nS xs mM_X12_closes 49 q_X12_closes_49 := s_dup (by decide +kernel) ok_X12_closes_50
theorem ok_X12_closes_48 : zOK l D tc A nS xs mM_X12_closes 48 q_X12_closes_48 := s_aload_n (q := 0) rfl (by decide +kernel) (by decide +kernel) ok_X12_closes_49
theorem ok_X12_closes_35 : zOK l D tc A nS xs mM_X12_closes 35 q_X12_closes_35 := s_icmp_ne (tgt := 48) (off := 13) (by decide +kernel) (by decide) ok_X12_closes_48 s_none
theorem ok_X12_closes_34 : zOK l D tc A nS xs mM_X12_closes 34 q_X12_closes_34 := s_iconst (n := 1) (by decide) (by decide +kernel) (by decide +kernel) ok_X12_closes_35
theorem ok_X12_closes_33 : zOK l D tc A nS xs mM_X12_closes 33 q_X12_closes_33 := s_iald (t0 := 0) (by decide) (by decide) rfl (by decide +kernel) ok_X12_closes_34
theorem ok_X12_closes_32 : zOK l D tc A nS xs mM_X12_closes 32 q_X12_closes_32 := s_isub (by decide +kernel) ok_X12_closes_33
theorem ok_X12_closes_31 : zOK l D tc A nS xs mM_X12_closes 31 q_X12_closes_31 := s_iconst (n := 1) (by decide) (by decide +kernel) (by decide +kernel) ok_X12_closes_32
theorem ok_X12_closes_28 : zOK l D tc A nS xs mM_X12_closes 28 q_X12_closes_28 := r_getf kls_12 (by decide) tx_12_56 rfl w_735 (by decide +kernel) ok_X12_closes_31
theorem ok_X12_closes_27 : zOK l D tc A nS xs mM_X12_closes 27 q_X12_closes_27 := s_aload_n (q := 0) rfl (by decide +kernel) (by decide +kernel) ok_X12_closes_28
theorem ok_X12_closes_24 : zOK l D tc A nS xs mM_X12_closes 24 q_X12_closes_24 := r_getf kls_12 (by decide) tx_12_54 rfl w_737 (by decide +kernel) ok_X12_closes_27
theorem ok_X12_closes_23 : zOK l D tc A nS xs mM_X12_closes 23 q_X12_closes_23 := s_aload_n (q := 0) rfl (by decide +kernel) (by decide +kernel) ok_X12_closes_24
theorem ok_X12_closes_20 : zOK l D tc A nS xs mM_X12_closes 20 q_X12_closes_20 := s_icmp_eq (tgt := 38) (off := 18) (by decide +kernel) (by decide) s_none ok_X12_closes_23
theorem ok_X12_closes_18 : zOK l D tc A nS xs mM_X12_closes 18 q_X12_closes_18 := s_bipush (n := (-2)) (by decide) (by decide +kernel) (by decide +kernel) ok_X12_closes_20
theorem ok_X12_closes_17 : zOK l D tc A nS xs mM_X12_closes 17 q_X12_closes_17 := s_iald (t0 := 0) (by decide) (by decide) rfl (by decide +kernel) ok_X12_closes_18
theorem ok_X12_closes_16 : zOK l D tc A nS xs mM_X12_closes 16 q_X12_closes_16 := s_isub (by decide +kernel) ok_X12_closes_17
theorem ok_X12_closes_15 : zOK l D tc A nS xs mM_X12_closes 15 q_X12_closes_15 := s_iconst (n := 1) (by decide) (by decide +kernel) (by decide +kernel) ok_X12_closes_16
theorem ok_X12_closes_12 : zOK l D tc A nS xs mM_X12_closes 12 q_X12_closes_12 := r_getf kls_12 (by decide) tx_12_56 rfl w_735 (by decide +kernel) ok_X12_closes_15
theorem ok_X12_closes_11 : zOK l D tc A nS xs mM_X12_closes 11 q_X12_closes_11 := s_aload_n (q := 0) rfl (by decide +kernel) (by decide +kernel) ok_X12_closes_12
theorem ok_X12_closes_8 : zOK l D tc A nS xs mM_X12_closes 8 q_X12_closes_8 := r_getf kls_12 (by decide) tx_12_52 rfl w_739 (by decide +kernel) ok_X12_closes_11
theorem ok_X12_closes_7 : zOK l D tc A nS xs mM_X12_closes 7 q_X12_closes_7 := s_aload_n (q := 0) rfl (by decide +kernel) (by decide +kernel) ok_X12_closes_8
theorem ok_X12_closes_4 : zOK l D tc A nS xs mM_X12_closes 4 q_X12_closes_4 := s_if_eq (tgt := 38) (off := 34) (by decide +kernel) (by decide) s_none ok_X12_closes_7
theorem ok_X12_closes_1 : zOK l D tc A nS xs mM_X12_closes 1 q_X12_closes_1 := r_getf kls_12 (by decide) tx_12_56 rfl w_735 (by decide +kernel) ok_X12_closes_4
theorem ok_X12_closes_0 : zOK l D tc A nS xs mM_X12_closes 0 q_X12_closes_0 := s_aload_n (q := 0) rfl (by decide +kernel) (by decide +kernel) ok_X12_closes_1
end ZRows
