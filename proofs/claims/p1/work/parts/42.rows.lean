section ZRows
variable {l : Launch} {D : va_G} {tc : Nat → ClassId} {A : Nat → Prop} {nS : Nat} {xs : Nat → Int32}
theorem ok_X5_closeList_136 : zOK l D tc A nS xs mM_X5_closeList 136 q_X5_closeList_136 := s_vret rfl (by decide +kernel)
theorem ok_X5_closeList_133 : zOK l D tc A nS xs mM_X5_closeList 133 q_X5_closeList_133 := r_callV zEE_ok zTw_gd kls_10 (M2 := mM_X10_setRest) (na := 2) lb_140 calV_X10_setRest rfl rfl w_269 (by decide +kernel) ok_X5_closeList_136
theorem ok_X5_closeList_130 : zOK l D tc A nS xs mM_X5_closeList 130 q_X5_closeList_130 := r_callV zEE_ok zTw_gd kls_10 (M2 := mM_X10_add) (na := 5) lb_117 calV_X10_add rfl rfl w_275 (by decide +kernel) ok_X5_closeList_133
theorem ok_X5_closeList_129 : zOK l D tc A nS xs mM_X5_closeList 129 q_X5_closeList_129 := s_iconst (n := (-1)) (by decide) (by decide +kernel) (by decide +kernel) ok_X5_closeList_130
theorem ok_X5_closeList_127 : zOK l D tc A nS xs mM_X5_closeList 127 q_X5_closeList_127 := s_bipush (n := 6) (by decide) (by decide +kernel) (by decide +kernel) ok_X5_closeList_129
theorem ok_X5_closeList_126 : zOK l D tc A nS xs mM_X5_closeList 126 q_X5_closeList_126 := s_iconst (n := 0) (by decide) (by decide +kernel) (by decide +kernel) ok_X5_closeList_127
theorem ok_X5_closeList_125 : zOK l D tc A nS xs mM_X5_closeList 125 q_X5_closeList_125 := s_iload_n (q := 1) rfl (by decide +kernel) (by decide +kernel) ok_X5_closeList_126
theorem ok_X5_closeList_124 : zOK l D tc A nS xs mM_X5_closeList 124 q_X5_closeList_124 := s_iconst (n := 0) (by decide) (by decide +kernel) (by decide +kernel) ok_X5_closeList_125
theorem ok_X5_closeList_121 : zOK l D tc A nS xs mM_X5_closeList 121 q_X5_closeList_121 := r_getf kls_5 (by decide) tx_5_0 rfl w_273 (by decide +kernel) ok_X5_closeList_124
theorem ok_X5_closeList_120 : zOK l D tc A nS xs mM_X5_closeList 120 q_X5_closeList_120 := s_aload_n (q := 0) rfl (by decide +kernel) (by decide +kernel) ok_X5_closeList_121
theorem ok_X5_closeList_119 : zOK l D tc A nS xs mM_X5_closeList 119 q_X5_closeList_119 := s_iald (t0 := 0) (by decide) (by decide) rfl (by decide +kernel) ok_X5_closeList_120
theorem ok_X5_closeList_116 : zOK l D tc A nS xs mM_X5_closeList 116 q_X5_closeList_116 := r_getf kls_5 (by decide) tx_5_8 rfl w_285 (by decide +kernel) ok_X5_closeList_119
theorem ok_X5_closeList_115 : zOK l D tc A nS xs mM_X5_closeList 115 q_X5_closeList_115 := s_aload_n (q := 0) rfl (by decide +kernel) (by decide +kernel) ok_X5_closeList_116
theorem ok_X5_closeList_112 : zOK l D tc A nS xs mM_X5_closeList 112 q_X5_closeList_112 := r_getf kls_5 (by decide) tx_5_7 rfl w_268 (by decide +kernel) ok_X5_closeList_115
theorem ok_X5_closeList_111 : zOK l D tc A nS xs mM_X5_closeList 111 q_X5_closeList_111 := s_aload_n (q := 0) rfl (by decide +kernel) (by decide +kernel) ok_X5_closeList_112
theorem ok_X5_closeList_108 : zOK l D tc A nS xs mM_X5_closeList 108 q_X5_closeList_108 := r_getf kls_5 (by decide) tx_5_0 rfl w_273 (by decide +kernel) ok_X5_closeList_111
theorem ok_X5_closeList_107 : zOK l D tc A nS xs mM_X5_closeList 107 q_X5_closeList_107 := s_aload_n (q := 0) rfl (by decide +kernel) (by decide +kernel) ok_X5_closeList_108
theorem ok_X5_closeList_104 : zOK l D tc A nS xs mM_X5_closeList 104 q_X5_closeList_104 := s_icmp_ne (tgt := 136) (off := 32) (by decide +kernel) (by decide) ok_X5_closeList_136 ok_X5_closeList_107
theorem ok_X5_closeList_103 : zOK l D tc A nS xs mM_X5_closeList 103 q_X5_closeList_103 := s_iconst (n := 1) (by decide) (by decide +kernel) (by decide +kernel) ok_X5_closeList_104
theorem ok_X5_closeList_102 : zOK l D tc A nS xs mM_X5_closeList 102 q_X5_closeList_102 := s_iload_n (q := 2) rfl (by decide +kernel) (by decide +kernel) ok_X5_closeList_103
theorem ok_X5_closeList_99 : zOK l D tc A nS xs mM_X5_closeList 99 q_X5_closeList_99 := s_goto (tgt := 136) (off := 37) (by decide +kernel) (by decide) ok_X5_closeList_136
theorem ok_X5_closeList_96 : zOK l D tc A nS xs mM_X5_closeList 96 q_X5_closeList_96 := r_putf kls_5 ty_5_9 zck_int (by decide) tx_5_9 rfl w_286 (by decide +kernel) ok_X5_closeList_99
theorem ok_X5_closeList_93 : zOK l D tc A nS xs mM_X5_closeList 93 q_X5_closeList_93 := r_callV zEE_ok zTw_gd kls_10 (M2 := mM_X10_add) (na := 5) lb_117 calV_X10_add rfl rfl w_275 (by decide +kernel) ok_X5_closeList_96
theorem ok_X5_closeList_92 : zOK l D tc A nS xs mM_X5_closeList 92 q_X5_closeList_92 := s_iconst (n := (-1)) (by decide) (by decide +kernel) (by decide +kernel) ok_X5_closeList_93
theorem ok_X5_closeList_90 : zOK l D tc A nS xs mM_X5_closeList 90 q_X5_closeList_90 := s_bipush (n := 6) (by decide) (by decide +kernel) (by decide +kernel) ok_X5_closeList_92
theorem ok_X5_closeList_89 : zOK l D tc A nS xs mM_X5_closeList 89 q_X5_closeList_89 := s_iconst (n := 0) (by decide) (by decide +kernel) (by decide +kernel) ok_X5_closeList_90
theorem ok_X5_closeList_88 : zOK l D tc A nS xs mM_X5_closeList 88 q_X5_closeList_88 := s_iald (t0 := 0) (by decide) (by decide) rfl (by decide +kernel) ok_X5_closeList_89
theorem ok_X5_closeList_85 : zOK l D tc A nS xs mM_X5_closeList 85 q_X5_closeList_85 := r_getf kls_5 (by decide) tx_5_8 rfl w_285 (by decide +kernel) ok_X5_closeList_88
theorem ok_X5_closeList_84 : zOK l D tc A nS xs mM_X5_closeList 84 q_X5_closeList_84 := s_aload_n (q := 0) rfl (by decide +kernel) (by decide +kernel) ok_X5_closeList_85
theorem ok_X5_closeList_81 : zOK l D tc A nS xs mM_X5_closeList 81 q_X5_closeList_81 := r_getf kls_5 (by decide) tx_5_5 rfl w_283 (by decide +kernel) ok_X5_closeList_84
theorem ok_X5_closeList_80 : zOK l D tc A nS xs mM_X5_closeList 80 q_X5_closeList_80 := s_aload_n (q := 0) rfl (by decide +kernel) (by decide +kernel) ok_X5_closeList_81
theorem ok_X5_closeList_79 : zOK l D tc A nS xs mM_X5_closeList 79 q_X5_closeList_79 := s_iconst (n := 0) (by decide) (by decide +kernel) (by decide +kernel) ok_X5_closeList_80
theorem ok_X5_closeList_76 : zOK l D tc A nS xs mM_X5_closeList 76 q_X5_closeList_76 := r_getf kls_5 (by decide) tx_5_0 rfl w_273 (by decide +kernel) ok_X5_closeList_79
theorem ok_X5_closeList_75 : zOK l D tc A nS xs mM_X5_closeList 75 q_X5_closeList_75 := s_aload_n (q := 0) rfl (by decide +kernel) (by decide +kernel) ok_X5_closeList_76
theorem ok_X5_closeList_74 : zOK l D tc A nS xs mM_X5_closeList 74 q_X5_closeList_74 := s_aload_n (q := 0) rfl (by decide +kernel) (by decide +kernel) ok_X5_closeList_75
theorem ok_X5_closeList_71 : zOK l D tc A nS xs mM_X5_closeList 71 q_X5_closeList_71 := s_icmp_ne (tgt := 102) (off := 31) (by decide +kernel) (by decide) ok_X5_closeList_102 ok_X5_closeList_74
theorem ok_X5_closeList_70 : zOK l D tc A nS xs mM_X5_closeList 70 q_X5_closeList_70 := s_iconst (n := (-1)) (by decide) (by decide +kernel) (by decide +kernel) ok_X5_closeList_71
theorem ok_X5_closeList_67 : zOK l D tc A nS xs mM_X5_closeList 67 q_X5_closeList_67 := r_getf kls_5 (by decide) tx_5_9 rfl w_286 (by decide +kernel) ok_X5_closeList_70
theorem ok_X5_closeList_66 : zOK l D tc A nS xs mM_X5_closeList 66 q_X5_closeList_66 := s_aload_n (q := 0) rfl (by decide +kernel) (by decide +kernel) ok_X5_closeList_67
theorem ok_X5_closeList_63 : zOK l D tc A nS xs mM_X5_closeList 63 q_X5_closeList_63 := r_putf kls_5 ty_5_9 zck_int (by decide) tx_5_9 rfl w_286 (by decide +kernel) ok_X5_closeList_66
theorem ok_X5_closeList_62 : zOK l D tc A nS xs mM_X5_closeList 62 q_X5_closeList_62 := s_iald (t0 := 0) (by decide) (by decide) rfl (by decide +kernel) ok_X5_closeList_63
theorem ok_X5_closeList_59 : zOK l D tc A nS xs mM_X5_closeList 59 q_X5_closeList_59 := r_getf kls_5 (by decide) tx_5_8 rfl w_285 (by decide +kernel) ok_X5_closeList_62
theorem ok_X5_closeList_58 : zOK l D tc A nS xs mM_X5_closeList 58 q_X5_closeList_58 := s_aload_n (q := 0) rfl (by decide +kernel) (by decide +kernel) ok_X5_closeList_59
theorem ok_X5_closeList_55 : zOK l D tc A nS xs mM_X5_closeList 55 q_X5_closeList_55 := r_getf kls_5 (by decide) tx_5_6 rfl w_274 (by decide +kernel) ok_X5_closeList_58
theorem ok_X5_closeList_54 : zOK l D tc A nS xs mM_X5_closeList 54 q_X5_closeList_54 := s_aload_n (q := 0) rfl (by decide +kernel) (by decide +kernel) ok_X5_closeList_55
theorem ok_X5_closeList_53 : zOK l D tc A nS xs mM_X5_closeList 53 q_X5_closeList_53 := s_aload_n (q := 0) rfl (by decide +kernel) (by decide +kernel) ok_X5_closeList_54
theorem ok_X5_closeList_50 : zOK l D tc A nS xs mM_X5_closeList 50 q_X5_closeList_50 := r_putf kls_5 ty_5_8 zck_int (by decide) tx_5_8 rfl w_285 (by decide +kernel) ok_X5_closeList_53
theorem ok_X5_closeList_49 : zOK l D tc A nS xs mM_X5_closeList 49 q_X5_closeList_49 := s_isub (by decide +kernel) ok_X5_closeList_50
theorem ok_X5_closeList_48 : zOK l D tc A nS xs mM_X5_closeList 48 q_X5_closeList_48 := s_iconst (n := 1) (by decide) (by decide +kernel) (by decide +kernel) ok_X5_closeList_49
theorem ok_X5_closeList_45 : zOK l D tc A nS xs mM_X5_closeList 45 q_X5_closeList_45 := r_getf kls_5 (by decide) tx_5_8 rfl w_285 (by decide +kernel) ok_X5_closeList_48
theorem ok_X5_closeList_44 : zOK l D tc A nS xs mM_X5_closeList 44 q_X5_closeList_44 := s_dup (by decide +kernel) ok_X5_closeList_45
theorem ok_X5_closeList_43 : zOK l D tc A nS xs mM_X5_closeList 43 q_X5_closeList_43 := s_aload_n (q := 0) rfl (by decide +kernel) (by decide +kernel) ok_X5_closeList_44
theorem ok_X5_closeList_25 : zOK l D tc A nS xs mM_X5_closeList 25 q_X5_closeList_25 := s_icmp_eq (tgt := 43) (off := 18) (by decide +kernel) (by decide) ok_X5_closeList_43 s_none
theorem ok_X5_closeList_24 : zOK l D tc A nS xs mM_X5_closeList 24 q_X5_closeList_24 := s_iconst (n := 1) (by decide) (by decide +kernel) (by decide +kernel) ok_X5_closeList_25
theorem ok_X5_closeList_23 : zOK l D tc A nS xs mM_X5_closeList 23 q_X5_closeList_23 := s_iload_n (q := 2) rfl (by decide +kernel) (by decide +kernel) ok_X5_closeList_24
theorem ok_X5_closeList_22 : zOK l D tc A nS xs mM_X5_closeList 22 q_X5_closeList_22 := s_istore_n (q := 2) rfl (by decide +kernel) (by decide +kernel) ok_X5_closeList_23
theorem ok_X5_closeList_18 : zOK l D tc A nS xs mM_X5_closeList 18 q_X5_closeList_18 := s_goto (tgt := 22) (off := 4) (by decide +kernel) (by decide) ok_X5_closeList_22
theorem ok_X5_closeList_17 : zOK l D tc A nS xs mM_X5_closeList 17 q_X5_closeList_17 := s_iald (t0 := 0) (by decide) (by decide) rfl (by decide +kernel) ok_X5_closeList_18
theorem ok_X5_closeList_16 : zOK l D tc A nS xs mM_X5_closeList 16 q_X5_closeList_16 := s_isub (by decide +kernel) ok_X5_closeList_17
theorem ok_X5_closeList_15 : zOK l D tc A nS xs mM_X5_closeList 15 q_X5_closeList_15 := s_iconst (n := 1) (by decide) (by decide +kernel) (by decide +kernel) ok_X5_closeList_16
theorem ok_X5_closeList_12 : zOK l D tc A nS xs mM_X5_closeList 12 q_X5_closeList_12 := r_getf kls_5 (by decide) tx_5_8 rfl w_285 (by decide +kernel) ok_X5_closeList_15
theorem ok_X5_closeList_11 : zOK l D tc A nS xs mM_X5_closeList 11 q_X5_closeList_11 := s_aload_n (q := 0) rfl (by decide +kernel) (by decide +kernel) ok_X5_closeList_12
theorem ok_X5_closeList_8 : zOK l D tc A nS xs mM_X5_closeList 8 q_X5_closeList_8 := r_getf kls_5 (by decide) tx_5_4 rfl w_284 (by decide +kernel) ok_X5_closeList_11
theorem ok_X5_closeList_7 : zOK l D tc A nS xs mM_X5_closeList 7 q_X5_closeList_7 := s_aload_n (q := 0) rfl (by decide +kernel) (by decide +kernel) ok_X5_closeList_8
theorem ok_X5_closeList_4 : zOK l D tc A nS xs mM_X5_closeList 4 q_X5_closeList_4 := s_if_le (tgt := 21) (off := 17) (by decide +kernel) (by decide) s_none ok_X5_closeList_7
theorem ok_X5_closeList_1 : zOK l D tc A nS xs mM_X5_closeList 1 q_X5_closeList_1 := r_getf kls_5 (by decide) tx_5_8 rfl w_285 (by decide +kernel) ok_X5_closeList_4
theorem ok_X5_closeList_0 : zOK l D tc A nS xs mM_X5_closeList 0 q_X5_closeList_0 := s_aload_n (q := 0) rfl (by decide +kernel) (by decide +kernel) ok_X5_closeList_1
theorem ok_X5_deliver_112 : zOK l D tc A nS xs mM_X5_deliver 112 q_X5_deliver_112 := s_vret rfl (by decide +kernel)
theorem ok_X5_deliver_109 : zOK l D tc A nS xs mM_X5_deliver 109 q_X5_deliver_109 := r_putf kls_5 ty_5_3 zck_int (by decide) tx_5_3 rfl w_287 (by decide +kernel) ok_X5_deliver_112
theorem ok_X5_deliver_108 : zOK l D tc A nS xs mM_X5_deliver 108 q_X5_deliver_108 := s_iadd (by decide +kernel) ok_X5_deliver_109
theorem ok_X5_deliver_107 : zOK l D tc A nS xs mM_X5_deliver 107 q_X5_deliver_107 := s_iconst (n := 1) (by decide) (by decide +kernel) (by decide +kernel) ok_X5_deliver_108
theorem ok_X5_deliver_104 : zOK l D tc A nS xs mM_X5_deliver 104 q_X5_deliver_104 := r_getf kls_5 (by decide) tx_5_3 rfl w_287 (by decide +kernel) ok_X5_deliver_107
theorem ok_X5_deliver_103 : zOK l D tc A nS xs mM_X5_deliver 103 q_X5_deliver_103 := s_dup (by decide +kernel) ok_X5_deliver_104
theorem ok_X5_deliver_102 : zOK l D tc A nS xs mM_X5_deliver 102 q_X5_deliver_102 := s_aload_n (q := 0) rfl (by decide +kernel) (by decide +kernel) ok_X5_deliver_103
theorem ok_X5_deliver_101 : zOK l D tc A nS xs mM_X5_deliver 101 q_X5_deliver_101 := s_iast (t0 := 0) (by decide) (by decide) rfl (by decide +kernel) ok_X5_deliver_102
theorem ok_X5_deliver_100 : zOK l D tc A nS xs mM_X5_deliver 100 q_X5_deliver_100 := s_iload_n (q := 2) rfl (by decide +kernel) (by decide +kernel) ok_X5_deliver_101
theorem ok_X5_deliver_97 : zOK l D tc A nS xs mM_X5_deliver 97 q_X5_deliver_97 := r_getf kls_5 (by decide) tx_5_3 rfl w_287 (by decide +kernel) ok_X5_deliver_100
theorem ok_X5_deliver_96 : zOK l D tc A nS xs mM_X5_deliver 96 q_X5_deliver_96 := s_aload_n (q := 0) rfl (by decide +kernel) (by decide +kernel) ok_X5_deliver_97
theorem ok_X5_deliver_93 : zOK l D tc A nS xs mM_X5_deliver 93 q_X5_deliver_93 := r_getf kls_5 (by decide) tx_5_2 rfl w_288 (by decide +kernel) ok_X5_deliver_96
theorem ok_X5_deliver_92 : zOK l D tc A nS xs mM_X5_deliver 92 q_X5_deliver_92 := s_aload_n (q := 0) rfl (by decide +kernel) (by decide +kernel) ok_X5_deliver_93
theorem ok_X5_deliver_89 : zOK l D tc A nS xs mM_X5_deliver 89 q_X5_deliver_89 := s_icmp_ge (tgt := 112) (off := 23) (by decide +kernel) (by decide) ok_X5_deliver_112 ok_X5_deliver_92
theorem ok_X5_deliver_87 : zOK l D tc A nS xs mM_X5_deliver 87 q_X5_deliver_87 := s_bipush (n := 40) (by decide) (by decide +kernel) (by decide +kernel) ok_X5_deliver_89
theorem ok_X5_deliver_84 : zOK l D tc A nS xs mM_X5_deliver 84 q_X5_deliver_84 := r_getf kls_5 (by decide) tx_5_3 rfl w_287 (by decide +kernel) ok_X5_deliver_87
theorem ok_X5_deliver_83 : zOK l D tc A nS xs mM_X5_deliver 83 q_X5_deliver_83 := s_aload_n (q := 0) rfl (by decide +kernel) (by decide +kernel) ok_X5_deliver_84
theorem ok_X5_deliver_80 : zOK l D tc A nS xs mM_X5_deliver 80 q_X5_deliver_80 := s_goto (tgt := 112) (off := 32) (by decide +kernel) (by decide) ok_X5_deliver_112
theorem ok_X5_deliver_77 : zOK l D tc A nS xs mM_X5_deliver 77 q_X5_deliver_77 := r_callV zEE_ok zTw_gd kls_5 (M2 := mM_X5_append) (na := 2) lb_66 calV_X5_append rfl rfl w_289 (by decide +kernel) ok_X5_deliver_80
theorem ok_X5_deliver_76 : zOK l D tc A nS xs mM_X5_deliver 76 q_X5_deliver_76 := s_iload_n (q := 2) rfl (by decide +kernel) (by decide +kernel) ok_X5_deliver_77
theorem ok_X5_deliver_75 : zOK l D tc A nS xs mM_X5_deliver 75 q_X5_deliver_75 := s_isub (by decide +kernel) ok_X5_deliver_76
theorem ok_X5_deliver_74 : zOK l D tc A nS xs mM_X5_deliver 74 q_X5_deliver_74 := s_iconst (n := 1) (by decide) (by decide +kernel) (by decide +kernel) ok_X5_deliver_75
theorem ok_X5_deliver_71 : zOK l D tc A nS xs mM_X5_deliver 71 q_X5_deliver_71 := r_getf kls_5 (by decide) tx_5_8 rfl w_285 (by decide +kernel) ok_X5_deliver_74
theorem ok_X5_deliver_70 : zOK l D tc A nS xs mM_X5_deliver 70 q_X5_deliver_70 := s_aload_n (q := 0) rfl (by decide +kernel) (by decide +kernel) ok_X5_deliver_71
theorem ok_X5_deliver_69 : zOK l D tc A nS xs mM_X5_deliver 69 q_X5_deliver_69 := s_aload_n (q := 0) rfl (by decide +kernel) (by decide +kernel) ok_X5_deliver_70
theorem ok_X5_deliver_66 : zOK l D tc A nS xs mM_X5_deliver 66 q_X5_deliver_66 := s_if_le (tgt := 83) (off := 17) (by decide +kernel) (by decide) ok_X5_deliver_83 ok_X5_deliver_69
theorem ok_X5_deliver_63 : zOK l D tc A nS xs mM_X5_deliver 63 q_X5_deliver_63 := r_getf kls_5 (by decide) tx_5_8 rfl w_285 (by decide +kernel) ok_X5_deliver_66
theorem ok_X5_deliver_62 : zOK l D tc A nS xs mM_X5_deliver 62 q_X5_deliver_62 := s_aload_n (q := 0) rfl (by decide +kernel) (by decide +kernel) ok_X5_deliver_63
theorem ok_X5_deliver_28 : zOK l D tc A nS xs mM_X5_deliver 28 q_X5_deliver_28 := s_if_ne (tgt := 62) (off := 34) (by decide +kernel) (by decide) ok_X5_deliver_62 s_none
theorem ok_X5_deliver_27 : zOK l D tc A nS xs mM_X5_deliver 27 q_X5_deliver_27 := s_iald (t0 := 0) (by decide) (by decide) rfl (by decide +kernel) ok_X5_deliver_28
theorem ok_X5_deliver_26 : zOK l D tc A nS xs mM_X5_deliver 26 q_X5_deliver_26 := s_isub (by decide +kernel) ok_X5_deliver_27
theorem ok_X5_deliver_25 : zOK l D tc A nS xs mM_X5_deliver 25 q_X5_deliver_25 := s_iconst (n := 1) (by decide) (by decide +kernel) (by decide +kernel) ok_X5_deliver_26
theorem ok_X5_deliver_22 : zOK l D tc A nS xs mM_X5_deliver 22 q_X5_deliver_22 := r_getf kls_5 (by decide) tx_5_8 rfl w_285 (by decide +kernel) ok_X5_deliver_25
theorem ok_X5_deliver_21 : zOK l D tc A nS xs mM_X5_deliver 21 q_X5_deliver_21 := s_aload_n (q := 0) rfl (by decide +kernel) (by decide +kernel) ok_X5_deliver_22
theorem ok_X5_deliver_18 : zOK l D tc A nS xs mM_X5_deliver 18 q_X5_deliver_18 := r_getf kls_5 (by decide) tx_5_4 rfl w_284 (by decide +kernel) ok_X5_deliver_21
theorem ok_X5_deliver_17 : zOK l D tc A nS xs mM_X5_deliver 17 q_X5_deliver_17 := s_aload_n (q := 0) rfl (by decide +kernel) (by decide +kernel) ok_X5_deliver_18
theorem ok_X5_deliver_14 : zOK l D tc A nS xs mM_X5_deliver 14 q_X5_deliver_14 := s_if_le (tgt := 62) (off := 48) (by decide +kernel) (by decide) ok_X5_deliver_62 ok_X5_deliver_17
theorem ok_X5_deliver_11 : zOK l D tc A nS xs mM_X5_deliver 11 q_X5_deliver_11 := r_getf kls_5 (by decide) tx_5_8 rfl w_285 (by decide +kernel) ok_X5_deliver_14
theorem ok_X5_deliver_10 : zOK l D tc A nS xs mM_X5_deliver 10 q_X5_deliver_10 := s_aload_n (q := 0) rfl (by decide +kernel) (by decide +kernel) ok_X5_deliver_11
theorem ok_X5_deliver_7 : zOK l D tc A nS xs mM_X5_deliver 7 q_X5_deliver_7 := s_icmp_ge (tgt := 62) (off := 55) (by decide +kernel) (by decide) ok_X5_deliver_62 ok_X5_deliver_10
theorem ok_X5_deliver_5 : zOK l D tc A nS xs mM_X5_deliver 5 q_X5_deliver_5 := s_bipush (n := 40) (by decide) (by decide +kernel) (by decide +kernel) ok_X5_deliver_7
theorem ok_X5_deliver_4 : zOK l D tc A nS xs mM_X5_deliver 4 q_X5_deliver_4 := s_iload_n (q := 3) rfl (by decide +kernel) (by decide +kernel) ok_X5_deliver_5
theorem ok_X5_deliver_3 : zOK l D tc A nS xs mM_X5_deliver 3 q_X5_deliver_3 := s_istore_n (q := 3) rfl (by decide +kernel) (by decide +kernel) ok_X5_deliver_4
theorem ok_X5_deliver_2 : zOK l D tc A nS xs mM_X5_deliver 2 q_X5_deliver_2 := s_iconst (n := 0) (by decide) (by decide +kernel) (by decide +kernel) ok_X5_deliver_3
theorem ok_X5_deliver_1 : zOK l D tc A nS xs mM_X5_deliver 1 q_X5_deliver_1 := s_istore_n (q := 2) rfl (by decide +kernel) (by decide +kernel) ok_X5_deliver_2
theorem ok_X5_deliver_0 : zOK l D tc A nS xs mM_X5_deliver 0 q_X5_deliver_0 := s_iload_n (q := 1) rfl (by decide +kernel) (by decide +kernel) ok_X5_deliver_1
theorem ok_X5_endOfToken_46 : zOK l D tc A nS xs mM_X5_endOfToken 46 q_X5_endOfToken_46 := s_iret rfl (by decide +kernel)
theorem ok_X5_endOfToken_45 : zOK l D tc A nS xs mM_X5_endOfToken 45 q_X5_endOfToken_45 := s_iload_n (q := 3) rfl (by decide +kernel) (by decide +kernel) ok_X5_endOfToken_46
theorem ok_X5_endOfToken_42 : zOK l D tc A nS xs mM_X5_endOfToken 42 q_X5_endOfToken_42 := s_goto (tgt := 25) (off := (-17)) (by decide +kernel) (by decide) (s_back lb_71)
theorem ok_X5_endOfToken_39 : zOK l D tc A nS xs mM_X5_endOfToken 39 q_X5_endOfToken_39 := s_iinc (n := 1) (by decide +kernel) (by decide +kernel) (by decide +kernel) ok_X5_endOfToken_42
theorem ok_X5_endOfToken_36 : zOK l D tc A nS xs mM_X5_endOfToken 36 q_X5_endOfToken_36 := s_if_eq (tgt := 45) (off := 9) (by decide +kernel) (by decide) ok_X5_endOfToken_45 ok_X5_endOfToken_39
theorem ok_X5_endOfToken_33 : zOK l D tc A nS xs mM_X5_endOfToken 33 q_X5_endOfToken_33 := r_callS zEE_ok zTw_gd (M2 := mM_X5_isSign) lb_75 calS_X5_isSign rfl rfl w_293 (by decide +kernel) ok_X5_endOfToken_36
theorem ok_X5_endOfToken_32 : zOK l D tc A nS xs mM_X5_endOfToken 32 q_X5_endOfToken_32 := s_iald (t0 := 0) (by decide) (by decide) rfl (by decide +kernel) ok_X5_endOfToken_33
theorem ok_X5_endOfToken_31 : zOK l D tc A nS xs mM_X5_endOfToken 31 q_X5_endOfToken_31 := s_iload_n (q := 3) rfl (by decide +kernel) (by decide +kernel) ok_X5_endOfToken_32
theorem ok_X5_endOfToken_30 : zOK l D tc A nS xs mM_X5_endOfToken 30 q_X5_endOfToken_30 := s_aload_n (q := 0) rfl (by decide +kernel) (by decide +kernel) ok_X5_endOfToken_31
theorem ok_X5_endOfToken_27 : zOK l D tc A nS xs mM_X5_endOfToken 27 q_X5_endOfToken_27 := s_icmp_ge (tgt := 45) (off := 18) (by decide +kernel) (by decide) ok_X5_endOfToken_45 ok_X5_endOfToken_30
theorem ok_X5_endOfToken_26 : zOK l D tc A nS xs mM_X5_endOfToken 26 q_X5_endOfToken_26 := s_iload_n (q := 1) rfl (by decide +kernel) (by decide +kernel) ok_X5_endOfToken_27
theorem ok_X5_endOfToken_25 : zOK l D tc A nS xs mM_X5_endOfToken 25 q_X5_endOfToken_25 := s_iload_n (q := 3) rfl (by decide +kernel) (by decide +kernel) ok_X5_endOfToken_26
theorem ok_X5_endOfToken_24 : zOK l D tc A nS xs mM_X5_endOfToken 24 q_X5_endOfToken_24 := s_istore_n (q := 3) rfl (by decide +kernel) (by decide +kernel) ok_X5_endOfToken_25
theorem ok_X5_endOfToken_23 : zOK l D tc A nS xs mM_X5_endOfToken 23 q_X5_endOfToken_23 := s_iadd (by decide +kernel) ok_X5_endOfToken_24
theorem ok_X5_endOfToken_22 : zOK l D tc A nS xs mM_X5_endOfToken 22 q_X5_endOfToken_22 := s_iconst (n := 1) (by decide) (by decide +kernel) (by decide +kernel) ok_X5_endOfToken_23
theorem ok_X5_endOfToken_21 : zOK l D tc A nS xs mM_X5_endOfToken 21 q_X5_endOfToken_21 := s_iload_n (q := 2) rfl (by decide +kernel) (by decide +kernel) ok_X5_endOfToken_22
theorem ok_X5_endOfToken_20 : zOK l D tc A nS xs mM_X5_endOfToken 20 q_X5_endOfToken_20 := s_iret rfl (by decide +kernel)
theorem ok_X5_endOfToken_19 : zOK l D tc A nS xs mM_X5_endOfToken 19 q_X5_endOfToken_19 := s_iadd (by decide +kernel) ok_X5_endOfToken_20
theorem ok_X5_endOfToken_18 : zOK l D tc A nS xs mM_X5_endOfToken 18 q_X5_endOfToken_18 := s_iconst (n := 1) (by decide) (by decide +kernel) (by decide +kernel) ok_X5_endOfToken_19
theorem ok_X5_endOfToken_17 : zOK l D tc A nS xs mM_X5_endOfToken 17 q_X5_endOfToken_17 := s_iload_n (q := 2) rfl (by decide +kernel) (by decide +kernel) ok_X5_endOfToken_18
theorem ok_X5_endOfToken_14 : zOK l D tc A nS xs mM_X5_endOfToken 14 q_X5_endOfToken_14 := s_if_ne (tgt := 21) (off := 7) (by decide +kernel) (by decide) ok_X5_endOfToken_21 ok_X5_endOfToken_17
theorem ok_X5_endOfToken_11 : zOK l D tc A nS xs mM_X5_endOfToken 11 q_X5_endOfToken_11 := r_callS zEE_ok zTw_gd (M2 := mM_X5_isSign) lb_75 calS_X5_isSign rfl rfl w_293 (by decide +kernel) ok_X5_endOfToken_14
theorem ok_X5_endOfToken_10 : zOK l D tc A nS xs mM_X5_endOfToken 10 q_X5_endOfToken_10 := s_iald (t0 := 0) (by decide) (by decide) rfl (by decide +kernel) ok_X5_endOfToken_11
theorem ok_X5_endOfToken_9 : zOK l D tc A nS xs mM_X5_endOfToken 9 q_X5_endOfToken_9 := s_iload_n (q := 2) rfl (by decide +kernel) (by decide +kernel) ok_X5_endOfToken_10
theorem ok_X5_endOfToken_8 : zOK l D tc A nS xs mM_X5_endOfToken 8 q_X5_endOfToken_8 := s_aload_n (q := 0) rfl (by decide +kernel) (by decide +kernel) ok_X5_endOfToken_9
theorem ok_X5_endOfToken_5 : zOK l D tc A nS xs mM_X5_endOfToken 5 q_X5_endOfToken_5 := s_icmp_eq (tgt := 21) (off := 16) (by decide +kernel) (by decide) ok_X5_endOfToken_21 ok_X5_endOfToken_8
theorem ok_X5_endOfToken_3 : zOK l D tc A nS xs mM_X5_endOfToken 3 q_X5_endOfToken_3 := s_bipush (n := 35) (by decide) (by decide +kernel) (by decide +kernel) ok_X5_endOfToken_5
theorem ok_X5_endOfToken_2 : zOK l D tc A nS xs mM_X5_endOfToken 2 q_X5_endOfToken_2 := s_iald (t0 := 0) (by decide) (by decide) rfl (by decide +kernel) ok_X5_endOfToken_3
theorem ok_X5_endOfToken_1 : zOK l D tc A nS xs mM_X5_endOfToken 1 q_X5_endOfToken_1 := s_iload_n (q := 2) rfl (by decide +kernel) (by decide +kernel) ok_X5_endOfToken_2
theorem ok_X5_endOfToken_0 : zOK l D tc A nS xs mM_X5_endOfToken 0 q_X5_endOfToken_0 := s_aload_n (q := 0) rfl (by decide +kernel) (by decide +kernel) ok_X5_endOfToken_1
theorem ok_X5_formAt_28 : zOK l D tc A nS xs mM_X5_formAt 28 q_X5_formAt_28 := s_iret rfl (by decide +kernel)
theorem ok_X5_formAt_24 : zOK l D tc A nS xs mM_X5_formAt 24 q_X5_formAt_24 := s_goto (tgt := 28) (off := 4) (by decide +kernel) (by decide) ok_X5_formAt_28
theorem ok_X5_formAt_23 : zOK l D tc A nS xs mM_X5_formAt 23 q_X5_formAt_23 := s_iald (t0 := 0) (by decide) (by decide) rfl (by decide +kernel) ok_X5_formAt_24
theorem ok_X5_formAt_22 : zOK l D tc A nS xs mM_X5_formAt 22 q_X5_formAt_22 := s_iload_n (q := 1) rfl (by decide +kernel) (by decide +kernel) ok_X5_formAt_23
theorem ok_X5_formAt_19 : zOK l D tc A nS xs mM_X5_formAt 19 q_X5_formAt_19 := r_getf kls_5 (by decide) tx_5_2 rfl w_288 (by decide +kernel) ok_X5_formAt_22
theorem ok_X5_formAt_18 : zOK l D tc A nS xs mM_X5_formAt 18 q_X5_formAt_18 := s_aload_n (q := 0) rfl (by decide +kernel) (by decide +kernel) ok_X5_formAt_19
theorem ok_X5_formAt_15 : zOK l D tc A nS xs mM_X5_formAt 15 q_X5_formAt_15 := s_icmp_ge (tgt := 27) (off := 12) (by decide +kernel) (by decide) s_none ok_X5_formAt_18
theorem ok_X5_formAt_13 : zOK l D tc A nS xs mM_X5_formAt 13 q_X5_formAt_13 := s_bipush (n := 40) (by decide) (by decide +kernel) (by decide +kernel) ok_X5_formAt_15
theorem ok_X5_formAt_12 : zOK l D tc A nS xs mM_X5_formAt 12 q_X5_formAt_12 := s_iload_n (q := 1) rfl (by decide +kernel) (by decide +kernel) ok_X5_formAt_13
theorem ok_X5_formAt_9 : zOK l D tc A nS xs mM_X5_formAt 9 q_X5_formAt_9 := s_icmp_ge (tgt := 27) (off := 18) (by decide +kernel) (by decide) s_none ok_X5_formAt_12
theorem ok_X5_formAt_6 : zOK l D tc A nS xs mM_X5_formAt 6 q_X5_formAt_6 := r_getf kls_5 (by decide) tx_5_3 rfl w_287 (by decide +kernel) ok_X5_formAt_9
theorem ok_X5_formAt_5 : zOK l D tc A nS xs mM_X5_formAt 5 q_X5_formAt_5 := s_aload_n (q := 0) rfl (by decide +kernel) (by decide +kernel) ok_X5_formAt_6
theorem ok_X5_formAt_4 : zOK l D tc A nS xs mM_X5_formAt 4 q_X5_formAt_4 := s_iload_n (q := 1) rfl (by decide +kernel) (by decide +kernel) ok_X5_formAt_5
theorem ok_X5_formAt_1 : zOK l D tc A nS xs mM_X5_formAt 1 q_X5_formAt_1 := s_if_lt (tgt := 27) (off := 26) (by decide +kernel) (by decide) s_none ok_X5_formAt_4
theorem ok_X5_formAt_0 : zOK l D tc A nS xs mM_X5_formAt 0 q_X5_formAt_0 := s_iload_n (q := 1) rfl (by decide +kernel) (by decide +kernel) ok_X5_formAt_1
theorem ok_X5_init_54 : zOK l D tc A nS xs mM_X5_init 54 q_X5_init_54 := s_vret rfl (by decide +kernel)
theorem ok_X5_init_51 : zOK l D tc A nS xs mM_X5_init 51 q_X5_init_51 := r_putF kls_5 ty_5_1 (zck_obj _) (by decide) tx_5_1 rfl rfl rfl w_296 (by decide +kernel) ok_X5_init_54
theorem ok_X5_init_50 : zOK l D tc A nS xs mM_X5_init 50 q_X5_init_50 := s_aload_n (q := 2) rfl (by decide +kernel) (by decide +kernel) ok_X5_init_51
theorem ok_X5_init_49 : zOK l D tc A nS xs mM_X5_init 49 q_X5_init_49 := s_aload_n (q := 0) rfl (by decide +kernel) (by decide +kernel) ok_X5_init_50
theorem ok_X5_init_46 : zOK l D tc A nS xs mM_X5_init 46 q_X5_init_46 := r_putF kls_5 ty_5_0 (zck_obj _) (by decide) tx_5_0 rfl rfl rfl w_273 (by decide +kernel) ok_X5_init_49
theorem ok_X5_init_45 : zOK l D tc A nS xs mM_X5_init 45 q_X5_init_45 := s_aload_n (q := 1) rfl (by decide +kernel) (by decide +kernel) ok_X5_init_46
theorem ok_X5_init_44 : zOK l D tc A nS xs mM_X5_init 44 q_X5_init_44 := s_aload_n (q := 0) rfl (by decide +kernel) (by decide +kernel) ok_X5_init_45
theorem ok_X5_init_41 : zOK l D tc A nS xs mM_X5_init 41 q_X5_init_41 := r_putF kls_5 ty_5_7 (zck_arr _) (by decide) tx_5_7 rfl rfl rfl w_268 (by decide +kernel) ok_X5_init_44
theorem ok_X5_init_39 : zOK l D tc A nS xs mM_X5_init 39 q_X5_init_39 := r_newa (t0 := 0) (atype := .int) (ty := .int) rfl (by decide) rfl rfl z_RA_int rfl (by decide) w_109 (by decide +kernel) ok_X5_init_41
theorem ok_X5_init_37 : zOK l D tc A nS xs mM_X5_init 37 q_X5_init_37 := s_bipush (n := 40) (by decide) (by decide +kernel) (by decide +kernel) ok_X5_init_39
theorem ok_X5_init_36 : zOK l D tc A nS xs mM_X5_init 36 q_X5_init_36 := s_aload_n (q := 0) rfl (by decide +kernel) (by decide +kernel) ok_X5_init_37
theorem ok_X5_init_33 : zOK l D tc A nS xs mM_X5_init 33 q_X5_init_33 := r_putF kls_5 ty_5_6 (zck_arr _) (by decide) tx_5_6 rfl rfl rfl w_274 (by decide +kernel) ok_X5_init_36
theorem ok_X5_init_31 : zOK l D tc A nS xs mM_X5_init 31 q_X5_init_31 := r_newa (t0 := 0) (atype := .int) (ty := .int) rfl (by decide) rfl rfl z_RA_int rfl (by decide) w_109 (by decide +kernel) ok_X5_init_33
theorem ok_X5_init_29 : zOK l D tc A nS xs mM_X5_init 29 q_X5_init_29 := s_bipush (n := 40) (by decide) (by decide +kernel) (by decide +kernel) ok_X5_init_31
theorem ok_X5_init_28 : zOK l D tc A nS xs mM_X5_init 28 q_X5_init_28 := s_aload_n (q := 0) rfl (by decide +kernel) (by decide +kernel) ok_X5_init_29
theorem ok_X5_init_25 : zOK l D tc A nS xs mM_X5_init 25 q_X5_init_25 := r_putF kls_5 ty_5_5 (zck_arr _) (by decide) tx_5_5 rfl rfl rfl w_283 (by decide +kernel) ok_X5_init_28
theorem ok_X5_init_23 : zOK l D tc A nS xs mM_X5_init 23 q_X5_init_23 := r_newa (t0 := 0) (atype := .int) (ty := .int) rfl (by decide) rfl rfl z_RA_int rfl (by decide) w_109 (by decide +kernel) ok_X5_init_25
theorem ok_X5_init_21 : zOK l D tc A nS xs mM_X5_init 21 q_X5_init_21 := s_bipush (n := 40) (by decide) (by decide +kernel) (by decide +kernel) ok_X5_init_23
theorem ok_X5_init_20 : zOK l D tc A nS xs mM_X5_init 20 q_X5_init_20 := s_aload_n (q := 0) rfl (by decide +kernel) (by decide +kernel) ok_X5_init_21
theorem ok_X5_init_17 : zOK l D tc A nS xs mM_X5_init 17 q_X5_init_17 := r_putF kls_5 ty_5_4 (zck_arr _) (by decide) tx_5_4 rfl rfl rfl w_284 (by decide +kernel) ok_X5_init_20
theorem ok_X5_init_15 : zOK l D tc A nS xs mM_X5_init 15 q_X5_init_15 := r_newa (t0 := 0) (atype := .int) (ty := .int) rfl (by decide) rfl rfl z_RA_int rfl (by decide) w_109 (by decide +kernel) ok_X5_init_17
theorem ok_X5_init_13 : zOK l D tc A nS xs mM_X5_init 13 q_X5_init_13 := s_bipush (n := 40) (by decide) (by decide +kernel) (by decide +kernel) ok_X5_init_15
theorem ok_X5_init_12 : zOK l D tc A nS xs mM_X5_init 12 q_X5_init_12 := s_aload_n (q := 0) rfl (by decide +kernel) (by decide +kernel) ok_X5_init_13
theorem ok_X5_init_9 : zOK l D tc A nS xs mM_X5_init 9 q_X5_init_9 := r_putF kls_5 ty_5_2 (zck_arr _) (by decide) tx_5_2 rfl rfl rfl w_288 (by decide +kernel) ok_X5_init_12
theorem ok_X5_init_7 : zOK l D tc A nS xs mM_X5_init 7 q_X5_init_7 := r_newa (t0 := 0) (atype := .int) (ty := .int) rfl (by decide) rfl rfl z_RA_int rfl (by decide) w_109 (by decide +kernel) ok_X5_init_9
theorem ok_X5_init_5 : zOK l D tc A nS xs mM_X5_init 5 q_X5_init_5 := s_bipush (n := 40) (by decide) (by decide +kernel) (by decide +kernel) ok_X5_init_7
theorem ok_X5_init_4 : zOK l D tc A nS xs mM_X5_init 4 q_X5_init_4 := s_aload_n (q := 0) rfl (by decide +kernel) (by decide +kernel) ok_X5_init_5
theorem ok_X5_init_1 : zOK l D tc A nS xs mM_X5_init 1 q_X5_init_1 := s_oinit w_297 w_112 w_oi (by decide +kernel) ok_X5_init_4
theorem ok_X5_init_0 : zOK l D tc A nS xs mM_X5_init 0 q_X5_init_0 := s_aload_n (q := 0) rfl (by decide +kernel) (by decide +kernel) ok_X5_init_1
theorem ok_X5_isDigit_17 : zOK l D tc A nS xs mM_X5_isDigit 17 q_X5_isDigit_17 := s_zret rfl (by decide +kernel)
theorem ok_X5_isDigit_16 : zOK l D tc A nS xs mM_X5_isDigit 16 q_X5_isDigit_16 := s_iconst (n := 0) (by decide) (by decide +kernel) (by decide +kernel) ok_X5_isDigit_17
theorem ok_X5_isDigit_13 : zOK l D tc A nS xs mM_X5_isDigit 13 q_X5_isDigit_13 := s_goto (tgt := 17) (off := 4) (by decide +kernel) (by decide) ok_X5_isDigit_17
theorem ok_X5_isDigit_12 : zOK l D tc A nS xs mM_X5_isDigit 12 q_X5_isDigit_12 := s_iconst (n := 1) (by decide) (by decide +kernel) (by decide +kernel) ok_X5_isDigit_13
theorem ok_X5_isDigit_9 : zOK l D tc A nS xs mM_X5_isDigit 9 q_X5_isDigit_9 := s_icmp_gt (tgt := 16) (off := 7) (by decide +kernel) (by decide) ok_X5_isDigit_16 ok_X5_isDigit_12
theorem ok_X5_isDigit_7 : zOK l D tc A nS xs mM_X5_isDigit 7 q_X5_isDigit_7 := s_bipush (n := 57) (by decide) (by decide +kernel) (by decide +kernel) ok_X5_isDigit_9
theorem ok_X5_isDigit_6 : zOK l D tc A nS xs mM_X5_isDigit 6 q_X5_isDigit_6 := s_iload_n (q := 0) rfl (by decide +kernel) (by decide +kernel) ok_X5_isDigit_7
theorem ok_X5_isDigit_3 : zOK l D tc A nS xs mM_X5_isDigit 3 q_X5_isDigit_3 := s_icmp_lt (tgt := 16) (off := 13) (by decide +kernel) (by decide) ok_X5_isDigit_16 ok_X5_isDigit_6
theorem ok_X5_isDigit_1 : zOK l D tc A nS xs mM_X5_isDigit 1 q_X5_isDigit_1 := s_bipush (n := 48) (by decide) (by decide +kernel) (by decide +kernel) ok_X5_isDigit_3
theorem ok_X5_isDigit_0 : zOK l D tc A nS xs mM_X5_isDigit 0 q_X5_isDigit_0 := s_iload_n (q := 0) rfl (by decide +kernel) (by decide +kernel) ok_X5_isDigit_1
theorem ok_X5_isSign_126 : zOK l D tc A nS xs mM_X5_isSign 126 q_X5_isSign_126 := s_zret rfl (by decide +kernel)
theorem ok_X5_isSign_125 : zOK l D tc A nS xs mM_X5_isSign 125 q_X5_isSign_125 := s_iconst (n := 0) (by decide) (by decide +kernel) (by decide +kernel) ok_X5_isSign_126
theorem ok_X5_isSign_122 : zOK l D tc A nS xs mM_X5_isSign 122 q_X5_isSign_122 := s_goto (tgt := 126) (off := 4) (by decide +kernel) (by decide) ok_X5_isSign_126
theorem ok_X5_isSign_121 : zOK l D tc A nS xs mM_X5_isSign 121 q_X5_isSign_121 := s_iconst (n := 1) (by decide) (by decide +kernel) (by decide +kernel) ok_X5_isSign_122
theorem ok_X5_isSign_118 : zOK l D tc A nS xs mM_X5_isSign 118 q_X5_isSign_118 := s_icmp_gt (tgt := 125) (off := 7) (by decide +kernel) (by decide) ok_X5_isSign_125 ok_X5_isSign_121
theorem ok_X5_isSign_116 : zOK l D tc A nS xs mM_X5_isSign 116 q_X5_isSign_116 := s_bipush (n := 122) (by decide) (by decide +kernel) (by decide +kernel) ok_X5_isSign_118
theorem ok_X5_isSign_115 : zOK l D tc A nS xs mM_X5_isSign 115 q_X5_isSign_115 := s_iload_n (q := 0) rfl (by decide +kernel) (by decide +kernel) ok_X5_isSign_116
theorem ok_X5_isSign_112 : zOK l D tc A nS xs mM_X5_isSign 112 q_X5_isSign_112 := s_icmp_lt (tgt := 125) (off := 13) (by decide +kernel) (by decide) ok_X5_isSign_125 ok_X5_isSign_115
theorem ok_X5_isSign_110 : zOK l D tc A nS xs mM_X5_isSign 110 q_X5_isSign_110 := s_bipush (n := 97) (by decide) (by decide +kernel) (by decide +kernel) ok_X5_isSign_112
theorem ok_X5_isSign_109 : zOK l D tc A nS xs mM_X5_isSign 109 q_X5_isSign_109 := s_iload_n (q := 0) rfl (by decide +kernel) (by decide +kernel) ok_X5_isSign_110
theorem ok_X5_isSign_106 : zOK l D tc A nS xs mM_X5_isSign 106 q_X5_isSign_106 := s_if_ne (tgt := 121) (off := 15) (by decide +kernel) (by decide) ok_X5_isSign_121 ok_X5_isSign_109
theorem ok_X5_isSign_103 : zOK l D tc A nS xs mM_X5_isSign 103 q_X5_isSign_103 := r_callS zEE_ok zTw_gd (M2 := mM_X5_isDigit) lb_74 calS_X5_isDigit rfl rfl w_298 (by decide +kernel) ok_X5_isSign_106
theorem ok_X5_isSign_102 : zOK l D tc A nS xs mM_X5_isSign 102 q_X5_isSign_102 := s_iload_n (q := 0) rfl (by decide +kernel) (by decide +kernel) ok_X5_isSign_103
theorem ok_X5_isSign_101 : zOK l D tc A nS xs mM_X5_isSign 101 q_X5_isSign_101 := s_zret rfl (by decide +kernel)
theorem ok_X5_isSign_100 : zOK l D tc A nS xs mM_X5_isSign 100 q_X5_isSign_100 := s_iconst (n := 1) (by decide) (by decide +kernel) (by decide +kernel) ok_X5_isSign_101
theorem ok_X5_isSign_1 : zOK l D tc A nS xs mM_X5_isSign 1 q_X5_isSign_1 := s_lsw (qs := [(33, 99, 100, q_X5_isSign_100), (42, 99, 100, q_X5_isSign_100), (43, 99, 100, q_X5_isSign_100), (45, 99, 100, q_X5_isSign_100), (46, 99, 100, q_X5_isSign_100), (47, 99, 100, q_X5_isSign_100), (60, 99, 100, q_X5_isSign_100), (61, 99, 100, q_X5_isSign_100), (62, 99, 100, q_X5_isSign_100), (63, 99, 100, q_X5_isSign_100), (95, 99, 100, q_X5_isSign_100)]) (dflt := 101) (ps := #[(33, 99), (42, 99), (43, 99), (45, 99), (46, 99), (47, 99), (60, 99), (61, 99), (62, 99), (63, 99), (95, 99)]) (len := 99) (tgt := 102) (by decide +kernel) (by decide +kernel) (by decide +kernel) (by decide) ok_X5_isSign_102 (List.forall_mem_cons.mpr ⟨⟨by decide, by decide, ok_X5_isSign_100⟩, (List.forall_mem_cons.mpr ⟨⟨by decide, by decide, ok_X5_isSign_100⟩, (List.forall_mem_cons.mpr ⟨⟨by decide, by decide, ok_X5_isSign_100⟩, (List.forall_mem_cons.mpr ⟨⟨by decide, by decide, ok_X5_isSign_100⟩, (List.forall_mem_cons.mpr ⟨⟨by decide, by decide, ok_X5_isSign_100⟩, (List.forall_mem_cons.mpr ⟨⟨by decide, by decide, ok_X5_isSign_100⟩, (List.forall_mem_cons.mpr ⟨⟨by decide, by decide, ok_X5_isSign_100⟩, (List.forall_mem_cons.mpr ⟨⟨by decide, by decide, ok_X5_isSign_100⟩, (List.forall_mem_cons.mpr ⟨⟨by decide, by decide, ok_X5_isSign_100⟩, (List.forall_mem_cons.mpr ⟨⟨by decide, by decide, ok_X5_isSign_100⟩, (List.forall_mem_cons.mpr ⟨⟨by decide, by decide, ok_X5_isSign_100⟩, fun _ h => absurd h List.not_mem_nil⟩)⟩)⟩)⟩)⟩)⟩)⟩)⟩)⟩)⟩)⟩)
theorem ok_X5_isSign_0 : zOK l D tc A nS xs mM_X5_isSign 0 q_X5_isSign_0 := s_iload_n (q := 0) rfl (by decide +kernel) (by decide +kernel) ok_X5_isSign_1
theorem ok_X5_mayStand_59 : zOK l D tc A nS xs mM_X5_mayStand 59 q_X5_mayStand_59 := s_zret rfl (by decide +kernel)
theorem ok_X5_mayStand_58 : zOK l D tc A nS xs mM_X5_mayStand 58 q_X5_mayStand_58 := s_iload_n (q := 2) rfl (by decide +kernel) (by decide +kernel) ok_X5_mayStand_59
theorem ok_X5_mayStand_46 : zOK l D tc A nS xs mM_X5_mayStand 46 q_X5_mayStand_46 := s_if_ne (tgt := 58) (off := 12) (by decide +kernel) (by decide) ok_X5_mayStand_58 s_none
theorem ok_X5_mayStand_45 : zOK l D tc A nS xs mM_X5_mayStand 45 q_X5_mayStand_45 := s_iload_n (q := 2) rfl (by decide +kernel) (by decide +kernel) ok_X5_mayStand_46
theorem ok_X5_mayStand_44 : zOK l D tc A nS xs mM_X5_mayStand 44 q_X5_mayStand_44 := s_istore_n (q := 2) rfl (by decide +kernel) (by decide +kernel) ok_X5_mayStand_45
theorem ok_X5_mayStand_40 : zOK l D tc A nS xs mM_X5_mayStand 40 q_X5_mayStand_40 := s_goto (tgt := 44) (off := 4) (by decide +kernel) (by decide) ok_X5_mayStand_44
theorem ok_X5_mayStand_39 : zOK l D tc A nS xs mM_X5_mayStand 39 q_X5_mayStand_39 := s_iconst (n := 1) (by decide) (by decide +kernel) (by decide +kernel) ok_X5_mayStand_40
theorem ok_X5_mayStand_36 : zOK l D tc A nS xs mM_X5_mayStand 36 q_X5_mayStand_36 := s_icmp_eq (tgt := 43) (off := 7) (by decide +kernel) (by decide) s_none ok_X5_mayStand_39
theorem ok_X5_mayStand_35 : zOK l D tc A nS xs mM_X5_mayStand 35 q_X5_mayStand_35 := s_iconst (n := 3) (by decide) (by decide +kernel) (by decide +kernel) ok_X5_mayStand_36
theorem ok_X5_mayStand_34 : zOK l D tc A nS xs mM_X5_mayStand 34 q_X5_mayStand_34 := s_iald (t0 := 0) (by decide) (by decide) rfl (by decide +kernel) ok_X5_mayStand_35
theorem ok_X5_mayStand_33 : zOK l D tc A nS xs mM_X5_mayStand 33 q_X5_mayStand_33 := s_isub (by decide +kernel) ok_X5_mayStand_34
theorem ok_X5_mayStand_32 : zOK l D tc A nS xs mM_X5_mayStand 32 q_X5_mayStand_32 := s_iconst (n := 1) (by decide) (by decide +kernel) (by decide +kernel) ok_X5_mayStand_33
theorem ok_X5_mayStand_29 : zOK l D tc A nS xs mM_X5_mayStand 29 q_X5_mayStand_29 := r_getf kls_5 (by decide) tx_5_8 rfl w_285 (by decide +kernel) ok_X5_mayStand_32
theorem ok_X5_mayStand_28 : zOK l D tc A nS xs mM_X5_mayStand 28 q_X5_mayStand_28 := s_aload_n (q := 0) rfl (by decide +kernel) (by decide +kernel) ok_X5_mayStand_29
theorem ok_X5_mayStand_25 : zOK l D tc A nS xs mM_X5_mayStand 25 q_X5_mayStand_25 := r_getf kls_5 (by decide) tx_5_4 rfl w_284 (by decide +kernel) ok_X5_mayStand_28
theorem ok_X5_mayStand_24 : zOK l D tc A nS xs mM_X5_mayStand 24 q_X5_mayStand_24 := s_aload_n (q := 0) rfl (by decide +kernel) (by decide +kernel) ok_X5_mayStand_25
theorem ok_X5_mayStand_17 : zOK l D tc A nS xs mM_X5_mayStand 17 q_X5_mayStand_17 := s_goto (tgt := 44) (off := 27) (by decide +kernel) (by decide) ok_X5_mayStand_44
theorem ok_X5_mayStand_16 : zOK l D tc A nS xs mM_X5_mayStand 16 q_X5_mayStand_16 := s_iconst (n := 1) (by decide) (by decide +kernel) (by decide +kernel) ok_X5_mayStand_17
theorem ok_X5_mayStand_13 : zOK l D tc A nS xs mM_X5_mayStand 13 q_X5_mayStand_13 := s_icmp_ge (tgt := 20) (off := 7) (by decide +kernel) (by decide) s_none ok_X5_mayStand_16
theorem ok_X5_mayStand_11 : zOK l D tc A nS xs mM_X5_mayStand 11 q_X5_mayStand_11 := s_bipush (n := 40) (by decide) (by decide +kernel) (by decide +kernel) ok_X5_mayStand_13
theorem ok_X5_mayStand_8 : zOK l D tc A nS xs mM_X5_mayStand 8 q_X5_mayStand_8 := r_getf kls_5 (by decide) tx_5_3 rfl w_287 (by decide +kernel) ok_X5_mayStand_11
theorem ok_X5_mayStand_7 : zOK l D tc A nS xs mM_X5_mayStand 7 q_X5_mayStand_7 := s_aload_n (q := 0) rfl (by decide +kernel) (by decide +kernel) ok_X5_mayStand_8
theorem ok_X5_mayStand_4 : zOK l D tc A nS xs mM_X5_mayStand 4 q_X5_mayStand_4 := s_if_ne (tgt := 24) (off := 20) (by decide +kernel) (by decide) ok_X5_mayStand_24 ok_X5_mayStand_7
theorem ok_X5_mayStand_1 : zOK l D tc A nS xs mM_X5_mayStand 1 q_X5_mayStand_1 := r_getf kls_5 (by decide) tx_5_8 rfl w_285 (by decide +kernel) ok_X5_mayStand_4
theorem ok_X5_mayStand_0 : zOK l D tc A nS xs mM_X5_mayStand 0 q_X5_mayStand_0 := s_aload_n (q := 0) rfl (by decide +kernel) (by decide +kernel) ok_X5_mayStand_1
theorem ok_X5_readAll_160 : zOK l D tc A nS xs mM_X5_readAll 160 q_X5_readAll_160 := s_vret rfl (by decide +kernel)
theorem ok_X5_readAll_148 : zOK l D tc A nS xs mM_X5_readAll 148 q_X5_readAll_148 := s_if_le (tgt := 160) (off := 12) (by decide +kernel) (by decide) ok_X5_readAll_160 s_none
theorem ok_X5_readAll_145 : zOK l D tc A nS xs mM_X5_readAll 145 q_X5_readAll_145 := r_getf kls_5 (by decide) tx_5_8 rfl w_285 (by decide +kernel) ok_X5_readAll_148
theorem ok_X5_readAll_144 : zOK l D tc A nS xs mM_X5_readAll 144 q_X5_readAll_144 := s_aload_n (q := 0) rfl (by decide +kernel) (by decide +kernel) ok_X5_readAll_145
theorem ok_X5_readAll_141 : zOK l D tc A nS xs mM_X5_readAll 141 q_X5_readAll_141 := s_goto (tgt := 28) (off := (-113)) (by decide +kernel) (by decide) (s_back lb_78)
theorem ok_X5_readAll_138 : zOK l D tc A nS xs mM_X5_readAll 138 q_X5_readAll_138 := s_iinc (n := 1) (by decide +kernel) (by decide +kernel) (by decide +kernel) ok_X5_readAll_141
theorem ok_X5_readAll_136 : zOK l D tc A nS xs mM_X5_readAll 136 q_X5_readAll_136 := s_istore (by decide +kernel) (by decide +kernel) ok_X5_readAll_138
theorem ok_X5_readAll_133 : zOK l D tc A nS xs mM_X5_readAll 133 q_X5_readAll_133 := r_callS zEE_ok zTw_gd (M2 := mM_X5_skipBlanks) lb_85 calS_X5_skipBlanks rfl rfl w_301 (by decide +kernel) ok_X5_readAll_136
theorem ok_X5_readAll_131 : zOK l D tc A nS xs mM_X5_readAll 131 q_X5_readAll_131 := s_iload (by decide +kernel) (by decide +kernel) ok_X5_readAll_133
theorem ok_X5_readAll_130 : zOK l D tc A nS xs mM_X5_readAll 130 q_X5_readAll_130 := s_iload_n (q := 3) rfl (by decide +kernel) (by decide +kernel) ok_X5_readAll_131
theorem ok_X5_readAll_129 : zOK l D tc A nS xs mM_X5_readAll 129 q_X5_readAll_129 := s_aload_n (q := 1) rfl (by decide +kernel) (by decide +kernel) ok_X5_readAll_130
theorem ok_X5_readAll_126 : zOK l D tc A nS xs mM_X5_readAll 126 q_X5_readAll_126 := r_callV zEE_ok zTw_gd kls_5 (M2 := mM_X5_deliver) (na := 1) lb_68 calV_X5_deliver rfl rfl w_304 (by decide +kernel) ok_X5_readAll_129
theorem ok_X5_readAll_123 : zOK l D tc A nS xs mM_X5_readAll 123 q_X5_readAll_123 := r_getf kls_5 (by decide) tx_5_9 rfl w_286 (by decide +kernel) ok_X5_readAll_126
theorem ok_X5_readAll_122 : zOK l D tc A nS xs mM_X5_readAll 122 q_X5_readAll_122 := s_aload_n (q := 0) rfl (by decide +kernel) (by decide +kernel) ok_X5_readAll_123
theorem ok_X5_readAll_121 : zOK l D tc A nS xs mM_X5_readAll 121 q_X5_readAll_121 := s_aload_n (q := 0) rfl (by decide +kernel) (by decide +kernel) ok_X5_readAll_122
theorem ok_X5_readAll_118 : zOK l D tc A nS xs mM_X5_readAll 118 q_X5_readAll_118 := s_icmp_eq (tgt := 129) (off := 11) (by decide +kernel) (by decide) ok_X5_readAll_129 ok_X5_readAll_121
theorem ok_X5_readAll_117 : zOK l D tc A nS xs mM_X5_readAll 117 q_X5_readAll_117 := s_iconst (n := (-1)) (by decide) (by decide +kernel) (by decide +kernel) ok_X5_readAll_118
theorem ok_X5_readAll_114 : zOK l D tc A nS xs mM_X5_readAll 114 q_X5_readAll_114 := r_getf kls_5 (by decide) tx_5_9 rfl w_286 (by decide +kernel) ok_X5_readAll_117
theorem ok_X5_readAll_113 : zOK l D tc A nS xs mM_X5_readAll 113 q_X5_readAll_113 := s_aload_n (q := 0) rfl (by decide +kernel) (by decide +kernel) ok_X5_readAll_114
theorem ok_X5_readAll_110 : zOK l D tc A nS xs mM_X5_readAll 110 q_X5_readAll_110 := r_callV zEE_ok zTw_gd kls_5 (M2 := mM_X5_readRow) (na := 3) lb_84 calV_X5_readRow rfl rfl w_307 (by decide +kernel) ok_X5_readAll_113
theorem ok_X5_readAll_108 : zOK l D tc A nS xs mM_X5_readAll 108 q_X5_readAll_108 := s_iload (by decide +kernel) (by decide +kernel) ok_X5_readAll_110
theorem ok_X5_readAll_106 : zOK l D tc A nS xs mM_X5_readAll 106 q_X5_readAll_106 := s_iload (by decide +kernel) (by decide +kernel) ok_X5_readAll_108
theorem ok_X5_readAll_105 : zOK l D tc A nS xs mM_X5_readAll 105 q_X5_readAll_105 := s_aload_n (q := 1) rfl (by decide +kernel) (by decide +kernel) ok_X5_readAll_106
theorem ok_X5_readAll_104 : zOK l D tc A nS xs mM_X5_readAll 104 q_X5_readAll_104 := s_aload_n (q := 0) rfl (by decide +kernel) (by decide +kernel) ok_X5_readAll_105
theorem ok_X5_readAll_101 : zOK l D tc A nS xs mM_X5_readAll 101 q_X5_readAll_101 := s_goto (tgt := 113) (off := 12) (by decide +kernel) (by decide) ok_X5_readAll_113
theorem ok_X5_readAll_98 : zOK l D tc A nS xs mM_X5_readAll 98 q_X5_readAll_98 := r_callV zEE_ok zTw_gd kls_5 (M2 := mM_X5_readMark) (na := 2) lb_80 calV_X5_readMark rfl rfl w_310 (by decide +kernel) ok_X5_readAll_101
theorem ok_X5_readAll_96 : zOK l D tc A nS xs mM_X5_readAll 96 q_X5_readAll_96 := s_iload (by decide +kernel) (by decide +kernel) ok_X5_readAll_98
theorem ok_X5_readAll_95 : zOK l D tc A nS xs mM_X5_readAll 95 q_X5_readAll_95 := s_iald (t0 := 0) (by decide) (by decide) rfl (by decide +kernel) ok_X5_readAll_96
theorem ok_X5_readAll_93 : zOK l D tc A nS xs mM_X5_readAll 93 q_X5_readAll_93 := s_iload (by decide +kernel) (by decide +kernel) ok_X5_readAll_95
theorem ok_X5_readAll_92 : zOK l D tc A nS xs mM_X5_readAll 92 q_X5_readAll_92 := s_aload_n (q := 1) rfl (by decide +kernel) (by decide +kernel) ok_X5_readAll_93
theorem ok_X5_readAll_91 : zOK l D tc A nS xs mM_X5_readAll 91 q_X5_readAll_91 := s_aload_n (q := 0) rfl (by decide +kernel) (by decide +kernel) ok_X5_readAll_92
theorem ok_X5_readAll_88 : zOK l D tc A nS xs mM_X5_readAll 88 q_X5_readAll_88 := s_icmp_ne (tgt := 104) (off := 16) (by decide +kernel) (by decide) ok_X5_readAll_104 ok_X5_readAll_91
theorem ok_X5_readAll_86 : zOK l D tc A nS xs mM_X5_readAll 86 q_X5_readAll_86 := s_bipush (n := 41) (by decide) (by decide +kernel) (by decide +kernel) ok_X5_readAll_88
theorem ok_X5_readAll_85 : zOK l D tc A nS xs mM_X5_readAll 85 q_X5_readAll_85 := s_iald (t0 := 0) (by decide) (by decide) rfl (by decide +kernel) ok_X5_readAll_86
theorem ok_X5_readAll_83 : zOK l D tc A nS xs mM_X5_readAll 83 q_X5_readAll_83 := s_iload (by decide +kernel) (by decide +kernel) ok_X5_readAll_85
theorem ok_X5_readAll_82 : zOK l D tc A nS xs mM_X5_readAll 82 q_X5_readAll_82 := s_aload_n (q := 1) rfl (by decide +kernel) (by decide +kernel) ok_X5_readAll_83
theorem ok_X5_readAll_79 : zOK l D tc A nS xs mM_X5_readAll 79 q_X5_readAll_79 := s_icmp_eq (tgt := 91) (off := 12) (by decide +kernel) (by decide) ok_X5_readAll_91 ok_X5_readAll_82
theorem ok_X5_readAll_77 : zOK l D tc A nS xs mM_X5_readAll 77 q_X5_readAll_77 := s_bipush (n := 39) (by decide) (by decide +kernel) (by decide +kernel) ok_X5_readAll_79
theorem ok_X5_readAll_76 : zOK l D tc A nS xs mM_X5_readAll 76 q_X5_readAll_76 := s_iald (t0 := 0) (by decide) (by decide) rfl (by decide +kernel) ok_X5_readAll_77
theorem ok_X5_readAll_74 : zOK l D tc A nS xs mM_X5_readAll 74 q_X5_readAll_74 := s_iload (by decide +kernel) (by decide +kernel) ok_X5_readAll_76
theorem ok_X5_readAll_73 : zOK l D tc A nS xs mM_X5_readAll 73 q_X5_readAll_73 := s_aload_n (q := 1) rfl (by decide +kernel) (by decide +kernel) ok_X5_readAll_74
theorem ok_X5_readAll_70 : zOK l D tc A nS xs mM_X5_readAll 70 q_X5_readAll_70 := s_icmp_eq (tgt := 91) (off := 21) (by decide +kernel) (by decide) ok_X5_readAll_91 ok_X5_readAll_73
theorem ok_X5_readAll_68 : zOK l D tc A nS xs mM_X5_readAll 68 q_X5_readAll_68 := s_bipush (n := 40) (by decide) (by decide +kernel) (by decide +kernel) ok_X5_readAll_70
theorem ok_X5_readAll_67 : zOK l D tc A nS xs mM_X5_readAll 67 q_X5_readAll_67 := s_iald (t0 := 0) (by decide) (by decide) rfl (by decide +kernel) ok_X5_readAll_68
theorem ok_X5_readAll_65 : zOK l D tc A nS xs mM_X5_readAll 65 q_X5_readAll_65 := s_iload (by decide +kernel) (by decide +kernel) ok_X5_readAll_67
theorem ok_X5_readAll_64 : zOK l D tc A nS xs mM_X5_readAll 64 q_X5_readAll_64 := s_aload_n (q := 1) rfl (by decide +kernel) (by decide +kernel) ok_X5_readAll_65
theorem ok_X5_readAll_62 : zOK l D tc A nS xs mM_X5_readAll 62 q_X5_readAll_62 := s_istore (by decide +kernel) (by decide +kernel) ok_X5_readAll_64
theorem ok_X5_readAll_59 : zOK l D tc A nS xs mM_X5_readAll 59 q_X5_readAll_59 := r_callS zEE_ok zTw_gd (M2 := mM_X5_endOfToken) lb_70 calS_X5_endOfToken rfl rfl w_313 (by decide +kernel) ok_X5_readAll_62
theorem ok_X5_readAll_57 : zOK l D tc A nS xs mM_X5_readAll 57 q_X5_readAll_57 := s_iload (by decide +kernel) (by decide +kernel) ok_X5_readAll_59
theorem ok_X5_readAll_56 : zOK l D tc A nS xs mM_X5_readAll 56 q_X5_readAll_56 := s_iload_n (q := 3) rfl (by decide +kernel) (by decide +kernel) ok_X5_readAll_57
theorem ok_X5_readAll_55 : zOK l D tc A nS xs mM_X5_readAll 55 q_X5_readAll_55 := s_aload_n (q := 1) rfl (by decide +kernel) (by decide +kernel) ok_X5_readAll_56
theorem ok_X5_readAll_52 : zOK l D tc A nS xs mM_X5_readAll 52 q_X5_readAll_52 := r_putf kls_5 ty_5_9 zck_int (by decide) tx_5_9 rfl w_286 (by decide +kernel) ok_X5_readAll_55
theorem ok_X5_readAll_51 : zOK l D tc A nS xs mM_X5_readAll 51 q_X5_readAll_51 := s_iconst (n := (-1)) (by decide) (by decide +kernel) (by decide +kernel) ok_X5_readAll_52
theorem ok_X5_readAll_50 : zOK l D tc A nS xs mM_X5_readAll 50 q_X5_readAll_50 := s_aload_n (q := 0) rfl (by decide +kernel) (by decide +kernel) ok_X5_readAll_51
theorem ok_X5_readAll_47 : zOK l D tc A nS xs mM_X5_readAll 47 q_X5_readAll_47 := s_if_ne (tgt := 144) (off := 97) (by decide +kernel) (by decide) ok_X5_readAll_144 ok_X5_readAll_50
theorem ok_X5_readAll_44 : zOK l D tc A nS xs mM_X5_readAll 44 q_X5_readAll_44 := r_getN kls_10 (by decide) tx_10_6 rfl (fun U f h => h.1 _ (zNest_24)) (by decide +kernel) ok_X5_readAll_47
theorem ok_X5_readAll_41 : zOK l D tc A nS xs mM_X5_readAll 41 q_X5_readAll_41 := r_getf kls_5 (by decide) tx_5_0 rfl w_273 (by decide +kernel) ok_X5_readAll_44
theorem ok_X5_readAll_40 : zOK l D tc A nS xs mM_X5_readAll 40 q_X5_readAll_40 := s_aload_n (q := 0) rfl (by decide +kernel) (by decide +kernel) ok_X5_readAll_41
theorem ok_X5_readAll_37 : zOK l D tc A nS xs mM_X5_readAll 37 q_X5_readAll_37 := s_icmp_ge (tgt := 144) (off := 107) (by decide +kernel) (by decide) ok_X5_readAll_144 ok_X5_readAll_40
theorem ok_X5_readAll_36 : zOK l D tc A nS xs mM_X5_readAll 36 q_X5_readAll_36 := s_iload_n (q := 3) rfl (by decide +kernel) (by decide +kernel) ok_X5_readAll_37
theorem ok_X5_readAll_34 : zOK l D tc A nS xs mM_X5_readAll 34 q_X5_readAll_34 := s_iload (by decide +kernel) (by decide +kernel) ok_X5_readAll_36
theorem ok_X5_readAll_31 : zOK l D tc A nS xs mM_X5_readAll 31 q_X5_readAll_31 := s_icmp_ge (tgt := 144) (off := 113) (by decide +kernel) (by decide) ok_X5_readAll_144 ok_X5_readAll_34
theorem ok_X5_readAll_30 : zOK l D tc A nS xs mM_X5_readAll 30 q_X5_readAll_30 := s_iload_n (q := 3) rfl (by decide +kernel) (by decide +kernel) ok_X5_readAll_31
theorem ok_X5_readAll_28 : zOK l D tc A nS xs mM_X5_readAll 28 q_X5_readAll_28 := s_iload (by decide +kernel) (by decide +kernel) ok_X5_readAll_30
theorem ok_X5_readAll_26 : zOK l D tc A nS xs mM_X5_readAll 26 q_X5_readAll_26 := s_istore (by decide +kernel) (by decide +kernel) ok_X5_readAll_28
theorem ok_X5_readAll_25 : zOK l D tc A nS xs mM_X5_readAll 25 q_X5_readAll_25 := s_iconst (n := 0) (by decide) (by decide +kernel) (by decide +kernel) ok_X5_readAll_26
theorem ok_X5_readAll_23 : zOK l D tc A nS xs mM_X5_readAll 23 q_X5_readAll_23 := s_istore (by decide +kernel) (by decide +kernel) ok_X5_readAll_25
theorem ok_X5_readAll_20 : zOK l D tc A nS xs mM_X5_readAll 20 q_X5_readAll_20 := r_callS zEE_ok zTw_gd (M2 := mM_X5_skipBlanks) lb_85 calS_X5_skipBlanks rfl rfl w_301 (by decide +kernel) ok_X5_readAll_23
theorem ok_X5_readAll_19 : zOK l D tc A nS xs mM_X5_readAll 19 q_X5_readAll_19 := s_iconst (n := 0) (by decide) (by decide +kernel) (by decide +kernel) ok_X5_readAll_20
theorem ok_X5_readAll_18 : zOK l D tc A nS xs mM_X5_readAll 18 q_X5_readAll_18 := s_iload_n (q := 3) rfl (by decide +kernel) (by decide +kernel) ok_X5_readAll_19
theorem ok_X5_readAll_17 : zOK l D tc A nS xs mM_X5_readAll 17 q_X5_readAll_17 := s_aload_n (q := 1) rfl (by decide +kernel) (by decide +kernel) ok_X5_readAll_18
theorem ok_X5_readAll_14 : zOK l D tc A nS xs mM_X5_readAll 14 q_X5_readAll_14 := r_putf kls_5 ty_5_8 zck_int (by decide) tx_5_8 rfl w_285 (by decide +kernel) ok_X5_readAll_17
theorem ok_X5_readAll_13 : zOK l D tc A nS xs mM_X5_readAll 13 q_X5_readAll_13 := s_iconst (n := 0) (by decide) (by decide +kernel) (by decide +kernel) ok_X5_readAll_14
theorem ok_X5_readAll_12 : zOK l D tc A nS xs mM_X5_readAll 12 q_X5_readAll_12 := s_aload_n (q := 0) rfl (by decide +kernel) (by decide +kernel) ok_X5_readAll_13
theorem ok_X5_readAll_9 : zOK l D tc A nS xs mM_X5_readAll 9 q_X5_readAll_9 := r_putf kls_5 ty_5_3 zck_int (by decide) tx_5_3 rfl w_287 (by decide +kernel) ok_X5_readAll_12
theorem ok_X5_readAll_8 : zOK l D tc A nS xs mM_X5_readAll 8 q_X5_readAll_8 := s_iconst (n := 0) (by decide) (by decide +kernel) (by decide +kernel) ok_X5_readAll_9
theorem ok_X5_readAll_7 : zOK l D tc A nS xs mM_X5_readAll 7 q_X5_readAll_7 := s_aload_n (q := 0) rfl (by decide +kernel) (by decide +kernel) ok_X5_readAll_8
theorem ok_X5_readAll_6 : zOK l D tc A nS xs mM_X5_readAll 6 q_X5_readAll_6 := s_istore_n (q := 3) rfl (by decide +kernel) (by decide +kernel) ok_X5_readAll_7
theorem ok_X5_readAll_3 : zOK l D tc A nS xs mM_X5_readAll 3 q_X5_readAll_3 := s_mmin (by rw [show (mM_X5_readAll).1.cls = "SchemeEleven$Reader" from rfl]; exact w_316) w_32 w_33 w_34 (by decide +kernel) ok_X5_readAll_6
theorem ok_X5_readAll_2 : zOK l D tc A nS xs mM_X5_readAll 2 q_X5_readAll_2 := s_len (t0 := 0) (ty := .int) (by decide) (by decide) rfl (by decide +kernel) ok_X5_readAll_3
theorem ok_X5_readAll_1 : zOK l D tc A nS xs mM_X5_readAll 1 q_X5_readAll_1 := s_aload_n (q := 1) rfl (by decide +kernel) (by decide +kernel) ok_X5_readAll_2
theorem ok_X5_readAll_0 : zOK l D tc A nS xs mM_X5_readAll 0 q_X5_readAll_0 := s_iload_n (q := 2) rfl (by decide +kernel) (by decide +kernel) ok_X5_readAll_1
theorem ok_X5_readBoolean_58 : zOK l D tc A nS xs mM_X5_readBoolean 58 q_X5_readBoolean_58 := s_vret rfl (by decide +kernel)
theorem ok_X5_readBoolean_55 : zOK l D tc A nS xs mM_X5_readBoolean 55 q_X5_readBoolean_55 := r_putf kls_5 ty_5_9 zck_int (by decide) tx_5_9 rfl w_286 (by decide +kernel) ok_X5_readBoolean_58
theorem ok_X5_readBoolean_52 : zOK l D tc A nS xs mM_X5_readBoolean 52 q_X5_readBoolean_52 := r_callV zEE_ok zTw_gd kls_10 (M2 := mM_X10_add) (na := 5) lb_117 calV_X10_add rfl rfl w_275 (by decide +kernel) ok_X5_readBoolean_55
theorem ok_X5_readBoolean_51 : zOK l D tc A nS xs mM_X5_readBoolean 51 q_X5_readBoolean_51 := s_iconst (n := (-1)) (by decide) (by decide +kernel) (by decide +kernel) ok_X5_readBoolean_52
theorem ok_X5_readBoolean_50 : zOK l D tc A nS xs mM_X5_readBoolean 50 q_X5_readBoolean_50 := s_iconst (n := 2) (by decide) (by decide +kernel) (by decide +kernel) ok_X5_readBoolean_51
theorem ok_X5_readBoolean_47 : zOK l D tc A nS xs mM_X5_readBoolean 47 q_X5_readBoolean_47 := s_goto (tgt := 51) (off := 4) (by decide +kernel) (by decide) ok_X5_readBoolean_51
theorem ok_X5_readBoolean_46 : zOK l D tc A nS xs mM_X5_readBoolean 46 q_X5_readBoolean_46 := s_iconst (n := 4) (by decide) (by decide +kernel) (by decide +kernel) ok_X5_readBoolean_47
theorem ok_X5_readBoolean_43 : zOK l D tc A nS xs mM_X5_readBoolean 43 q_X5_readBoolean_43 := s_icmp_ne (tgt := 50) (off := 7) (by decide +kernel) (by decide) ok_X5_readBoolean_50 ok_X5_readBoolean_46
theorem ok_X5_readBoolean_41 : zOK l D tc A nS xs mM_X5_readBoolean 41 q_X5_readBoolean_41 := s_bipush (n := 116) (by decide) (by decide +kernel) (by decide +kernel) ok_X5_readBoolean_43
theorem ok_X5_readBoolean_40 : zOK l D tc A nS xs mM_X5_readBoolean 40 q_X5_readBoolean_40 := s_iload_n (q := 2) rfl (by decide +kernel) (by decide +kernel) ok_X5_readBoolean_41
theorem ok_X5_readBoolean_39 : zOK l D tc A nS xs mM_X5_readBoolean 39 q_X5_readBoolean_39 := s_iconst (n := 0) (by decide) (by decide +kernel) (by decide +kernel) ok_X5_readBoolean_40
theorem ok_X5_readBoolean_38 : zOK l D tc A nS xs mM_X5_readBoolean 38 q_X5_readBoolean_38 := s_iload_n (q := 1) rfl (by decide +kernel) (by decide +kernel) ok_X5_readBoolean_39
theorem ok_X5_readBoolean_37 : zOK l D tc A nS xs mM_X5_readBoolean 37 q_X5_readBoolean_37 := s_iconst (n := 1) (by decide) (by decide +kernel) (by decide +kernel) ok_X5_readBoolean_38
theorem ok_X5_readBoolean_34 : zOK l D tc A nS xs mM_X5_readBoolean 34 q_X5_readBoolean_34 := r_getf kls_5 (by decide) tx_5_0 rfl w_273 (by decide +kernel) ok_X5_readBoolean_37
theorem ok_X5_readBoolean_33 : zOK l D tc A nS xs mM_X5_readBoolean 33 q_X5_readBoolean_33 := s_aload_n (q := 0) rfl (by decide +kernel) (by decide +kernel) ok_X5_readBoolean_34
theorem ok_X5_readBoolean_32 : zOK l D tc A nS xs mM_X5_readBoolean 32 q_X5_readBoolean_32 := s_aload_n (q := 0) rfl (by decide +kernel) (by decide +kernel) ok_X5_readBoolean_33
theorem ok_X5_readBoolean_29 : zOK l D tc A nS xs mM_X5_readBoolean 29 q_X5_readBoolean_29 := s_if_eq (tgt := 58) (off := 29) (by decide +kernel) (by decide) ok_X5_readBoolean_58 ok_X5_readBoolean_32
theorem ok_X5_readBoolean_26 : zOK l D tc A nS xs mM_X5_readBoolean 26 q_X5_readBoolean_26 := r_callV zEE_ok zTw_gd kls_5 (M2 := mM_X5_mayStand) (na := 1) lb_76 calV_X5_mayStand rfl rfl w_317 (by decide +kernel) ok_X5_readBoolean_29
theorem ok_X5_readBoolean_25 : zOK l D tc A nS xs mM_X5_readBoolean 25 q_X5_readBoolean_25 := s_iload_n (q := 1) rfl (by decide +kernel) (by decide +kernel) ok_X5_readBoolean_26
theorem ok_X5_readBoolean_24 : zOK l D tc A nS xs mM_X5_readBoolean 24 q_X5_readBoolean_24 := s_aload_n (q := 0) rfl (by decide +kernel) (by decide +kernel) ok_X5_readBoolean_25
theorem ok_X5_readBoolean_9 : zOK l D tc A nS xs mM_X5_readBoolean 9 q_X5_readBoolean_9 := s_icmp_eq (tgt := 24) (off := 15) (by decide +kernel) (by decide) ok_X5_readBoolean_24 s_none
theorem ok_X5_readBoolean_7 : zOK l D tc A nS xs mM_X5_readBoolean 7 q_X5_readBoolean_7 := s_bipush (n := 102) (by decide) (by decide +kernel) (by decide +kernel) ok_X5_readBoolean_9
theorem ok_X5_readBoolean_6 : zOK l D tc A nS xs mM_X5_readBoolean 6 q_X5_readBoolean_6 := s_iload_n (q := 2) rfl (by decide +kernel) (by decide +kernel) ok_X5_readBoolean_7
theorem ok_X5_readBoolean_3 : zOK l D tc A nS xs mM_X5_readBoolean 3 q_X5_readBoolean_3 := s_icmp_eq (tgt := 24) (off := 21) (by decide +kernel) (by decide) ok_X5_readBoolean_24 ok_X5_readBoolean_6
theorem ok_X5_readBoolean_1 : zOK l D tc A nS xs mM_X5_readBoolean 1 q_X5_readBoolean_1 := s_bipush (n := 116) (by decide) (by decide +kernel) (by decide +kernel) ok_X5_readBoolean_3
theorem ok_X5_readBoolean_0 : zOK l D tc A nS xs mM_X5_readBoolean 0 q_X5_readBoolean_0 := s_iload_n (q := 2) rfl (by decide +kernel) (by decide +kernel) ok_X5_readBoolean_1
theorem ok_X5_readMark_100 : zOK l D tc A nS xs mM_X5_readMark 100 q_X5_readMark_100 := s_vret rfl (by decide +kernel)
theorem ok_X5_readMark_97 : zOK l D tc A nS xs mM_X5_readMark 97 q_X5_readMark_97 := r_putf kls_5 ty_5_8 zck_int (by decide) tx_5_8 rfl w_285 (by decide +kernel) ok_X5_readMark_100
theorem ok_X5_readMark_96 : zOK l D tc A nS xs mM_X5_readMark 96 q_X5_readMark_96 := s_iadd (by decide +kernel) ok_X5_readMark_97
theorem ok_X5_readMark_95 : zOK l D tc A nS xs mM_X5_readMark 95 q_X5_readMark_95 := s_iconst (n := 1) (by decide) (by decide +kernel) (by decide +kernel) ok_X5_readMark_96
theorem ok_X5_readMark_92 : zOK l D tc A nS xs mM_X5_readMark 92 q_X5_readMark_92 := r_getf kls_5 (by decide) tx_5_8 rfl w_285 (by decide +kernel) ok_X5_readMark_95
theorem ok_X5_readMark_91 : zOK l D tc A nS xs mM_X5_readMark 91 q_X5_readMark_91 := s_dup (by decide +kernel) ok_X5_readMark_92
theorem ok_X5_readMark_90 : zOK l D tc A nS xs mM_X5_readMark 90 q_X5_readMark_90 := s_aload_n (q := 0) rfl (by decide +kernel) (by decide +kernel) ok_X5_readMark_91
theorem ok_X5_readMark_89 : zOK l D tc A nS xs mM_X5_readMark 89 q_X5_readMark_89 := s_iast (t0 := 0) (by decide) (by decide) rfl (by decide +kernel) ok_X5_readMark_90
theorem ok_X5_readMark_88 : zOK l D tc A nS xs mM_X5_readMark 88 q_X5_readMark_88 := s_iconst (n := (-1)) (by decide) (by decide +kernel) (by decide +kernel) ok_X5_readMark_89
theorem ok_X5_readMark_85 : zOK l D tc A nS xs mM_X5_readMark 85 q_X5_readMark_85 := r_getf kls_5 (by decide) tx_5_8 rfl w_285 (by decide +kernel) ok_X5_readMark_88
theorem ok_X5_readMark_84 : zOK l D tc A nS xs mM_X5_readMark 84 q_X5_readMark_84 := s_aload_n (q := 0) rfl (by decide +kernel) (by decide +kernel) ok_X5_readMark_85
theorem ok_X5_readMark_81 : zOK l D tc A nS xs mM_X5_readMark 81 q_X5_readMark_81 := r_getf kls_5 (by decide) tx_5_7 rfl w_268 (by decide +kernel) ok_X5_readMark_84
theorem ok_X5_readMark_80 : zOK l D tc A nS xs mM_X5_readMark 80 q_X5_readMark_80 := s_aload_n (q := 0) rfl (by decide +kernel) (by decide +kernel) ok_X5_readMark_81
theorem ok_X5_readMark_79 : zOK l D tc A nS xs mM_X5_readMark 79 q_X5_readMark_79 := s_iast (t0 := 0) (by decide) (by decide) rfl (by decide +kernel) ok_X5_readMark_80
theorem ok_X5_readMark_78 : zOK l D tc A nS xs mM_X5_readMark 78 q_X5_readMark_78 := s_iconst (n := (-1)) (by decide) (by decide +kernel) (by decide +kernel) ok_X5_readMark_79
theorem ok_X5_readMark_75 : zOK l D tc A nS xs mM_X5_readMark 75 q_X5_readMark_75 := r_getf kls_5 (by decide) tx_5_8 rfl w_285 (by decide +kernel) ok_X5_readMark_78
theorem ok_X5_readMark_74 : zOK l D tc A nS xs mM_X5_readMark 74 q_X5_readMark_74 := s_aload_n (q := 0) rfl (by decide +kernel) (by decide +kernel) ok_X5_readMark_75
theorem ok_X5_readMark_71 : zOK l D tc A nS xs mM_X5_readMark 71 q_X5_readMark_71 := r_getf kls_5 (by decide) tx_5_6 rfl w_274 (by decide +kernel) ok_X5_readMark_74
theorem ok_X5_readMark_70 : zOK l D tc A nS xs mM_X5_readMark 70 q_X5_readMark_70 := s_aload_n (q := 0) rfl (by decide +kernel) (by decide +kernel) ok_X5_readMark_71
theorem ok_X5_readMark_69 : zOK l D tc A nS xs mM_X5_readMark 69 q_X5_readMark_69 := s_iast (t0 := 0) (by decide) (by decide) rfl (by decide +kernel) ok_X5_readMark_70
theorem ok_X5_readMark_68 : zOK l D tc A nS xs mM_X5_readMark 68 q_X5_readMark_68 := s_iload_n (q := 2) rfl (by decide +kernel) (by decide +kernel) ok_X5_readMark_69
theorem ok_X5_readMark_65 : zOK l D tc A nS xs mM_X5_readMark 65 q_X5_readMark_65 := r_getf kls_5 (by decide) tx_5_8 rfl w_285 (by decide +kernel) ok_X5_readMark_68
theorem ok_X5_readMark_64 : zOK l D tc A nS xs mM_X5_readMark 64 q_X5_readMark_64 := s_aload_n (q := 0) rfl (by decide +kernel) (by decide +kernel) ok_X5_readMark_65
theorem ok_X5_readMark_61 : zOK l D tc A nS xs mM_X5_readMark 61 q_X5_readMark_61 := r_getf kls_5 (by decide) tx_5_5 rfl w_283 (by decide +kernel) ok_X5_readMark_64
theorem ok_X5_readMark_60 : zOK l D tc A nS xs mM_X5_readMark 60 q_X5_readMark_60 := s_aload_n (q := 0) rfl (by decide +kernel) (by decide +kernel) ok_X5_readMark_61
theorem ok_X5_readMark_59 : zOK l D tc A nS xs mM_X5_readMark 59 q_X5_readMark_59 := s_iast (t0 := 0) (by decide) (by decide) rfl (by decide +kernel) ok_X5_readMark_60
theorem ok_X5_readMark_55 : zOK l D tc A nS xs mM_X5_readMark 55 q_X5_readMark_55 := s_goto (tgt := 59) (off := 4) (by decide +kernel) (by decide) ok_X5_readMark_59
theorem ok_X5_readMark_54 : zOK l D tc A nS xs mM_X5_readMark 54 q_X5_readMark_54 := s_iconst (n := 1) (by decide) (by decide +kernel) (by decide +kernel) ok_X5_readMark_55
theorem ok_X5_readMark_51 : zOK l D tc A nS xs mM_X5_readMark 51 q_X5_readMark_51 := s_icmp_ne (tgt := 58) (off := 7) (by decide +kernel) (by decide) s_none ok_X5_readMark_54
theorem ok_X5_readMark_49 : zOK l D tc A nS xs mM_X5_readMark 49 q_X5_readMark_49 := s_bipush (n := 40) (by decide) (by decide +kernel) (by decide +kernel) ok_X5_readMark_51
theorem ok_X5_readMark_48 : zOK l D tc A nS xs mM_X5_readMark 48 q_X5_readMark_48 := s_iload_n (q := 1) rfl (by decide +kernel) (by decide +kernel) ok_X5_readMark_49
theorem ok_X5_readMark_45 : zOK l D tc A nS xs mM_X5_readMark 45 q_X5_readMark_45 := r_getf kls_5 (by decide) tx_5_8 rfl w_285 (by decide +kernel) ok_X5_readMark_48
theorem ok_X5_readMark_44 : zOK l D tc A nS xs mM_X5_readMark 44 q_X5_readMark_44 := s_aload_n (q := 0) rfl (by decide +kernel) (by decide +kernel) ok_X5_readMark_45
theorem ok_X5_readMark_41 : zOK l D tc A nS xs mM_X5_readMark 41 q_X5_readMark_41 := r_getf kls_5 (by decide) tx_5_4 rfl w_284 (by decide +kernel) ok_X5_readMark_44
theorem ok_X5_readMark_40 : zOK l D tc A nS xs mM_X5_readMark 40 q_X5_readMark_40 := s_aload_n (q := 0) rfl (by decide +kernel) (by decide +kernel) ok_X5_readMark_41
theorem ok_X5_readMark_27 : zOK l D tc A nS xs mM_X5_readMark 27 q_X5_readMark_27 := s_icmp_lt (tgt := 40) (off := 13) (by decide +kernel) (by decide) ok_X5_readMark_40 s_none
theorem ok_X5_readMark_25 : zOK l D tc A nS xs mM_X5_readMark 25 q_X5_readMark_25 := s_bipush (n := 40) (by decide) (by decide +kernel) (by decide +kernel) ok_X5_readMark_27
theorem ok_X5_readMark_22 : zOK l D tc A nS xs mM_X5_readMark 22 q_X5_readMark_22 := r_getf kls_5 (by decide) tx_5_8 rfl w_285 (by decide +kernel) ok_X5_readMark_25
theorem ok_X5_readMark_21 : zOK l D tc A nS xs mM_X5_readMark 21 q_X5_readMark_21 := s_aload_n (q := 0) rfl (by decide +kernel) (by decide +kernel) ok_X5_readMark_22
theorem ok_X5_readMark_17 : zOK l D tc A nS xs mM_X5_readMark 17 q_X5_readMark_17 := s_if_ne (tgt := 21) (off := 4) (by decide +kernel) (by decide) ok_X5_readMark_21 s_none
theorem ok_X5_readMark_14 : zOK l D tc A nS xs mM_X5_readMark 14 q_X5_readMark_14 := r_callV zEE_ok zTw_gd kls_5 (M2 := mM_X5_mayStand) (na := 1) lb_76 calV_X5_mayStand rfl rfl w_317 (by decide +kernel) ok_X5_readMark_17
theorem ok_X5_readMark_13 : zOK l D tc A nS xs mM_X5_readMark 13 q_X5_readMark_13 := s_iload_n (q := 2) rfl (by decide +kernel) (by decide +kernel) ok_X5_readMark_14
theorem ok_X5_readMark_12 : zOK l D tc A nS xs mM_X5_readMark 12 q_X5_readMark_12 := s_aload_n (q := 0) rfl (by decide +kernel) (by decide +kernel) ok_X5_readMark_13
theorem ok_X5_readMark_11 : zOK l D tc A nS xs mM_X5_readMark 11 q_X5_readMark_11 := s_vret rfl (by decide +kernel)
theorem ok_X5_readMark_8 : zOK l D tc A nS xs mM_X5_readMark 8 q_X5_readMark_8 := r_callV zEE_ok zTw_gd kls_5 (M2 := mM_X5_closeList) (na := 1) lb_67 calV_X5_closeList rfl rfl w_320 (by decide +kernel) ok_X5_readMark_11
theorem ok_X5_readMark_7 : zOK l D tc A nS xs mM_X5_readMark 7 q_X5_readMark_7 := s_iload_n (q := 2) rfl (by decide +kernel) (by decide +kernel) ok_X5_readMark_8
theorem ok_X5_readMark_6 : zOK l D tc A nS xs mM_X5_readMark 6 q_X5_readMark_6 := s_aload_n (q := 0) rfl (by decide +kernel) (by decide +kernel) ok_X5_readMark_7
theorem ok_X5_readMark_3 : zOK l D tc A nS xs mM_X5_readMark 3 q_X5_readMark_3 := s_icmp_ne (tgt := 12) (off := 9) (by decide +kernel) (by decide) ok_X5_readMark_12 ok_X5_readMark_6
theorem ok_X5_readMark_1 : zOK l D tc A nS xs mM_X5_readMark 1 q_X5_readMark_1 := s_bipush (n := 41) (by decide) (by decide +kernel) (by decide +kernel) ok_X5_readMark_3
theorem ok_X5_readMark_0 : zOK l D tc A nS xs mM_X5_readMark 0 q_X5_readMark_0 := s_iload_n (q := 1) rfl (by decide +kernel) (by decide +kernel) ok_X5_readMark_1
theorem ok_X5_readName_93 : zOK l D tc A nS xs mM_X5_readName 93 q_X5_readName_93 := s_vret rfl (by decide +kernel)
theorem ok_X5_readName_90 : zOK l D tc A nS xs mM_X5_readName 90 q_X5_readName_90 := r_putf kls_5 ty_5_9 zck_int (by decide) tx_5_9 rfl w_286 (by decide +kernel) ok_X5_readName_93
theorem ok_X5_readName_87 : zOK l D tc A nS xs mM_X5_readName 87 q_X5_readName_87 := r_callV zEE_ok zTw_gd kls_10 (M2 := mM_X10_add) (na := 5) lb_117 calV_X10_add rfl rfl w_275 (by decide +kernel) ok_X5_readName_90
theorem ok_X5_readName_86 : zOK l D tc A nS xs mM_X5_readName 86 q_X5_readName_86 := s_iconst (n := (-1)) (by decide) (by decide +kernel) (by decide +kernel) ok_X5_readName_87
theorem ok_X5_readName_84 : zOK l D tc A nS xs mM_X5_readName 84 q_X5_readName_84 := s_iload (by decide +kernel) (by decide +kernel) ok_X5_readName_86
theorem ok_X5_readName_82 : zOK l D tc A nS xs mM_X5_readName 82 q_X5_readName_82 := s_iload (by decide +kernel) (by decide +kernel) ok_X5_readName_84
theorem ok_X5_readName_81 : zOK l D tc A nS xs mM_X5_readName 81 q_X5_readName_81 := s_iload_n (q := 2) rfl (by decide +kernel) (by decide +kernel) ok_X5_readName_82
theorem ok_X5_readName_80 : zOK l D tc A nS xs mM_X5_readName 80 q_X5_readName_80 := s_iconst (n := 2) (by decide) (by decide +kernel) (by decide +kernel) ok_X5_readName_81
theorem ok_X5_readName_77 : zOK l D tc A nS xs mM_X5_readName 77 q_X5_readName_77 := r_getf kls_5 (by decide) tx_5_0 rfl w_273 (by decide +kernel) ok_X5_readName_80
theorem ok_X5_readName_76 : zOK l D tc A nS xs mM_X5_readName 76 q_X5_readName_76 := s_aload_n (q := 0) rfl (by decide +kernel) (by decide +kernel) ok_X5_readName_77
theorem ok_X5_readName_75 : zOK l D tc A nS xs mM_X5_readName 75 q_X5_readName_75 := s_aload_n (q := 0) rfl (by decide +kernel) (by decide +kernel) ok_X5_readName_76
theorem ok_X5_readName_62 : zOK l D tc A nS xs mM_X5_readName 62 q_X5_readName_62 := s_icmp_ne (tgt := 75) (off := 13) (by decide +kernel) (by decide) ok_X5_readName_75 s_none
theorem ok_X5_readName_61 : zOK l D tc A nS xs mM_X5_readName 61 q_X5_readName_61 := s_iconst (n := (-1)) (by decide) (by decide +kernel) (by decide +kernel) ok_X5_readName_62
theorem ok_X5_readName_59 : zOK l D tc A nS xs mM_X5_readName 59 q_X5_readName_59 := s_iload (by decide +kernel) (by decide +kernel) ok_X5_readName_61
theorem ok_X5_readName_57 : zOK l D tc A nS xs mM_X5_readName 57 q_X5_readName_57 := s_istore (by decide +kernel) (by decide +kernel) ok_X5_readName_59
theorem ok_X5_readName_54 : zOK l D tc A nS xs mM_X5_readName 54 q_X5_readName_54 := r_callV zEE_ok zTw_gd kls_2 (M2 := mM_X2_addSymbol) (na := 3) lb_32 calV_X2_addSymbol rfl rfl w_323 (by decide +kernel) ok_X5_readName_57
theorem ok_X5_readName_53 : zOK l D tc A nS xs mM_X5_readName 53 q_X5_readName_53 := s_iload_n (q := 3) rfl (by decide +kernel) (by decide +kernel) ok_X5_readName_54
theorem ok_X5_readName_52 : zOK l D tc A nS xs mM_X5_readName 52 q_X5_readName_52 := s_iload_n (q := 2) rfl (by decide +kernel) (by decide +kernel) ok_X5_readName_53
theorem ok_X5_readName_51 : zOK l D tc A nS xs mM_X5_readName 51 q_X5_readName_51 := s_aload_n (q := 1) rfl (by decide +kernel) (by decide +kernel) ok_X5_readName_52
theorem ok_X5_readName_48 : zOK l D tc A nS xs mM_X5_readName 48 q_X5_readName_48 := r_getf kls_5 (by decide) tx_5_1 rfl w_296 (by decide +kernel) ok_X5_readName_51
theorem ok_X5_readName_47 : zOK l D tc A nS xs mM_X5_readName 47 q_X5_readName_47 := s_aload_n (q := 0) rfl (by decide +kernel) (by decide +kernel) ok_X5_readName_48
theorem ok_X5_readName_44 : zOK l D tc A nS xs mM_X5_readName 44 q_X5_readName_44 := s_icmp_ne (tgt := 59) (off := 15) (by decide +kernel) (by decide) ok_X5_readName_59 ok_X5_readName_47
theorem ok_X5_readName_43 : zOK l D tc A nS xs mM_X5_readName 43 q_X5_readName_43 := s_iconst (n := (-1)) (by decide) (by decide +kernel) (by decide +kernel) ok_X5_readName_44
theorem ok_X5_readName_41 : zOK l D tc A nS xs mM_X5_readName 41 q_X5_readName_41 := s_iload (by decide +kernel) (by decide +kernel) ok_X5_readName_43
theorem ok_X5_readName_28 : zOK l D tc A nS xs mM_X5_readName 28 q_X5_readName_28 := s_icmp_lt (tgt := 41) (off := 13) (by decide +kernel) (by decide) ok_X5_readName_41 s_none
theorem ok_X5_readName_25 : zOK l D tc A nS xs mM_X5_readName 25 q_X5_readName_25 := s_sipush (n := 300) (by decide) (by decide +kernel) (by decide +kernel) ok_X5_readName_28
theorem ok_X5_readName_22 : zOK l D tc A nS xs mM_X5_readName 22 q_X5_readName_22 := r_getN kls_2 (by decide) tx_2_4 rfl (fun U f h => h.1 _ (zNest_6)) (by decide +kernel) ok_X5_readName_25
theorem ok_X5_readName_19 : zOK l D tc A nS xs mM_X5_readName 19 q_X5_readName_19 := r_getf kls_5 (by decide) tx_5_1 rfl w_296 (by decide +kernel) ok_X5_readName_22
theorem ok_X5_readName_18 : zOK l D tc A nS xs mM_X5_readName 18 q_X5_readName_18 := s_aload_n (q := 0) rfl (by decide +kernel) (by decide +kernel) ok_X5_readName_19
theorem ok_X5_readName_15 : zOK l D tc A nS xs mM_X5_readName 15 q_X5_readName_15 := s_icmp_ne (tgt := 41) (off := 26) (by decide +kernel) (by decide) ok_X5_readName_41 ok_X5_readName_18
theorem ok_X5_readName_14 : zOK l D tc A nS xs mM_X5_readName 14 q_X5_readName_14 := s_iconst (n := (-1)) (by decide) (by decide +kernel) (by decide +kernel) ok_X5_readName_15
theorem ok_X5_readName_12 : zOK l D tc A nS xs mM_X5_readName 12 q_X5_readName_12 := s_iload (by decide +kernel) (by decide +kernel) ok_X5_readName_14
theorem ok_X5_readName_10 : zOK l D tc A nS xs mM_X5_readName 10 q_X5_readName_10 := s_istore (by decide +kernel) (by decide +kernel) ok_X5_readName_12
theorem ok_X5_readName_7 : zOK l D tc A nS xs mM_X5_readName 7 q_X5_readName_7 := r_callV zEE_ok zTw_gd kls_2 (M2 := mM_X2_find) (na := 3) lb_36 calV_X2_find rfl rfl w_327 (by decide +kernel) ok_X5_readName_10
theorem ok_X5_readName_6 : zOK l D tc A nS xs mM_X5_readName 6 q_X5_readName_6 := s_iload_n (q := 3) rfl (by decide +kernel) (by decide +kernel) ok_X5_readName_7
theorem ok_X5_readName_5 : zOK l D tc A nS xs mM_X5_readName 5 q_X5_readName_5 := s_iload_n (q := 2) rfl (by decide +kernel) (by decide +kernel) ok_X5_readName_6
theorem ok_X5_readName_4 : zOK l D tc A nS xs mM_X5_readName 4 q_X5_readName_4 := s_aload_n (q := 1) rfl (by decide +kernel) (by decide +kernel) ok_X5_readName_5
theorem ok_X5_readName_1 : zOK l D tc A nS xs mM_X5_readName 1 q_X5_readName_1 := r_getf kls_5 (by decide) tx_5_1 rfl w_296 (by decide +kernel) ok_X5_readName_4
theorem ok_X5_readName_0 : zOK l D tc A nS xs mM_X5_readName 0 q_X5_readName_0 := s_aload_n (q := 0) rfl (by decide +kernel) (by decide +kernel) ok_X5_readName_1
theorem ok_X5_readNumber_172 : zOK l D tc A nS xs mM_X5_readNumber 172 q_X5_readNumber_172 := s_vret rfl (by decide +kernel)
theorem ok_X5_readNumber_169 : zOK l D tc A nS xs mM_X5_readNumber 169 q_X5_readNumber_169 := r_putf kls_5 ty_5_9 zck_int (by decide) tx_5_9 rfl w_286 (by decide +kernel) ok_X5_readNumber_172
theorem ok_X5_readNumber_166 : zOK l D tc A nS xs mM_X5_readNumber 166 q_X5_readNumber_166 := r_callV zEE_ok zTw_gd kls_10 (M2 := mM_X10_add) (na := 5) lb_117 calV_X10_add rfl rfl w_275 (by decide +kernel) ok_X5_readNumber_169
theorem ok_X5_readNumber_165 : zOK l D tc A nS xs mM_X5_readNumber 165 q_X5_readNumber_165 := s_iconst (n := (-1)) (by decide) (by decide +kernel) (by decide +kernel) ok_X5_readNumber_166
theorem ok_X5_readNumber_164 : zOK l D tc A nS xs mM_X5_readNumber 164 q_X5_readNumber_164 := s_iand (by decide +kernel) ok_X5_readNumber_165
theorem ok_X5_readNumber_162 : zOK l D tc A nS xs mM_X5_readNumber 162 q_X5_readNumber_162 := r_ldc (by decide) (x := (65535 : Int32)) (by decide +kernel) rfl w_331 (by decide +kernel) ok_X5_readNumber_164
theorem ok_X5_readNumber_161 : zOK l D tc A nS xs mM_X5_readNumber 161 q_X5_readNumber_161 := s_iadd (by decide +kernel) ok_X5_readNumber_162
theorem ok_X5_readNumber_160 : zOK l D tc A nS xs mM_X5_readNumber 160 q_X5_readNumber_160 := s_iconst (n := 1) (by decide) (by decide +kernel) (by decide +kernel) ok_X5_readNumber_161
theorem ok_X5_readNumber_159 : zOK l D tc A nS xs mM_X5_readNumber 159 q_X5_readNumber_159 := s_imul (by decide +kernel) ok_X5_readNumber_160
theorem ok_X5_readNumber_157 : zOK l D tc A nS xs mM_X5_readNumber 157 q_X5_readNumber_157 := s_iload (by decide +kernel) (by decide +kernel) ok_X5_readNumber_159
theorem ok_X5_readNumber_156 : zOK l D tc A nS xs mM_X5_readNumber 156 q_X5_readNumber_156 := s_iconst (n := 2) (by decide) (by decide +kernel) (by decide +kernel) ok_X5_readNumber_157
theorem ok_X5_readNumber_155 : zOK l D tc A nS xs mM_X5_readNumber 155 q_X5_readNumber_155 := s_iconst (n := 0) (by decide) (by decide +kernel) (by decide +kernel) ok_X5_readNumber_156
theorem ok_X5_readNumber_154 : zOK l D tc A nS xs mM_X5_readNumber 154 q_X5_readNumber_154 := s_iload_n (q := 2) rfl (by decide +kernel) (by decide +kernel) ok_X5_readNumber_155
theorem ok_X5_readNumber_153 : zOK l D tc A nS xs mM_X5_readNumber 153 q_X5_readNumber_153 := s_iconst (n := 1) (by decide) (by decide +kernel) (by decide +kernel) ok_X5_readNumber_154
theorem ok_X5_readNumber_150 : zOK l D tc A nS xs mM_X5_readNumber 150 q_X5_readNumber_150 := r_getf kls_5 (by decide) tx_5_0 rfl w_273 (by decide +kernel) ok_X5_readNumber_153
theorem ok_X5_readNumber_149 : zOK l D tc A nS xs mM_X5_readNumber 149 q_X5_readNumber_149 := s_aload_n (q := 0) rfl (by decide +kernel) (by decide +kernel) ok_X5_readNumber_150
theorem ok_X5_readNumber_148 : zOK l D tc A nS xs mM_X5_readNumber 148 q_X5_readNumber_148 := s_aload_n (q := 0) rfl (by decide +kernel) (by decide +kernel) ok_X5_readNumber_149
theorem ok_X5_readNumber_145 : zOK l D tc A nS xs mM_X5_readNumber 145 q_X5_readNumber_145 := s_if_eq (tgt := 172) (off := 27) (by decide +kernel) (by decide) ok_X5_readNumber_172 ok_X5_readNumber_148
theorem ok_X5_readNumber_142 : zOK l D tc A nS xs mM_X5_readNumber 142 q_X5_readNumber_142 := r_callV zEE_ok zTw_gd kls_5 (M2 := mM_X5_mayStand) (na := 1) lb_76 calV_X5_mayStand rfl rfl w_317 (by decide +kernel) ok_X5_readNumber_145
theorem ok_X5_readNumber_141 : zOK l D tc A nS xs mM_X5_readNumber 141 q_X5_readNumber_141 := s_iload_n (q := 2) rfl (by decide +kernel) (by decide +kernel) ok_X5_readNumber_142
theorem ok_X5_readNumber_140 : zOK l D tc A nS xs mM_X5_readNumber 140 q_X5_readNumber_140 := s_aload_n (q := 0) rfl (by decide +kernel) (by decide +kernel) ok_X5_readNumber_141
theorem ok_X5_readNumber_125 : zOK l D tc A nS xs mM_X5_readNumber 125 q_X5_readNumber_125 := s_icmp_le (tgt := 140) (off := 15) (by decide +kernel) (by decide) ok_X5_readNumber_140 s_none
theorem ok_X5_readNumber_122 : zOK l D tc A nS xs mM_X5_readNumber 122 q_X5_readNumber_122 := s_sipush (n := 16383) (by decide) (by decide +kernel) (by decide +kernel) ok_X5_readNumber_125
theorem ok_X5_readNumber_120 : zOK l D tc A nS xs mM_X5_readNumber 120 q_X5_readNumber_120 := s_iload (by decide +kernel) (by decide +kernel) ok_X5_readNumber_122
theorem ok_X5_readNumber_117 : zOK l D tc A nS xs mM_X5_readNumber 117 q_X5_readNumber_117 := s_icmp_lt (tgt := 128) (off := 11) (by decide +kernel) (by decide) s_none ok_X5_readNumber_120
theorem ok_X5_readNumber_114 : zOK l D tc A nS xs mM_X5_readNumber 114 q_X5_readNumber_114 := s_sipush (n := (-16384)) (by decide) (by decide +kernel) (by decide +kernel) ok_X5_readNumber_117
theorem ok_X5_readNumber_112 : zOK l D tc A nS xs mM_X5_readNumber 112 q_X5_readNumber_112 := s_iload (by decide +kernel) (by decide +kernel) ok_X5_readNumber_114
theorem ok_X5_readNumber_109 : zOK l D tc A nS xs mM_X5_readNumber 109 q_X5_readNumber_109 := s_if_eq (tgt := 128) (off := 19) (by decide +kernel) (by decide) s_none ok_X5_readNumber_112
theorem ok_X5_readNumber_107 : zOK l D tc A nS xs mM_X5_readNumber 107 q_X5_readNumber_107 := s_iload (by decide +kernel) (by decide +kernel) ok_X5_readNumber_109
theorem ok_X5_readNumber_105 : zOK l D tc A nS xs mM_X5_readNumber 105 q_X5_readNumber_105 := s_istore (by decide +kernel) (by decide +kernel) ok_X5_readNumber_107
theorem ok_X5_readNumber_103 : zOK l D tc A nS xs mM_X5_readNumber 103 q_X5_readNumber_103 := s_iload (by decide +kernel) (by decide +kernel) ok_X5_readNumber_105
theorem ok_X5_readNumber_94 : zOK l D tc A nS xs mM_X5_readNumber 94 q_X5_readNumber_94 := s_if_eq (tgt := 103) (off := 9) (by decide +kernel) (by decide) ok_X5_readNumber_103 s_none
theorem ok_X5_readNumber_92 : zOK l D tc A nS xs mM_X5_readNumber 92 q_X5_readNumber_92 := s_iload (by decide +kernel) (by decide +kernel) ok_X5_readNumber_94
theorem ok_X5_readNumber_89 : zOK l D tc A nS xs mM_X5_readNumber 89 q_X5_readNumber_89 := s_goto (tgt := 51) (off := (-38)) (by decide +kernel) (by decide) (s_back lb_83)
theorem ok_X5_readNumber_86 : zOK l D tc A nS xs mM_X5_readNumber 86 q_X5_readNumber_86 := s_iinc (n := 1) (by decide +kernel) (by decide +kernel) (by decide +kernel) ok_X5_readNumber_89
theorem ok_X5_readNumber_84 : zOK l D tc A nS xs mM_X5_readNumber 84 q_X5_readNumber_84 := s_istore (by decide +kernel) (by decide +kernel) ok_X5_readNumber_86
theorem ok_X5_readNumber_83 : zOK l D tc A nS xs mM_X5_readNumber 83 q_X5_readNumber_83 := s_isub (by decide +kernel) ok_X5_readNumber_84
theorem ok_X5_readNumber_81 : zOK l D tc A nS xs mM_X5_readNumber 81 q_X5_readNumber_81 := s_bipush (n := 48) (by decide) (by decide +kernel) (by decide +kernel) ok_X5_readNumber_83
theorem ok_X5_readNumber_80 : zOK l D tc A nS xs mM_X5_readNumber 80 q_X5_readNumber_80 := s_iadd (by decide +kernel) ok_X5_readNumber_81
theorem ok_X5_readNumber_79 : zOK l D tc A nS xs mM_X5_readNumber 79 q_X5_readNumber_79 := s_iald (t0 := 0) (by decide) (by decide) rfl (by decide +kernel) ok_X5_readNumber_80
theorem ok_X5_readNumber_77 : zOK l D tc A nS xs mM_X5_readNumber 77 q_X5_readNumber_77 := s_iload (by decide +kernel) (by decide +kernel) ok_X5_readNumber_79
theorem ok_X5_readNumber_76 : zOK l D tc A nS xs mM_X5_readNumber 76 q_X5_readNumber_76 := s_aload_n (q := 1) rfl (by decide +kernel) (by decide +kernel) ok_X5_readNumber_77
theorem ok_X5_readNumber_75 : zOK l D tc A nS xs mM_X5_readNumber 75 q_X5_readNumber_75 := s_imul (by decide +kernel) ok_X5_readNumber_76
theorem ok_X5_readNumber_73 : zOK l D tc A nS xs mM_X5_readNumber 73 q_X5_readNumber_73 := s_iload (by decide +kernel) (by decide +kernel) ok_X5_readNumber_75
theorem ok_X5_readNumber_71 : zOK l D tc A nS xs mM_X5_readNumber 71 q_X5_readNumber_71 := s_bipush (n := 10) (by decide) (by decide +kernel) (by decide +kernel) ok_X5_readNumber_73
theorem ok_X5_readNumber_69 : zOK l D tc A nS xs mM_X5_readNumber 69 q_X5_readNumber_69 := s_istore (by decide +kernel) (by decide +kernel) ok_X5_readNumber_71
theorem ok_X5_readNumber_66 : zOK l D tc A nS xs mM_X5_readNumber 66 q_X5_readNumber_66 := r_callS zEE_ok zTw_gd (M2 := mM_X5_isDigit) lb_74 calS_X5_isDigit rfl rfl w_298 (by decide +kernel) ok_X5_readNumber_69
theorem ok_X5_readNumber_65 : zOK l D tc A nS xs mM_X5_readNumber 65 q_X5_readNumber_65 := s_iald (t0 := 0) (by decide) (by decide) rfl (by decide +kernel) ok_X5_readNumber_66
theorem ok_X5_readNumber_63 : zOK l D tc A nS xs mM_X5_readNumber 63 q_X5_readNumber_63 := s_iload (by decide +kernel) (by decide +kernel) ok_X5_readNumber_65
theorem ok_X5_readNumber_62 : zOK l D tc A nS xs mM_X5_readNumber 62 q_X5_readNumber_62 := s_aload_n (q := 1) rfl (by decide +kernel) (by decide +kernel) ok_X5_readNumber_63
theorem ok_X5_readNumber_59 : zOK l D tc A nS xs mM_X5_readNumber 59 q_X5_readNumber_59 := s_if_eq (tgt := 92) (off := 33) (by decide +kernel) (by decide) ok_X5_readNumber_92 ok_X5_readNumber_62
theorem ok_X5_readNumber_57 : zOK l D tc A nS xs mM_X5_readNumber 57 q_X5_readNumber_57 := s_iload (by decide +kernel) (by decide +kernel) ok_X5_readNumber_59
theorem ok_X5_readNumber_54 : zOK l D tc A nS xs mM_X5_readNumber 54 q_X5_readNumber_54 := s_icmp_ge (tgt := 92) (off := 38) (by decide +kernel) (by decide) ok_X5_readNumber_92 ok_X5_readNumber_57
theorem ok_X5_readNumber_53 : zOK l D tc A nS xs mM_X5_readNumber 53 q_X5_readNumber_53 := s_iload_n (q := 3) rfl (by decide +kernel) (by decide +kernel) ok_X5_readNumber_54
theorem ok_X5_readNumber_51 : zOK l D tc A nS xs mM_X5_readNumber 51 q_X5_readNumber_51 := s_iload (by decide +kernel) (by decide +kernel) ok_X5_readNumber_53
theorem ok_X5_readNumber_49 : zOK l D tc A nS xs mM_X5_readNumber 49 q_X5_readNumber_49 := s_istore (by decide +kernel) (by decide +kernel) ok_X5_readNumber_51
theorem ok_X5_readNumber_47 : zOK l D tc A nS xs mM_X5_readNumber 47 q_X5_readNumber_47 := s_iload (by decide +kernel) (by decide +kernel) ok_X5_readNumber_49
theorem ok_X5_readNumber_45 : zOK l D tc A nS xs mM_X5_readNumber 45 q_X5_readNumber_45 := s_istore (by decide +kernel) (by decide +kernel) ok_X5_readNumber_47
theorem ok_X5_readNumber_41 : zOK l D tc A nS xs mM_X5_readNumber 41 q_X5_readNumber_41 := s_goto (tgt := 45) (off := 4) (by decide +kernel) (by decide) ok_X5_readNumber_45
theorem ok_X5_readNumber_40 : zOK l D tc A nS xs mM_X5_readNumber 40 q_X5_readNumber_40 := s_iconst (n := 1) (by decide) (by decide +kernel) (by decide +kernel) ok_X5_readNumber_41
theorem ok_X5_readNumber_37 : zOK l D tc A nS xs mM_X5_readNumber 37 q_X5_readNumber_37 := s_icmp_gt (tgt := 44) (off := 7) (by decide +kernel) (by decide) s_none ok_X5_readNumber_40
theorem ok_X5_readNumber_36 : zOK l D tc A nS xs mM_X5_readNumber 36 q_X5_readNumber_36 := s_iconst (n := 5) (by decide) (by decide +kernel) (by decide +kernel) ok_X5_readNumber_37
theorem ok_X5_readNumber_35 : zOK l D tc A nS xs mM_X5_readNumber 35 q_X5_readNumber_35 := s_isub (by decide +kernel) ok_X5_readNumber_36
theorem ok_X5_readNumber_33 : zOK l D tc A nS xs mM_X5_readNumber 33 q_X5_readNumber_33 := s_iload (by decide +kernel) (by decide +kernel) ok_X5_readNumber_35
theorem ok_X5_readNumber_32 : zOK l D tc A nS xs mM_X5_readNumber 32 q_X5_readNumber_32 := s_iload_n (q := 3) rfl (by decide +kernel) (by decide +kernel) ok_X5_readNumber_33
theorem ok_X5_readNumber_30 : zOK l D tc A nS xs mM_X5_readNumber 30 q_X5_readNumber_30 := s_istore (by decide +kernel) (by decide +kernel) ok_X5_readNumber_32
theorem ok_X5_readNumber_29 : zOK l D tc A nS xs mM_X5_readNumber 29 q_X5_readNumber_29 := s_iconst (n := 0) (by decide) (by decide +kernel) (by decide +kernel) ok_X5_readNumber_30
theorem ok_X5_readNumber_27 : zOK l D tc A nS xs mM_X5_readNumber 27 q_X5_readNumber_27 := s_istore (by decide +kernel) (by decide +kernel) ok_X5_readNumber_29
theorem ok_X5_readNumber_26 : zOK l D tc A nS xs mM_X5_readNumber 26 q_X5_readNumber_26 := s_iload_n (q := 2) rfl (by decide +kernel) (by decide +kernel) ok_X5_readNumber_27
theorem ok_X5_readNumber_17 : zOK l D tc A nS xs mM_X5_readNumber 17 q_X5_readNumber_17 := s_if_eq (tgt := 26) (off := 9) (by decide +kernel) (by decide) ok_X5_readNumber_26 s_none
theorem ok_X5_readNumber_15 : zOK l D tc A nS xs mM_X5_readNumber 15 q_X5_readNumber_15 := s_iload (by decide +kernel) (by decide +kernel) ok_X5_readNumber_17
theorem ok_X5_readNumber_13 : zOK l D tc A nS xs mM_X5_readNumber 13 q_X5_readNumber_13 := s_istore (by decide +kernel) (by decide +kernel) ok_X5_readNumber_15
theorem ok_X5_readNumber_12 : zOK l D tc A nS xs mM_X5_readNumber 12 q_X5_readNumber_12 := s_iconst (n := 0) (by decide) (by decide +kernel) (by decide +kernel) ok_X5_readNumber_13
theorem ok_X5_readNumber_5 : zOK l D tc A nS xs mM_X5_readNumber 5 q_X5_readNumber_5 := s_icmp_ne (tgt := 12) (off := 7) (by decide +kernel) (by decide) ok_X5_readNumber_12 s_none
theorem ok_X5_readNumber_3 : zOK l D tc A nS xs mM_X5_readNumber 3 q_X5_readNumber_3 := s_bipush (n := 45) (by decide) (by decide +kernel) (by decide +kernel) ok_X5_readNumber_5
theorem ok_X5_readNumber_2 : zOK l D tc A nS xs mM_X5_readNumber 2 q_X5_readNumber_2 := s_iald (t0 := 0) (by decide) (by decide) rfl (by decide +kernel) ok_X5_readNumber_3
theorem ok_X5_readNumber_1 : zOK l D tc A nS xs mM_X5_readNumber 1 q_X5_readNumber_1 := s_iload_n (q := 2) rfl (by decide +kernel) (by decide +kernel) ok_X5_readNumber_2
theorem ok_X5_readNumber_0 : zOK l D tc A nS xs mM_X5_readNumber 0 q_X5_readNumber_0 := s_aload_n (q := 1) rfl (by decide +kernel) (by decide +kernel) ok_X5_readNumber_1
theorem ok_X5_readRow_158 : zOK l D tc A nS xs mM_X5_readRow 158 q_X5_readRow_158 := s_vret rfl (by decide +kernel)
theorem ok_X5_readRow_155 : zOK l D tc A nS xs mM_X5_readRow 155 q_X5_readRow_155 := r_callV zEE_ok zTw_gd kls_5 (M2 := mM_X5_readName) (na := 3) lb_81 calV_X5_readName rfl rfl w_332 (by decide +kernel) ok_X5_readRow_158
theorem ok_X5_readRow_154 : zOK l D tc A nS xs mM_X5_readRow 154 q_X5_readRow_154 := s_isub (by decide +kernel) ok_X5_readRow_155
theorem ok_X5_readRow_153 : zOK l D tc A nS xs mM_X5_readRow 153 q_X5_readRow_153 := s_iload_n (q := 2) rfl (by decide +kernel) (by decide +kernel) ok_X5_readRow_154
theorem ok_X5_readRow_152 : zOK l D tc A nS xs mM_X5_readRow 152 q_X5_readRow_152 := s_iload_n (q := 3) rfl (by decide +kernel) (by decide +kernel) ok_X5_readRow_153
theorem ok_X5_readRow_151 : zOK l D tc A nS xs mM_X5_readRow 151 q_X5_readRow_151 := s_iload_n (q := 2) rfl (by decide +kernel) (by decide +kernel) ok_X5_readRow_152
theorem ok_X5_readRow_150 : zOK l D tc A nS xs mM_X5_readRow 150 q_X5_readRow_150 := s_aload_n (q := 1) rfl (by decide +kernel) (by decide +kernel) ok_X5_readRow_151
theorem ok_X5_readRow_149 : zOK l D tc A nS xs mM_X5_readRow 149 q_X5_readRow_149 := s_aload_n (q := 0) rfl (by decide +kernel) (by decide +kernel) ok_X5_readRow_150
theorem ok_X5_readRow_146 : zOK l D tc A nS xs mM_X5_readRow 146 q_X5_readRow_146 := s_if_eq (tgt := 158) (off := 12) (by decide +kernel) (by decide) ok_X5_readRow_158 ok_X5_readRow_149
theorem ok_X5_readRow_143 : zOK l D tc A nS xs mM_X5_readRow 143 q_X5_readRow_143 := r_callV zEE_ok zTw_gd kls_5 (M2 := mM_X5_mayStand) (na := 1) lb_76 calV_X5_mayStand rfl rfl w_317 (by decide +kernel) ok_X5_readRow_146
theorem ok_X5_readRow_142 : zOK l D tc A nS xs mM_X5_readRow 142 q_X5_readRow_142 := s_iload_n (q := 2) rfl (by decide +kernel) (by decide +kernel) ok_X5_readRow_143
theorem ok_X5_readRow_141 : zOK l D tc A nS xs mM_X5_readRow 141 q_X5_readRow_141 := s_aload_n (q := 0) rfl (by decide +kernel) (by decide +kernel) ok_X5_readRow_142
theorem ok_X5_readRow_126 : zOK l D tc A nS xs mM_X5_readRow 126 q_X5_readRow_126 := s_icmp_le (tgt := 141) (off := 15) (by decide +kernel) (by decide) ok_X5_readRow_141 s_none
theorem ok_X5_readRow_124 : zOK l D tc A nS xs mM_X5_readRow 124 q_X5_readRow_124 := s_bipush (n := 13) (by decide) (by decide +kernel) (by decide +kernel) ok_X5_readRow_126
theorem ok_X5_readRow_123 : zOK l D tc A nS xs mM_X5_readRow 123 q_X5_readRow_123 := s_isub (by decide +kernel) ok_X5_readRow_124
theorem ok_X5_readRow_122 : zOK l D tc A nS xs mM_X5_readRow 122 q_X5_readRow_122 := s_iload_n (q := 2) rfl (by decide +kernel) (by decide +kernel) ok_X5_readRow_123
theorem ok_X5_readRow_121 : zOK l D tc A nS xs mM_X5_readRow 121 q_X5_readRow_121 := s_iload_n (q := 3) rfl (by decide +kernel) (by decide +kernel) ok_X5_readRow_122
theorem ok_X5_readRow_110 : zOK l D tc A nS xs mM_X5_readRow 110 q_X5_readRow_110 := s_icmp_ne (tgt := 121) (off := 11) (by decide +kernel) (by decide) ok_X5_readRow_121 s_none
theorem ok_X5_readRow_109 : zOK l D tc A nS xs mM_X5_readRow 109 q_X5_readRow_109 := s_iadd (by decide +kernel) ok_X5_readRow_110
theorem ok_X5_readRow_108 : zOK l D tc A nS xs mM_X5_readRow 108 q_X5_readRow_108 := s_iconst (n := 1) (by decide) (by decide +kernel) (by decide +kernel) ok_X5_readRow_109
theorem ok_X5_readRow_107 : zOK l D tc A nS xs mM_X5_readRow 107 q_X5_readRow_107 := s_iload_n (q := 2) rfl (by decide +kernel) (by decide +kernel) ok_X5_readRow_108
theorem ok_X5_readRow_106 : zOK l D tc A nS xs mM_X5_readRow 106 q_X5_readRow_106 := s_iload_n (q := 3) rfl (by decide +kernel) (by decide +kernel) ok_X5_readRow_107
theorem ok_X5_readRow_103 : zOK l D tc A nS xs mM_X5_readRow 103 q_X5_readRow_103 := s_icmp_ne (tgt := 121) (off := 18) (by decide +kernel) (by decide) ok_X5_readRow_121 ok_X5_readRow_106
theorem ok_X5_readRow_101 : zOK l D tc A nS xs mM_X5_readRow 101 q_X5_readRow_101 := s_bipush (n := 46) (by decide) (by decide +kernel) (by decide +kernel) ok_X5_readRow_103
theorem ok_X5_readRow_99 : zOK l D tc A nS xs mM_X5_readRow 99 q_X5_readRow_99 := s_iload (by decide +kernel) (by decide +kernel) ok_X5_readRow_101
theorem ok_X5_readRow_96 : zOK l D tc A nS xs mM_X5_readRow 96 q_X5_readRow_96 := s_goto (tgt := 158) (off := 62) (by decide +kernel) (by decide) ok_X5_readRow_158
theorem ok_X5_readRow_93 : zOK l D tc A nS xs mM_X5_readRow 93 q_X5_readRow_93 := r_callV zEE_ok zTw_gd kls_5 (M2 := mM_X5_readNumber) (na := 3) lb_82 calV_X5_readNumber rfl rfl w_335 (by decide +kernel) ok_X5_readRow_96
theorem ok_X5_readRow_92 : zOK l D tc A nS xs mM_X5_readRow 92 q_X5_readRow_92 := s_iload_n (q := 3) rfl (by decide +kernel) (by decide +kernel) ok_X5_readRow_93
theorem ok_X5_readRow_91 : zOK l D tc A nS xs mM_X5_readRow 91 q_X5_readRow_91 := s_iload_n (q := 2) rfl (by decide +kernel) (by decide +kernel) ok_X5_readRow_92
theorem ok_X5_readRow_90 : zOK l D tc A nS xs mM_X5_readRow 90 q_X5_readRow_90 := s_aload_n (q := 1) rfl (by decide +kernel) (by decide +kernel) ok_X5_readRow_91
theorem ok_X5_readRow_89 : zOK l D tc A nS xs mM_X5_readRow 89 q_X5_readRow_89 := s_aload_n (q := 0) rfl (by decide +kernel) (by decide +kernel) ok_X5_readRow_90
theorem ok_X5_readRow_75 : zOK l D tc A nS xs mM_X5_readRow 75 q_X5_readRow_75 := s_icmp_le (tgt := 99) (off := 24) (by decide +kernel) (by decide) ok_X5_readRow_99 s_none
theorem ok_X5_readRow_74 : zOK l D tc A nS xs mM_X5_readRow 74 q_X5_readRow_74 := s_iadd (by decide +kernel) ok_X5_readRow_75
theorem ok_X5_readRow_73 : zOK l D tc A nS xs mM_X5_readRow 73 q_X5_readRow_73 := s_iconst (n := 1) (by decide) (by decide +kernel) (by decide +kernel) ok_X5_readRow_74
theorem ok_X5_readRow_72 : zOK l D tc A nS xs mM_X5_readRow 72 q_X5_readRow_72 := s_iload_n (q := 2) rfl (by decide +kernel) (by decide +kernel) ok_X5_readRow_73
theorem ok_X5_readRow_71 : zOK l D tc A nS xs mM_X5_readRow 71 q_X5_readRow_71 := s_iload_n (q := 3) rfl (by decide +kernel) (by decide +kernel) ok_X5_readRow_72
theorem ok_X5_readRow_68 : zOK l D tc A nS xs mM_X5_readRow 68 q_X5_readRow_68 := s_icmp_ne (tgt := 99) (off := 31) (by decide +kernel) (by decide) ok_X5_readRow_99 ok_X5_readRow_71
theorem ok_X5_readRow_66 : zOK l D tc A nS xs mM_X5_readRow 66 q_X5_readRow_66 := s_bipush (n := 45) (by decide) (by decide +kernel) (by decide +kernel) ok_X5_readRow_68
theorem ok_X5_readRow_64 : zOK l D tc A nS xs mM_X5_readRow 64 q_X5_readRow_64 := s_iload (by decide +kernel) (by decide +kernel) ok_X5_readRow_66
theorem ok_X5_readRow_61 : zOK l D tc A nS xs mM_X5_readRow 61 q_X5_readRow_61 := s_if_ne (tgt := 89) (off := 28) (by decide +kernel) (by decide) ok_X5_readRow_89 ok_X5_readRow_64
theorem ok_X5_readRow_58 : zOK l D tc A nS xs mM_X5_readRow 58 q_X5_readRow_58 := r_callS zEE_ok zTw_gd (M2 := mM_X5_isDigit) lb_74 calS_X5_isDigit rfl rfl w_298 (by decide +kernel) ok_X5_readRow_61
theorem ok_X5_readRow_56 : zOK l D tc A nS xs mM_X5_readRow 56 q_X5_readRow_56 := s_iload (by decide +kernel) (by decide +kernel) ok_X5_readRow_58
theorem ok_X5_readRow_41 : zOK l D tc A nS xs mM_X5_readRow 41 q_X5_readRow_41 := s_if_ne (tgt := 56) (off := 15) (by decide +kernel) (by decide) ok_X5_readRow_56 s_none
theorem ok_X5_readRow_38 : zOK l D tc A nS xs mM_X5_readRow 38 q_X5_readRow_38 := r_callS zEE_ok zTw_gd (M2 := mM_X5_isSign) lb_75 calS_X5_isSign rfl rfl w_293 (by decide +kernel) ok_X5_readRow_41
theorem ok_X5_readRow_36 : zOK l D tc A nS xs mM_X5_readRow 36 q_X5_readRow_36 := s_iload (by decide +kernel) (by decide +kernel) ok_X5_readRow_38
theorem ok_X5_readRow_33 : zOK l D tc A nS xs mM_X5_readRow 33 q_X5_readRow_33 := s_goto (tgt := 158) (off := 125) (by decide +kernel) (by decide) ok_X5_readRow_158
theorem ok_X5_readRow_30 : zOK l D tc A nS xs mM_X5_readRow 30 q_X5_readRow_30 := r_callV zEE_ok zTw_gd kls_5 (M2 := mM_X5_readBoolean) (na := 2) lb_79 calV_X5_readBoolean rfl rfl w_338 (by decide +kernel) ok_X5_readRow_33
theorem ok_X5_readRow_26 : zOK l D tc A nS xs mM_X5_readRow 26 q_X5_readRow_26 := s_goto (tgt := 30) (off := 4) (by decide +kernel) (by decide) ok_X5_readRow_30
theorem ok_X5_readRow_25 : zOK l D tc A nS xs mM_X5_readRow 25 q_X5_readRow_25 := s_iald (t0 := 0) (by decide) (by decide) rfl (by decide +kernel) ok_X5_readRow_26
theorem ok_X5_readRow_24 : zOK l D tc A nS xs mM_X5_readRow 24 q_X5_readRow_24 := s_iadd (by decide +kernel) ok_X5_readRow_25
theorem ok_X5_readRow_23 : zOK l D tc A nS xs mM_X5_readRow 23 q_X5_readRow_23 := s_iconst (n := 1) (by decide) (by decide +kernel) (by decide +kernel) ok_X5_readRow_24
theorem ok_X5_readRow_22 : zOK l D tc A nS xs mM_X5_readRow 22 q_X5_readRow_22 := s_iload_n (q := 2) rfl (by decide +kernel) (by decide +kernel) ok_X5_readRow_23
theorem ok_X5_readRow_21 : zOK l D tc A nS xs mM_X5_readRow 21 q_X5_readRow_21 := s_aload_n (q := 1) rfl (by decide +kernel) (by decide +kernel) ok_X5_readRow_22
theorem ok_X5_readRow_18 : zOK l D tc A nS xs mM_X5_readRow 18 q_X5_readRow_18 := s_icmp_ne (tgt := 29) (off := 11) (by decide +kernel) (by decide) s_none ok_X5_readRow_21
theorem ok_X5_readRow_17 : zOK l D tc A nS xs mM_X5_readRow 17 q_X5_readRow_17 := s_iadd (by decide +kernel) ok_X5_readRow_18
theorem ok_X5_readRow_16 : zOK l D tc A nS xs mM_X5_readRow 16 q_X5_readRow_16 := s_iconst (n := 2) (by decide) (by decide +kernel) (by decide +kernel) ok_X5_readRow_17
theorem ok_X5_readRow_15 : zOK l D tc A nS xs mM_X5_readRow 15 q_X5_readRow_15 := s_iload_n (q := 2) rfl (by decide +kernel) (by decide +kernel) ok_X5_readRow_16
theorem ok_X5_readRow_14 : zOK l D tc A nS xs mM_X5_readRow 14 q_X5_readRow_14 := s_iload_n (q := 3) rfl (by decide +kernel) (by decide +kernel) ok_X5_readRow_15
theorem ok_X5_readRow_13 : zOK l D tc A nS xs mM_X5_readRow 13 q_X5_readRow_13 := s_iload_n (q := 2) rfl (by decide +kernel) (by decide +kernel) ok_X5_readRow_14
theorem ok_X5_readRow_12 : zOK l D tc A nS xs mM_X5_readRow 12 q_X5_readRow_12 := s_aload_n (q := 0) rfl (by decide +kernel) (by decide +kernel) ok_X5_readRow_13
theorem ok_X5_readRow_9 : zOK l D tc A nS xs mM_X5_readRow 9 q_X5_readRow_9 := s_icmp_ne (tgt := 36) (off := 27) (by decide +kernel) (by decide) ok_X5_readRow_36 ok_X5_readRow_12
theorem ok_X5_readRow_7 : zOK l D tc A nS xs mM_X5_readRow 7 q_X5_readRow_7 := s_bipush (n := 35) (by decide) (by decide +kernel) (by decide +kernel) ok_X5_readRow_9
theorem ok_X5_readRow_5 : zOK l D tc A nS xs mM_X5_readRow 5 q_X5_readRow_5 := s_iload (by decide +kernel) (by decide +kernel) ok_X5_readRow_7
theorem ok_X5_readRow_3 : zOK l D tc A nS xs mM_X5_readRow 3 q_X5_readRow_3 := s_istore (by decide +kernel) (by decide +kernel) ok_X5_readRow_5
theorem ok_X5_readRow_2 : zOK l D tc A nS xs mM_X5_readRow 2 q_X5_readRow_2 := s_iald (t0 := 0) (by decide) (by decide) rfl (by decide +kernel) ok_X5_readRow_3
theorem ok_X5_readRow_1 : zOK l D tc A nS xs mM_X5_readRow 1 q_X5_readRow_1 := s_iload_n (q := 2) rfl (by decide +kernel) (by decide +kernel) ok_X5_readRow_2
theorem ok_X5_readRow_0 : zOK l D tc A nS xs mM_X5_readRow 0 q_X5_readRow_0 := s_aload_n (q := 1) rfl (by decide +kernel) (by decide +kernel) ok_X5_readRow_1
theorem ok_X5_skipBlanks_62 : zOK l D tc A nS xs mM_X5_skipBlanks 62 q_X5_skipBlanks_62 := s_iret rfl (by decide +kernel)
theorem ok_X5_skipBlanks_61 : zOK l D tc A nS xs mM_X5_skipBlanks 61 q_X5_skipBlanks_61 := s_iload_n (q := 1) rfl (by decide +kernel) (by decide +kernel) ok_X5_skipBlanks_62
theorem ok_X5_skipBlanks_58 : zOK l D tc A nS xs mM_X5_skipBlanks 58 q_X5_skipBlanks_58 := s_goto (tgt := 5) (off := (-53)) (by decide +kernel) (by decide) (s_back lb_86)
theorem ok_X5_skipBlanks_55 : zOK l D tc A nS xs mM_X5_skipBlanks 55 q_X5_skipBlanks_55 := s_iinc (n := 1) (by decide +kernel) (by decide +kernel) (by decide +kernel) ok_X5_skipBlanks_58
theorem ok_X5_skipBlanks_54 : zOK l D tc A nS xs mM_X5_skipBlanks 54 q_X5_skipBlanks_54 := s_iret rfl (by decide +kernel)
theorem ok_X5_skipBlanks_52 : zOK l D tc A nS xs mM_X5_skipBlanks 52 q_X5_skipBlanks_52 := s_iload (by decide +kernel) (by decide +kernel) ok_X5_skipBlanks_54
theorem ok_X5_skipBlanks_49 : zOK l D tc A nS xs mM_X5_skipBlanks 49 q_X5_skipBlanks_49 := s_if_ne (tgt := 55) (off := 6) (by decide +kernel) (by decide) ok_X5_skipBlanks_55 ok_X5_skipBlanks_52
theorem ok_X5_skipBlanks_48 : zOK l D tc A nS xs mM_X5_skipBlanks 48 q_X5_skipBlanks_48 := s_iload_n (q := 3) rfl (by decide +kernel) (by decide +kernel) ok_X5_skipBlanks_49
theorem ok_X5_skipBlanks_45 : zOK l D tc A nS xs mM_X5_skipBlanks 45 q_X5_skipBlanks_45 := s_icmp_eq (tgt := 55) (off := 10) (by decide +kernel) (by decide) ok_X5_skipBlanks_55 ok_X5_skipBlanks_48
theorem ok_X5_skipBlanks_43 : zOK l D tc A nS xs mM_X5_skipBlanks 43 q_X5_skipBlanks_43 := s_bipush (n := 32) (by decide) (by decide +kernel) (by decide +kernel) ok_X5_skipBlanks_45
theorem ok_X5_skipBlanks_41 : zOK l D tc A nS xs mM_X5_skipBlanks 41 q_X5_skipBlanks_41 := s_iload (by decide +kernel) (by decide +kernel) ok_X5_skipBlanks_43
theorem ok_X5_skipBlanks_33 : zOK l D tc A nS xs mM_X5_skipBlanks 33 q_X5_skipBlanks_33 := s_icmp_ne (tgt := 41) (off := 8) (by decide +kernel) (by decide) ok_X5_skipBlanks_41 s_none
theorem ok_X5_skipBlanks_31 : zOK l D tc A nS xs mM_X5_skipBlanks 31 q_X5_skipBlanks_31 := s_bipush (n := 59) (by decide) (by decide +kernel) (by decide +kernel) ok_X5_skipBlanks_33
theorem ok_X5_skipBlanks_29 : zOK l D tc A nS xs mM_X5_skipBlanks 29 q_X5_skipBlanks_29 := s_iload (by decide +kernel) (by decide +kernel) ok_X5_skipBlanks_31
theorem ok_X5_skipBlanks_21 : zOK l D tc A nS xs mM_X5_skipBlanks 21 q_X5_skipBlanks_21 := s_icmp_ne (tgt := 29) (off := 8) (by decide +kernel) (by decide) ok_X5_skipBlanks_29 s_none
theorem ok_X5_skipBlanks_19 : zOK l D tc A nS xs mM_X5_skipBlanks 19 q_X5_skipBlanks_19 := s_bipush (n := 10) (by decide) (by decide +kernel) (by decide +kernel) ok_X5_skipBlanks_21
theorem ok_X5_skipBlanks_17 : zOK l D tc A nS xs mM_X5_skipBlanks 17 q_X5_skipBlanks_17 := s_iload (by decide +kernel) (by decide +kernel) ok_X5_skipBlanks_19
theorem ok_X5_skipBlanks_15 : zOK l D tc A nS xs mM_X5_skipBlanks 15 q_X5_skipBlanks_15 := s_istore (by decide +kernel) (by decide +kernel) ok_X5_skipBlanks_17
theorem ok_X5_skipBlanks_14 : zOK l D tc A nS xs mM_X5_skipBlanks 14 q_X5_skipBlanks_14 := s_iald (t0 := 0) (by decide) (by decide) rfl (by decide +kernel) ok_X5_skipBlanks_15
theorem ok_X5_skipBlanks_12 : zOK l D tc A nS xs mM_X5_skipBlanks 12 q_X5_skipBlanks_12 := s_iload (by decide +kernel) (by decide +kernel) ok_X5_skipBlanks_14
theorem ok_X5_skipBlanks_11 : zOK l D tc A nS xs mM_X5_skipBlanks 11 q_X5_skipBlanks_11 := s_aload_n (q := 0) rfl (by decide +kernel) (by decide +kernel) ok_X5_skipBlanks_12
theorem ok_X5_skipBlanks_8 : zOK l D tc A nS xs mM_X5_skipBlanks 8 q_X5_skipBlanks_8 := s_icmp_ge (tgt := 61) (off := 53) (by decide +kernel) (by decide) ok_X5_skipBlanks_61 ok_X5_skipBlanks_11
theorem ok_X5_skipBlanks_7 : zOK l D tc A nS xs mM_X5_skipBlanks 7 q_X5_skipBlanks_7 := s_iload_n (q := 1) rfl (by decide +kernel) (by decide +kernel) ok_X5_skipBlanks_8
theorem ok_X5_skipBlanks_5 : zOK l D tc A nS xs mM_X5_skipBlanks 5 q_X5_skipBlanks_5 := s_iload (by decide +kernel) (by decide +kernel) ok_X5_skipBlanks_7
theorem ok_X5_skipBlanks_3 : zOK l D tc A nS xs mM_X5_skipBlanks 3 q_X5_skipBlanks_3 := s_istore (by decide +kernel) (by decide +kernel) ok_X5_skipBlanks_5
theorem ok_X5_skipBlanks_2 : zOK l D tc A nS xs mM_X5_skipBlanks 2 q_X5_skipBlanks_2 := s_iload_n (q := 2) rfl (by decide +kernel) (by decide +kernel) ok_X5_skipBlanks_3
theorem ok_X5_skipBlanks_1 : zOK l D tc A nS xs mM_X5_skipBlanks 1 q_X5_skipBlanks_1 := s_istore_n (q := 3) rfl (by decide +kernel) (by decide +kernel) ok_X5_skipBlanks_2
theorem ok_X5_skipBlanks_0 : zOK l D tc A nS xs mM_X5_skipBlanks 0 q_X5_skipBlanks_0 := s_iconst (n := 0) (by decide) (by decide +kernel) (by decide +kernel) ok_X5_skipBlanks_1
theorem ok_X6_clear_30 : zOK l D tc A nS xs mM_X6_clear 30 q_X6_clear_30 := s_vret rfl (by decide +kernel)
theorem ok_X6_clear_27 : zOK l D tc A nS xs mM_X6_clear 27 q_X6_clear_27 := r_putf kls_6 ty_6_14 zck_int (by decide) tx_6_14 rfl w_341 (by decide +kernel) ok_X6_clear_30
theorem ok_X6_clear_26 : zOK l D tc A nS xs mM_X6_clear 26 q_X6_clear_26 := s_iconst (n := 0) (by decide) (by decide +kernel) (by decide +kernel) ok_X6_clear_27
theorem ok_X6_clear_25 : zOK l D tc A nS xs mM_X6_clear 25 q_X6_clear_25 := s_aload_n (q := 0) rfl (by decide +kernel) (by decide +kernel) ok_X6_clear_26
theorem ok_X6_clear_22 : zOK l D tc A nS xs mM_X6_clear 22 q_X6_clear_22 := r_putf kls_6 ty_6_9 zck_int (by decide) tx_6_9 rfl w_342 (by decide +kernel) ok_X6_clear_25
theorem ok_X6_clear_21 : zOK l D tc A nS xs mM_X6_clear 21 q_X6_clear_21 := s_iconst (n := 0) (by decide) (by decide +kernel) (by decide +kernel) ok_X6_clear_22
theorem ok_X6_clear_20 : zOK l D tc A nS xs mM_X6_clear 20 q_X6_clear_20 := s_aload_n (q := 0) rfl (by decide +kernel) (by decide +kernel) ok_X6_clear_21
theorem ok_X6_clear_17 : zOK l D tc A nS xs mM_X6_clear 17 q_X6_clear_17 := r_putf kls_6 ty_6_8 zck_int (by decide) tx_6_8 rfl w_343 (by decide +kernel) ok_X6_clear_20
theorem ok_X6_clear_16 : zOK l D tc A nS xs mM_X6_clear 16 q_X6_clear_16 := s_iconst (n := 0) (by decide) (by decide +kernel) (by decide +kernel) ok_X6_clear_17
theorem ok_X6_clear_15 : zOK l D tc A nS xs mM_X6_clear 15 q_X6_clear_15 := s_aload_n (q := 0) rfl (by decide +kernel) (by decide +kernel) ok_X6_clear_16
theorem ok_X6_clear_12 : zOK l D tc A nS xs mM_X6_clear 12 q_X6_clear_12 := r_putf kls_6 ty_6_7 zck_bool (by decide) tx_6_7 rfl w_344 (by decide +kernel) ok_X6_clear_15
theorem ok_X6_clear_11 : zOK l D tc A nS xs mM_X6_clear 11 q_X6_clear_11 := s_iconst (n := 0) (by decide) (by decide +kernel) (by decide +kernel) ok_X6_clear_12
theorem ok_X6_clear_10 : zOK l D tc A nS xs mM_X6_clear 10 q_X6_clear_10 := s_aload_n (q := 0) rfl (by decide +kernel) (by decide +kernel) ok_X6_clear_11
theorem ok_X6_clear_7 : zOK l D tc A nS xs mM_X6_clear 7 q_X6_clear_7 := r_putf kls_6 ty_6_6 zck_int (by decide) tx_6_6 rfl w_345 (by decide +kernel) ok_X6_clear_10
theorem ok_X6_clear_6 : zOK l D tc A nS xs mM_X6_clear 6 q_X6_clear_6 := s_iconst (n := 0) (by decide) (by decide +kernel) (by decide +kernel) ok_X6_clear_7
theorem ok_X6_clear_5 : zOK l D tc A nS xs mM_X6_clear 5 q_X6_clear_5 := s_aload_n (q := 0) rfl (by decide +kernel) (by decide +kernel) ok_X6_clear_6
theorem ok_X6_clear_2 : zOK l D tc A nS xs mM_X6_clear 2 q_X6_clear_2 := r_putf kls_6 ty_6_5 zck_int (by decide) tx_6_5 rfl w_346 (by decide +kernel) ok_X6_clear_5
theorem ok_X6_clear_1 : zOK l D tc A nS xs mM_X6_clear 1 q_X6_clear_1 := s_iconst (n := 0) (by decide) (by decide +kernel) (by decide +kernel) ok_X6_clear_2
theorem ok_X6_clear_0 : zOK l D tc A nS xs mM_X6_clear 0 q_X6_clear_0 := s_aload_n (q := 0) rfl (by decide +kernel) (by decide +kernel) ok_X6_clear_1
theorem ok_X6_init_53 : zOK l D tc A nS xs mM_X6_init 53 q_X6_init_53 := s_vret rfl (by decide +kernel)
theorem ok_X6_init_50 : zOK l D tc A nS xs mM_X6_init 50 q_X6_init_50 := r_putF kls_6 ty_6_3 (zck_obj _) (by decide) tx_6_3 rfl rfl rfl w_347 (by decide +kernel) ok_X6_init_53
theorem ok_X6_init_49 : zOK l D tc A nS xs mM_X6_init 49 q_X6_init_49 := s_aload_n (q := 3) rfl (by decide +kernel) (by decide +kernel) ok_X6_init_50
theorem ok_X6_init_48 : zOK l D tc A nS xs mM_X6_init 48 q_X6_init_48 := s_aload_n (q := 0) rfl (by decide +kernel) (by decide +kernel) ok_X6_init_49
theorem ok_X6_init_45 : zOK l D tc A nS xs mM_X6_init 45 q_X6_init_45 := r_putF kls_6 ty_6_2 (zck_obj _) (by decide) tx_6_2 rfl rfl rfl w_348 (by decide +kernel) ok_X6_init_48
theorem ok_X6_init_44 : zOK l D tc A nS xs mM_X6_init 44 q_X6_init_44 := s_aload_n (q := 2) rfl (by decide +kernel) (by decide +kernel) ok_X6_init_45
theorem ok_X6_init_43 : zOK l D tc A nS xs mM_X6_init 43 q_X6_init_43 := s_aload_n (q := 0) rfl (by decide +kernel) (by decide +kernel) ok_X6_init_44
theorem ok_X6_init_40 : zOK l D tc A nS xs mM_X6_init 40 q_X6_init_40 := r_putF kls_6 ty_6_1 (zck_arr _) (by decide) tx_6_1 rfl rfl rfl w_349 (by decide +kernel) ok_X6_init_43
theorem ok_X6_init_37 : zOK l D tc A nS xs mM_X6_init 37 q_X6_init_37 := r_getN kls_3 (by decide) tx_3_1 rfl (fun U f h => h.1 _ (zNest_0)) (by decide +kernel) ok_X6_init_40
theorem ok_X6_init_36 : zOK l D tc A nS xs mM_X6_init 36 q_X6_init_36 := s_aload_n (q := 1) rfl (by decide +kernel) (by decide +kernel) ok_X6_init_37
theorem ok_X6_init_35 : zOK l D tc A nS xs mM_X6_init 35 q_X6_init_35 := s_aload_n (q := 0) rfl (by decide +kernel) (by decide +kernel) ok_X6_init_36
theorem ok_X6_init_32 : zOK l D tc A nS xs mM_X6_init 32 q_X6_init_32 := r_putF kls_6 ty_6_0 (zck_obj _) (by decide) tx_6_0 rfl rfl rfl w_350 (by decide +kernel) ok_X6_init_35
theorem ok_X6_init_31 : zOK l D tc A nS xs mM_X6_init 31 q_X6_init_31 := s_aload_n (q := 1) rfl (by decide +kernel) (by decide +kernel) ok_X6_init_32
theorem ok_X6_init_30 : zOK l D tc A nS xs mM_X6_init 30 q_X6_init_30 := s_aload_n (q := 0) rfl (by decide +kernel) (by decide +kernel) ok_X6_init_31
theorem ok_X6_init_27 : zOK l D tc A nS xs mM_X6_init 27 q_X6_init_27 := r_putF kls_6 ty_6_13 (zck_arr _) (by decide) tx_6_13 rfl rfl rfl w_351 (by decide +kernel) ok_X6_init_30
theorem ok_X6_init_25 : zOK l D tc A nS xs mM_X6_init 25 q_X6_init_25 := r_newa (t0 := 0) (atype := .int) (ty := .int) rfl (by decide) rfl rfl z_RA_int rfl (by decide) w_109 (by decide +kernel) ok_X6_init_27
theorem ok_X6_init_23 : zOK l D tc A nS xs mM_X6_init 23 q_X6_init_23 := s_bipush (n := 50) (by decide) (by decide +kernel) (by decide +kernel) ok_X6_init_25
theorem ok_X6_init_22 : zOK l D tc A nS xs mM_X6_init 22 q_X6_init_22 := s_aload_n (q := 0) rfl (by decide +kernel) (by decide +kernel) ok_X6_init_23
theorem ok_X6_init_19 : zOK l D tc A nS xs mM_X6_init 19 q_X6_init_19 := r_putF kls_6 ty_6_10 (zck_arr _) (by decide) tx_6_10 rfl rfl rfl w_352 (by decide +kernel) ok_X6_init_22
theorem ok_X6_init_17 : zOK l D tc A nS xs mM_X6_init 17 q_X6_init_17 := r_newa (t0 := 0) (atype := .int) (ty := .int) rfl (by decide) rfl rfl z_RA_int rfl (by decide) w_109 (by decide +kernel) ok_X6_init_19
theorem ok_X6_init_14 : zOK l D tc A nS xs mM_X6_init 14 q_X6_init_14 := s_sipush (n := 256) (by decide) (by decide +kernel) (by decide +kernel) ok_X6_init_17
theorem ok_X6_init_13 : zOK l D tc A nS xs mM_X6_init 13 q_X6_init_13 := s_aload_n (q := 0) rfl (by decide +kernel) (by decide +kernel) ok_X6_init_14
theorem ok_X6_init_10 : zOK l D tc A nS xs mM_X6_init 10 q_X6_init_10 := r_putF kls_6 ty_6_4 (zck_arr _) (by decide) tx_6_4 rfl rfl rfl w_353 (by decide +kernel) ok_X6_init_13
theorem ok_X6_init_8 : zOK l D tc A nS xs mM_X6_init 8 q_X6_init_8 := r_newa (t0 := 0) (atype := .int) (ty := .int) rfl (by decide) rfl rfl z_RA_int rfl (by decide) w_109 (by decide +kernel) ok_X6_init_10
theorem ok_X6_init_5 : zOK l D tc A nS xs mM_X6_init 5 q_X6_init_5 := s_sipush (n := 4096) (by decide) (by decide +kernel) (by decide +kernel) ok_X6_init_8
theorem ok_X6_init_4 : zOK l D tc A nS xs mM_X6_init 4 q_X6_init_4 := s_aload_n (q := 0) rfl (by decide +kernel) (by decide +kernel) ok_X6_init_5
theorem ok_X6_init_1 : zOK l D tc A nS xs mM_X6_init 1 q_X6_init_1 := s_oinit w_354 w_112 w_oi (by decide +kernel) ok_X6_init_4
theorem ok_X6_init_0 : zOK l D tc A nS xs mM_X6_init 0 q_X6_init_0 := s_aload_n (q := 0) rfl (by decide +kernel) (by decide +kernel) ok_X6_init_1
theorem ok_X6_offer_53 : zOK l D tc A nS xs mM_X6_offer 53 q_X6_offer_53 := s_zret rfl (by decide +kernel)
theorem ok_X6_offer_52 : zOK l D tc A nS xs mM_X6_offer 52 q_X6_offer_52 := s_iconst (n := 1) (by decide) (by decide +kernel) (by decide +kernel) ok_X6_offer_53
theorem ok_X6_offer_49 : zOK l D tc A nS xs mM_X6_offer 49 q_X6_offer_49 := r_putf kls_6 ty_6_14 zck_int (by decide) tx_6_14 rfl w_341 (by decide +kernel) ok_X6_offer_52
theorem ok_X6_offer_48 : zOK l D tc A nS xs mM_X6_offer 48 q_X6_offer_48 := s_iadd (by decide +kernel) ok_X6_offer_49
theorem ok_X6_offer_47 : zOK l D tc A nS xs mM_X6_offer 47 q_X6_offer_47 := s_iconst (n := 1) (by decide) (by decide +kernel) (by decide +kernel) ok_X6_offer_48
theorem ok_X6_offer_44 : zOK l D tc A nS xs mM_X6_offer 44 q_X6_offer_44 := r_getf kls_6 (by decide) tx_6_14 rfl w_341 (by decide +kernel) ok_X6_offer_47
theorem ok_X6_offer_43 : zOK l D tc A nS xs mM_X6_offer 43 q_X6_offer_43 := s_dup (by decide +kernel) ok_X6_offer_44
theorem ok_X6_offer_42 : zOK l D tc A nS xs mM_X6_offer 42 q_X6_offer_42 := s_aload_n (q := 0) rfl (by decide +kernel) (by decide +kernel) ok_X6_offer_43
theorem ok_X6_offer_41 : zOK l D tc A nS xs mM_X6_offer 41 q_X6_offer_41 := s_iast (t0 := 0) (by decide) (by decide) rfl (by decide +kernel) ok_X6_offer_42
theorem ok_X6_offer_40 : zOK l D tc A nS xs mM_X6_offer 40 q_X6_offer_40 := s_iand (by decide +kernel) ok_X6_offer_41
theorem ok_X6_offer_38 : zOK l D tc A nS xs mM_X6_offer 38 q_X6_offer_38 := r_ldc (by decide) (x := (65535 : Int32)) (by decide +kernel) rfl w_355 (by decide +kernel) ok_X6_offer_40
theorem ok_X6_offer_37 : zOK l D tc A nS xs mM_X6_offer 37 q_X6_offer_37 := s_iadd (by decide +kernel) ok_X6_offer_38
theorem ok_X6_offer_36 : zOK l D tc A nS xs mM_X6_offer 36 q_X6_offer_36 := s_iconst (n := 1) (by decide) (by decide +kernel) (by decide +kernel) ok_X6_offer_37
theorem ok_X6_offer_35 : zOK l D tc A nS xs mM_X6_offer 35 q_X6_offer_35 := s_imul (by decide +kernel) ok_X6_offer_36
theorem ok_X6_offer_34 : zOK l D tc A nS xs mM_X6_offer 34 q_X6_offer_34 := s_iload_n (q := 1) rfl (by decide +kernel) (by decide +kernel) ok_X6_offer_35
theorem ok_X6_offer_33 : zOK l D tc A nS xs mM_X6_offer 33 q_X6_offer_33 := s_iconst (n := 2) (by decide) (by decide +kernel) (by decide +kernel) ok_X6_offer_34
theorem ok_X6_offer_30 : zOK l D tc A nS xs mM_X6_offer 30 q_X6_offer_30 := r_getf kls_6 (by decide) tx_6_14 rfl w_341 (by decide +kernel) ok_X6_offer_33
theorem ok_X6_offer_29 : zOK l D tc A nS xs mM_X6_offer 29 q_X6_offer_29 := s_aload_n (q := 0) rfl (by decide +kernel) (by decide +kernel) ok_X6_offer_30
theorem ok_X6_offer_26 : zOK l D tc A nS xs mM_X6_offer 26 q_X6_offer_26 := r_getf kls_6 (by decide) tx_6_13 rfl w_351 (by decide +kernel) ok_X6_offer_29
theorem ok_X6_offer_25 : zOK l D tc A nS xs mM_X6_offer 25 q_X6_offer_25 := s_aload_n (q := 0) rfl (by decide +kernel) (by decide +kernel) ok_X6_offer_26
theorem ok_X6_offer_24 : zOK l D tc A nS xs mM_X6_offer 24 q_X6_offer_24 := s_zret rfl (by decide +kernel)
theorem ok_X6_offer_23 : zOK l D tc A nS xs mM_X6_offer 23 q_X6_offer_23 := s_iconst (n := 0) (by decide) (by decide +kernel) (by decide +kernel) ok_X6_offer_24
theorem ok_X6_offer_20 : zOK l D tc A nS xs mM_X6_offer 20 q_X6_offer_20 := s_icmp_lt (tgt := 25) (off := 5) (by decide +kernel) (by decide) ok_X6_offer_25 ok_X6_offer_23
theorem ok_X6_offer_18 : zOK l D tc A nS xs mM_X6_offer 18 q_X6_offer_18 := s_bipush (n := 50) (by decide) (by decide +kernel) (by decide +kernel) ok_X6_offer_20
theorem ok_X6_offer_15 : zOK l D tc A nS xs mM_X6_offer 15 q_X6_offer_15 := r_getf kls_6 (by decide) tx_6_14 rfl w_341 (by decide +kernel) ok_X6_offer_18
theorem ok_X6_offer_14 : zOK l D tc A nS xs mM_X6_offer 14 q_X6_offer_14 := s_aload_n (q := 0) rfl (by decide +kernel) (by decide +kernel) ok_X6_offer_15
theorem ok_X6_offer_11 : zOK l D tc A nS xs mM_X6_offer 11 q_X6_offer_11 := s_icmp_gt (tgt := 23) (off := 12) (by decide +kernel) (by decide) ok_X6_offer_23 ok_X6_offer_14
theorem ok_X6_offer_8 : zOK l D tc A nS xs mM_X6_offer 8 q_X6_offer_8 := s_sipush (n := 16383) (by decide) (by decide +kernel) (by decide +kernel) ok_X6_offer_11
theorem ok_X6_offer_7 : zOK l D tc A nS xs mM_X6_offer 7 q_X6_offer_7 := s_iload_n (q := 1) rfl (by decide +kernel) (by decide +kernel) ok_X6_offer_8
theorem ok_X6_offer_4 : zOK l D tc A nS xs mM_X6_offer 4 q_X6_offer_4 := s_icmp_lt (tgt := 23) (off := 19) (by decide +kernel) (by decide) ok_X6_offer_23 ok_X6_offer_7
theorem ok_X6_offer_1 : zOK l D tc A nS xs mM_X6_offer 1 q_X6_offer_1 := s_sipush (n := (-16384)) (by decide) (by decide +kernel) (by decide +kernel) ok_X6_offer_4
theorem ok_X6_offer_0 : zOK l D tc A nS xs mM_X6_offer 0 q_X6_offer_0 := s_iload_n (q := 1) rfl (by decide +kernel) (by decide +kernel) ok_X6_offer_1
theorem ok_X6_proceed_8 : zOK l D tc A nS xs mM_X6_proceed 8 q_X6_proceed_8 := s_iret rfl (by decide +kernel)
theorem ok_X6_proceed_7 : zOK l D tc A nS xs mM_X6_proceed 7 q_X6_proceed_7 := s_iconst (n := 0) (by decide) (by decide +kernel) (by decide +kernel) ok_X6_proceed_8
theorem ok_X6_proceed_4 : zOK l D tc A nS xs mM_X6_proceed 4 q_X6_proceed_4 := s_if_ne (tgt := 9) (off := 5) (by decide +kernel) (by decide) s_none ok_X6_proceed_7
theorem ok_X6_proceed_1 : zOK l D tc A nS xs mM_X6_proceed 1 q_X6_proceed_1 := r_getf kls_6 (by decide) tx_6_6 rfl w_345 (by decide +kernel) ok_X6_proceed_4
theorem ok_X6_proceed_0 : zOK l D tc A nS xs mM_X6_proceed 0 q_X6_proceed_0 := s_aload_n (q := 0) rfl (by decide +kernel) (by decide +kernel) ok_X6_proceed_1
theorem ok_X7_clear_26 : zOK l D tc A nS xs mM_X7_clear 26 q_X7_clear_26 := s_vret rfl (by decide +kernel)
theorem ok_X7_clear_23 : zOK l D tc A nS xs mM_X7_clear 23 q_X7_clear_23 := r_putf kls_7 ty_7_11 zck_int (by decide) tx_7_11 rfl w_356 (by decide +kernel) ok_X7_clear_26
theorem ok_X7_clear_22 : zOK l D tc A nS xs mM_X7_clear 22 q_X7_clear_22 := s_iconst (n := 0) (by decide) (by decide +kernel) (by decide +kernel) ok_X7_clear_23
theorem ok_X7_clear_21 : zOK l D tc A nS xs mM_X7_clear 21 q_X7_clear_21 := s_aload_n (q := 0) rfl (by decide +kernel) (by decide +kernel) ok_X7_clear_22
theorem ok_X7_clear_18 : zOK l D tc A nS xs mM_X7_clear 18 q_X7_clear_18 := r_putf kls_7 ty_7_10 zck_int (by decide) tx_7_10 rfl w_357 (by decide +kernel) ok_X7_clear_21
theorem ok_X7_clear_17 : zOK l D tc A nS xs mM_X7_clear 17 q_X7_clear_17 := s_iconst (n := 0) (by decide) (by decide +kernel) (by decide +kernel) ok_X7_clear_18
theorem ok_X7_clear_16 : zOK l D tc A nS xs mM_X7_clear 16 q_X7_clear_16 := s_aload_n (q := 0) rfl (by decide +kernel) (by decide +kernel) ok_X7_clear_17
theorem ok_X7_clear_13 : zOK l D tc A nS xs mM_X7_clear 13 q_X7_clear_13 := r_callS zEE_ok zTw_gd (M2 := mM_J7_fill_53178) lb_11 calS_J7_fill_53178 rfl rfl w_358 (by decide +kernel) ok_X7_clear_16
theorem ok_X7_clear_12 : zOK l D tc A nS xs mM_X7_clear 12 q_X7_clear_12 := s_iconst (n := 0) (by decide) (by decide +kernel) (by decide +kernel) ok_X7_clear_13
theorem ok_X7_clear_9 : zOK l D tc A nS xs mM_X7_clear 9 q_X7_clear_9 := r_getf kls_7 (by decide) tx_7_7 rfl w_359 (by decide +kernel) ok_X7_clear_12
theorem ok_X7_clear_8 : zOK l D tc A nS xs mM_X7_clear 8 q_X7_clear_8 := s_aload_n (q := 0) rfl (by decide +kernel) (by decide +kernel) ok_X7_clear_9
theorem ok_X7_clear_5 : zOK l D tc A nS xs mM_X7_clear 5 q_X7_clear_5 := r_callS zEE_ok zTw_gd (M2 := mM_J7_fill_53178) lb_11 calS_J7_fill_53178 rfl rfl w_358 (by decide +kernel) ok_X7_clear_8
theorem ok_X7_clear_4 : zOK l D tc A nS xs mM_X7_clear 4 q_X7_clear_4 := s_iconst (n := (-1)) (by decide) (by decide +kernel) (by decide +kernel) ok_X7_clear_5
theorem ok_X7_clear_1 : zOK l D tc A nS xs mM_X7_clear 1 q_X7_clear_1 := r_getf kls_7 (by decide) tx_7_6 rfl w_360 (by decide +kernel) ok_X7_clear_4
theorem ok_X7_clear_0 : zOK l D tc A nS xs mM_X7_clear 0 q_X7_clear_0 := s_aload_n (q := 0) rfl (by decide +kernel) (by decide +kernel) ok_X7_clear_1
end ZRows
