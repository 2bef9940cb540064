section ZRows
variable {l : Launch} {D : va_G} {tc : Nat → ClassId} {A : Nat → Prop} {nS : Nat} {xs : Nat → Int32}
theorem ok_X12_comes_253 : zOK l D tc A nS xs mM_X12_comes 253 q_X12_comes_253 := s_vret rfl (by decide +kernel)
theorem ok_X12_comes_252 : zOK l D tc A nS xs mM_X12_comes 252 q_X12_comes_252 := s_iast (t0 := 0) (by decide) (by decide) rfl (by decide +kernel) ok_X12_comes_253
theorem ok_X12_comes_250 : zOK l D tc A nS xs mM_X12_comes 250 q_X12_comes_250 := s_iload (by decide +kernel) (by decide +kernel) ok_X12_comes_252
theorem ok_X12_comes_249 : zOK l D tc A nS xs mM_X12_comes 249 q_X12_comes_249 := s_iload_n (q := 3) rfl (by decide +kernel) (by decide +kernel) ok_X12_comes_250
theorem ok_X12_comes_246 : zOK l D tc A nS xs mM_X12_comes 246 q_X12_comes_246 := r_getf kls_12 (by decide) tx_12_53 rfl w_736 (by decide +kernel) ok_X12_comes_249
theorem ok_X12_comes_245 : zOK l D tc A nS xs mM_X12_comes 245 q_X12_comes_245 := s_aload_n (q := 0) rfl (by decide +kernel) (by decide +kernel) ok_X12_comes_246
theorem ok_X12_comes_244 : zOK l D tc A nS xs mM_X12_comes 244 q_X12_comes_244 := s_iast (t0 := 0) (by decide) (by decide) rfl (by decide +kernel) ok_X12_comes_245
theorem ok_X12_comes_242 : zOK l D tc A nS xs mM_X12_comes 242 q_X12_comes_242 := s_iload (by decide +kernel) (by decide +kernel) ok_X12_comes_244
theorem ok_X12_comes_241 : zOK l D tc A nS xs mM_X12_comes 241 q_X12_comes_241 := s_iald (t0 := 0) (by decide) (by decide) rfl (by decide +kernel) ok_X12_comes_242
theorem ok_X12_comes_240 : zOK l D tc A nS xs mM_X12_comes 240 q_X12_comes_240 := s_iload_n (q := 3) rfl (by decide +kernel) (by decide +kernel) ok_X12_comes_241
theorem ok_X12_comes_237 : zOK l D tc A nS xs mM_X12_comes 237 q_X12_comes_237 := r_getf kls_12 (by decide) tx_12_53 rfl w_736 (by decide +kernel) ok_X12_comes_240
theorem ok_X12_comes_236 : zOK l D tc A nS xs mM_X12_comes 236 q_X12_comes_236 := s_aload_n (q := 0) rfl (by decide +kernel) (by decide +kernel) ok_X12_comes_237
theorem ok_X12_comes_233 : zOK l D tc A nS xs mM_X12_comes 233 q_X12_comes_233 := r_getf kls_12 (by decide) tx_12_35 rfl w_687 (by decide +kernel) ok_X12_comes_236
theorem ok_X12_comes_232 : zOK l D tc A nS xs mM_X12_comes 232 q_X12_comes_232 := s_aload_n (q := 0) rfl (by decide +kernel) (by decide +kernel) ok_X12_comes_233
theorem ok_X12_comes_229 : zOK l D tc A nS xs mM_X12_comes 229 q_X12_comes_229 := s_goto (tgt := 245) (off := 16) (by decide +kernel) (by decide) ok_X12_comes_245
theorem ok_X12_comes_228 : zOK l D tc A nS xs mM_X12_comes 228 q_X12_comes_228 := s_iast (t0 := 0) (by decide) (by decide) rfl (by decide +kernel) ok_X12_comes_229
theorem ok_X12_comes_226 : zOK l D tc A nS xs mM_X12_comes 226 q_X12_comes_226 := s_iload (by decide +kernel) (by decide +kernel) ok_X12_comes_228
theorem ok_X12_comes_225 : zOK l D tc A nS xs mM_X12_comes 225 q_X12_comes_225 := s_iload_n (q := 3) rfl (by decide +kernel) (by decide +kernel) ok_X12_comes_226
theorem ok_X12_comes_222 : zOK l D tc A nS xs mM_X12_comes 222 q_X12_comes_222 := r_getf kls_12 (by decide) tx_12_52 rfl w_739 (by decide +kernel) ok_X12_comes_225
theorem ok_X12_comes_221 : zOK l D tc A nS xs mM_X12_comes 221 q_X12_comes_221 := s_aload_n (q := 0) rfl (by decide +kernel) (by decide +kernel) ok_X12_comes_222
theorem ok_X12_comes_218 : zOK l D tc A nS xs mM_X12_comes 218 q_X12_comes_218 := s_if_eq (tgt := 232) (off := 14) (by decide +kernel) (by decide) ok_X12_comes_232 ok_X12_comes_221
theorem ok_X12_comes_216 : zOK l D tc A nS xs mM_X12_comes 216 q_X12_comes_216 := s_iload (by decide +kernel) (by decide +kernel) ok_X12_comes_218
theorem ok_X12_comes_214 : zOK l D tc A nS xs mM_X12_comes 214 q_X12_comes_214 := s_istore (by decide +kernel) (by decide +kernel) ok_X12_comes_216
theorem ok_X12_comes_211 : zOK l D tc A nS xs mM_X12_comes 211 q_X12_comes_211 := r_callV zEE_ok zTw_gd kls_12 (M2 := mM_X12_listed) (na := 2) lb_240 calV_X12_listed rfl rfl w_740 (by decide +kernel) ok_X12_comes_214
theorem ok_X12_comes_210 : zOK l D tc A nS xs mM_X12_comes 210 q_X12_comes_210 := s_iald (t0 := 0) (by decide) (by decide) rfl (by decide +kernel) ok_X12_comes_211
theorem ok_X12_comes_209 : zOK l D tc A nS xs mM_X12_comes 209 q_X12_comes_209 := s_iload_n (q := 2) rfl (by decide +kernel) (by decide +kernel) ok_X12_comes_210
theorem ok_X12_comes_206 : zOK l D tc A nS xs mM_X12_comes 206 q_X12_comes_206 := r_getf kls_12 (by decide) tx_12_36 rfl w_717 (by decide +kernel) ok_X12_comes_209
theorem ok_X12_comes_205 : zOK l D tc A nS xs mM_X12_comes 205 q_X12_comes_205 := s_aload_n (q := 0) rfl (by decide +kernel) (by decide +kernel) ok_X12_comes_206
theorem ok_X12_comes_202 : zOK l D tc A nS xs mM_X12_comes 202 q_X12_comes_202 := s_goto (tgt := 211) (off := 9) (by decide +kernel) (by decide) ok_X12_comes_211
theorem ok_X12_comes_201 : zOK l D tc A nS xs mM_X12_comes 201 q_X12_comes_201 := s_iald (t0 := 0) (by decide) (by decide) rfl (by decide +kernel) ok_X12_comes_202
theorem ok_X12_comes_200 : zOK l D tc A nS xs mM_X12_comes 200 q_X12_comes_200 := s_iload_n (q := 3) rfl (by decide +kernel) (by decide +kernel) ok_X12_comes_201
theorem ok_X12_comes_197 : zOK l D tc A nS xs mM_X12_comes 197 q_X12_comes_197 := r_getf kls_12 (by decide) tx_12_55 rfl w_738 (by decide +kernel) ok_X12_comes_200
theorem ok_X12_comes_196 : zOK l D tc A nS xs mM_X12_comes 196 q_X12_comes_196 := s_aload_n (q := 0) rfl (by decide +kernel) (by decide +kernel) ok_X12_comes_197
theorem ok_X12_comes_193 : zOK l D tc A nS xs mM_X12_comes 193 q_X12_comes_193 := s_if_eq (tgt := 205) (off := 12) (by decide +kernel) (by decide) ok_X12_comes_205 ok_X12_comes_196
theorem ok_X12_comes_191 : zOK l D tc A nS xs mM_X12_comes 191 q_X12_comes_191 := s_iload (by decide +kernel) (by decide +kernel) ok_X12_comes_193
theorem ok_X12_comes_190 : zOK l D tc A nS xs mM_X12_comes 190 q_X12_comes_190 := s_iload_n (q := 2) rfl (by decide +kernel) (by decide +kernel) ok_X12_comes_191
theorem ok_X12_comes_189 : zOK l D tc A nS xs mM_X12_comes 189 q_X12_comes_189 := s_aload_n (q := 0) rfl (by decide +kernel) (by decide +kernel) ok_X12_comes_190
theorem ok_X12_comes_187 : zOK l D tc A nS xs mM_X12_comes 187 q_X12_comes_187 := s_istore (by decide +kernel) (by decide +kernel) ok_X12_comes_189
theorem ok_X12_comes_186 : zOK l D tc A nS xs mM_X12_comes 186 q_X12_comes_186 := s_iconst (n := 0) (by decide) (by decide +kernel) (by decide +kernel) ok_X12_comes_187
theorem ok_X12_comes_183 : zOK l D tc A nS xs mM_X12_comes 183 q_X12_comes_183 := s_goto (tgt := 187) (off := 4) (by decide +kernel) (by decide) ok_X12_comes_187
theorem ok_X12_comes_182 : zOK l D tc A nS xs mM_X12_comes 182 q_X12_comes_182 := s_iconst (n := 1) (by decide) (by decide +kernel) (by decide +kernel) ok_X12_comes_183
theorem ok_X12_comes_179 : zOK l D tc A nS xs mM_X12_comes 179 q_X12_comes_179 := s_icmp_ne (tgt := 186) (off := 7) (by decide +kernel) (by decide) ok_X12_comes_186 ok_X12_comes_182
theorem ok_X12_comes_178 : zOK l D tc A nS xs mM_X12_comes 178 q_X12_comes_178 := s_iconst (n := (-1)) (by decide) (by decide +kernel) (by decide +kernel) ok_X12_comes_179
theorem ok_X12_comes_177 : zOK l D tc A nS xs mM_X12_comes 177 q_X12_comes_177 := s_iald (t0 := 0) (by decide) (by decide) rfl (by decide +kernel) ok_X12_comes_178
theorem ok_X12_comes_176 : zOK l D tc A nS xs mM_X12_comes 176 q_X12_comes_176 := s_iload_n (q := 3) rfl (by decide +kernel) (by decide +kernel) ok_X12_comes_177
theorem ok_X12_comes_173 : zOK l D tc A nS xs mM_X12_comes 173 q_X12_comes_173 := r_getf kls_12 (by decide) tx_12_52 rfl w_739 (by decide +kernel) ok_X12_comes_176
theorem ok_X12_comes_172 : zOK l D tc A nS xs mM_X12_comes 172 q_X12_comes_172 := s_aload_n (q := 0) rfl (by decide +kernel) (by decide +kernel) ok_X12_comes_173
theorem ok_X12_comes_149 : zOK l D tc A nS xs mM_X12_comes 149 q_X12_comes_149 := s_icmp_ne (tgt := 172) (off := 23) (by decide +kernel) (by decide) ok_X12_comes_172 s_none
theorem ok_X12_comes_148 : zOK l D tc A nS xs mM_X12_comes 148 q_X12_comes_148 := s_iconst (n := 1) (by decide) (by decide +kernel) (by decide +kernel) ok_X12_comes_149
theorem ok_X12_comes_147 : zOK l D tc A nS xs mM_X12_comes 147 q_X12_comes_147 := s_iald (t0 := 0) (by decide) (by decide) rfl (by decide +kernel) ok_X12_comes_148
theorem ok_X12_comes_146 : zOK l D tc A nS xs mM_X12_comes 146 q_X12_comes_146 := s_iload_n (q := 3) rfl (by decide +kernel) (by decide +kernel) ok_X12_comes_147
theorem ok_X12_comes_143 : zOK l D tc A nS xs mM_X12_comes 143 q_X12_comes_143 := r_getf kls_12 (by decide) tx_12_54 rfl w_737 (by decide +kernel) ok_X12_comes_146
theorem ok_X12_comes_142 : zOK l D tc A nS xs mM_X12_comes 142 q_X12_comes_142 := s_aload_n (q := 0) rfl (by decide +kernel) (by decide +kernel) ok_X12_comes_143
theorem ok_X12_comes_141 : zOK l D tc A nS xs mM_X12_comes 141 q_X12_comes_141 := s_istore_n (q := 3) rfl (by decide +kernel) (by decide +kernel) ok_X12_comes_142
theorem ok_X12_comes_140 : zOK l D tc A nS xs mM_X12_comes 140 q_X12_comes_140 := s_isub (by decide +kernel) ok_X12_comes_141
theorem ok_X12_comes_139 : zOK l D tc A nS xs mM_X12_comes 139 q_X12_comes_139 := s_iconst (n := 1) (by decide) (by decide +kernel) (by decide +kernel) ok_X12_comes_140
theorem ok_X12_comes_136 : zOK l D tc A nS xs mM_X12_comes 136 q_X12_comes_136 := r_getf kls_12 (by decide) tx_12_56 rfl w_735 (by decide +kernel) ok_X12_comes_139
theorem ok_X12_comes_135 : zOK l D tc A nS xs mM_X12_comes 135 q_X12_comes_135 := s_aload_n (q := 0) rfl (by decide +kernel) (by decide +kernel) ok_X12_comes_136
theorem ok_X12_comes_134 : zOK l D tc A nS xs mM_X12_comes 134 q_X12_comes_134 := s_vret rfl (by decide +kernel)
theorem ok_X12_comes_131 : zOK l D tc A nS xs mM_X12_comes 131 q_X12_comes_131 := r_putf kls_12 ty_12_51 zck_int (by decide) tx_12_51 rfl w_743 (by decide +kernel) ok_X12_comes_134
theorem ok_X12_comes_130 : zOK l D tc A nS xs mM_X12_comes 130 q_X12_comes_130 := s_iadd (by decide +kernel) ok_X12_comes_131
theorem ok_X12_comes_129 : zOK l D tc A nS xs mM_X12_comes 129 q_X12_comes_129 := s_iconst (n := 1) (by decide) (by decide +kernel) (by decide +kernel) ok_X12_comes_130
theorem ok_X12_comes_126 : zOK l D tc A nS xs mM_X12_comes 126 q_X12_comes_126 := r_getf kls_12 (by decide) tx_12_51 rfl w_743 (by decide +kernel) ok_X12_comes_129
theorem ok_X12_comes_125 : zOK l D tc A nS xs mM_X12_comes 125 q_X12_comes_125 := s_dup (by decide +kernel) ok_X12_comes_126
theorem ok_X12_comes_124 : zOK l D tc A nS xs mM_X12_comes 124 q_X12_comes_124 := s_aload_n (q := 0) rfl (by decide +kernel) (by decide +kernel) ok_X12_comes_125
theorem ok_X12_comes_123 : zOK l D tc A nS xs mM_X12_comes 123 q_X12_comes_123 := s_iast (t0 := 0) (by decide) (by decide) rfl (by decide +kernel) ok_X12_comes_124
theorem ok_X12_comes_122 : zOK l D tc A nS xs mM_X12_comes 122 q_X12_comes_122 := s_iload_n (q := 2) rfl (by decide +kernel) (by decide +kernel) ok_X12_comes_123
theorem ok_X12_comes_119 : zOK l D tc A nS xs mM_X12_comes 119 q_X12_comes_119 := r_getf kls_12 (by decide) tx_12_51 rfl w_743 (by decide +kernel) ok_X12_comes_122
theorem ok_X12_comes_118 : zOK l D tc A nS xs mM_X12_comes 118 q_X12_comes_118 := s_aload_n (q := 0) rfl (by decide +kernel) (by decide +kernel) ok_X12_comes_119
theorem ok_X12_comes_115 : zOK l D tc A nS xs mM_X12_comes 115 q_X12_comes_115 := r_getf kls_12 (by decide) tx_12_50 rfl w_744 (by decide +kernel) ok_X12_comes_118
theorem ok_X12_comes_114 : zOK l D tc A nS xs mM_X12_comes 114 q_X12_comes_114 := s_aload_n (q := 0) rfl (by decide +kernel) (by decide +kernel) ok_X12_comes_115
theorem ok_X12_comes_111 : zOK l D tc A nS xs mM_X12_comes 111 q_X12_comes_111 := s_if_ne (tgt := 135) (off := 24) (by decide +kernel) (by decide) ok_X12_comes_135 ok_X12_comes_114
theorem ok_X12_comes_108 : zOK l D tc A nS xs mM_X12_comes 108 q_X12_comes_108 := r_getf kls_12 (by decide) tx_12_56 rfl w_735 (by decide +kernel) ok_X12_comes_111
theorem ok_X12_comes_107 : zOK l D tc A nS xs mM_X12_comes 107 q_X12_comes_107 := s_aload_n (q := 0) rfl (by decide +kernel) (by decide +kernel) ok_X12_comes_108
theorem ok_X12_comes_22 : zOK l D tc A nS xs mM_X12_comes 22 q_X12_comes_22 := s_icmp_ne (tgt := 107) (off := 85) (by decide +kernel) (by decide) ok_X12_comes_107 s_none
theorem ok_X12_comes_20 : zOK l D tc A nS xs mM_X12_comes 20 q_X12_comes_20 := s_bipush (n := (-2)) (by decide) (by decide +kernel) (by decide +kernel) ok_X12_comes_22
theorem ok_X12_comes_19 : zOK l D tc A nS xs mM_X12_comes 19 q_X12_comes_19 := s_iald (t0 := 0) (by decide) (by decide) rfl (by decide +kernel) ok_X12_comes_20
theorem ok_X12_comes_18 : zOK l D tc A nS xs mM_X12_comes 18 q_X12_comes_18 := s_isub (by decide +kernel) ok_X12_comes_19
theorem ok_X12_comes_17 : zOK l D tc A nS xs mM_X12_comes 17 q_X12_comes_17 := s_iconst (n := 1) (by decide) (by decide +kernel) (by decide +kernel) ok_X12_comes_18
theorem ok_X12_comes_14 : zOK l D tc A nS xs mM_X12_comes 14 q_X12_comes_14 := r_getf kls_12 (by decide) tx_12_56 rfl w_735 (by decide +kernel) ok_X12_comes_17
theorem ok_X12_comes_13 : zOK l D tc A nS xs mM_X12_comes 13 q_X12_comes_13 := s_aload_n (q := 0) rfl (by decide +kernel) (by decide +kernel) ok_X12_comes_14
theorem ok_X12_comes_10 : zOK l D tc A nS xs mM_X12_comes 10 q_X12_comes_10 := r_getf kls_12 (by decide) tx_12_52 rfl w_739 (by decide +kernel) ok_X12_comes_13
theorem ok_X12_comes_9 : zOK l D tc A nS xs mM_X12_comes 9 q_X12_comes_9 := s_aload_n (q := 0) rfl (by decide +kernel) (by decide +kernel) ok_X12_comes_10
theorem ok_X12_comes_6 : zOK l D tc A nS xs mM_X12_comes 6 q_X12_comes_6 := s_if_le (tgt := 107) (off := 101) (by decide +kernel) (by decide) ok_X12_comes_107 ok_X12_comes_9
theorem ok_X12_comes_3 : zOK l D tc A nS xs mM_X12_comes 3 q_X12_comes_3 := r_getf kls_12 (by decide) tx_12_56 rfl w_735 (by decide +kernel) ok_X12_comes_6
theorem ok_X12_comes_2 : zOK l D tc A nS xs mM_X12_comes 2 q_X12_comes_2 := s_aload_n (q := 0) rfl (by decide +kernel) (by decide +kernel) ok_X12_comes_3
theorem ok_X12_comes_1 : zOK l D tc A nS xs mM_X12_comes 1 q_X12_comes_1 := s_istore_n (q := 2) rfl (by decide +kernel) (by decide +kernel) ok_X12_comes_2
theorem ok_X12_comes_0 : zOK l D tc A nS xs mM_X12_comes 0 q_X12_comes_0 := s_iload_n (q := 1) rfl (by decide +kernel) (by decide +kernel) ok_X12_comes_1
theorem ok_X12_constant_14 : zOK l D tc A nS xs mM_X12_constant 14 q_X12_constant_14 := s_vret rfl (by decide +kernel)
theorem ok_X12_constant_11 : zOK l D tc A nS xs mM_X12_constant 11 q_X12_constant_11 := r_callV zEE_ok zTw_gd kls_12 (M2 := mM_X12_word) (na := 2) lb_293 calV_X12_word rfl rfl w_745 (by decide +kernel) ok_X12_constant_14
theorem ok_X12_constant_10 : zOK l D tc A nS xs mM_X12_constant 10 q_X12_constant_10 := s_iload_n (q := 2) rfl (by decide +kernel) (by decide +kernel) ok_X12_constant_11
theorem ok_X12_constant_9 : zOK l D tc A nS xs mM_X12_constant 9 q_X12_constant_9 := s_iload_n (q := 1) rfl (by decide +kernel) (by decide +kernel) ok_X12_constant_10
theorem ok_X12_constant_8 : zOK l D tc A nS xs mM_X12_constant 8 q_X12_constant_8 := s_aload_n (q := 0) rfl (by decide +kernel) (by decide +kernel) ok_X12_constant_9
theorem ok_X12_constant_5 : zOK l D tc A nS xs mM_X12_constant 5 q_X12_constant_5 := r_callV zEE_ok zTw_gd kls_12 (M2 := mM_X12_word) (na := 2) lb_293 calV_X12_word rfl rfl w_745 (by decide +kernel) ok_X12_constant_8
theorem ok_X12_constant_4 : zOK l D tc A nS xs mM_X12_constant 4 q_X12_constant_4 := s_iload_n (q := 2) rfl (by decide +kernel) (by decide +kernel) ok_X12_constant_5
theorem ok_X12_constant_1 : zOK l D tc A nS xs mM_X12_constant 1 q_X12_constant_1 := s_sipush (n := 5568) (by decide) (by decide +kernel) (by decide +kernel) ok_X12_constant_4
theorem ok_X12_constant_0 : zOK l D tc A nS xs mM_X12_constant 0 q_X12_constant_0 := s_aload_n (q := 0) rfl (by decide +kernel) (by decide +kernel) ok_X12_constant_1
theorem ok_X12_copied_196 : zOK l D tc A nS xs mM_X12_copied 196 q_X12_copied_196 := s_iret rfl (by decide +kernel)
theorem ok_X12_copied_195 : zOK l D tc A nS xs mM_X12_copied 195 q_X12_copied_195 := s_iload_n (q := 2) rfl (by decide +kernel) (by decide +kernel) ok_X12_copied_196
theorem ok_X12_copied_192 : zOK l D tc A nS xs mM_X12_copied 192 q_X12_copied_192 := s_goto (tgt := 10) (off := (-182)) (by decide +kernel) (by decide) (s_back lb_194)
theorem ok_X12_copied_190 : zOK l D tc A nS xs mM_X12_copied 190 q_X12_copied_190 := s_istore (by decide +kernel) (by decide +kernel) ok_X12_copied_192
theorem ok_X12_copied_188 : zOK l D tc A nS xs mM_X12_copied 188 q_X12_copied_188 := s_iload (by decide +kernel) (by decide +kernel) ok_X12_copied_190
theorem ok_X12_copied_185 : zOK l D tc A nS xs mM_X12_copied 185 q_X12_copied_185 := s_goto (tgt := 190) (off := 5) (by decide +kernel) (by decide) ok_X12_copied_190
theorem ok_X12_copied_184 : zOK l D tc A nS xs mM_X12_copied 184 q_X12_copied_184 := s_iald (t0 := 0) (by decide) (by decide) rfl (by decide +kernel) ok_X12_copied_185
theorem ok_X12_copied_182 : zOK l D tc A nS xs mM_X12_copied 182 q_X12_copied_182 := s_iload (by decide +kernel) (by decide +kernel) ok_X12_copied_184
theorem ok_X12_copied_179 : zOK l D tc A nS xs mM_X12_copied 179 q_X12_copied_179 := r_getf kls_12 (by decide) tx_12_35 rfl w_687 (by decide +kernel) ok_X12_copied_182
theorem ok_X12_copied_178 : zOK l D tc A nS xs mM_X12_copied 178 q_X12_copied_178 := s_aload_n (q := 0) rfl (by decide +kernel) (by decide +kernel) ok_X12_copied_179
theorem ok_X12_copied_175 : zOK l D tc A nS xs mM_X12_copied 175 q_X12_copied_175 := s_if_eq (tgt := 188) (off := 13) (by decide +kernel) (by decide) ok_X12_copied_188 ok_X12_copied_178
theorem ok_X12_copied_173 : zOK l D tc A nS xs mM_X12_copied 173 q_X12_copied_173 := s_iload (by decide +kernel) (by decide +kernel) ok_X12_copied_175
theorem ok_X12_copied_172 : zOK l D tc A nS xs mM_X12_copied 172 q_X12_copied_172 := s_istore_n (q := 3) rfl (by decide +kernel) (by decide +kernel) ok_X12_copied_173
theorem ok_X12_copied_170 : zOK l D tc A nS xs mM_X12_copied 170 q_X12_copied_170 := s_iload (by decide +kernel) (by decide +kernel) ok_X12_copied_172
theorem ok_X12_copied_169 : zOK l D tc A nS xs mM_X12_copied 169 q_X12_copied_169 := s_iast (t0 := 0) (by decide) (by decide) rfl (by decide +kernel) ok_X12_copied_170
theorem ok_X12_copied_167 : zOK l D tc A nS xs mM_X12_copied 167 q_X12_copied_167 := s_iload (by decide +kernel) (by decide +kernel) ok_X12_copied_169
theorem ok_X12_copied_166 : zOK l D tc A nS xs mM_X12_copied 166 q_X12_copied_166 := s_iload_n (q := 3) rfl (by decide +kernel) (by decide +kernel) ok_X12_copied_167
theorem ok_X12_copied_163 : zOK l D tc A nS xs mM_X12_copied 163 q_X12_copied_163 := r_getf kls_12 (by decide) tx_12_35 rfl w_687 (by decide +kernel) ok_X12_copied_166
theorem ok_X12_copied_162 : zOK l D tc A nS xs mM_X12_copied 162 q_X12_copied_162 := s_aload_n (q := 0) rfl (by decide +kernel) (by decide +kernel) ok_X12_copied_163
theorem ok_X12_copied_159 : zOK l D tc A nS xs mM_X12_copied 159 q_X12_copied_159 := s_goto (tgt := 170) (off := 11) (by decide +kernel) (by decide) ok_X12_copied_170
theorem ok_X12_copied_158 : zOK l D tc A nS xs mM_X12_copied 158 q_X12_copied_158 := s_istore_n (q := 2) rfl (by decide +kernel) (by decide +kernel) ok_X12_copied_159
theorem ok_X12_copied_156 : zOK l D tc A nS xs mM_X12_copied 156 q_X12_copied_156 := s_iload (by decide +kernel) (by decide +kernel) ok_X12_copied_158
theorem ok_X12_copied_153 : zOK l D tc A nS xs mM_X12_copied 153 q_X12_copied_153 := s_icmp_ne (tgt := 162) (off := 9) (by decide +kernel) (by decide) ok_X12_copied_162 ok_X12_copied_156
theorem ok_X12_copied_152 : zOK l D tc A nS xs mM_X12_copied 152 q_X12_copied_152 := s_iconst (n := (-1)) (by decide) (by decide +kernel) (by decide +kernel) ok_X12_copied_153
theorem ok_X12_copied_151 : zOK l D tc A nS xs mM_X12_copied 151 q_X12_copied_151 := s_iload_n (q := 2) rfl (by decide +kernel) (by decide +kernel) ok_X12_copied_152
theorem ok_X12_copied_150 : zOK l D tc A nS xs mM_X12_copied 150 q_X12_copied_150 := s_iast (t0 := 0) (by decide) (by decide) rfl (by decide +kernel) ok_X12_copied_151
theorem ok_X12_copied_149 : zOK l D tc A nS xs mM_X12_copied 149 q_X12_copied_149 := s_iald (t0 := 0) (by decide) (by decide) rfl (by decide +kernel) ok_X12_copied_150
theorem ok_X12_copied_147 : zOK l D tc A nS xs mM_X12_copied 147 q_X12_copied_147 := s_iload (by decide +kernel) (by decide +kernel) ok_X12_copied_149
theorem ok_X12_copied_144 : zOK l D tc A nS xs mM_X12_copied 144 q_X12_copied_144 := r_getf kls_12 (by decide) tx_12_38 rfl w_715 (by decide +kernel) ok_X12_copied_147
theorem ok_X12_copied_143 : zOK l D tc A nS xs mM_X12_copied 143 q_X12_copied_143 := s_aload_n (q := 0) rfl (by decide +kernel) (by decide +kernel) ok_X12_copied_144
theorem ok_X12_copied_141 : zOK l D tc A nS xs mM_X12_copied 141 q_X12_copied_141 := s_iload (by decide +kernel) (by decide +kernel) ok_X12_copied_143
theorem ok_X12_copied_138 : zOK l D tc A nS xs mM_X12_copied 138 q_X12_copied_138 := r_getf kls_12 (by decide) tx_12_38 rfl w_715 (by decide +kernel) ok_X12_copied_141
theorem ok_X12_copied_137 : zOK l D tc A nS xs mM_X12_copied 137 q_X12_copied_137 := s_aload_n (q := 0) rfl (by decide +kernel) (by decide +kernel) ok_X12_copied_138
theorem ok_X12_copied_136 : zOK l D tc A nS xs mM_X12_copied 136 q_X12_copied_136 := s_iast (t0 := 0) (by decide) (by decide) rfl (by decide +kernel) ok_X12_copied_137
theorem ok_X12_copied_135 : zOK l D tc A nS xs mM_X12_copied 135 q_X12_copied_135 := s_iald (t0 := 0) (by decide) (by decide) rfl (by decide +kernel) ok_X12_copied_136
theorem ok_X12_copied_133 : zOK l D tc A nS xs mM_X12_copied 133 q_X12_copied_133 := s_iload (by decide +kernel) (by decide +kernel) ok_X12_copied_135
theorem ok_X12_copied_130 : zOK l D tc A nS xs mM_X12_copied 130 q_X12_copied_130 := r_getf kls_12 (by decide) tx_12_37 rfl w_716 (by decide +kernel) ok_X12_copied_133
theorem ok_X12_copied_129 : zOK l D tc A nS xs mM_X12_copied 129 q_X12_copied_129 := s_aload_n (q := 0) rfl (by decide +kernel) (by decide +kernel) ok_X12_copied_130
theorem ok_X12_copied_127 : zOK l D tc A nS xs mM_X12_copied 127 q_X12_copied_127 := s_iload (by decide +kernel) (by decide +kernel) ok_X12_copied_129
theorem ok_X12_copied_124 : zOK l D tc A nS xs mM_X12_copied 124 q_X12_copied_124 := r_getf kls_12 (by decide) tx_12_37 rfl w_716 (by decide +kernel) ok_X12_copied_127
theorem ok_X12_copied_123 : zOK l D tc A nS xs mM_X12_copied 123 q_X12_copied_123 := s_aload_n (q := 0) rfl (by decide +kernel) (by decide +kernel) ok_X12_copied_124
theorem ok_X12_copied_122 : zOK l D tc A nS xs mM_X12_copied 122 q_X12_copied_122 := s_iast (t0 := 0) (by decide) (by decide) rfl (by decide +kernel) ok_X12_copied_123
theorem ok_X12_copied_121 : zOK l D tc A nS xs mM_X12_copied 121 q_X12_copied_121 := s_iald (t0 := 0) (by decide) (by decide) rfl (by decide +kernel) ok_X12_copied_122
theorem ok_X12_copied_119 : zOK l D tc A nS xs mM_X12_copied 119 q_X12_copied_119 := s_iload (by decide +kernel) (by decide +kernel) ok_X12_copied_121
theorem ok_X12_copied_116 : zOK l D tc A nS xs mM_X12_copied 116 q_X12_copied_116 := r_getf kls_12 (by decide) tx_12_36 rfl w_717 (by decide +kernel) ok_X12_copied_119
theorem ok_X12_copied_115 : zOK l D tc A nS xs mM_X12_copied 115 q_X12_copied_115 := s_aload_n (q := 0) rfl (by decide +kernel) (by decide +kernel) ok_X12_copied_116
theorem ok_X12_copied_113 : zOK l D tc A nS xs mM_X12_copied 113 q_X12_copied_113 := s_iload (by decide +kernel) (by decide +kernel) ok_X12_copied_115
theorem ok_X12_copied_110 : zOK l D tc A nS xs mM_X12_copied 110 q_X12_copied_110 := r_getf kls_12 (by decide) tx_12_36 rfl w_717 (by decide +kernel) ok_X12_copied_113
theorem ok_X12_copied_109 : zOK l D tc A nS xs mM_X12_copied 109 q_X12_copied_109 := s_aload_n (q := 0) rfl (by decide +kernel) (by decide +kernel) ok_X12_copied_110
theorem ok_X12_copied_108 : zOK l D tc A nS xs mM_X12_copied 108 q_X12_copied_108 := s_iast (t0 := 0) (by decide) (by decide) rfl (by decide +kernel) ok_X12_copied_109
theorem ok_X12_copied_107 : zOK l D tc A nS xs mM_X12_copied 107 q_X12_copied_107 := s_iconst (n := (-1)) (by decide) (by decide +kernel) (by decide +kernel) ok_X12_copied_108
theorem ok_X12_copied_105 : zOK l D tc A nS xs mM_X12_copied 105 q_X12_copied_105 := s_iload (by decide +kernel) (by decide +kernel) ok_X12_copied_107
theorem ok_X12_copied_102 : zOK l D tc A nS xs mM_X12_copied 102 q_X12_copied_102 := r_getf kls_12 (by decide) tx_12_35 rfl w_687 (by decide +kernel) ok_X12_copied_105
theorem ok_X12_copied_101 : zOK l D tc A nS xs mM_X12_copied 101 q_X12_copied_101 := s_aload_n (q := 0) rfl (by decide +kernel) (by decide +kernel) ok_X12_copied_102
theorem ok_X12_copied_100 : zOK l D tc A nS xs mM_X12_copied 100 q_X12_copied_100 := s_iast (t0 := 0) (by decide) (by decide) rfl (by decide +kernel) ok_X12_copied_101
theorem ok_X12_copied_99 : zOK l D tc A nS xs mM_X12_copied 99 q_X12_copied_99 := s_iald (t0 := 0) (by decide) (by decide) rfl (by decide +kernel) ok_X12_copied_100
theorem ok_X12_copied_97 : zOK l D tc A nS xs mM_X12_copied 97 q_X12_copied_97 := s_iload (by decide +kernel) (by decide +kernel) ok_X12_copied_99
theorem ok_X12_copied_94 : zOK l D tc A nS xs mM_X12_copied 94 q_X12_copied_94 := r_getf kls_12 (by decide) tx_12_34 rfl w_701 (by decide +kernel) ok_X12_copied_97
theorem ok_X12_copied_93 : zOK l D tc A nS xs mM_X12_copied 93 q_X12_copied_93 := s_aload_n (q := 0) rfl (by decide +kernel) (by decide +kernel) ok_X12_copied_94
theorem ok_X12_copied_90 : zOK l D tc A nS xs mM_X12_copied 90 q_X12_copied_90 := s_goto (tgt := 100) (off := 10) (by decide +kernel) (by decide) ok_X12_copied_100
theorem ok_X12_copied_87 : zOK l D tc A nS xs mM_X12_copied 87 q_X12_copied_87 := r_callV zEE_ok zTw_gd kls_12 (M2 := mM_X12_copied) (na := 1) lb_193 calV_X12_copied rfl rfl w_748 (by decide +kernel) ok_X12_copied_90
theorem ok_X12_copied_86 : zOK l D tc A nS xs mM_X12_copied 86 q_X12_copied_86 := s_iald (t0 := 0) (by decide) (by decide) rfl (by decide +kernel) ok_X12_copied_87
theorem ok_X12_copied_84 : zOK l D tc A nS xs mM_X12_copied 84 q_X12_copied_84 := s_iload (by decide +kernel) (by decide +kernel) ok_X12_copied_86
theorem ok_X12_copied_81 : zOK l D tc A nS xs mM_X12_copied 81 q_X12_copied_81 := r_getf kls_12 (by decide) tx_12_34 rfl w_701 (by decide +kernel) ok_X12_copied_84
theorem ok_X12_copied_80 : zOK l D tc A nS xs mM_X12_copied 80 q_X12_copied_80 := s_aload_n (q := 0) rfl (by decide +kernel) (by decide +kernel) ok_X12_copied_81
theorem ok_X12_copied_79 : zOK l D tc A nS xs mM_X12_copied 79 q_X12_copied_79 := s_aload_n (q := 0) rfl (by decide +kernel) (by decide +kernel) ok_X12_copied_80
theorem ok_X12_copied_76 : zOK l D tc A nS xs mM_X12_copied 76 q_X12_copied_76 := s_if_eq (tgt := 93) (off := 17) (by decide +kernel) (by decide) ok_X12_copied_93 ok_X12_copied_79
theorem ok_X12_copied_74 : zOK l D tc A nS xs mM_X12_copied 74 q_X12_copied_74 := s_iload (by decide +kernel) (by decide +kernel) ok_X12_copied_76
theorem ok_X12_copied_72 : zOK l D tc A nS xs mM_X12_copied 72 q_X12_copied_72 := s_iload (by decide +kernel) (by decide +kernel) ok_X12_copied_74
theorem ok_X12_copied_69 : zOK l D tc A nS xs mM_X12_copied 69 q_X12_copied_69 := r_getf kls_12 (by decide) tx_12_34 rfl w_701 (by decide +kernel) ok_X12_copied_72
theorem ok_X12_copied_68 : zOK l D tc A nS xs mM_X12_copied 68 q_X12_copied_68 := s_aload_n (q := 0) rfl (by decide +kernel) (by decide +kernel) ok_X12_copied_69
theorem ok_X12_copied_67 : zOK l D tc A nS xs mM_X12_copied 67 q_X12_copied_67 := s_iast (t0 := 0) (by decide) (by decide) rfl (by decide +kernel) ok_X12_copied_68
theorem ok_X12_copied_66 : zOK l D tc A nS xs mM_X12_copied 66 q_X12_copied_66 := s_iald (t0 := 0) (by decide) (by decide) rfl (by decide +kernel) ok_X12_copied_67
theorem ok_X12_copied_64 : zOK l D tc A nS xs mM_X12_copied 64 q_X12_copied_64 := s_iload (by decide +kernel) (by decide +kernel) ok_X12_copied_66
theorem ok_X12_copied_61 : zOK l D tc A nS xs mM_X12_copied 61 q_X12_copied_61 := r_getf kls_12 (by decide) tx_12_33 rfl w_702 (by decide +kernel) ok_X12_copied_64
theorem ok_X12_copied_60 : zOK l D tc A nS xs mM_X12_copied 60 q_X12_copied_60 := s_aload_n (q := 0) rfl (by decide +kernel) (by decide +kernel) ok_X12_copied_61
theorem ok_X12_copied_58 : zOK l D tc A nS xs mM_X12_copied 58 q_X12_copied_58 := s_iload (by decide +kernel) (by decide +kernel) ok_X12_copied_60
theorem ok_X12_copied_55 : zOK l D tc A nS xs mM_X12_copied 55 q_X12_copied_55 := r_getf kls_12 (by decide) tx_12_33 rfl w_702 (by decide +kernel) ok_X12_copied_58
theorem ok_X12_copied_54 : zOK l D tc A nS xs mM_X12_copied 54 q_X12_copied_54 := s_aload_n (q := 0) rfl (by decide +kernel) (by decide +kernel) ok_X12_copied_55
theorem ok_X12_copied_51 : zOK l D tc A nS xs mM_X12_copied 51 q_X12_copied_51 := r_putf kls_12 ty_12_108 zck_int (by decide) tx_12_108 rfl w_751 (by decide +kernel) ok_X12_copied_54
theorem ok_X12_copied_50 : zOK l D tc A nS xs mM_X12_copied 50 q_X12_copied_50 := s_iadd (by decide +kernel) ok_X12_copied_51
theorem ok_X12_copied_49 : zOK l D tc A nS xs mM_X12_copied 49 q_X12_copied_49 := s_iconst (n := 1) (by decide) (by decide +kernel) (by decide +kernel) ok_X12_copied_50
theorem ok_X12_copied_46 : zOK l D tc A nS xs mM_X12_copied 46 q_X12_copied_46 := r_getf kls_12 (by decide) tx_12_108 rfl w_751 (by decide +kernel) ok_X12_copied_49
theorem ok_X12_copied_45 : zOK l D tc A nS xs mM_X12_copied 45 q_X12_copied_45 := s_dup (by decide +kernel) ok_X12_copied_46
theorem ok_X12_copied_44 : zOK l D tc A nS xs mM_X12_copied 44 q_X12_copied_44 := s_aload_n (q := 0) rfl (by decide +kernel) (by decide +kernel) ok_X12_copied_45
theorem ok_X12_copied_42 : zOK l D tc A nS xs mM_X12_copied 42 q_X12_copied_42 := s_istore (by decide +kernel) (by decide +kernel) ok_X12_copied_44
theorem ok_X12_copied_41 : zOK l D tc A nS xs mM_X12_copied 41 q_X12_copied_41 := s_iadd (by decide +kernel) ok_X12_copied_42
theorem ok_X12_copied_38 : zOK l D tc A nS xs mM_X12_copied 38 q_X12_copied_38 := r_getf kls_12 (by decide) tx_12_108 rfl w_751 (by decide +kernel) ok_X12_copied_41
theorem ok_X12_copied_37 : zOK l D tc A nS xs mM_X12_copied 37 q_X12_copied_37 := s_aload_n (q := 0) rfl (by decide +kernel) (by decide +kernel) ok_X12_copied_38
theorem ok_X12_copied_34 : zOK l D tc A nS xs mM_X12_copied 34 q_X12_copied_34 := r_getf kls_12 (by decide) tx_12_107 rfl w_752 (by decide +kernel) ok_X12_copied_37
theorem ok_X12_copied_33 : zOK l D tc A nS xs mM_X12_copied 33 q_X12_copied_33 := s_aload_n (q := 0) rfl (by decide +kernel) (by decide +kernel) ok_X12_copied_34
theorem ok_X12_copied_31 : zOK l D tc A nS xs mM_X12_copied 31 q_X12_copied_31 := s_istore (by decide +kernel) (by decide +kernel) ok_X12_copied_33
theorem ok_X12_copied_30 : zOK l D tc A nS xs mM_X12_copied 30 q_X12_copied_30 := s_iconst (n := 0) (by decide) (by decide +kernel) (by decide +kernel) ok_X12_copied_31
theorem ok_X12_copied_27 : zOK l D tc A nS xs mM_X12_copied 27 q_X12_copied_27 := s_goto (tgt := 31) (off := 4) (by decide +kernel) (by decide) ok_X12_copied_31
theorem ok_X12_copied_26 : zOK l D tc A nS xs mM_X12_copied 26 q_X12_copied_26 := s_iconst (n := 1) (by decide) (by decide +kernel) (by decide +kernel) ok_X12_copied_27
theorem ok_X12_copied_23 : zOK l D tc A nS xs mM_X12_copied 23 q_X12_copied_23 := s_icmp_ne (tgt := 30) (off := 7) (by decide +kernel) (by decide) ok_X12_copied_30 ok_X12_copied_26
theorem ok_X12_copied_22 : zOK l D tc A nS xs mM_X12_copied 22 q_X12_copied_22 := s_iconst (n := 5) (by decide) (by decide +kernel) (by decide +kernel) ok_X12_copied_23
theorem ok_X12_copied_21 : zOK l D tc A nS xs mM_X12_copied 21 q_X12_copied_21 := s_iald (t0 := 0) (by decide) (by decide) rfl (by decide +kernel) ok_X12_copied_22
theorem ok_X12_copied_19 : zOK l D tc A nS xs mM_X12_copied 19 q_X12_copied_19 := s_iload (by decide +kernel) (by decide +kernel) ok_X12_copied_21
theorem ok_X12_copied_16 : zOK l D tc A nS xs mM_X12_copied 16 q_X12_copied_16 := r_getf kls_12 (by decide) tx_12_33 rfl w_702 (by decide +kernel) ok_X12_copied_19
theorem ok_X12_copied_15 : zOK l D tc A nS xs mM_X12_copied 15 q_X12_copied_15 := s_aload_n (q := 0) rfl (by decide +kernel) (by decide +kernel) ok_X12_copied_16
theorem ok_X12_copied_12 : zOK l D tc A nS xs mM_X12_copied 12 q_X12_copied_12 := s_if_eq (tgt := 195) (off := 183) (by decide +kernel) (by decide) ok_X12_copied_195 ok_X12_copied_15
theorem ok_X12_copied_10 : zOK l D tc A nS xs mM_X12_copied 10 q_X12_copied_10 := s_iload (by decide +kernel) (by decide +kernel) ok_X12_copied_12
theorem ok_X12_copied_8 : zOK l D tc A nS xs mM_X12_copied 8 q_X12_copied_8 := s_istore (by decide +kernel) (by decide +kernel) ok_X12_copied_10
theorem ok_X12_copied_7 : zOK l D tc A nS xs mM_X12_copied 7 q_X12_copied_7 := s_iconst (n := 1) (by decide) (by decide +kernel) (by decide +kernel) ok_X12_copied_8
theorem ok_X12_copied_5 : zOK l D tc A nS xs mM_X12_copied 5 q_X12_copied_5 := s_istore (by decide +kernel) (by decide +kernel) ok_X12_copied_7
theorem ok_X12_copied_4 : zOK l D tc A nS xs mM_X12_copied 4 q_X12_copied_4 := s_iload_n (q := 1) rfl (by decide +kernel) (by decide +kernel) ok_X12_copied_5
theorem ok_X12_copied_3 : zOK l D tc A nS xs mM_X12_copied 3 q_X12_copied_3 := s_istore_n (q := 3) rfl (by decide +kernel) (by decide +kernel) ok_X12_copied_4
theorem ok_X12_copied_2 : zOK l D tc A nS xs mM_X12_copied 2 q_X12_copied_2 := s_iconst (n := (-1)) (by decide) (by decide +kernel) (by decide +kernel) ok_X12_copied_3
theorem ok_X12_copied_1 : zOK l D tc A nS xs mM_X12_copied 1 q_X12_copied_1 := s_istore_n (q := 2) rfl (by decide +kernel) (by decide +kernel) ok_X12_copied_2
theorem ok_X12_copied_0 : zOK l D tc A nS xs mM_X12_copied 0 q_X12_copied_0 := s_iconst (n := (-1)) (by decide) (by decide +kernel) (by decide +kernel) ok_X12_copied_1
theorem ok_X12_copy_28 : zOK l D tc A nS xs mM_X12_copy 28 q_X12_copy_28 := s_vret rfl (by decide +kernel)
theorem ok_X12_copy_25 : zOK l D tc A nS xs mM_X12_copy 25 q_X12_copy_25 := s_goto (tgt := 3) (off := (-22)) (by decide +kernel) (by decide) (s_back lb_196)
theorem ok_X12_copy_22 : zOK l D tc A nS xs mM_X12_copy 22 q_X12_copy_22 := s_iinc (n := 1) (by decide +kernel) (by decide +kernel) (by decide +kernel) ok_X12_copy_25
theorem ok_X12_copy_21 : zOK l D tc A nS xs mM_X12_copy 21 q_X12_copy_21 := s_iast (t0 := 0) (by decide) (by decide) rfl (by decide +kernel) ok_X12_copy_22
theorem ok_X12_copy_20 : zOK l D tc A nS xs mM_X12_copy 20 q_X12_copy_20 := s_iald (t0 := 0) (by decide) (by decide) rfl (by decide +kernel) ok_X12_copy_21
theorem ok_X12_copy_19 : zOK l D tc A nS xs mM_X12_copy 19 q_X12_copy_19 := s_iadd (by decide +kernel) ok_X12_copy_20
theorem ok_X12_copy_17 : zOK l D tc A nS xs mM_X12_copy 17 q_X12_copy_17 := s_iload (by decide +kernel) (by decide +kernel) ok_X12_copy_19
theorem ok_X12_copy_16 : zOK l D tc A nS xs mM_X12_copy 16 q_X12_copy_16 := s_iload_n (q := 1) rfl (by decide +kernel) (by decide +kernel) ok_X12_copy_17
theorem ok_X12_copy_15 : zOK l D tc A nS xs mM_X12_copy 15 q_X12_copy_15 := s_aload_n (q := 0) rfl (by decide +kernel) (by decide +kernel) ok_X12_copy_16
theorem ok_X12_copy_14 : zOK l D tc A nS xs mM_X12_copy 14 q_X12_copy_14 := s_iadd (by decide +kernel) ok_X12_copy_15
theorem ok_X12_copy_12 : zOK l D tc A nS xs mM_X12_copy 12 q_X12_copy_12 := s_iload (by decide +kernel) (by decide +kernel) ok_X12_copy_14
theorem ok_X12_copy_11 : zOK l D tc A nS xs mM_X12_copy 11 q_X12_copy_11 := s_iload_n (q := 3) rfl (by decide +kernel) (by decide +kernel) ok_X12_copy_12
theorem ok_X12_copy_10 : zOK l D tc A nS xs mM_X12_copy 10 q_X12_copy_10 := s_aload_n (q := 2) rfl (by decide +kernel) (by decide +kernel) ok_X12_copy_11
theorem ok_X12_copy_7 : zOK l D tc A nS xs mM_X12_copy 7 q_X12_copy_7 := s_icmp_ge (tgt := 28) (off := 21) (by decide +kernel) (by decide) ok_X12_copy_28 ok_X12_copy_10
theorem ok_X12_copy_5 : zOK l D tc A nS xs mM_X12_copy 5 q_X12_copy_5 := s_iload (by decide +kernel) (by decide +kernel) ok_X12_copy_7
theorem ok_X12_copy_3 : zOK l D tc A nS xs mM_X12_copy 3 q_X12_copy_3 := s_iload (by decide +kernel) (by decide +kernel) ok_X12_copy_5
theorem ok_X12_copy_1 : zOK l D tc A nS xs mM_X12_copy 1 q_X12_copy_1 := s_istore (by decide +kernel) (by decide +kernel) ok_X12_copy_3
theorem ok_X12_copy_0 : zOK l D tc A nS xs mM_X12_copy 0 q_X12_copy_0 := s_iconst (n := 0) (by decide) (by decide +kernel) (by decide +kernel) ok_X12_copy_1
theorem ok_X12_definesSyntax_336 : zOK l D tc A nS xs mM_X12_definesSyntax 336 q_X12_definesSyntax_336 := s_vret rfl (by decide +kernel)
theorem ok_X12_definesSyntax_333 : zOK l D tc A nS xs mM_X12_definesSyntax 333 q_X12_definesSyntax_333 := r_callV zEE_ok zTw_gd kls_12 (M2 := mM_X12_word) (na := 2) lb_293 calV_X12_word rfl rfl w_745 (by decide +kernel) ok_X12_definesSyntax_336
theorem ok_X12_definesSyntax_332 : zOK l D tc A nS xs mM_X12_definesSyntax 332 q_X12_definesSyntax_332 := s_iload_n (q := 2) rfl (by decide +kernel) (by decide +kernel) ok_X12_definesSyntax_333
theorem ok_X12_definesSyntax_329 : zOK l D tc A nS xs mM_X12_definesSyntax 329 q_X12_definesSyntax_329 := r_ldcw (by decide) (x := (34820 : Int32)) (by decide +kernel) rfl w_753 (by decide +kernel) ok_X12_definesSyntax_332
theorem ok_X12_definesSyntax_328 : zOK l D tc A nS xs mM_X12_definesSyntax 328 q_X12_definesSyntax_328 := s_aload_n (q := 0) rfl (by decide +kernel) (by decide +kernel) ok_X12_definesSyntax_329
theorem ok_X12_definesSyntax_325 : zOK l D tc A nS xs mM_X12_definesSyntax 325 q_X12_definesSyntax_325 := r_callV zEE_ok zTw_gd kls_12 (M2 := mM_X12_constant) (na := 2) lb_192 calV_X12_constant rfl rfl w_754 (by decide +kernel) ok_X12_definesSyntax_328
theorem ok_X12_definesSyntax_324 : zOK l D tc A nS xs mM_X12_definesSyntax 324 q_X12_definesSyntax_324 := s_iload_n (q := 2) rfl (by decide +kernel) (by decide +kernel) ok_X12_definesSyntax_325
theorem ok_X12_definesSyntax_323 : zOK l D tc A nS xs mM_X12_definesSyntax 323 q_X12_definesSyntax_323 := s_iald (t0 := 0) (by decide) (by decide) rfl (by decide +kernel) ok_X12_definesSyntax_324
theorem ok_X12_definesSyntax_321 : zOK l D tc A nS xs mM_X12_definesSyntax 321 q_X12_definesSyntax_321 := s_iload (by decide +kernel) (by decide +kernel) ok_X12_definesSyntax_323
theorem ok_X12_definesSyntax_318 : zOK l D tc A nS xs mM_X12_definesSyntax 318 q_X12_definesSyntax_318 := r_getf kls_12 (by decide) tx_12_44 rfl w_757 (by decide +kernel) ok_X12_definesSyntax_321
theorem ok_X12_definesSyntax_317 : zOK l D tc A nS xs mM_X12_definesSyntax 317 q_X12_definesSyntax_317 := s_aload_n (q := 0) rfl (by decide +kernel) (by decide +kernel) ok_X12_definesSyntax_318
theorem ok_X12_definesSyntax_316 : zOK l D tc A nS xs mM_X12_definesSyntax 316 q_X12_definesSyntax_316 := s_aload_n (q := 0) rfl (by decide +kernel) (by decide +kernel) ok_X12_definesSyntax_317
theorem ok_X12_definesSyntax_313 : zOK l D tc A nS xs mM_X12_definesSyntax 313 q_X12_definesSyntax_313 := s_goto (tgt := 283) (off := (-30)) (by decide +kernel) (by decide) (s_back lb_199)
theorem ok_X12_definesSyntax_310 : zOK l D tc A nS xs mM_X12_definesSyntax 310 q_X12_definesSyntax_310 := s_iinc (n := 1) (by decide +kernel) (by decide +kernel) (by decide +kernel) ok_X12_definesSyntax_313
theorem ok_X12_definesSyntax_309 : zOK l D tc A nS xs mM_X12_definesSyntax 309 q_X12_definesSyntax_309 := s_iast (t0 := 0) (by decide) (by decide) rfl (by decide +kernel) ok_X12_definesSyntax_310
theorem ok_X12_definesSyntax_306 : zOK l D tc A nS xs mM_X12_definesSyntax 306 q_X12_definesSyntax_306 := r_callV zEE_ok zTw_gd kls_12 (M2 := mM_X12_copied) (na := 1) lb_193 calV_X12_copied rfl rfl w_748 (by decide +kernel) ok_X12_definesSyntax_309
theorem ok_X12_definesSyntax_305 : zOK l D tc A nS xs mM_X12_definesSyntax 305 q_X12_definesSyntax_305 := s_iald (t0 := 0) (by decide) (by decide) rfl (by decide +kernel) ok_X12_definesSyntax_306
theorem ok_X12_definesSyntax_303 : zOK l D tc A nS xs mM_X12_definesSyntax 303 q_X12_definesSyntax_303 := s_iload (by decide +kernel) (by decide +kernel) ok_X12_definesSyntax_305
theorem ok_X12_definesSyntax_300 : zOK l D tc A nS xs mM_X12_definesSyntax 300 q_X12_definesSyntax_300 := r_getf kls_12 (by decide) tx_12_70 rfl w_758 (by decide +kernel) ok_X12_definesSyntax_303
theorem ok_X12_definesSyntax_299 : zOK l D tc A nS xs mM_X12_definesSyntax 299 q_X12_definesSyntax_299 := s_aload_n (q := 0) rfl (by decide +kernel) (by decide +kernel) ok_X12_definesSyntax_300
theorem ok_X12_definesSyntax_298 : zOK l D tc A nS xs mM_X12_definesSyntax 298 q_X12_definesSyntax_298 := s_aload_n (q := 0) rfl (by decide +kernel) (by decide +kernel) ok_X12_definesSyntax_299
theorem ok_X12_definesSyntax_296 : zOK l D tc A nS xs mM_X12_definesSyntax 296 q_X12_definesSyntax_296 := s_iload (by decide +kernel) (by decide +kernel) ok_X12_definesSyntax_298
theorem ok_X12_definesSyntax_293 : zOK l D tc A nS xs mM_X12_definesSyntax 293 q_X12_definesSyntax_293 := r_getf kls_12 (by decide) tx_12_70 rfl w_758 (by decide +kernel) ok_X12_definesSyntax_296
theorem ok_X12_definesSyntax_292 : zOK l D tc A nS xs mM_X12_definesSyntax 292 q_X12_definesSyntax_292 := s_aload_n (q := 0) rfl (by decide +kernel) (by decide +kernel) ok_X12_definesSyntax_293
theorem ok_X12_definesSyntax_289 : zOK l D tc A nS xs mM_X12_definesSyntax 289 q_X12_definesSyntax_289 := s_icmp_ge (tgt := 316) (off := 27) (by decide +kernel) (by decide) ok_X12_definesSyntax_316 ok_X12_definesSyntax_292
theorem ok_X12_definesSyntax_286 : zOK l D tc A nS xs mM_X12_definesSyntax 286 q_X12_definesSyntax_286 := r_getf kls_12 (by decide) tx_12_68 rfl w_759 (by decide +kernel) ok_X12_definesSyntax_289
theorem ok_X12_definesSyntax_285 : zOK l D tc A nS xs mM_X12_definesSyntax 285 q_X12_definesSyntax_285 := s_aload_n (q := 0) rfl (by decide +kernel) (by decide +kernel) ok_X12_definesSyntax_286
theorem ok_X12_definesSyntax_283 : zOK l D tc A nS xs mM_X12_definesSyntax 283 q_X12_definesSyntax_283 := s_iload (by decide +kernel) (by decide +kernel) ok_X12_definesSyntax_285
theorem ok_X12_definesSyntax_281 : zOK l D tc A nS xs mM_X12_definesSyntax 281 q_X12_definesSyntax_281 := s_istore (by decide +kernel) (by decide +kernel) ok_X12_definesSyntax_283
theorem ok_X12_definesSyntax_280 : zOK l D tc A nS xs mM_X12_definesSyntax 280 q_X12_definesSyntax_280 := s_iconst (n := 0) (by decide) (by decide +kernel) (by decide +kernel) ok_X12_definesSyntax_281
theorem ok_X12_definesSyntax_277 : zOK l D tc A nS xs mM_X12_definesSyntax 277 q_X12_definesSyntax_277 := r_putf kls_12 ty_12_108 zck_int (by decide) tx_12_108 rfl w_751 (by decide +kernel) ok_X12_definesSyntax_280
theorem ok_X12_definesSyntax_276 : zOK l D tc A nS xs mM_X12_definesSyntax 276 q_X12_definesSyntax_276 := s_iconst (n := 0) (by decide) (by decide +kernel) (by decide +kernel) ok_X12_definesSyntax_277
theorem ok_X12_definesSyntax_275 : zOK l D tc A nS xs mM_X12_definesSyntax 275 q_X12_definesSyntax_275 := s_aload_n (q := 0) rfl (by decide +kernel) (by decide +kernel) ok_X12_definesSyntax_276
theorem ok_X12_definesSyntax_272 : zOK l D tc A nS xs mM_X12_definesSyntax 272 q_X12_definesSyntax_272 := r_putf kls_12 ty_12_107 zck_int (by decide) tx_12_107 rfl w_752 (by decide +kernel) ok_X12_definesSyntax_275
theorem ok_X12_definesSyntax_269 : zOK l D tc A nS xs mM_X12_definesSyntax 269 q_X12_definesSyntax_269 := s_sipush (n := 14000) (by decide) (by decide +kernel) (by decide +kernel) ok_X12_definesSyntax_272
theorem ok_X12_definesSyntax_266 : zOK l D tc A nS xs mM_X12_definesSyntax 266 q_X12_definesSyntax_266 := s_goto (tgt := 272) (off := 6) (by decide +kernel) (by decide) ok_X12_definesSyntax_272
theorem ok_X12_definesSyntax_263 : zOK l D tc A nS xs mM_X12_definesSyntax 263 q_X12_definesSyntax_263 := s_sipush (n := 17100) (by decide) (by decide +kernel) (by decide +kernel) ok_X12_definesSyntax_266
theorem ok_X12_definesSyntax_260 : zOK l D tc A nS xs mM_X12_definesSyntax 260 q_X12_definesSyntax_260 := s_icmp_ne (tgt := 269) (off := 9) (by decide +kernel) (by decide) ok_X12_definesSyntax_269 ok_X12_definesSyntax_263
theorem ok_X12_definesSyntax_257 : zOK l D tc A nS xs mM_X12_definesSyntax 257 q_X12_definesSyntax_257 := s_sipush (n := 14000) (by decide) (by decide +kernel) (by decide +kernel) ok_X12_definesSyntax_260
theorem ok_X12_definesSyntax_254 : zOK l D tc A nS xs mM_X12_definesSyntax 254 q_X12_definesSyntax_254 := r_getf kls_12 (by decide) tx_12_107 rfl w_752 (by decide +kernel) ok_X12_definesSyntax_257
theorem ok_X12_definesSyntax_253 : zOK l D tc A nS xs mM_X12_definesSyntax 253 q_X12_definesSyntax_253 := s_aload_n (q := 0) rfl (by decide +kernel) (by decide +kernel) ok_X12_definesSyntax_254
theorem ok_X12_definesSyntax_252 : zOK l D tc A nS xs mM_X12_definesSyntax 252 q_X12_definesSyntax_252 := s_aload_n (q := 0) rfl (by decide +kernel) (by decide +kernel) ok_X12_definesSyntax_253
theorem ok_X12_definesSyntax_251 : zOK l D tc A nS xs mM_X12_definesSyntax 251 q_X12_definesSyntax_251 := s_iast (t0 := 0) (by decide) (by decide) rfl (by decide +kernel) ok_X12_definesSyntax_252
theorem ok_X12_definesSyntax_249 : zOK l D tc A nS xs mM_X12_definesSyntax 249 q_X12_definesSyntax_249 := s_iload (by decide +kernel) (by decide +kernel) ok_X12_definesSyntax_251
theorem ok_X12_definesSyntax_247 : zOK l D tc A nS xs mM_X12_definesSyntax 247 q_X12_definesSyntax_247 := s_iload (by decide +kernel) (by decide +kernel) ok_X12_definesSyntax_249
theorem ok_X12_definesSyntax_244 : zOK l D tc A nS xs mM_X12_definesSyntax 244 q_X12_definesSyntax_244 := r_getf kls_12 (by decide) tx_12_70 rfl w_758 (by decide +kernel) ok_X12_definesSyntax_247
theorem ok_X12_definesSyntax_243 : zOK l D tc A nS xs mM_X12_definesSyntax 243 q_X12_definesSyntax_243 := s_aload_n (q := 0) rfl (by decide +kernel) (by decide +kernel) ok_X12_definesSyntax_244
theorem ok_X12_definesSyntax_242 : zOK l D tc A nS xs mM_X12_definesSyntax 242 q_X12_definesSyntax_242 := s_iast (t0 := 0) (by decide) (by decide) rfl (by decide +kernel) ok_X12_definesSyntax_243
theorem ok_X12_definesSyntax_240 : zOK l D tc A nS xs mM_X12_definesSyntax 240 q_X12_definesSyntax_240 := s_iload (by decide +kernel) (by decide +kernel) ok_X12_definesSyntax_242
theorem ok_X12_definesSyntax_238 : zOK l D tc A nS xs mM_X12_definesSyntax 238 q_X12_definesSyntax_238 := s_iload (by decide +kernel) (by decide +kernel) ok_X12_definesSyntax_240
theorem ok_X12_definesSyntax_235 : zOK l D tc A nS xs mM_X12_definesSyntax 235 q_X12_definesSyntax_235 := r_getf kls_12 (by decide) tx_12_69 rfl w_760 (by decide +kernel) ok_X12_definesSyntax_238
theorem ok_X12_definesSyntax_234 : zOK l D tc A nS xs mM_X12_definesSyntax 234 q_X12_definesSyntax_234 := s_aload_n (q := 0) rfl (by decide +kernel) (by decide +kernel) ok_X12_definesSyntax_235
theorem ok_X12_definesSyntax_231 : zOK l D tc A nS xs mM_X12_definesSyntax 231 q_X12_definesSyntax_231 := r_putf kls_12 ty_12_68 zck_int (by decide) tx_12_68 rfl w_759 (by decide +kernel) ok_X12_definesSyntax_234
theorem ok_X12_definesSyntax_230 : zOK l D tc A nS xs mM_X12_definesSyntax 230 q_X12_definesSyntax_230 := s_iadd (by decide +kernel) ok_X12_definesSyntax_231
theorem ok_X12_definesSyntax_229 : zOK l D tc A nS xs mM_X12_definesSyntax 229 q_X12_definesSyntax_229 := s_iconst (n := 1) (by decide) (by decide +kernel) (by decide +kernel) ok_X12_definesSyntax_230
theorem ok_X12_definesSyntax_226 : zOK l D tc A nS xs mM_X12_definesSyntax 226 q_X12_definesSyntax_226 := r_getf kls_12 (by decide) tx_12_68 rfl w_759 (by decide +kernel) ok_X12_definesSyntax_229
theorem ok_X12_definesSyntax_225 : zOK l D tc A nS xs mM_X12_definesSyntax 225 q_X12_definesSyntax_225 := s_dup (by decide +kernel) ok_X12_definesSyntax_226
theorem ok_X12_definesSyntax_224 : zOK l D tc A nS xs mM_X12_definesSyntax 224 q_X12_definesSyntax_224 := s_aload_n (q := 0) rfl (by decide +kernel) (by decide +kernel) ok_X12_definesSyntax_225
theorem ok_X12_definesSyntax_222 : zOK l D tc A nS xs mM_X12_definesSyntax 222 q_X12_definesSyntax_222 := s_istore (by decide +kernel) (by decide +kernel) ok_X12_definesSyntax_224
theorem ok_X12_definesSyntax_219 : zOK l D tc A nS xs mM_X12_definesSyntax 219 q_X12_definesSyntax_219 := r_getf kls_12 (by decide) tx_12_68 rfl w_759 (by decide +kernel) ok_X12_definesSyntax_222
theorem ok_X12_definesSyntax_218 : zOK l D tc A nS xs mM_X12_definesSyntax 218 q_X12_definesSyntax_218 := s_aload_n (q := 0) rfl (by decide +kernel) (by decide +kernel) ok_X12_definesSyntax_219
theorem ok_X12_definesSyntax_215 : zOK l D tc A nS xs mM_X12_definesSyntax 215 q_X12_definesSyntax_215 := s_icmp_ne (tgt := 234) (off := 19) (by decide +kernel) (by decide) ok_X12_definesSyntax_234 ok_X12_definesSyntax_218
theorem ok_X12_definesSyntax_214 : zOK l D tc A nS xs mM_X12_definesSyntax 214 q_X12_definesSyntax_214 := s_iconst (n := (-1)) (by decide) (by decide +kernel) (by decide +kernel) ok_X12_definesSyntax_215
theorem ok_X12_definesSyntax_212 : zOK l D tc A nS xs mM_X12_definesSyntax 212 q_X12_definesSyntax_212 := s_iload (by decide +kernel) (by decide +kernel) ok_X12_definesSyntax_214
theorem ok_X12_definesSyntax_202 : zOK l D tc A nS xs mM_X12_definesSyntax 202 q_X12_definesSyntax_202 := s_icmp_le (tgt := 212) (off := 10) (by decide +kernel) (by decide) ok_X12_definesSyntax_212 s_none
theorem ok_X12_definesSyntax_199 : zOK l D tc A nS xs mM_X12_definesSyntax 199 q_X12_definesSyntax_199 := s_sipush (n := 3000) (by decide) (by decide +kernel) (by decide +kernel) ok_X12_definesSyntax_202
theorem ok_X12_definesSyntax_197 : zOK l D tc A nS xs mM_X12_definesSyntax 197 q_X12_definesSyntax_197 := s_iload (by decide +kernel) (by decide +kernel) ok_X12_definesSyntax_199
theorem ok_X12_definesSyntax_194 : zOK l D tc A nS xs mM_X12_definesSyntax 194 q_X12_definesSyntax_194 := s_icmp_eq (tgt := 205) (off := 11) (by decide +kernel) (by decide) s_none ok_X12_definesSyntax_197
theorem ok_X12_definesSyntax_192 : zOK l D tc A nS xs mM_X12_definesSyntax 192 q_X12_definesSyntax_192 := s_bipush (n := 60) (by decide) (by decide +kernel) (by decide +kernel) ok_X12_definesSyntax_194
theorem ok_X12_definesSyntax_189 : zOK l D tc A nS xs mM_X12_definesSyntax 189 q_X12_definesSyntax_189 := r_getf kls_12 (by decide) tx_12_68 rfl w_759 (by decide +kernel) ok_X12_definesSyntax_192
theorem ok_X12_definesSyntax_188 : zOK l D tc A nS xs mM_X12_definesSyntax 188 q_X12_definesSyntax_188 := s_aload_n (q := 0) rfl (by decide +kernel) (by decide +kernel) ok_X12_definesSyntax_189
theorem ok_X12_definesSyntax_185 : zOK l D tc A nS xs mM_X12_definesSyntax 185 q_X12_definesSyntax_185 := s_icmp_ne (tgt := 197) (off := 12) (by decide +kernel) (by decide) ok_X12_definesSyntax_197 ok_X12_definesSyntax_188
theorem ok_X12_definesSyntax_184 : zOK l D tc A nS xs mM_X12_definesSyntax 184 q_X12_definesSyntax_184 := s_iconst (n := (-1)) (by decide) (by decide +kernel) (by decide +kernel) ok_X12_definesSyntax_185
theorem ok_X12_definesSyntax_182 : zOK l D tc A nS xs mM_X12_definesSyntax 182 q_X12_definesSyntax_182 := s_iload (by decide +kernel) (by decide +kernel) ok_X12_definesSyntax_184
theorem ok_X12_definesSyntax_179 : zOK l D tc A nS xs mM_X12_definesSyntax 179 q_X12_definesSyntax_179 := s_goto (tgt := 139) (off := (-40)) (by decide +kernel) (by decide) (s_back lb_198)
theorem ok_X12_definesSyntax_176 : zOK l D tc A nS xs mM_X12_definesSyntax 176 q_X12_definesSyntax_176 := s_iinc (n := 1) (by decide +kernel) (by decide +kernel) (by decide +kernel) ok_X12_definesSyntax_179
theorem ok_X12_definesSyntax_174 : zOK l D tc A nS xs mM_X12_definesSyntax 174 q_X12_definesSyntax_174 := s_istore (by decide +kernel) (by decide +kernel) ok_X12_definesSyntax_176
theorem ok_X12_definesSyntax_173 : zOK l D tc A nS xs mM_X12_definesSyntax 173 q_X12_definesSyntax_173 := s_iadd (by decide +kernel) ok_X12_definesSyntax_174
theorem ok_X12_definesSyntax_172 : zOK l D tc A nS xs mM_X12_definesSyntax 172 q_X12_definesSyntax_172 := s_iald (t0 := 0) (by decide) (by decide) rfl (by decide +kernel) ok_X12_definesSyntax_173
theorem ok_X12_definesSyntax_171 : zOK l D tc A nS xs mM_X12_definesSyntax 171 q_X12_definesSyntax_171 := s_iald (t0 := 0) (by decide) (by decide) rfl (by decide +kernel) ok_X12_definesSyntax_172
theorem ok_X12_definesSyntax_169 : zOK l D tc A nS xs mM_X12_definesSyntax 169 q_X12_definesSyntax_169 := s_iload (by decide +kernel) (by decide +kernel) ok_X12_definesSyntax_171
theorem ok_X12_definesSyntax_166 : zOK l D tc A nS xs mM_X12_definesSyntax 166 q_X12_definesSyntax_166 := r_getf kls_12 (by decide) tx_12_70 rfl w_758 (by decide +kernel) ok_X12_definesSyntax_169
theorem ok_X12_definesSyntax_165 : zOK l D tc A nS xs mM_X12_definesSyntax 165 q_X12_definesSyntax_165 := s_aload_n (q := 0) rfl (by decide +kernel) (by decide +kernel) ok_X12_definesSyntax_166
theorem ok_X12_definesSyntax_162 : zOK l D tc A nS xs mM_X12_definesSyntax 162 q_X12_definesSyntax_162 := r_getf kls_12 (by decide) tx_12_37 rfl w_716 (by decide +kernel) ok_X12_definesSyntax_165
theorem ok_X12_definesSyntax_161 : zOK l D tc A nS xs mM_X12_definesSyntax 161 q_X12_definesSyntax_161 := s_aload_n (q := 0) rfl (by decide +kernel) (by decide +kernel) ok_X12_definesSyntax_162
theorem ok_X12_definesSyntax_154 : zOK l D tc A nS xs mM_X12_definesSyntax 154 q_X12_definesSyntax_154 := s_icmp_ne (tgt := 161) (off := 7) (by decide +kernel) (by decide) ok_X12_definesSyntax_161 s_none
theorem ok_X12_definesSyntax_152 : zOK l D tc A nS xs mM_X12_definesSyntax 152 q_X12_definesSyntax_152 := s_iload (by decide +kernel) (by decide +kernel) ok_X12_definesSyntax_154
theorem ok_X12_definesSyntax_150 : zOK l D tc A nS xs mM_X12_definesSyntax 150 q_X12_definesSyntax_150 := s_iload (by decide +kernel) (by decide +kernel) ok_X12_definesSyntax_152
theorem ok_X12_definesSyntax_148 : zOK l D tc A nS xs mM_X12_definesSyntax 148 q_X12_definesSyntax_148 := s_iload (by decide +kernel) (by decide +kernel) ok_X12_definesSyntax_150
theorem ok_X12_definesSyntax_145 : zOK l D tc A nS xs mM_X12_definesSyntax 145 q_X12_definesSyntax_145 := s_icmp_ge (tgt := 182) (off := 37) (by decide +kernel) (by decide) ok_X12_definesSyntax_182 ok_X12_definesSyntax_148
theorem ok_X12_definesSyntax_142 : zOK l D tc A nS xs mM_X12_definesSyntax 142 q_X12_definesSyntax_142 := r_getf kls_12 (by decide) tx_12_68 rfl w_759 (by decide +kernel) ok_X12_definesSyntax_145
theorem ok_X12_definesSyntax_141 : zOK l D tc A nS xs mM_X12_definesSyntax 141 q_X12_definesSyntax_141 := s_aload_n (q := 0) rfl (by decide +kernel) (by decide +kernel) ok_X12_definesSyntax_142
theorem ok_X12_definesSyntax_139 : zOK l D tc A nS xs mM_X12_definesSyntax 139 q_X12_definesSyntax_139 := s_iload (by decide +kernel) (by decide +kernel) ok_X12_definesSyntax_141
theorem ok_X12_definesSyntax_137 : zOK l D tc A nS xs mM_X12_definesSyntax 137 q_X12_definesSyntax_137 := s_istore (by decide +kernel) (by decide +kernel) ok_X12_definesSyntax_139
theorem ok_X12_definesSyntax_136 : zOK l D tc A nS xs mM_X12_definesSyntax 136 q_X12_definesSyntax_136 := s_iconst (n := 0) (by decide) (by decide +kernel) (by decide +kernel) ok_X12_definesSyntax_137
theorem ok_X12_definesSyntax_134 : zOK l D tc A nS xs mM_X12_definesSyntax 134 q_X12_definesSyntax_134 := s_istore (by decide +kernel) (by decide +kernel) ok_X12_definesSyntax_136
theorem ok_X12_definesSyntax_133 : zOK l D tc A nS xs mM_X12_definesSyntax 133 q_X12_definesSyntax_133 := s_iald (t0 := 0) (by decide) (by decide) rfl (by decide +kernel) ok_X12_definesSyntax_134
theorem ok_X12_definesSyntax_131 : zOK l D tc A nS xs mM_X12_definesSyntax 131 q_X12_definesSyntax_131 := s_iload (by decide +kernel) (by decide +kernel) ok_X12_definesSyntax_133
theorem ok_X12_definesSyntax_128 : zOK l D tc A nS xs mM_X12_definesSyntax 128 q_X12_definesSyntax_128 := r_getf kls_12 (by decide) tx_12_37 rfl w_716 (by decide +kernel) ok_X12_definesSyntax_131
theorem ok_X12_definesSyntax_127 : zOK l D tc A nS xs mM_X12_definesSyntax 127 q_X12_definesSyntax_127 := s_aload_n (q := 0) rfl (by decide +kernel) (by decide +kernel) ok_X12_definesSyntax_128
theorem ok_X12_definesSyntax_125 : zOK l D tc A nS xs mM_X12_definesSyntax 125 q_X12_definesSyntax_125 := s_istore (by decide +kernel) (by decide +kernel) ok_X12_definesSyntax_127
theorem ok_X12_definesSyntax_122 : zOK l D tc A nS xs mM_X12_definesSyntax 122 q_X12_definesSyntax_122 := r_callV zEE_ok zTw_gd kls_12 (M2 := mM_X12_macroOf) (na := 1) lb_243 calV_X12_macroOf rfl rfl w_761 (by decide +kernel) ok_X12_definesSyntax_125
theorem ok_X12_definesSyntax_120 : zOK l D tc A nS xs mM_X12_definesSyntax 120 q_X12_definesSyntax_120 := s_iload (by decide +kernel) (by decide +kernel) ok_X12_definesSyntax_122
theorem ok_X12_definesSyntax_119 : zOK l D tc A nS xs mM_X12_definesSyntax 119 q_X12_definesSyntax_119 := s_aload_n (q := 0) rfl (by decide +kernel) (by decide +kernel) ok_X12_definesSyntax_120
theorem ok_X12_definesSyntax_103 : zOK l D tc A nS xs mM_X12_definesSyntax 103 q_X12_definesSyntax_103 := s_if_ne (tgt := 119) (off := 16) (by decide +kernel) (by decide) ok_X12_definesSyntax_119 s_none
theorem ok_X12_definesSyntax_100 : zOK l D tc A nS xs mM_X12_definesSyntax 100 q_X12_definesSyntax_100 := r_callV zEE_ok zTw_gd kls_12 (M2 := mM_X12_areRules) (na := 1) lb_178 calV_X12_areRules rfl rfl w_764 (by decide +kernel) ok_X12_definesSyntax_103
theorem ok_X12_definesSyntax_98 : zOK l D tc A nS xs mM_X12_definesSyntax 98 q_X12_definesSyntax_98 := s_iload (by decide +kernel) (by decide +kernel) ok_X12_definesSyntax_100
theorem ok_X12_definesSyntax_97 : zOK l D tc A nS xs mM_X12_definesSyntax 97 q_X12_definesSyntax_97 := s_aload_n (q := 0) rfl (by decide +kernel) (by decide +kernel) ok_X12_definesSyntax_98
theorem ok_X12_definesSyntax_95 : zOK l D tc A nS xs mM_X12_definesSyntax 95 q_X12_definesSyntax_95 := s_istore (by decide +kernel) (by decide +kernel) ok_X12_definesSyntax_97
theorem ok_X12_definesSyntax_92 : zOK l D tc A nS xs mM_X12_definesSyntax 92 q_X12_definesSyntax_92 := r_callV zEE_ok zTw_gd kls_12 (M2 := mM_X12_part) (na := 2) lb_250 calV_X12_part rfl rfl w_692 (by decide +kernel) ok_X12_definesSyntax_95
theorem ok_X12_definesSyntax_91 : zOK l D tc A nS xs mM_X12_definesSyntax 91 q_X12_definesSyntax_91 := s_iconst (n := 2) (by decide) (by decide +kernel) (by decide +kernel) ok_X12_definesSyntax_92
theorem ok_X12_definesSyntax_90 : zOK l D tc A nS xs mM_X12_definesSyntax 90 q_X12_definesSyntax_90 := s_iload_n (q := 1) rfl (by decide +kernel) (by decide +kernel) ok_X12_definesSyntax_91
theorem ok_X12_definesSyntax_89 : zOK l D tc A nS xs mM_X12_definesSyntax 89 q_X12_definesSyntax_89 := s_aload_n (q := 0) rfl (by decide +kernel) (by decide +kernel) ok_X12_definesSyntax_90
theorem ok_X12_definesSyntax_87 : zOK l D tc A nS xs mM_X12_definesSyntax 87 q_X12_definesSyntax_87 := s_istore (by decide +kernel) (by decide +kernel) ok_X12_definesSyntax_89
theorem ok_X12_definesSyntax_86 : zOK l D tc A nS xs mM_X12_definesSyntax 86 q_X12_definesSyntax_86 := s_iald (t0 := 0) (by decide) (by decide) rfl (by decide +kernel) ok_X12_definesSyntax_87
theorem ok_X12_definesSyntax_83 : zOK l D tc A nS xs mM_X12_definesSyntax 83 q_X12_definesSyntax_83 := r_callV zEE_ok zTw_gd kls_12 (M2 := mM_X12_part) (na := 2) lb_250 calV_X12_part rfl rfl w_692 (by decide +kernel) ok_X12_definesSyntax_86
theorem ok_X12_definesSyntax_82 : zOK l D tc A nS xs mM_X12_definesSyntax 82 q_X12_definesSyntax_82 := s_iconst (n := 1) (by decide) (by decide +kernel) (by decide +kernel) ok_X12_definesSyntax_83
theorem ok_X12_definesSyntax_81 : zOK l D tc A nS xs mM_X12_definesSyntax 81 q_X12_definesSyntax_81 := s_iload_n (q := 1) rfl (by decide +kernel) (by decide +kernel) ok_X12_definesSyntax_82
theorem ok_X12_definesSyntax_80 : zOK l D tc A nS xs mM_X12_definesSyntax 80 q_X12_definesSyntax_80 := s_aload_n (q := 0) rfl (by decide +kernel) (by decide +kernel) ok_X12_definesSyntax_81
theorem ok_X12_definesSyntax_77 : zOK l D tc A nS xs mM_X12_definesSyntax 77 q_X12_definesSyntax_77 := r_getf kls_12 (by decide) tx_12_34 rfl w_701 (by decide +kernel) ok_X12_definesSyntax_80
theorem ok_X12_definesSyntax_76 : zOK l D tc A nS xs mM_X12_definesSyntax 76 q_X12_definesSyntax_76 := s_aload_n (q := 0) rfl (by decide +kernel) (by decide +kernel) ok_X12_definesSyntax_77
theorem ok_X12_definesSyntax_66 : zOK l D tc A nS xs mM_X12_definesSyntax 66 q_X12_definesSyntax_66 := s_if_ne (tgt := 76) (off := 10) (by decide +kernel) (by decide) ok_X12_definesSyntax_76 s_none
theorem ok_X12_definesSyntax_65 : zOK l D tc A nS xs mM_X12_definesSyntax 65 q_X12_definesSyntax_65 := s_iload_n (q := 3) rfl (by decide +kernel) (by decide +kernel) ok_X12_definesSyntax_66
theorem ok_X12_definesSyntax_64 : zOK l D tc A nS xs mM_X12_definesSyntax 64 q_X12_definesSyntax_64 := s_istore_n (q := 3) rfl (by decide +kernel) (by decide +kernel) ok_X12_definesSyntax_65
theorem ok_X12_definesSyntax_60 : zOK l D tc A nS xs mM_X12_definesSyntax 60 q_X12_definesSyntax_60 := s_goto (tgt := 64) (off := 4) (by decide +kernel) (by decide) ok_X12_definesSyntax_64
theorem ok_X12_definesSyntax_59 : zOK l D tc A nS xs mM_X12_definesSyntax 59 q_X12_definesSyntax_59 := s_iconst (n := 1) (by decide) (by decide +kernel) (by decide +kernel) ok_X12_definesSyntax_60
theorem ok_X12_definesSyntax_56 : zOK l D tc A nS xs mM_X12_definesSyntax 56 q_X12_definesSyntax_56 := s_if_ne (tgt := 63) (off := 7) (by decide +kernel) (by decide) s_none ok_X12_definesSyntax_59
theorem ok_X12_definesSyntax_53 : zOK l D tc A nS xs mM_X12_definesSyntax 53 q_X12_definesSyntax_53 := r_callV zEE_ok zTw_gd kls_12 (M2 := mM_X12_hasAlias) (na := 1) lb_212 calV_X12_hasAlias rfl rfl w_767 (by decide +kernel) ok_X12_definesSyntax_56
theorem ok_X12_definesSyntax_50 : zOK l D tc A nS xs mM_X12_definesSyntax 50 q_X12_definesSyntax_50 := r_callV zEE_ok zTw_gd kls_12 (M2 := mM_X12_part) (na := 2) lb_250 calV_X12_part rfl rfl w_692 (by decide +kernel) ok_X12_definesSyntax_53
theorem ok_X12_definesSyntax_49 : zOK l D tc A nS xs mM_X12_definesSyntax 49 q_X12_definesSyntax_49 := s_iconst (n := 2) (by decide) (by decide +kernel) (by decide +kernel) ok_X12_definesSyntax_50
theorem ok_X12_definesSyntax_48 : zOK l D tc A nS xs mM_X12_definesSyntax 48 q_X12_definesSyntax_48 := s_iload_n (q := 1) rfl (by decide +kernel) (by decide +kernel) ok_X12_definesSyntax_49
theorem ok_X12_definesSyntax_47 : zOK l D tc A nS xs mM_X12_definesSyntax 47 q_X12_definesSyntax_47 := s_aload_n (q := 0) rfl (by decide +kernel) (by decide +kernel) ok_X12_definesSyntax_48
theorem ok_X12_definesSyntax_46 : zOK l D tc A nS xs mM_X12_definesSyntax 46 q_X12_definesSyntax_46 := s_aload_n (q := 0) rfl (by decide +kernel) (by decide +kernel) ok_X12_definesSyntax_47
theorem ok_X12_definesSyntax_43 : zOK l D tc A nS xs mM_X12_definesSyntax 43 q_X12_definesSyntax_43 := s_icmp_ge (tgt := 63) (off := 20) (by decide +kernel) (by decide) s_none ok_X12_definesSyntax_46
theorem ok_X12_definesSyntax_40 : zOK l D tc A nS xs mM_X12_definesSyntax 40 q_X12_definesSyntax_40 := s_sipush (n := 1000) (by decide) (by decide +kernel) (by decide +kernel) ok_X12_definesSyntax_43
theorem ok_X12_definesSyntax_39 : zOK l D tc A nS xs mM_X12_definesSyntax 39 q_X12_definesSyntax_39 := s_iald (t0 := 0) (by decide) (by decide) rfl (by decide +kernel) ok_X12_definesSyntax_40
theorem ok_X12_definesSyntax_36 : zOK l D tc A nS xs mM_X12_definesSyntax 36 q_X12_definesSyntax_36 := r_callV zEE_ok zTw_gd kls_12 (M2 := mM_X12_part) (na := 2) lb_250 calV_X12_part rfl rfl w_692 (by decide +kernel) ok_X12_definesSyntax_39
theorem ok_X12_definesSyntax_35 : zOK l D tc A nS xs mM_X12_definesSyntax 35 q_X12_definesSyntax_35 := s_iconst (n := 1) (by decide) (by decide +kernel) (by decide +kernel) ok_X12_definesSyntax_36
theorem ok_X12_definesSyntax_34 : zOK l D tc A nS xs mM_X12_definesSyntax 34 q_X12_definesSyntax_34 := s_iload_n (q := 1) rfl (by decide +kernel) (by decide +kernel) ok_X12_definesSyntax_35
theorem ok_X12_definesSyntax_33 : zOK l D tc A nS xs mM_X12_definesSyntax 33 q_X12_definesSyntax_33 := s_aload_n (q := 0) rfl (by decide +kernel) (by decide +kernel) ok_X12_definesSyntax_34
theorem ok_X12_definesSyntax_30 : zOK l D tc A nS xs mM_X12_definesSyntax 30 q_X12_definesSyntax_30 := r_getf kls_12 (by decide) tx_12_34 rfl w_701 (by decide +kernel) ok_X12_definesSyntax_33
theorem ok_X12_definesSyntax_29 : zOK l D tc A nS xs mM_X12_definesSyntax 29 q_X12_definesSyntax_29 := s_aload_n (q := 0) rfl (by decide +kernel) (by decide +kernel) ok_X12_definesSyntax_30
theorem ok_X12_definesSyntax_26 : zOK l D tc A nS xs mM_X12_definesSyntax 26 q_X12_definesSyntax_26 := s_if_eq (tgt := 63) (off := 37) (by decide +kernel) (by decide) s_none ok_X12_definesSyntax_29
theorem ok_X12_definesSyntax_23 : zOK l D tc A nS xs mM_X12_definesSyntax 23 q_X12_definesSyntax_23 := r_callV zEE_ok zTw_gd kls_12 (M2 := mM_X12_isName) (na := 1) lb_225 calV_X12_isName rfl rfl w_698 (by decide +kernel) ok_X12_definesSyntax_26
theorem ok_X12_definesSyntax_20 : zOK l D tc A nS xs mM_X12_definesSyntax 20 q_X12_definesSyntax_20 := r_callV zEE_ok zTw_gd kls_12 (M2 := mM_X12_part) (na := 2) lb_250 calV_X12_part rfl rfl w_692 (by decide +kernel) ok_X12_definesSyntax_23
theorem ok_X12_definesSyntax_19 : zOK l D tc A nS xs mM_X12_definesSyntax 19 q_X12_definesSyntax_19 := s_iconst (n := 1) (by decide) (by decide +kernel) (by decide +kernel) ok_X12_definesSyntax_20
theorem ok_X12_definesSyntax_18 : zOK l D tc A nS xs mM_X12_definesSyntax 18 q_X12_definesSyntax_18 := s_iload_n (q := 1) rfl (by decide +kernel) (by decide +kernel) ok_X12_definesSyntax_19
theorem ok_X12_definesSyntax_17 : zOK l D tc A nS xs mM_X12_definesSyntax 17 q_X12_definesSyntax_17 := s_aload_n (q := 0) rfl (by decide +kernel) (by decide +kernel) ok_X12_definesSyntax_18
theorem ok_X12_definesSyntax_16 : zOK l D tc A nS xs mM_X12_definesSyntax 16 q_X12_definesSyntax_16 := s_aload_n (q := 0) rfl (by decide +kernel) (by decide +kernel) ok_X12_definesSyntax_17
theorem ok_X12_definesSyntax_13 : zOK l D tc A nS xs mM_X12_definesSyntax 13 q_X12_definesSyntax_13 := s_icmp_ne (tgt := 63) (off := 50) (by decide +kernel) (by decide) s_none ok_X12_definesSyntax_16
theorem ok_X12_definesSyntax_12 : zOK l D tc A nS xs mM_X12_definesSyntax 12 q_X12_definesSyntax_12 := s_iconst (n := 3) (by decide) (by decide +kernel) (by decide +kernel) ok_X12_definesSyntax_13
theorem ok_X12_definesSyntax_9 : zOK l D tc A nS xs mM_X12_definesSyntax 9 q_X12_definesSyntax_9 := r_callV zEE_ok zTw_gd kls_12 (M2 := mM_X12_length) (na := 1) lb_237 calV_X12_length rfl rfl w_704 (by decide +kernel) ok_X12_definesSyntax_12
theorem ok_X12_definesSyntax_8 : zOK l D tc A nS xs mM_X12_definesSyntax 8 q_X12_definesSyntax_8 := s_iload_n (q := 1) rfl (by decide +kernel) (by decide +kernel) ok_X12_definesSyntax_9
theorem ok_X12_definesSyntax_7 : zOK l D tc A nS xs mM_X12_definesSyntax 7 q_X12_definesSyntax_7 := s_aload_n (q := 0) rfl (by decide +kernel) (by decide +kernel) ok_X12_definesSyntax_8
theorem ok_X12_definesSyntax_6 : zOK l D tc A nS xs mM_X12_definesSyntax 6 q_X12_definesSyntax_6 := s_istore_n (q := 2) rfl (by decide +kernel) (by decide +kernel) ok_X12_definesSyntax_7
theorem ok_X12_definesSyntax_5 : zOK l D tc A nS xs mM_X12_definesSyntax 5 q_X12_definesSyntax_5 := s_iald (t0 := 0) (by decide) (by decide) rfl (by decide +kernel) ok_X12_definesSyntax_6
theorem ok_X12_definesSyntax_4 : zOK l D tc A nS xs mM_X12_definesSyntax 4 q_X12_definesSyntax_4 := s_iload_n (q := 1) rfl (by decide +kernel) (by decide +kernel) ok_X12_definesSyntax_5
theorem ok_X12_definesSyntax_1 : zOK l D tc A nS xs mM_X12_definesSyntax 1 q_X12_definesSyntax_1 := r_getf kls_12 (by decide) tx_12_36 rfl w_717 (by decide +kernel) ok_X12_definesSyntax_4
theorem ok_X12_definesSyntax_0 : zOK l D tc A nS xs mM_X12_definesSyntax 0 q_X12_definesSyntax_0 := s_aload_n (q := 0) rfl (by decide +kernel) (by decide +kernel) ok_X12_definesSyntax_1
theorem ok_X12_end_20 : zOK l D tc A nS xs mM_X12_end 20 q_X12_end_20 := s_zret rfl (by decide +kernel)
theorem ok_X12_end_19 : zOK l D tc A nS xs mM_X12_end 19 q_X12_end_19 := s_iconst (n := 1) (by decide) (by decide +kernel) (by decide +kernel) ok_X12_end_20
theorem ok_X12_end_16 : zOK l D tc A nS xs mM_X12_end 16 q_X12_end_16 := r_putf kls_12 ty_12_32 zck_int (by decide) tx_12_32 rfl w_770 (by decide +kernel) ok_X12_end_19
theorem ok_X12_end_15 : zOK l D tc A nS xs mM_X12_end 15 q_X12_end_15 := s_iload_n (q := 1) rfl (by decide +kernel) (by decide +kernel) ok_X12_end_16
theorem ok_X12_end_14 : zOK l D tc A nS xs mM_X12_end 14 q_X12_end_14 := s_aload_n (q := 0) rfl (by decide +kernel) (by decide +kernel) ok_X12_end_15
theorem ok_X12_end_13 : zOK l D tc A nS xs mM_X12_end 13 q_X12_end_13 := s_zret rfl (by decide +kernel)
theorem ok_X12_end_12 : zOK l D tc A nS xs mM_X12_end 12 q_X12_end_12 := s_iconst (n := 0) (by decide) (by decide +kernel) (by decide +kernel) ok_X12_end_13
theorem ok_X12_end_9 : zOK l D tc A nS xs mM_X12_end 9 q_X12_end_9 := s_if_ne (tgt := 14) (off := 5) (by decide +kernel) (by decide) ok_X12_end_14 ok_X12_end_12
theorem ok_X12_end_6 : zOK l D tc A nS xs mM_X12_end 6 q_X12_end_6 := r_callS zEE_ok zTw_gd (M2 := mM_X12_in) lb_217 calS_X12_in rfl rfl w_771 (by decide +kernel) ok_X12_end_9
theorem ok_X12_end_3 : zOK l D tc A nS xs mM_X12_end 3 q_X12_end_3 := r_getf kls_12 (by decide) tx_12_32 rfl w_770 (by decide +kernel) ok_X12_end_6
theorem ok_X12_end_2 : zOK l D tc A nS xs mM_X12_end 2 q_X12_end_2 := s_aload_n (q := 0) rfl (by decide +kernel) (by decide +kernel) ok_X12_end_3
theorem ok_X12_end_1 : zOK l D tc A nS xs mM_X12_end 1 q_X12_end_1 := s_iconst (n := 0) (by decide) (by decide +kernel) (by decide +kernel) ok_X12_end_2
theorem ok_X12_end_0 : zOK l D tc A nS xs mM_X12_end 0 q_X12_end_0 := s_iload_n (q := 1) rfl (by decide +kernel) (by decide +kernel) ok_X12_end_1
theorem ok_X12_fault_24 : zOK l D tc A nS xs mM_X12_fault 24 q_X12_fault_24 := s_iret rfl (by decide +kernel)
theorem ok_X12_fault_23 : zOK l D tc A nS xs mM_X12_fault 23 q_X12_fault_23 := s_iconst (n := (-1)) (by decide) (by decide +kernel) (by decide +kernel) ok_X12_fault_24
theorem ok_X12_fault_20 : zOK l D tc A nS xs mM_X12_fault 20 q_X12_fault_20 := s_goto (tgt := 24) (off := 4) (by decide +kernel) (by decide) ok_X12_fault_24
theorem ok_X12_fault_17 : zOK l D tc A nS xs mM_X12_fault 17 q_X12_fault_17 := r_getf kls_12 (by decide) tx_12_41 rfl w_774 (by decide +kernel) ok_X12_fault_20
theorem ok_X12_fault_16 : zOK l D tc A nS xs mM_X12_fault 16 q_X12_fault_16 := s_aload_n (q := 0) rfl (by decide +kernel) (by decide +kernel) ok_X12_fault_17
theorem ok_X12_fault_13 : zOK l D tc A nS xs mM_X12_fault 13 q_X12_fault_13 := s_icmp_ne (tgt := 23) (off := 10) (by decide +kernel) (by decide) ok_X12_fault_23 ok_X12_fault_16
theorem ok_X12_fault_12 : zOK l D tc A nS xs mM_X12_fault 12 q_X12_fault_12 := s_iconst (n := 1) (by decide) (by decide +kernel) (by decide +kernel) ok_X12_fault_13
theorem ok_X12_fault_11 : zOK l D tc A nS xs mM_X12_fault 11 q_X12_fault_11 := s_iload_n (q := 1) rfl (by decide +kernel) (by decide +kernel) ok_X12_fault_12
theorem ok_X12_fault_8 : zOK l D tc A nS xs mM_X12_fault 8 q_X12_fault_8 := s_goto (tgt := 24) (off := 16) (by decide +kernel) (by decide) ok_X12_fault_24
theorem ok_X12_fault_5 : zOK l D tc A nS xs mM_X12_fault 5 q_X12_fault_5 := r_getf kls_12 (by decide) tx_12_40 rfl w_775 (by decide +kernel) ok_X12_fault_8
theorem ok_X12_fault_4 : zOK l D tc A nS xs mM_X12_fault 4 q_X12_fault_4 := s_aload_n (q := 0) rfl (by decide +kernel) (by decide +kernel) ok_X12_fault_5
theorem ok_X12_fault_1 : zOK l D tc A nS xs mM_X12_fault 1 q_X12_fault_1 := s_if_ne (tgt := 11) (off := 10) (by decide +kernel) (by decide) ok_X12_fault_11 ok_X12_fault_4
theorem ok_X12_fault_0 : zOK l D tc A nS xs mM_X12_fault 0 q_X12_fault_0 := s_iload_n (q := 1) rfl (by decide +kernel) (by decide +kernel) ok_X12_fault_1
theorem ok_X12_feed_46 : zOK l D tc A nS xs mM_X12_feed 46 q_X12_feed_46 := s_iret rfl (by decide +kernel)
theorem ok_X12_feed_43 : zOK l D tc A nS xs mM_X12_feed 43 q_X12_feed_43 := r_getf kls_12 (by decide) tx_12_32 rfl w_770 (by decide +kernel) ok_X12_feed_46
theorem ok_X12_feed_42 : zOK l D tc A nS xs mM_X12_feed 42 q_X12_feed_42 := s_aload_n (q := 0) rfl (by decide +kernel) (by decide +kernel) ok_X12_feed_43
theorem ok_X12_feed_39 : zOK l D tc A nS xs mM_X12_feed 39 q_X12_feed_39 := r_callV zEE_ok zTw_gd kls_12 (M2 := mM_X12_feeds) (na := 1) lb_203 calV_X12_feeds rfl rfl w_776 (by decide +kernel) ok_X12_feed_42
theorem ok_X12_feed_37 : zOK l D tc A nS xs mM_X12_feed 37 q_X12_feed_37 := s_iload (by decide +kernel) (by decide +kernel) ok_X12_feed_39
theorem ok_X12_feed_36 : zOK l D tc A nS xs mM_X12_feed 36 q_X12_feed_36 := s_aload_n (q := 0) rfl (by decide +kernel) (by decide +kernel) ok_X12_feed_37
theorem ok_X12_feed_33 : zOK l D tc A nS xs mM_X12_feed 33 q_X12_feed_33 := r_callV zEE_ok zTw_gd kls_12 (M2 := mM_X12_feeds) (na := 1) lb_203 calV_X12_feeds rfl rfl w_776 (by decide +kernel) ok_X12_feed_36
theorem ok_X12_feed_31 : zOK l D tc A nS xs mM_X12_feed 31 q_X12_feed_31 := s_iload (by decide +kernel) (by decide +kernel) ok_X12_feed_33
theorem ok_X12_feed_30 : zOK l D tc A nS xs mM_X12_feed 30 q_X12_feed_30 := s_aload_n (q := 0) rfl (by decide +kernel) (by decide +kernel) ok_X12_feed_31
theorem ok_X12_feed_27 : zOK l D tc A nS xs mM_X12_feed 27 q_X12_feed_27 := r_callV zEE_ok zTw_gd kls_12 (M2 := mM_X12_feeds) (na := 1) lb_203 calV_X12_feeds rfl rfl w_776 (by decide +kernel) ok_X12_feed_30
theorem ok_X12_feed_26 : zOK l D tc A nS xs mM_X12_feed 26 q_X12_feed_26 := s_iload_n (q := 3) rfl (by decide +kernel) (by decide +kernel) ok_X12_feed_27
theorem ok_X12_feed_25 : zOK l D tc A nS xs mM_X12_feed 25 q_X12_feed_25 := s_aload_n (q := 0) rfl (by decide +kernel) (by decide +kernel) ok_X12_feed_26
theorem ok_X12_feed_22 : zOK l D tc A nS xs mM_X12_feed 22 q_X12_feed_22 := r_callV zEE_ok zTw_gd kls_12 (M2 := mM_X12_feeds) (na := 1) lb_203 calV_X12_feeds rfl rfl w_776 (by decide +kernel) ok_X12_feed_25
theorem ok_X12_feed_21 : zOK l D tc A nS xs mM_X12_feed 21 q_X12_feed_21 := s_iload_n (q := 2) rfl (by decide +kernel) (by decide +kernel) ok_X12_feed_22
theorem ok_X12_feed_20 : zOK l D tc A nS xs mM_X12_feed 20 q_X12_feed_20 := s_aload_n (q := 0) rfl (by decide +kernel) (by decide +kernel) ok_X12_feed_21
theorem ok_X12_feed_17 : zOK l D tc A nS xs mM_X12_feed 17 q_X12_feed_17 := r_callV zEE_ok zTw_gd kls_12 (M2 := mM_X12_feeds) (na := 1) lb_203 calV_X12_feeds rfl rfl w_776 (by decide +kernel) ok_X12_feed_20
theorem ok_X12_feed_16 : zOK l D tc A nS xs mM_X12_feed 16 q_X12_feed_16 := s_iload_n (q := 1) rfl (by decide +kernel) (by decide +kernel) ok_X12_feed_17
theorem ok_X12_feed_15 : zOK l D tc A nS xs mM_X12_feed 15 q_X12_feed_15 := s_aload_n (q := 0) rfl (by decide +kernel) (by decide +kernel) ok_X12_feed_16
theorem ok_X12_feed_10 : zOK l D tc A nS xs mM_X12_feed 10 q_X12_feed_10 := s_icmp_le (tgt := 15) (off := 5) (by decide +kernel) (by decide) ok_X12_feed_15 s_none
theorem ok_X12_feed_7 : zOK l D tc A nS xs mM_X12_feed 7 q_X12_feed_7 := s_sipush (n := 2000) (by decide) (by decide +kernel) (by decide +kernel) ok_X12_feed_10
theorem ok_X12_feed_6 : zOK l D tc A nS xs mM_X12_feed 6 q_X12_feed_6 := s_iadd (by decide +kernel) ok_X12_feed_7
theorem ok_X12_feed_4 : zOK l D tc A nS xs mM_X12_feed 4 q_X12_feed_4 := s_bipush (n := 20) (by decide) (by decide +kernel) (by decide +kernel) ok_X12_feed_6
theorem ok_X12_feed_1 : zOK l D tc A nS xs mM_X12_feed 1 q_X12_feed_1 := r_getf kls_12 (by decide) tx_12_32 rfl w_770 (by decide +kernel) ok_X12_feed_4
theorem ok_X12_feed_0 : zOK l D tc A nS xs mM_X12_feed 0 q_X12_feed_0 := s_aload_n (q := 0) rfl (by decide +kernel) (by decide +kernel) ok_X12_feed_1
theorem ok_X12_feeds_39 : zOK l D tc A nS xs mM_X12_feeds 39 q_X12_feeds_39 := s_vret rfl (by decide +kernel)
theorem ok_X12_feeds_36 : zOK l D tc A nS xs mM_X12_feeds 36 q_X12_feeds_36 := s_goto (tgt := 3) (off := (-33)) (by decide +kernel) (by decide) (s_back lb_204)
theorem ok_X12_feeds_33 : zOK l D tc A nS xs mM_X12_feeds 33 q_X12_feeds_33 := s_iinc (n := (-8)) (by decide +kernel) (by decide +kernel) (by decide +kernel) ok_X12_feeds_36
theorem ok_X12_feeds_30 : zOK l D tc A nS xs mM_X12_feeds 30 q_X12_feeds_30 := r_putf kls_12 ty_12_32 zck_int (by decide) tx_12_32 rfl w_770 (by decide +kernel) ok_X12_feeds_33
theorem ok_X12_feeds_29 : zOK l D tc A nS xs mM_X12_feeds 29 q_X12_feeds_29 := s_iadd (by decide +kernel) ok_X12_feeds_30
theorem ok_X12_feeds_28 : zOK l D tc A nS xs mM_X12_feeds 28 q_X12_feeds_28 := s_iconst (n := 1) (by decide) (by decide +kernel) (by decide +kernel) ok_X12_feeds_29
theorem ok_X12_feeds_25 : zOK l D tc A nS xs mM_X12_feeds 25 q_X12_feeds_25 := r_getf kls_12 (by decide) tx_12_32 rfl w_770 (by decide +kernel) ok_X12_feeds_28
theorem ok_X12_feeds_24 : zOK l D tc A nS xs mM_X12_feeds 24 q_X12_feeds_24 := s_dup (by decide +kernel) ok_X12_feeds_25
theorem ok_X12_feeds_23 : zOK l D tc A nS xs mM_X12_feeds 23 q_X12_feeds_23 := s_aload_n (q := 0) rfl (by decide +kernel) (by decide +kernel) ok_X12_feeds_24
theorem ok_X12_feeds_22 : zOK l D tc A nS xs mM_X12_feeds 22 q_X12_feeds_22 := s_iast (t0 := 0) (by decide) (by decide) rfl (by decide +kernel) ok_X12_feeds_23
theorem ok_X12_feeds_21 : zOK l D tc A nS xs mM_X12_feeds 21 q_X12_feeds_21 := s_iand (by decide +kernel) ok_X12_feeds_22
theorem ok_X12_feeds_18 : zOK l D tc A nS xs mM_X12_feeds 18 q_X12_feeds_18 := s_sipush (n := 255) (by decide) (by decide +kernel) (by decide +kernel) ok_X12_feeds_21
theorem ok_X12_feeds_17 : zOK l D tc A nS xs mM_X12_feeds 17 q_X12_feeds_17 := s_ishr (by decide +kernel) ok_X12_feeds_18
theorem ok_X12_feeds_16 : zOK l D tc A nS xs mM_X12_feeds 16 q_X12_feeds_16 := s_iload_n (q := 2) rfl (by decide +kernel) (by decide +kernel) ok_X12_feeds_17
theorem ok_X12_feeds_15 : zOK l D tc A nS xs mM_X12_feeds 15 q_X12_feeds_15 := s_iload_n (q := 1) rfl (by decide +kernel) (by decide +kernel) ok_X12_feeds_16
theorem ok_X12_feeds_12 : zOK l D tc A nS xs mM_X12_feeds 12 q_X12_feeds_12 := r_getf kls_12 (by decide) tx_12_32 rfl w_770 (by decide +kernel) ok_X12_feeds_15
theorem ok_X12_feeds_11 : zOK l D tc A nS xs mM_X12_feeds 11 q_X12_feeds_11 := s_aload_n (q := 0) rfl (by decide +kernel) (by decide +kernel) ok_X12_feeds_12
theorem ok_X12_feeds_8 : zOK l D tc A nS xs mM_X12_feeds 8 q_X12_feeds_8 := r_getf kls_12 (by decide) tx_12_31 rfl w_779 (by decide +kernel) ok_X12_feeds_11
theorem ok_X12_feeds_7 : zOK l D tc A nS xs mM_X12_feeds 7 q_X12_feeds_7 := s_aload_n (q := 0) rfl (by decide +kernel) (by decide +kernel) ok_X12_feeds_8
theorem ok_X12_feeds_4 : zOK l D tc A nS xs mM_X12_feeds 4 q_X12_feeds_4 := s_if_lt (tgt := 39) (off := 35) (by decide +kernel) (by decide) ok_X12_feeds_39 ok_X12_feeds_7
theorem ok_X12_feeds_3 : zOK l D tc A nS xs mM_X12_feeds 3 q_X12_feeds_3 := s_iload_n (q := 2) rfl (by decide +kernel) (by decide +kernel) ok_X12_feeds_4
theorem ok_X12_feeds_2 : zOK l D tc A nS xs mM_X12_feeds 2 q_X12_feeds_2 := s_istore_n (q := 2) rfl (by decide +kernel) (by decide +kernel) ok_X12_feeds_3
theorem ok_X12_feeds_0 : zOK l D tc A nS xs mM_X12_feeds 0 q_X12_feeds_0 := s_bipush (n := 24) (by decide) (by decide +kernel) (by decide +kernel) ok_X12_feeds_2
theorem ok_X12_fetched_33 : zOK l D tc A nS xs mM_X12_fetched 33 q_X12_fetched_33 := s_iret rfl (by decide +kernel)
theorem ok_X12_fetched_32 : zOK l D tc A nS xs mM_X12_fetched 32 q_X12_fetched_32 := s_iload_n (q := 1) rfl (by decide +kernel) (by decide +kernel) ok_X12_fetched_33
theorem ok_X12_fetched_29 : zOK l D tc A nS xs mM_X12_fetched 29 q_X12_fetched_29 := r_callV zEE_ok zTw_gd kls_12 (M2 := mM_X12_setR) (na := 2) lb_272 calV_X12_setR rfl rfl w_780 (by decide +kernel) ok_X12_fetched_32
theorem ok_X12_fetched_28 : zOK l D tc A nS xs mM_X12_fetched 28 q_X12_fetched_28 := s_iadd (by decide +kernel) ok_X12_fetched_29
theorem ok_X12_fetched_27 : zOK l D tc A nS xs mM_X12_fetched 27 q_X12_fetched_27 := s_iconst (n := 2) (by decide) (by decide +kernel) (by decide +kernel) ok_X12_fetched_28
theorem ok_X12_fetched_24 : zOK l D tc A nS xs mM_X12_fetched 24 q_X12_fetched_24 := r_callV zEE_ok zTw_gd kls_12 (M2 := mM_X12_r) (na := 1) lb_254 calV_X12_r rfl rfl w_783 (by decide +kernel) ok_X12_fetched_27
theorem ok_X12_fetched_22 : zOK l D tc A nS xs mM_X12_fetched 22 q_X12_fetched_22 := s_bipush (n := 7) (by decide) (by decide +kernel) (by decide +kernel) ok_X12_fetched_24
theorem ok_X12_fetched_21 : zOK l D tc A nS xs mM_X12_fetched 21 q_X12_fetched_21 := s_aload_n (q := 0) rfl (by decide +kernel) (by decide +kernel) ok_X12_fetched_22
theorem ok_X12_fetched_19 : zOK l D tc A nS xs mM_X12_fetched 19 q_X12_fetched_19 := s_bipush (n := 7) (by decide) (by decide +kernel) (by decide +kernel) ok_X12_fetched_21
theorem ok_X12_fetched_18 : zOK l D tc A nS xs mM_X12_fetched 18 q_X12_fetched_18 := s_aload_n (q := 0) rfl (by decide +kernel) (by decide +kernel) ok_X12_fetched_19
theorem ok_X12_fetched_15 : zOK l D tc A nS xs mM_X12_fetched 15 q_X12_fetched_15 := s_if_ne (tgt := 32) (off := 17) (by decide +kernel) (by decide) ok_X12_fetched_32 ok_X12_fetched_18
theorem ok_X12_fetched_12 : zOK l D tc A nS xs mM_X12_fetched 12 q_X12_fetched_12 := r_getf kls_12 (by decide) tx_12_4 rfl w_786 (by decide +kernel) ok_X12_fetched_15
theorem ok_X12_fetched_11 : zOK l D tc A nS xs mM_X12_fetched 11 q_X12_fetched_11 := s_aload_n (q := 0) rfl (by decide +kernel) (by decide +kernel) ok_X12_fetched_12
theorem ok_X12_fetched_10 : zOK l D tc A nS xs mM_X12_fetched 10 q_X12_fetched_10 := s_istore_n (q := 1) rfl (by decide +kernel) (by decide +kernel) ok_X12_fetched_11
theorem ok_X12_fetched_7 : zOK l D tc A nS xs mM_X12_fetched 7 q_X12_fetched_7 := r_callV zEE_ok zTw_gd kls_12 (M2 := mM_X12_wordAt) (na := 1) lb_294 calV_X12_wordAt rfl rfl w_787 (by decide +kernel) ok_X12_fetched_10
theorem ok_X12_fetched_4 : zOK l D tc A nS xs mM_X12_fetched 4 q_X12_fetched_4 := r_callV zEE_ok zTw_gd kls_12 (M2 := mM_X12_r) (na := 1) lb_254 calV_X12_r rfl rfl w_783 (by decide +kernel) ok_X12_fetched_7
theorem ok_X12_fetched_2 : zOK l D tc A nS xs mM_X12_fetched 2 q_X12_fetched_2 := s_bipush (n := 7) (by decide) (by decide +kernel) (by decide +kernel) ok_X12_fetched_4
theorem ok_X12_fetched_1 : zOK l D tc A nS xs mM_X12_fetched 1 q_X12_fetched_1 := s_aload_n (q := 0) rfl (by decide +kernel) (by decide +kernel) ok_X12_fetched_2
theorem ok_X12_fetched_0 : zOK l D tc A nS xs mM_X12_fetched 0 q_X12_fetched_0 := s_aload_n (q := 0) rfl (by decide +kernel) (by decide +kernel) ok_X12_fetched_1
theorem ok_X12_form_221 : zOK l D tc A nS xs mM_X12_form 221 q_X12_form_221 := s_vret rfl (by decide +kernel)
theorem ok_X12_form_218 : zOK l D tc A nS xs mM_X12_form 218 q_X12_form_218 := r_putf kls_12 ty_12_106 zck_int (by decide) tx_12_106 rfl w_790 (by decide +kernel) ok_X12_form_221
theorem ok_X12_form_217 : zOK l D tc A nS xs mM_X12_form 217 q_X12_form_217 := s_iadd (by decide +kernel) ok_X12_form_218
theorem ok_X12_form_216 : zOK l D tc A nS xs mM_X12_form 216 q_X12_form_216 := s_iconst (n := 1) (by decide) (by decide +kernel) (by decide +kernel) ok_X12_form_217
theorem ok_X12_form_213 : zOK l D tc A nS xs mM_X12_form 213 q_X12_form_213 := r_getf kls_12 (by decide) tx_12_106 rfl w_790 (by decide +kernel) ok_X12_form_216
theorem ok_X12_form_212 : zOK l D tc A nS xs mM_X12_form 212 q_X12_form_212 := s_dup (by decide +kernel) ok_X12_form_213
theorem ok_X12_form_211 : zOK l D tc A nS xs mM_X12_form 211 q_X12_form_211 := s_aload_n (q := 0) rfl (by decide +kernel) (by decide +kernel) ok_X12_form_212
theorem ok_X12_form_210 : zOK l D tc A nS xs mM_X12_form 210 q_X12_form_210 := s_iast (t0 := 0) (by decide) (by decide) rfl (by decide +kernel) ok_X12_form_211
theorem ok_X12_form_209 : zOK l D tc A nS xs mM_X12_form 209 q_X12_form_209 := s_iload_n (q := 3) rfl (by decide +kernel) (by decide +kernel) ok_X12_form_210
theorem ok_X12_form_206 : zOK l D tc A nS xs mM_X12_form 206 q_X12_form_206 := r_getf kls_12 (by decide) tx_12_106 rfl w_790 (by decide +kernel) ok_X12_form_209
theorem ok_X12_form_205 : zOK l D tc A nS xs mM_X12_form 205 q_X12_form_205 := s_aload_n (q := 0) rfl (by decide +kernel) (by decide +kernel) ok_X12_form_206
theorem ok_X12_form_202 : zOK l D tc A nS xs mM_X12_form 202 q_X12_form_202 := r_getf kls_12 (by decide) tx_12_105 rfl w_791 (by decide +kernel) ok_X12_form_205
theorem ok_X12_form_201 : zOK l D tc A nS xs mM_X12_form 201 q_X12_form_201 := s_aload_n (q := 0) rfl (by decide +kernel) (by decide +kernel) ok_X12_form_202
theorem ok_X12_form_198 : zOK l D tc A nS xs mM_X12_form 198 q_X12_form_198 := r_callV zEE_ok zTw_gd kls_12 (M2 := mM_X12_lambdas) (na := 0) lb_235 calV_X12_lambdas rfl rfl w_792 (by decide +kernel) ok_X12_form_201
theorem ok_X12_form_197 : zOK l D tc A nS xs mM_X12_form 197 q_X12_form_197 := s_aload_n (q := 0) rfl (by decide +kernel) (by decide +kernel) ok_X12_form_198
theorem ok_X12_form_186 : zOK l D tc A nS xs mM_X12_form 186 q_X12_form_186 := s_goto (tgt := 197) (off := 11) (by decide +kernel) (by decide) ok_X12_form_197
theorem ok_X12_form_183 : zOK l D tc A nS xs mM_X12_form 183 q_X12_form_183 := r_callV zEE_ok zTw_gd kls_12 (M2 := mM_X12_definesSyntax) (na := 1) lb_197 calV_X12_definesSyntax rfl rfl w_795 (by decide +kernel) ok_X12_form_186
theorem ok_X12_form_182 : zOK l D tc A nS xs mM_X12_form 182 q_X12_form_182 := s_iload_n (q := 2) rfl (by decide +kernel) (by decide +kernel) ok_X12_form_183
theorem ok_X12_form_181 : zOK l D tc A nS xs mM_X12_form 181 q_X12_form_181 := s_aload_n (q := 0) rfl (by decide +kernel) (by decide +kernel) ok_X12_form_182
theorem ok_X12_form_178 : zOK l D tc A nS xs mM_X12_form 178 q_X12_form_178 := s_icmp_ne (tgt := 189) (off := 11) (by decide +kernel) (by decide) s_none ok_X12_form_181
theorem ok_X12_form_176 : zOK l D tc A nS xs mM_X12_form 176 q_X12_form_176 := s_bipush (n := 6) (by decide) (by decide +kernel) (by decide +kernel) ok_X12_form_178
theorem ok_X12_form_174 : zOK l D tc A nS xs mM_X12_form 174 q_X12_form_174 := s_iload (by decide +kernel) (by decide +kernel) ok_X12_form_176
theorem ok_X12_form_163 : zOK l D tc A nS xs mM_X12_form 163 q_X12_form_163 := s_icmp_ne (tgt := 174) (off := 11) (by decide +kernel) (by decide) ok_X12_form_174 s_none
theorem ok_X12_form_162 : zOK l D tc A nS xs mM_X12_form 162 q_X12_form_162 := s_iconst (n := 5) (by decide) (by decide +kernel) (by decide +kernel) ok_X12_form_163
theorem ok_X12_form_160 : zOK l D tc A nS xs mM_X12_form 160 q_X12_form_160 := s_iload (by decide +kernel) (by decide +kernel) ok_X12_form_162
theorem ok_X12_form_156 : zOK l D tc A nS xs mM_X12_form 156 q_X12_form_156 := s_if_le (tgt := 160) (off := 4) (by decide +kernel) (by decide) ok_X12_form_160 s_none
theorem ok_X12_form_153 : zOK l D tc A nS xs mM_X12_form 153 q_X12_form_153 := r_getf kls_12 (by decide) tx_12_40 rfl w_775 (by decide +kernel) ok_X12_form_156
theorem ok_X12_form_152 : zOK l D tc A nS xs mM_X12_form 152 q_X12_form_152 := s_aload_n (q := 0) rfl (by decide +kernel) (by decide +kernel) ok_X12_form_153
theorem ok_X12_form_129 : zOK l D tc A nS xs mM_X12_form 129 q_X12_form_129 := s_if_eq (tgt := 13) (off := (-116)) (by decide +kernel) (by decide) (s_back lb_207) s_none
theorem ok_X12_form_127 : zOK l D tc A nS xs mM_X12_form 127 q_X12_form_127 := s_iload (by decide +kernel) (by decide +kernel) ok_X12_form_129
theorem ok_X12_form_125 : zOK l D tc A nS xs mM_X12_form 125 q_X12_form_125 := s_istore (by decide +kernel) (by decide +kernel) ok_X12_form_127
theorem ok_X12_form_124 : zOK l D tc A nS xs mM_X12_form 124 q_X12_form_124 := s_iconst (n := 0) (by decide) (by decide +kernel) (by decide +kernel) ok_X12_form_125
theorem ok_X12_form_117 : zOK l D tc A nS xs mM_X12_form 117 q_X12_form_117 := s_icmp_ne (tgt := 124) (off := 7) (by decide +kernel) (by decide) ok_X12_form_124 s_none
theorem ok_X12_form_116 : zOK l D tc A nS xs mM_X12_form 116 q_X12_form_116 := s_iconst (n := 2) (by decide) (by decide +kernel) (by decide +kernel) ok_X12_form_117
theorem ok_X12_form_113 : zOK l D tc A nS xs mM_X12_form 113 q_X12_form_113 := r_getf kls_12 (by decide) tx_12_71 rfl w_798 (by decide +kernel) ok_X12_form_116
theorem ok_X12_form_112 : zOK l D tc A nS xs mM_X12_form 112 q_X12_form_112 := s_aload_n (q := 0) rfl (by decide +kernel) (by decide +kernel) ok_X12_form_113
theorem ok_X12_form_109 : zOK l D tc A nS xs mM_X12_form 109 q_X12_form_109 := s_if_eq (tgt := 124) (off := 15) (by decide +kernel) (by decide) ok_X12_form_124 ok_X12_form_112
theorem ok_X12_form_107 : zOK l D tc A nS xs mM_X12_form 107 q_X12_form_107 := s_iload (by decide +kernel) (by decide +kernel) ok_X12_form_109
theorem ok_X12_form_105 : zOK l D tc A nS xs mM_X12_form 105 q_X12_form_105 := s_istore (by decide +kernel) (by decide +kernel) ok_X12_form_107
theorem ok_X12_form_101 : zOK l D tc A nS xs mM_X12_form 101 q_X12_form_101 := s_goto (tgt := 105) (off := 4) (by decide +kernel) (by decide) ok_X12_form_105
theorem ok_X12_form_98 : zOK l D tc A nS xs mM_X12_form 98 q_X12_form_98 := r_getf kls_12 (by decide) tx_12_72 rfl w_799 (by decide +kernel) ok_X12_form_101
theorem ok_X12_form_97 : zOK l D tc A nS xs mM_X12_form 97 q_X12_form_97 := s_aload_n (q := 0) rfl (by decide +kernel) (by decide +kernel) ok_X12_form_98
theorem ok_X12_form_94 : zOK l D tc A nS xs mM_X12_form 94 q_X12_form_94 := s_icmp_ne (tgt := 104) (off := 10) (by decide +kernel) (by decide) s_none ok_X12_form_97
theorem ok_X12_form_93 : zOK l D tc A nS xs mM_X12_form 93 q_X12_form_93 := s_iconst (n := 3) (by decide) (by decide +kernel) (by decide +kernel) ok_X12_form_94
theorem ok_X12_form_90 : zOK l D tc A nS xs mM_X12_form 90 q_X12_form_90 := r_getf kls_12 (by decide) tx_12_71 rfl w_798 (by decide +kernel) ok_X12_form_93
theorem ok_X12_form_89 : zOK l D tc A nS xs mM_X12_form 89 q_X12_form_89 := s_aload_n (q := 0) rfl (by decide +kernel) (by decide +kernel) ok_X12_form_90
theorem ok_X12_form_86 : zOK l D tc A nS xs mM_X12_form 86 q_X12_form_86 := s_if_eq (tgt := 104) (off := 18) (by decide +kernel) (by decide) s_none ok_X12_form_89
theorem ok_X12_form_84 : zOK l D tc A nS xs mM_X12_form 84 q_X12_form_84 := s_iload (by decide +kernel) (by decide +kernel) ok_X12_form_86
theorem ok_X12_form_81 : zOK l D tc A nS xs mM_X12_form 81 q_X12_form_81 := r_callV zEE_ok zTw_gd kls_12 (M2 := mM_X12_means) (na := 2) lb_246 calV_X12_means rfl rfl w_800 (by decide +kernel) ok_X12_form_84
theorem ok_X12_form_80 : zOK l D tc A nS xs mM_X12_form 80 q_X12_form_80 := s_iconst (n := (-1)) (by decide) (by decide +kernel) (by decide +kernel) ok_X12_form_81
theorem ok_X12_form_79 : zOK l D tc A nS xs mM_X12_form 79 q_X12_form_79 := s_iald (t0 := 0) (by decide) (by decide) rfl (by decide +kernel) ok_X12_form_80
theorem ok_X12_form_78 : zOK l D tc A nS xs mM_X12_form 78 q_X12_form_78 := s_iald (t0 := 0) (by decide) (by decide) rfl (by decide +kernel) ok_X12_form_79
theorem ok_X12_form_77 : zOK l D tc A nS xs mM_X12_form 77 q_X12_form_77 := s_iload_n (q := 2) rfl (by decide +kernel) (by decide +kernel) ok_X12_form_78
theorem ok_X12_form_74 : zOK l D tc A nS xs mM_X12_form 74 q_X12_form_74 := r_getf kls_12 (by decide) tx_12_34 rfl w_701 (by decide +kernel) ok_X12_form_77
theorem ok_X12_form_73 : zOK l D tc A nS xs mM_X12_form 73 q_X12_form_73 := s_aload_n (q := 0) rfl (by decide +kernel) (by decide +kernel) ok_X12_form_74
theorem ok_X12_form_70 : zOK l D tc A nS xs mM_X12_form 70 q_X12_form_70 := r_getf kls_12 (by decide) tx_12_34 rfl w_701 (by decide +kernel) ok_X12_form_73
theorem ok_X12_form_69 : zOK l D tc A nS xs mM_X12_form 69 q_X12_form_69 := s_aload_n (q := 0) rfl (by decide +kernel) (by decide +kernel) ok_X12_form_70
theorem ok_X12_form_68 : zOK l D tc A nS xs mM_X12_form 68 q_X12_form_68 := s_aload_n (q := 0) rfl (by decide +kernel) (by decide +kernel) ok_X12_form_69
theorem ok_X12_form_65 : zOK l D tc A nS xs mM_X12_form 65 q_X12_form_65 := s_if_eq (tgt := 84) (off := 19) (by decide +kernel) (by decide) ok_X12_form_84 ok_X12_form_68
theorem ok_X12_form_63 : zOK l D tc A nS xs mM_X12_form 63 q_X12_form_63 := s_iload (by decide +kernel) (by decide +kernel) ok_X12_form_65
theorem ok_X12_form_61 : zOK l D tc A nS xs mM_X12_form 61 q_X12_form_61 := s_istore (by decide +kernel) (by decide +kernel) ok_X12_form_63
theorem ok_X12_form_57 : zOK l D tc A nS xs mM_X12_form 57 q_X12_form_57 := s_goto (tgt := 61) (off := 4) (by decide +kernel) (by decide) ok_X12_form_61
theorem ok_X12_form_56 : zOK l D tc A nS xs mM_X12_form 56 q_X12_form_56 := s_iconst (n := 1) (by decide) (by decide +kernel) (by decide +kernel) ok_X12_form_57
theorem ok_X12_form_53 : zOK l D tc A nS xs mM_X12_form 53 q_X12_form_53 := s_if_eq (tgt := 60) (off := 7) (by decide +kernel) (by decide) s_none ok_X12_form_56
theorem ok_X12_form_50 : zOK l D tc A nS xs mM_X12_form 50 q_X12_form_50 := r_callV zEE_ok zTw_gd kls_12 (M2 := mM_X12_isName) (na := 1) lb_225 calV_X12_isName rfl rfl w_698 (by decide +kernel) ok_X12_form_53
theorem ok_X12_form_49 : zOK l D tc A nS xs mM_X12_form 49 q_X12_form_49 := s_iald (t0 := 0) (by decide) (by decide) rfl (by decide +kernel) ok_X12_form_50
theorem ok_X12_form_48 : zOK l D tc A nS xs mM_X12_form 48 q_X12_form_48 := s_iload_n (q := 2) rfl (by decide +kernel) (by decide +kernel) ok_X12_form_49
theorem ok_X12_form_45 : zOK l D tc A nS xs mM_X12_form 45 q_X12_form_45 := r_getf kls_12 (by decide) tx_12_34 rfl w_701 (by decide +kernel) ok_X12_form_48
theorem ok_X12_form_44 : zOK l D tc A nS xs mM_X12_form 44 q_X12_form_44 := s_aload_n (q := 0) rfl (by decide +kernel) (by decide +kernel) ok_X12_form_45
theorem ok_X12_form_43 : zOK l D tc A nS xs mM_X12_form 43 q_X12_form_43 := s_aload_n (q := 0) rfl (by decide +kernel) (by decide +kernel) ok_X12_form_44
theorem ok_X12_form_40 : zOK l D tc A nS xs mM_X12_form 40 q_X12_form_40 := s_if_le (tgt := 60) (off := 20) (by decide +kernel) (by decide) s_none ok_X12_form_43
theorem ok_X12_form_37 : zOK l D tc A nS xs mM_X12_form 37 q_X12_form_37 := r_callV zEE_ok zTw_gd kls_12 (M2 := mM_X12_length) (na := 1) lb_237 calV_X12_length rfl rfl w_704 (by decide +kernel) ok_X12_form_40
theorem ok_X12_form_36 : zOK l D tc A nS xs mM_X12_form 36 q_X12_form_36 := s_iload_n (q := 2) rfl (by decide +kernel) (by decide +kernel) ok_X12_form_37
theorem ok_X12_form_35 : zOK l D tc A nS xs mM_X12_form 35 q_X12_form_35 := s_aload_n (q := 0) rfl (by decide +kernel) (by decide +kernel) ok_X12_form_36
theorem ok_X12_form_32 : zOK l D tc A nS xs mM_X12_form 32 q_X12_form_32 := s_icmp_ne (tgt := 60) (off := 28) (by decide +kernel) (by decide) s_none ok_X12_form_35
theorem ok_X12_form_31 : zOK l D tc A nS xs mM_X12_form 31 q_X12_form_31 := s_iconst (n := 5) (by decide) (by decide +kernel) (by decide +kernel) ok_X12_form_32
theorem ok_X12_form_30 : zOK l D tc A nS xs mM_X12_form 30 q_X12_form_30 := s_iald (t0 := 0) (by decide) (by decide) rfl (by decide +kernel) ok_X12_form_31
theorem ok_X12_form_29 : zOK l D tc A nS xs mM_X12_form 29 q_X12_form_29 := s_iload_n (q := 2) rfl (by decide +kernel) (by decide +kernel) ok_X12_form_30
theorem ok_X12_form_26 : zOK l D tc A nS xs mM_X12_form 26 q_X12_form_26 := r_getf kls_12 (by decide) tx_12_33 rfl w_702 (by decide +kernel) ok_X12_form_29
theorem ok_X12_form_25 : zOK l D tc A nS xs mM_X12_form 25 q_X12_form_25 := s_aload_n (q := 0) rfl (by decide +kernel) (by decide +kernel) ok_X12_form_26
theorem ok_X12_form_22 : zOK l D tc A nS xs mM_X12_form 22 q_X12_form_22 := s_if_ne (tgt := 152) (off := 130) (by decide +kernel) (by decide) ok_X12_form_152 ok_X12_form_25
theorem ok_X12_form_19 : zOK l D tc A nS xs mM_X12_form 19 q_X12_form_19 := r_getf kls_12 (by decide) tx_12_40 rfl w_775 (by decide +kernel) ok_X12_form_22
theorem ok_X12_form_18 : zOK l D tc A nS xs mM_X12_form 18 q_X12_form_18 := s_aload_n (q := 0) rfl (by decide +kernel) (by decide +kernel) ok_X12_form_19
theorem ok_X12_form_15 : zOK l D tc A nS xs mM_X12_form 15 q_X12_form_15 := s_if_eq (tgt := 152) (off := 137) (by decide +kernel) (by decide) ok_X12_form_152 ok_X12_form_18
theorem ok_X12_form_13 : zOK l D tc A nS xs mM_X12_form 13 q_X12_form_13 := s_iload (by decide +kernel) (by decide +kernel) ok_X12_form_15
theorem ok_X12_form_11 : zOK l D tc A nS xs mM_X12_form 11 q_X12_form_11 := s_istore (by decide +kernel) (by decide +kernel) ok_X12_form_13
theorem ok_X12_form_10 : zOK l D tc A nS xs mM_X12_form 10 q_X12_form_10 := s_iconst (n := (-1)) (by decide) (by decide +kernel) (by decide +kernel) ok_X12_form_11
theorem ok_X12_form_8 : zOK l D tc A nS xs mM_X12_form 8 q_X12_form_8 := s_istore (by decide +kernel) (by decide +kernel) ok_X12_form_10
theorem ok_X12_form_7 : zOK l D tc A nS xs mM_X12_form 7 q_X12_form_7 := s_iconst (n := 1) (by decide) (by decide +kernel) (by decide +kernel) ok_X12_form_8
theorem ok_X12_form_6 : zOK l D tc A nS xs mM_X12_form 6 q_X12_form_6 := s_istore_n (q := 3) rfl (by decide +kernel) (by decide +kernel) ok_X12_form_7
theorem ok_X12_form_3 : zOK l D tc A nS xs mM_X12_form 3 q_X12_form_3 := r_getf kls_12 (by decide) tx_12_10 rfl w_803 (by decide +kernel) ok_X12_form_6
theorem ok_X12_form_2 : zOK l D tc A nS xs mM_X12_form 2 q_X12_form_2 := s_aload_n (q := 0) rfl (by decide +kernel) (by decide +kernel) ok_X12_form_3
theorem ok_X12_form_1 : zOK l D tc A nS xs mM_X12_form 1 q_X12_form_1 := s_istore_n (q := 2) rfl (by decide +kernel) (by decide +kernel) ok_X12_form_2
theorem ok_X12_form_0 : zOK l D tc A nS xs mM_X12_form 0 q_X12_form_0 := s_iload_n (q := 1) rfl (by decide +kernel) (by decide +kernel) ok_X12_form_1
theorem ok_X12_gathers_187 : zOK l D tc A nS xs mM_X12_gathers 187 q_X12_gathers_187 := s_zret rfl (by decide +kernel)
theorem ok_X12_gathers_186 : zOK l D tc A nS xs mM_X12_gathers 186 q_X12_gathers_186 := s_iconst (n := 1) (by decide) (by decide +kernel) (by decide +kernel) ok_X12_gathers_187
theorem ok_X12_gathers_183 : zOK l D tc A nS xs mM_X12_gathers 183 q_X12_gathers_183 := r_putf kls_12 ty_12_76 zck_int (by decide) tx_12_76 rfl w_703 (by decide +kernel) ok_X12_gathers_186
theorem ok_X12_gathers_182 : zOK l D tc A nS xs mM_X12_gathers 182 q_X12_gathers_182 := s_iadd (by decide +kernel) ok_X12_gathers_183
theorem ok_X12_gathers_181 : zOK l D tc A nS xs mM_X12_gathers 181 q_X12_gathers_181 := s_iconst (n := 1) (by decide) (by decide +kernel) (by decide +kernel) ok_X12_gathers_182
theorem ok_X12_gathers_178 : zOK l D tc A nS xs mM_X12_gathers 178 q_X12_gathers_178 := r_getf kls_12 (by decide) tx_12_76 rfl w_703 (by decide +kernel) ok_X12_gathers_181
theorem ok_X12_gathers_177 : zOK l D tc A nS xs mM_X12_gathers 177 q_X12_gathers_177 := s_dup (by decide +kernel) ok_X12_gathers_178
theorem ok_X12_gathers_176 : zOK l D tc A nS xs mM_X12_gathers 176 q_X12_gathers_176 := s_aload_n (q := 0) rfl (by decide +kernel) (by decide +kernel) ok_X12_gathers_177
theorem ok_X12_gathers_175 : zOK l D tc A nS xs mM_X12_gathers 175 q_X12_gathers_175 := s_iast (t0 := 0) (by decide) (by decide) rfl (by decide +kernel) ok_X12_gathers_176
theorem ok_X12_gathers_174 : zOK l D tc A nS xs mM_X12_gathers 174 q_X12_gathers_174 := s_iload_n (q := 2) rfl (by decide +kernel) (by decide +kernel) ok_X12_gathers_175
theorem ok_X12_gathers_171 : zOK l D tc A nS xs mM_X12_gathers 171 q_X12_gathers_171 := r_getf kls_12 (by decide) tx_12_76 rfl w_703 (by decide +kernel) ok_X12_gathers_174
theorem ok_X12_gathers_170 : zOK l D tc A nS xs mM_X12_gathers 170 q_X12_gathers_170 := s_aload_n (q := 0) rfl (by decide +kernel) (by decide +kernel) ok_X12_gathers_171
theorem ok_X12_gathers_167 : zOK l D tc A nS xs mM_X12_gathers 167 q_X12_gathers_167 := r_getf kls_12 (by decide) tx_12_75 rfl w_804 (by decide +kernel) ok_X12_gathers_170
theorem ok_X12_gathers_166 : zOK l D tc A nS xs mM_X12_gathers 166 q_X12_gathers_166 := s_aload_n (q := 0) rfl (by decide +kernel) (by decide +kernel) ok_X12_gathers_167
theorem ok_X12_gathers_165 : zOK l D tc A nS xs mM_X12_gathers 165 q_X12_gathers_165 := s_iast (t0 := 0) (by decide) (by decide) rfl (by decide +kernel) ok_X12_gathers_166
theorem ok_X12_gathers_163 : zOK l D tc A nS xs mM_X12_gathers 163 q_X12_gathers_163 := s_iload (by decide +kernel) (by decide +kernel) ok_X12_gathers_165
theorem ok_X12_gathers_160 : zOK l D tc A nS xs mM_X12_gathers 160 q_X12_gathers_160 := r_getf kls_12 (by decide) tx_12_76 rfl w_703 (by decide +kernel) ok_X12_gathers_163
theorem ok_X12_gathers_159 : zOK l D tc A nS xs mM_X12_gathers 159 q_X12_gathers_159 := s_aload_n (q := 0) rfl (by decide +kernel) (by decide +kernel) ok_X12_gathers_160
theorem ok_X12_gathers_156 : zOK l D tc A nS xs mM_X12_gathers 156 q_X12_gathers_156 := r_getf kls_12 (by decide) tx_12_74 rfl w_805 (by decide +kernel) ok_X12_gathers_159
theorem ok_X12_gathers_155 : zOK l D tc A nS xs mM_X12_gathers 155 q_X12_gathers_155 := s_aload_n (q := 0) rfl (by decide +kernel) (by decide +kernel) ok_X12_gathers_156
theorem ok_X12_gathers_150 : zOK l D tc A nS xs mM_X12_gathers 150 q_X12_gathers_150 := s_icmp_eq (tgt := 155) (off := 5) (by decide +kernel) (by decide) ok_X12_gathers_155 s_none
theorem ok_X12_gathers_149 : zOK l D tc A nS xs mM_X12_gathers 149 q_X12_gathers_149 := s_iconst (n := (-1)) (by decide) (by decide +kernel) (by decide +kernel) ok_X12_gathers_150
theorem ok_X12_gathers_146 : zOK l D tc A nS xs mM_X12_gathers 146 q_X12_gathers_146 := r_callV zEE_ok zTw_gd kls_12 (M2 := mM_X12_variableOf) (na := 1) lb_291 calV_X12_variableOf rfl rfl w_806 (by decide +kernel) ok_X12_gathers_149
theorem ok_X12_gathers_144 : zOK l D tc A nS xs mM_X12_gathers 144 q_X12_gathers_144 := s_iload (by decide +kernel) (by decide +kernel) ok_X12_gathers_146
theorem ok_X12_gathers_143 : zOK l D tc A nS xs mM_X12_gathers 143 q_X12_gathers_143 := s_aload_n (q := 0) rfl (by decide +kernel) (by decide +kernel) ok_X12_gathers_144
theorem ok_X12_gathers_142 : zOK l D tc A nS xs mM_X12_gathers 142 q_X12_gathers_142 := s_zret rfl (by decide +kernel)
theorem ok_X12_gathers_141 : zOK l D tc A nS xs mM_X12_gathers 141 q_X12_gathers_141 := s_iconst (n := 1) (by decide) (by decide +kernel) (by decide +kernel) ok_X12_gathers_142
theorem ok_X12_gathers_138 : zOK l D tc A nS xs mM_X12_gathers 138 q_X12_gathers_138 := s_if_eq (tgt := 143) (off := 5) (by decide +kernel) (by decide) ok_X12_gathers_143 ok_X12_gathers_141
theorem ok_X12_gathers_135 : zOK l D tc A nS xs mM_X12_gathers 135 q_X12_gathers_135 := r_callV zEE_ok zTw_gd kls_12 (M2 := mM_X12_isLiteral) (na := 1) lb_223 calV_X12_isLiteral rfl rfl w_809 (by decide +kernel) ok_X12_gathers_138
theorem ok_X12_gathers_133 : zOK l D tc A nS xs mM_X12_gathers 133 q_X12_gathers_133 := s_iload (by decide +kernel) (by decide +kernel) ok_X12_gathers_135
theorem ok_X12_gathers_132 : zOK l D tc A nS xs mM_X12_gathers 132 q_X12_gathers_132 := s_aload_n (q := 0) rfl (by decide +kernel) (by decide +kernel) ok_X12_gathers_133
theorem ok_X12_gathers_130 : zOK l D tc A nS xs mM_X12_gathers 130 q_X12_gathers_130 := s_istore (by decide +kernel) (by decide +kernel) ok_X12_gathers_132
theorem ok_X12_gathers_129 : zOK l D tc A nS xs mM_X12_gathers 129 q_X12_gathers_129 := s_iald (t0 := 0) (by decide) (by decide) rfl (by decide +kernel) ok_X12_gathers_130
theorem ok_X12_gathers_128 : zOK l D tc A nS xs mM_X12_gathers 128 q_X12_gathers_128 := s_iload_n (q := 3) rfl (by decide +kernel) (by decide +kernel) ok_X12_gathers_129
theorem ok_X12_gathers_125 : zOK l D tc A nS xs mM_X12_gathers 125 q_X12_gathers_125 := r_getf kls_12 (by decide) tx_12_34 rfl w_701 (by decide +kernel) ok_X12_gathers_128
theorem ok_X12_gathers_124 : zOK l D tc A nS xs mM_X12_gathers 124 q_X12_gathers_124 := s_aload_n (q := 0) rfl (by decide +kernel) (by decide +kernel) ok_X12_gathers_125
theorem ok_X12_gathers_119 : zOK l D tc A nS xs mM_X12_gathers 119 q_X12_gathers_119 := s_if_eq (tgt := 124) (off := 5) (by decide +kernel) (by decide) ok_X12_gathers_124 s_none
theorem ok_X12_gathers_116 : zOK l D tc A nS xs mM_X12_gathers 116 q_X12_gathers_116 := r_callV zEE_ok zTw_gd kls_12 (M2 := mM_X12_isDots) (na := 1) lb_221 calV_X12_isDots rfl rfl w_812 (by decide +kernel) ok_X12_gathers_119
theorem ok_X12_gathers_115 : zOK l D tc A nS xs mM_X12_gathers 115 q_X12_gathers_115 := s_iload_n (q := 3) rfl (by decide +kernel) (by decide +kernel) ok_X12_gathers_116
theorem ok_X12_gathers_114 : zOK l D tc A nS xs mM_X12_gathers 114 q_X12_gathers_114 := s_aload_n (q := 0) rfl (by decide +kernel) (by decide +kernel) ok_X12_gathers_115
theorem ok_X12_gathers_113 : zOK l D tc A nS xs mM_X12_gathers 113 q_X12_gathers_113 := s_zret rfl (by decide +kernel)
theorem ok_X12_gathers_112 : zOK l D tc A nS xs mM_X12_gathers 112 q_X12_gathers_112 := s_iconst (n := 1) (by decide) (by decide +kernel) (by decide +kernel) ok_X12_gathers_113
theorem ok_X12_gathers_109 : zOK l D tc A nS xs mM_X12_gathers 109 q_X12_gathers_109 := s_if_eq (tgt := 114) (off := 5) (by decide +kernel) (by decide) ok_X12_gathers_114 ok_X12_gathers_112
theorem ok_X12_gathers_106 : zOK l D tc A nS xs mM_X12_gathers 106 q_X12_gathers_106 := r_callV zEE_ok zTw_gd kls_12 (M2 := mM_X12_isNamed) (na := 2) lb_226 calV_X12_isNamed rfl rfl w_711 (by decide +kernel) ok_X12_gathers_109
theorem ok_X12_gathers_104 : zOK l D tc A nS xs mM_X12_gathers 104 q_X12_gathers_104 := s_bipush (n := 10) (by decide) (by decide +kernel) (by decide +kernel) ok_X12_gathers_106
theorem ok_X12_gathers_103 : zOK l D tc A nS xs mM_X12_gathers 103 q_X12_gathers_103 := s_iload_n (q := 3) rfl (by decide +kernel) (by decide +kernel) ok_X12_gathers_104
theorem ok_X12_gathers_102 : zOK l D tc A nS xs mM_X12_gathers 102 q_X12_gathers_102 := s_aload_n (q := 0) rfl (by decide +kernel) (by decide +kernel) ok_X12_gathers_103
theorem ok_X12_gathers_99 : zOK l D tc A nS xs mM_X12_gathers 99 q_X12_gathers_99 := s_if_eq (tgt := 112) (off := 13) (by decide +kernel) (by decide) ok_X12_gathers_112 ok_X12_gathers_102
theorem ok_X12_gathers_96 : zOK l D tc A nS xs mM_X12_gathers 96 q_X12_gathers_96 := r_callV zEE_ok zTw_gd kls_12 (M2 := mM_X12_isName) (na := 1) lb_225 calV_X12_isName rfl rfl w_698 (by decide +kernel) ok_X12_gathers_99
theorem ok_X12_gathers_95 : zOK l D tc A nS xs mM_X12_gathers 95 q_X12_gathers_95 := s_iload_n (q := 3) rfl (by decide +kernel) (by decide +kernel) ok_X12_gathers_96
theorem ok_X12_gathers_94 : zOK l D tc A nS xs mM_X12_gathers 94 q_X12_gathers_94 := s_aload_n (q := 0) rfl (by decide +kernel) (by decide +kernel) ok_X12_gathers_95
theorem ok_X12_gathers_91 : zOK l D tc A nS xs mM_X12_gathers 91 q_X12_gathers_91 := s_goto (tgt := 2) (off := (-89)) (by decide +kernel) (by decide) (s_back lb_209)
theorem ok_X12_gathers_90 : zOK l D tc A nS xs mM_X12_gathers 90 q_X12_gathers_90 := s_istore_n (q := 3) rfl (by decide +kernel) (by decide +kernel) ok_X12_gathers_91
theorem ok_X12_gathers_89 : zOK l D tc A nS xs mM_X12_gathers 89 q_X12_gathers_89 := s_iald (t0 := 0) (by decide) (by decide) rfl (by decide +kernel) ok_X12_gathers_90
theorem ok_X12_gathers_88 : zOK l D tc A nS xs mM_X12_gathers 88 q_X12_gathers_88 := s_iload_n (q := 3) rfl (by decide +kernel) (by decide +kernel) ok_X12_gathers_89
theorem ok_X12_gathers_85 : zOK l D tc A nS xs mM_X12_gathers 85 q_X12_gathers_85 := r_getf kls_12 (by decide) tx_12_35 rfl w_687 (by decide +kernel) ok_X12_gathers_88
theorem ok_X12_gathers_84 : zOK l D tc A nS xs mM_X12_gathers 84 q_X12_gathers_84 := s_aload_n (q := 0) rfl (by decide +kernel) (by decide +kernel) ok_X12_gathers_85
theorem ok_X12_gathers_83 : zOK l D tc A nS xs mM_X12_gathers 83 q_X12_gathers_83 := s_zret rfl (by decide +kernel)
theorem ok_X12_gathers_82 : zOK l D tc A nS xs mM_X12_gathers 82 q_X12_gathers_82 := s_iconst (n := 1) (by decide) (by decide +kernel) (by decide +kernel) ok_X12_gathers_83
theorem ok_X12_gathers_79 : zOK l D tc A nS xs mM_X12_gathers 79 q_X12_gathers_79 := s_if_eq (tgt := 84) (off := 5) (by decide +kernel) (by decide) ok_X12_gathers_84 ok_X12_gathers_82
theorem ok_X12_gathers_77 : zOK l D tc A nS xs mM_X12_gathers 77 q_X12_gathers_77 := s_iload (by decide +kernel) (by decide +kernel) ok_X12_gathers_79
theorem ok_X12_gathers_72 : zOK l D tc A nS xs mM_X12_gathers 72 q_X12_gathers_72 := s_if_ne (tgt := 77) (off := 5) (by decide +kernel) (by decide) ok_X12_gathers_77 s_none
theorem ok_X12_gathers_69 : zOK l D tc A nS xs mM_X12_gathers 69 q_X12_gathers_69 := r_callV zEE_ok zTw_gd kls_12 (M2 := mM_X12_gathers) (na := 2) lb_208 calV_X12_gathers rfl rfl w_695 (by decide +kernel) ok_X12_gathers_72
theorem ok_X12_gathers_68 : zOK l D tc A nS xs mM_X12_gathers 68 q_X12_gathers_68 := s_iadd (by decide +kernel) ok_X12_gathers_69
theorem ok_X12_gathers_67 : zOK l D tc A nS xs mM_X12_gathers 67 q_X12_gathers_67 := s_iconst (n := 0) (by decide) (by decide +kernel) (by decide +kernel) ok_X12_gathers_68
theorem ok_X12_gathers_64 : zOK l D tc A nS xs mM_X12_gathers 64 q_X12_gathers_64 := s_goto (tgt := 68) (off := 4) (by decide +kernel) (by decide) ok_X12_gathers_68
theorem ok_X12_gathers_63 : zOK l D tc A nS xs mM_X12_gathers 63 q_X12_gathers_63 := s_iconst (n := 1) (by decide) (by decide +kernel) (by decide +kernel) ok_X12_gathers_64
theorem ok_X12_gathers_60 : zOK l D tc A nS xs mM_X12_gathers 60 q_X12_gathers_60 := s_if_eq (tgt := 67) (off := 7) (by decide +kernel) (by decide) ok_X12_gathers_67 ok_X12_gathers_63
theorem ok_X12_gathers_58 : zOK l D tc A nS xs mM_X12_gathers 58 q_X12_gathers_58 := s_iload (by decide +kernel) (by decide +kernel) ok_X12_gathers_60
theorem ok_X12_gathers_57 : zOK l D tc A nS xs mM_X12_gathers 57 q_X12_gathers_57 := s_iload_n (q := 2) rfl (by decide +kernel) (by decide +kernel) ok_X12_gathers_58
theorem ok_X12_gathers_56 : zOK l D tc A nS xs mM_X12_gathers 56 q_X12_gathers_56 := s_iald (t0 := 0) (by decide) (by decide) rfl (by decide +kernel) ok_X12_gathers_57
theorem ok_X12_gathers_55 : zOK l D tc A nS xs mM_X12_gathers 55 q_X12_gathers_55 := s_iload_n (q := 3) rfl (by decide +kernel) (by decide +kernel) ok_X12_gathers_56
theorem ok_X12_gathers_52 : zOK l D tc A nS xs mM_X12_gathers 52 q_X12_gathers_52 := r_getf kls_12 (by decide) tx_12_34 rfl w_701 (by decide +kernel) ok_X12_gathers_55
theorem ok_X12_gathers_51 : zOK l D tc A nS xs mM_X12_gathers 51 q_X12_gathers_51 := s_aload_n (q := 0) rfl (by decide +kernel) (by decide +kernel) ok_X12_gathers_52
theorem ok_X12_gathers_50 : zOK l D tc A nS xs mM_X12_gathers 50 q_X12_gathers_50 := s_aload_n (q := 0) rfl (by decide +kernel) (by decide +kernel) ok_X12_gathers_51
theorem ok_X12_gathers_45 : zOK l D tc A nS xs mM_X12_gathers 45 q_X12_gathers_45 := s_if_eq (tgt := 50) (off := 5) (by decide +kernel) (by decide) ok_X12_gathers_50 s_none
theorem ok_X12_gathers_44 : zOK l D tc A nS xs mM_X12_gathers 44 q_X12_gathers_44 := s_iald (t0 := 0) (by decide) (by decide) rfl (by decide +kernel) ok_X12_gathers_45
theorem ok_X12_gathers_43 : zOK l D tc A nS xs mM_X12_gathers 43 q_X12_gathers_43 := s_iald (t0 := 0) (by decide) (by decide) rfl (by decide +kernel) ok_X12_gathers_44
theorem ok_X12_gathers_42 : zOK l D tc A nS xs mM_X12_gathers 42 q_X12_gathers_42 := s_iald (t0 := 0) (by decide) (by decide) rfl (by decide +kernel) ok_X12_gathers_43
theorem ok_X12_gathers_41 : zOK l D tc A nS xs mM_X12_gathers 41 q_X12_gathers_41 := s_iload_n (q := 3) rfl (by decide +kernel) (by decide +kernel) ok_X12_gathers_42
theorem ok_X12_gathers_38 : zOK l D tc A nS xs mM_X12_gathers 38 q_X12_gathers_38 := r_getf kls_12 (by decide) tx_12_35 rfl w_687 (by decide +kernel) ok_X12_gathers_41
theorem ok_X12_gathers_37 : zOK l D tc A nS xs mM_X12_gathers 37 q_X12_gathers_37 := s_aload_n (q := 0) rfl (by decide +kernel) (by decide +kernel) ok_X12_gathers_38
theorem ok_X12_gathers_34 : zOK l D tc A nS xs mM_X12_gathers 34 q_X12_gathers_34 := r_getf kls_12 (by decide) tx_12_35 rfl w_687 (by decide +kernel) ok_X12_gathers_37
theorem ok_X12_gathers_33 : zOK l D tc A nS xs mM_X12_gathers 33 q_X12_gathers_33 := s_aload_n (q := 0) rfl (by decide +kernel) (by decide +kernel) ok_X12_gathers_34
theorem ok_X12_gathers_30 : zOK l D tc A nS xs mM_X12_gathers 30 q_X12_gathers_30 := r_getf kls_12 (by decide) tx_12_33 rfl w_702 (by decide +kernel) ok_X12_gathers_33
theorem ok_X12_gathers_29 : zOK l D tc A nS xs mM_X12_gathers 29 q_X12_gathers_29 := s_aload_n (q := 0) rfl (by decide +kernel) (by decide +kernel) ok_X12_gathers_30
theorem ok_X12_gathers_26 : zOK l D tc A nS xs mM_X12_gathers 26 q_X12_gathers_26 := s_icmp_eq (tgt := 48) (off := 22) (by decide +kernel) (by decide) s_none ok_X12_gathers_29
theorem ok_X12_gathers_25 : zOK l D tc A nS xs mM_X12_gathers 25 q_X12_gathers_25 := s_iconst (n := 2) (by decide) (by decide +kernel) (by decide +kernel) ok_X12_gathers_26
theorem ok_X12_gathers_24 : zOK l D tc A nS xs mM_X12_gathers 24 q_X12_gathers_24 := s_iload_n (q := 2) rfl (by decide +kernel) (by decide +kernel) ok_X12_gathers_25
theorem ok_X12_gathers_21 : zOK l D tc A nS xs mM_X12_gathers 21 q_X12_gathers_21 := s_if_eq (tgt := 50) (off := 29) (by decide +kernel) (by decide) ok_X12_gathers_50 ok_X12_gathers_24
theorem ok_X12_gathers_19 : zOK l D tc A nS xs mM_X12_gathers 19 q_X12_gathers_19 := s_iload (by decide +kernel) (by decide +kernel) ok_X12_gathers_21
theorem ok_X12_gathers_17 : zOK l D tc A nS xs mM_X12_gathers 17 q_X12_gathers_17 := s_istore (by decide +kernel) (by decide +kernel) ok_X12_gathers_19
theorem ok_X12_gathers_14 : zOK l D tc A nS xs mM_X12_gathers 14 q_X12_gathers_14 := r_callV zEE_ok zTw_gd kls_12 (M2 := mM_X12_isDotted) (na := 1) lb_222 calV_X12_isDotted rfl rfl w_815 (by decide +kernel) ok_X12_gathers_17
theorem ok_X12_gathers_13 : zOK l D tc A nS xs mM_X12_gathers 13 q_X12_gathers_13 := s_iload_n (q := 3) rfl (by decide +kernel) (by decide +kernel) ok_X12_gathers_14
theorem ok_X12_gathers_12 : zOK l D tc A nS xs mM_X12_gathers 12 q_X12_gathers_12 := s_aload_n (q := 0) rfl (by decide +kernel) (by decide +kernel) ok_X12_gathers_13
theorem ok_X12_gathers_9 : zOK l D tc A nS xs mM_X12_gathers 9 q_X12_gathers_9 := s_icmp_ne (tgt := 94) (off := 85) (by decide +kernel) (by decide) ok_X12_gathers_94 ok_X12_gathers_12
theorem ok_X12_gathers_8 : zOK l D tc A nS xs mM_X12_gathers 8 q_X12_gathers_8 := s_iconst (n := 5) (by decide) (by decide +kernel) (by decide +kernel) ok_X12_gathers_9
theorem ok_X12_gathers_7 : zOK l D tc A nS xs mM_X12_gathers 7 q_X12_gathers_7 := s_iald (t0 := 0) (by decide) (by decide) rfl (by decide +kernel) ok_X12_gathers_8
theorem ok_X12_gathers_6 : zOK l D tc A nS xs mM_X12_gathers 6 q_X12_gathers_6 := s_iload_n (q := 3) rfl (by decide +kernel) (by decide +kernel) ok_X12_gathers_7
theorem ok_X12_gathers_3 : zOK l D tc A nS xs mM_X12_gathers 3 q_X12_gathers_3 := r_getf kls_12 (by decide) tx_12_33 rfl w_702 (by decide +kernel) ok_X12_gathers_6
theorem ok_X12_gathers_2 : zOK l D tc A nS xs mM_X12_gathers 2 q_X12_gathers_2 := s_aload_n (q := 0) rfl (by decide +kernel) (by decide +kernel) ok_X12_gathers_3
theorem ok_X12_gathers_1 : zOK l D tc A nS xs mM_X12_gathers 1 q_X12_gathers_1 := s_istore_n (q := 3) rfl (by decide +kernel) (by decide +kernel) ok_X12_gathers_2
theorem ok_X12_gathers_0 : zOK l D tc A nS xs mM_X12_gathers 0 q_X12_gathers_0 := s_iload_n (q := 1) rfl (by decide +kernel) (by decide +kernel) ok_X12_gathers_1
theorem ok_X12_go_56 : zOK l D tc A nS xs mM_X12_go 56 q_X12_go_56 := s_iret rfl (by decide +kernel)
theorem ok_X12_go_55 : zOK l D tc A nS xs mM_X12_go 55 q_X12_go_55 := s_iload_n (q := 2) rfl (by decide +kernel) (by decide +kernel) ok_X12_go_56
theorem ok_X12_go_52 : zOK l D tc A nS xs mM_X12_go 52 q_X12_go_52 := s_goto (tgt := 25) (off := (-27)) (by decide +kernel) (by decide) (s_back lb_211)
theorem ok_X12_go_49 : zOK l D tc A nS xs mM_X12_go 49 q_X12_go_49 := r_putf kls_12 ty_12_8 zck_int (by decide) tx_12_8 rfl w_818 (by decide +kernel) ok_X12_go_52
theorem ok_X12_go_48 : zOK l D tc A nS xs mM_X12_go 48 q_X12_go_48 := s_iadd (by decide +kernel) ok_X12_go_49
theorem ok_X12_go_47 : zOK l D tc A nS xs mM_X12_go 47 q_X12_go_47 := s_iconst (n := 1) (by decide) (by decide +kernel) (by decide +kernel) ok_X12_go_48
theorem ok_X12_go_44 : zOK l D tc A nS xs mM_X12_go 44 q_X12_go_44 := r_getf kls_12 (by decide) tx_12_8 rfl w_818 (by decide +kernel) ok_X12_go_47
theorem ok_X12_go_43 : zOK l D tc A nS xs mM_X12_go 43 q_X12_go_43 := s_dup (by decide +kernel) ok_X12_go_44
theorem ok_X12_go_42 : zOK l D tc A nS xs mM_X12_go 42 q_X12_go_42 := s_aload_n (q := 0) rfl (by decide +kernel) (by decide +kernel) ok_X12_go_43
theorem ok_X12_go_41 : zOK l D tc A nS xs mM_X12_go 41 q_X12_go_41 := s_istore_n (q := 2) rfl (by decide +kernel) (by decide +kernel) ok_X12_go_42
theorem ok_X12_go_38 : zOK l D tc A nS xs mM_X12_go 38 q_X12_go_38 := r_callV zEE_ok zTw_gd kls_12 (M2 := mM_X12_step) (na := 0) lb_278 calV_X12_step rfl rfl w_819 (by decide +kernel) ok_X12_go_41
theorem ok_X12_go_37 : zOK l D tc A nS xs mM_X12_go 37 q_X12_go_37 := s_aload_n (q := 0) rfl (by decide +kernel) (by decide +kernel) ok_X12_go_38
theorem ok_X12_go_34 : zOK l D tc A nS xs mM_X12_go 34 q_X12_go_34 := s_if_ne (tgt := 55) (off := 21) (by decide +kernel) (by decide) ok_X12_go_55 ok_X12_go_37
theorem ok_X12_go_33 : zOK l D tc A nS xs mM_X12_go 33 q_X12_go_33 := s_iload_n (q := 2) rfl (by decide +kernel) (by decide +kernel) ok_X12_go_34
theorem ok_X12_go_30 : zOK l D tc A nS xs mM_X12_go 30 q_X12_go_30 := s_icmp_ge (tgt := 55) (off := 25) (by decide +kernel) (by decide) ok_X12_go_55 ok_X12_go_33
theorem ok_X12_go_29 : zOK l D tc A nS xs mM_X12_go 29 q_X12_go_29 := s_iload_n (q := 1) rfl (by decide +kernel) (by decide +kernel) ok_X12_go_30
theorem ok_X12_go_26 : zOK l D tc A nS xs mM_X12_go 26 q_X12_go_26 := r_getf kls_12 (by decide) tx_12_8 rfl w_818 (by decide +kernel) ok_X12_go_29
theorem ok_X12_go_25 : zOK l D tc A nS xs mM_X12_go 25 q_X12_go_25 := s_aload_n (q := 0) rfl (by decide +kernel) (by decide +kernel) ok_X12_go_26
theorem ok_X12_go_22 : zOK l D tc A nS xs mM_X12_go 22 q_X12_go_22 := r_putf kls_12 ty_12_8 zck_int (by decide) tx_12_8 rfl w_818 (by decide +kernel) ok_X12_go_25
theorem ok_X12_go_21 : zOK l D tc A nS xs mM_X12_go 21 q_X12_go_21 := s_iconst (n := 0) (by decide) (by decide +kernel) (by decide +kernel) ok_X12_go_22
theorem ok_X12_go_20 : zOK l D tc A nS xs mM_X12_go 20 q_X12_go_20 := s_aload_n (q := 0) rfl (by decide +kernel) (by decide +kernel) ok_X12_go_21
theorem ok_X12_go_19 : zOK l D tc A nS xs mM_X12_go 19 q_X12_go_19 := s_istore_n (q := 2) rfl (by decide +kernel) (by decide +kernel) ok_X12_go_20
theorem ok_X12_go_18 : zOK l D tc A nS xs mM_X12_go 18 q_X12_go_18 := s_iconst (n := 0) (by decide) (by decide +kernel) (by decide +kernel) ok_X12_go_19
theorem ok_X12_go_15 : zOK l D tc A nS xs mM_X12_go 15 q_X12_go_15 := r_putf kls_12 ty_12_3 zck_int (by decide) tx_12_3 rfl w_822 (by decide +kernel) ok_X12_go_18
theorem ok_X12_go_14 : zOK l D tc A nS xs mM_X12_go 14 q_X12_go_14 := s_iconst (n := 1) (by decide) (by decide +kernel) (by decide +kernel) ok_X12_go_15
theorem ok_X12_go_13 : zOK l D tc A nS xs mM_X12_go 13 q_X12_go_13 := s_aload_n (q := 0) rfl (by decide +kernel) (by decide +kernel) ok_X12_go_14
theorem ok_X12_go_12 : zOK l D tc A nS xs mM_X12_go 12 q_X12_go_12 := s_iret rfl (by decide +kernel)
theorem ok_X12_go_11 : zOK l D tc A nS xs mM_X12_go 11 q_X12_go_11 := s_iconst (n := (-1)) (by decide) (by decide +kernel) (by decide +kernel) ok_X12_go_12
theorem ok_X12_go_8 : zOK l D tc A nS xs mM_X12_go 8 q_X12_go_8 := s_if_ne (tgt := 13) (off := 5) (by decide +kernel) (by decide) ok_X12_go_13 ok_X12_go_11
theorem ok_X12_go_5 : zOK l D tc A nS xs mM_X12_go 5 q_X12_go_5 := r_callS zEE_ok zTw_gd (M2 := mM_X12_in) lb_217 calS_X12_in rfl rfl w_771 (by decide +kernel) ok_X12_go_8
theorem ok_X12_go_2 : zOK l D tc A nS xs mM_X12_go 2 q_X12_go_2 := s_sipush (n := 5000) (by decide) (by decide +kernel) (by decide +kernel) ok_X12_go_5
theorem ok_X12_go_1 : zOK l D tc A nS xs mM_X12_go 1 q_X12_go_1 := s_iconst (n := 1) (by decide) (by decide +kernel) (by decide +kernel) ok_X12_go_2
theorem ok_X12_go_0 : zOK l D tc A nS xs mM_X12_go 0 q_X12_go_0 := s_iload_n (q := 1) rfl (by decide +kernel) (by decide +kernel) ok_X12_go_1
end ZRows
