/-! the run that knows the constructors, load() and reset() of a new object; first calls -/
noncomputable def zXt : zRec := (zme_A5 (zme_B16 (zme_C17 (zme_D19 (zme_E25 (zme_F36 zX0))))))
section
variable {l : Launch} {D : va_G} {tc : Nat → ClassId} {A : Nat → Prop} {nS : Nat} {xs : Nat → Int32}
theorem okXt : zOkR l D vwCl tc [(tc 100, .int), (tc 101, .boolean), (tc 102, .array .int)] A (zEE tc A nS xs) zTw zlab zXt := (zmo_A5 (zmo_B16 (zmo_C17 (zmo_D19 (zmo_E25 (zmo_F36 z_none_ok))))))
end
/-- a first call on both sides, one behind the other: the same answer -/
def zFst (n lx Lx lm Lm : Nat) : Prop := ∃ (r : Nat) (h1 h2 : zH), r < 4294967296 ∧ zrunX zXt 9 ztc (n + 60) 1679 lx Lx [] hbB16 = some ([r], h1) ∧ h1.1 = 129 ∧ (zget 8 h1.2.2 61).1 = 12 ∧ zrunX zXt 9 ztc (n + 60) 1679 lm Lm [] h1 = some ([r], h2) ∧ h2.1 = 129 ∧ h2.2.1 = 650610
theorem zmem2_hit {lb d0 L0 : Nat} {h0 : zH} {r : List Nat} {h1 : zH} {X : zRec} {L : Nat} {h : zH} (hL : Nat.beq L L0 = true) (hh : zheq2 h h0 = true) : zmem2 lb d0 L0 h0 r h1 X d0 lb L [] h = some (r, h1) := by
  show cond (Nat.beq lb lb) (cond (Nat.beq L L0) (cond (Nat.beq d0 d0) (cond (zheq2 h h0) (some (r, h1)) (X d0 lb L [] h)) (X d0 lb L [] h)) (X d0 lb L [] h)) (X d0 lb L [] h) = _
  rw [Nat.beq_refl, hL, Nat.beq_refl, hh]
  rfl
theorem zmem2_miss {lb d0 L0 : Nat} {h0 : zH} {r : List Nat} {h1 : zH} {X : zRec} {d lbl L : Nat} {S : List Nat} {h : zH} (hb : Nat.beq lbl lb = false) : zmem2 lb d0 L0 h0 r h1 X d lbl L S h = X d lbl L S h := by
  unfold zmem2
  rw [hb]
  rfl
theorem zrun_hit {n d lb L : Nat} {S : List Nat} {h : zH} {a : List Nat × zH} (e : zXt d lb L S h = some a) : zrunX zXt 9 ztc (n + 1) d lb L S h = some a := by
  show (Option.rec (motive := fun _ => zR) (zget 9 ztc lb (zrunX zXt 9 ztc n) d L S h) (fun a => some a) (zXt d lb L S h)) = some a
  rw [e]
theorem zrun_miss {n d lb L : Nat} {S : List Nat} {h : zH} {k : zK} (e : zXt d lb L S h = none) (hk : zget 9 ztc lb = k) : zrunX zXt 9 ztc (n + 1) d lb L S h = k (zrunX zXt 9 ztc n) d L S h := by
  show (Option.rec (motive := fun _ => zR) (zget 9 ztc lb (zrunX zXt 9 ztc n) d L S h) (fun a => some a) (zXt d lb L S h)) = _
  rw [e, hk]
theorem zXt_none {d lb L : Nat} {S : List Nat} {h : zH} (hb : Nat.beq lb 152 = false ∧ Nat.beq lb 218 = false ∧ Nat.beq lb 156 = false ∧ Nat.beq lb 241 = false ∧ Nat.beq lb 165 = false ∧ Nat.beq lb 258 = false) : zXt d lb L S h = none := (zmem2_miss hb.1).trans ((zmem2_miss hb.2.1).trans ((zmem2_miss hb.2.2.1).trans ((zmem2_miss hb.2.2.2.1).trans ((zmem2_miss hb.2.2.2.2.1).trans ((zmem2_miss hb.2.2.2.2.2).trans (rfl))))))
theorem zc_30 : zget 9 ztc 30 = q_X1_kind_0 := rfl
theorem ca_30 {n d L : Nat} {S : List Nat} {h : zH} : zrunX zXt 9 ztc (n + 1) d 30 L S h = q_X1_kind_0 (zrunX zXt 9 ztc n) d L S h := zrun_miss (zXt_none (by decide)) zc_30
theorem zc_39 : zget 9 ztc 39 = q_X2_letterOf_0 := rfl
theorem ca_39 {n d L : Nat} {S : List Nat} {h : zH} : zrunX zXt 9 ztc (n + 1) d 39 L S h = q_X2_letterOf_0 (zrunX zXt 9 ztc n) d L S h := zrun_miss (zXt_none (by decide)) zc_39
theorem zc_44 : zget 9 ztc 44 = q_X3_at_0 := rfl
theorem ca_44 {n d L : Nat} {S : List Nat} {h : zH} : zrunX zXt 9 ztc (n + 1) d 44 L S h = q_X3_at_0 (zrunX zXt 9 ztc n) d L S h := zrun_miss (zXt_none (by decide)) zc_44
theorem zc_46 : zget 9 ztc 46 = q_X3_holds_0 := rfl
theorem ca_46 {n d L : Nat} {S : List Nat} {h : zH} : zrunX zXt 9 ztc (n + 1) d 46 L S h = q_X3_holds_0 (zrunX zXt 9 ztc n) d L S h := zrun_miss (zXt_none (by decide)) zc_46
theorem zc_48 : zget 9 ztc 48 = q_X3_low_0 := rfl
theorem ca_48 {n d L : Nat} {S : List Nat} {h : zH} : zrunX zXt 9 ztc (n + 1) d 48 L S h = q_X3_low_0 (zrunX zXt 9 ztc n) d L S h := zrun_miss (zXt_none (by decide)) zc_48
theorem zc_49 : zget 9 ztc 49 = q_X3_put_0 := rfl
theorem ca_49 {n d L : Nat} {S : List Nat} {h : zH} : zrunX zXt 9 ztc (n + 1) d 49 L S h = q_X3_put_0 (zrunX zXt 9 ztc n) d L S h := zrun_miss (zXt_none (by decide)) zc_49
theorem zc_50 : zget 9 ztc 50 = q_X3_putFlags_0 := rfl
theorem ca_50 {n d L : Nat} {S : List Nat} {h : zH} : zrunX zXt 9 ztc (n + 1) d 50 L S h = q_X3_putFlags_0 (zrunX zXt 9 ztc n) d L S h := zrun_miss (zXt_none (by decide)) zc_50
theorem zc_51 : zget 9 ztc 51 = q_X3_step_0 := rfl
theorem ca_51 {n d L : Nat} {S : List Nat} {h : zH} : zrunX zXt 9 ztc (n + 1) d 51 L S h = q_X3_step_0 (zrunX zXt 9 ztc n) d L S h := zrun_miss (zXt_none (by decide)) zc_51
theorem zc_52 : zget 9 ztc 52 = q_X3_told_0 := rfl
theorem ca_52 {n d L : Nat} {S : List Nat} {h : zH} : zrunX zXt 9 ztc (n + 1) d 52 L S h = q_X3_told_0 (zrunX zXt 9 ztc n) d L S h := zrun_miss (zXt_none (by decide)) zc_52
theorem zc_89 : zget 9 ztc 89 = q_X6_offer_0 := rfl
theorem ca_89 {n d L : Nat} {S : List Nat} {h : zH} : zrunX zXt 9 ztc (n + 1) d 89 L S h = q_X6_offer_0 (zrunX zXt 9 ztc n) d L S h := zrun_miss (zXt_none (by decide)) zc_89
theorem zc_90 : zget 9 ztc 90 = q_X6_proceed_0 := rfl
theorem ca_90 {n d L : Nat} {S : List Nat} {h : zH} : zrunX zXt 9 ztc (n + 1) d 90 L S h = q_X6_proceed_0 (zrunX zXt 9 ztc n) d L S h := zrun_miss (zXt_none (by decide)) zc_90
theorem zc_102 : zget 9 ztc 102 = q_X8_begin_0 := rfl
theorem ca_102 {n d L : Nat} {S : List Nat} {h : zH} : zrunX zXt 9 ztc (n + 1) d 102 L S h = q_X8_begin_0 (zrunX zXt 9 ztc n) d L S h := zrun_miss (zXt_none (by decide)) zc_102
theorem zc_105 : zget 9 ztc 105 = q_X8_mark_0 := rfl
theorem ca_105 {n d L : Nat} {S : List Nat} {h : zH} : zrunX zXt 9 ztc (n + 1) d 105 L S h = q_X8_mark_0 (zrunX zXt 9 ztc n) d L S h := zrun_miss (zXt_none (by decide)) zc_105
theorem zc_106 : zget 9 ztc 106 = q_X8_part_0 := rfl
theorem ca_106 {n d L : Nat} {S : List Nat} {h : zH} : zrunX zXt 9 ztc (n + 1) d 106 L S h = q_X8_part_0 (zrunX zXt 9 ztc n) d L S h := zrun_miss (zXt_none (by decide)) zc_106
theorem zc_107 : zget 9 ztc 107 = q_X8_render_0 := rfl
theorem ca_107 {n d L : Nat} {S : List Nat} {h : zH} : zrunX zXt 9 ztc (n + 1) d 107 L S h = q_X8_render_0 (zrunX zXt 9 ztc n) d L S h := zrun_miss (zXt_none (by decide)) zc_107
theorem zc_146 : zget 9 ztc 146 = q_X11_end_0 := rfl
theorem ca_146 {n d L : Nat} {S : List Nat} {h : zH} : zrunX zXt 9 ztc (n + 1) d 146 L S h = q_X11_end_0 (zrunX zXt 9 ztc n) d L S h := zrun_miss (zXt_none (by decide)) zc_146
theorem zc_147 : zget 9 ztc 147 = q_X11_fault_0 := rfl
theorem ca_147 {n d L : Nat} {S : List Nat} {h : zH} : zrunX zXt 9 ztc (n + 1) d 147 L S h = q_X11_fault_0 (zrunX zXt 9 ztc n) d L S h := zrun_miss (zXt_none (by decide)) zc_147
theorem zc_148 : zget 9 ztc 148 = q_X11_feed_0 := rfl
theorem ca_148 {n d L : Nat} {S : List Nat} {h : zH} : zrunX zXt 9 ztc (n + 1) d 148 L S h = q_X11_feed_0 (zrunX zXt 9 ztc n) d L S h := zrun_miss (zXt_none (by decide)) zc_148
theorem zc_149 : zget 9 ztc 149 = q_X11_go_0 := rfl
theorem ca_149 {n d L : Nat} {S : List Nat} {h : zH} : zrunX zXt 9 ztc (n + 1) d 149 L S h = q_X11_go_0 (zrunX zXt 9 ztc n) d L S h := zrun_miss (zXt_none (by decide)) zc_149
theorem zc_150 : zget 9 ztc 150 = q_X11_go_23 := rfl
theorem ca_150 {n d L : Nat} {S : List Nat} {h : zH} : zrunX zXt 9 ztc (n + 1) d 150 L S h = q_X11_go_23 (zrunX zXt 9 ztc n) d L S h := zrun_miss (zXt_none (by decide)) zc_150
theorem zc_151 : zget 9 ztc 151 = q_X11_held_0 := rfl
theorem ca_151 {n d L : Nat} {S : List Nat} {h : zH} : zrunX zXt 9 ztc (n + 1) d 151 L S h = q_X11_held_0 (zrunX zXt 9 ztc n) d L S h := zrun_miss (zXt_none (by decide)) zc_151
theorem zc_153 : zget 9 ztc 153 = q_X11_input_0 := rfl
theorem ca_153 {n d L : Nat} {S : List Nat} {h : zH} : zrunX zXt 9 ztc (n + 1) d 153 L S h = q_X11_input_0 (zrunX zXt 9 ztc n) d L S h := zrun_miss (zXt_none (by decide)) zc_153
theorem zc_154 : zget 9 ztc 154 = q_X11_isPrimitive_0 := rfl
theorem ca_154 {n d L : Nat} {S : List Nat} {h : zH} : zrunX zXt 9 ztc (n + 1) d 154 L S h = q_X11_isPrimitive_0 (zrunX zXt 9 ztc n) d L S h := zrun_miss (zXt_none (by decide)) zc_154
theorem zc_155 : zget 9 ztc 155 = q_X11_letter_0 := rfl
theorem ca_155 {n d L : Nat} {S : List Nat} {h : zH} : zrunX zXt 9 ztc (n + 1) d 155 L S h = q_X11_letter_0 (zrunX zXt 9 ztc n) d L S h := zrun_miss (zXt_none (by decide)) zc_155
theorem zc_158 : zget 9 ztc 158 = q_X11_look_0 := rfl
theorem ca_158 {n d L : Nat} {S : List Nat} {h : zH} : zrunX zXt 9 ztc (n + 1) d 158 L S h = q_X11_look_0 (zrunX zXt 9 ztc n) d L S h := zrun_miss (zXt_none (by decide)) zc_158
theorem zc_159 : zget 9 ztc 159 = q_X11_out_0 := rfl
theorem ca_159 {n d L : Nat} {S : List Nat} {h : zH} : zrunX zXt 9 ztc (n + 1) d 159 L S h = q_X11_out_0 (zrunX zXt 9 ztc n) d L S h := zrun_miss (zXt_none (by decide)) zc_159
theorem zc_160 : zget 9 ztc 160 = q_X11_peek_0 := rfl
theorem ca_160 {n d L : Nat} {S : List Nat} {h : zH} : zrunX zXt 9 ztc (n + 1) d 160 L S h = q_X11_peek_0 (zrunX zXt 9 ztc n) d L S h := zrun_miss (zXt_none (by decide)) zc_160
theorem zc_161 : zget 9 ztc 161 = q_X11_poke_0 := rfl
theorem ca_161 {n d L : Nat} {S : List Nat} {h : zH} : zrunX zXt 9 ztc (n + 1) d 161 L S h = q_X11_poke_0 (zrunX zXt 9 ztc n) d L S h := zrun_miss (zXt_none (by decide)) zc_161
theorem zc_164 : zget 9 ztc 164 = q_X11_register_0 := rfl
theorem ca_164 {n d L : Nat} {S : List Nat} {h : zH} : zrunX zXt 9 ztc (n + 1) d 164 L S h = q_X11_register_0 (zrunX zXt 9 ztc n) d L S h := zrun_miss (zXt_none (by decide)) zc_164
theorem zc_166 : zget 9 ztc 166 = q_X11_run_0 := rfl
theorem ca_166 {n d L : Nat} {S : List Nat} {h : zH} : zrunX zXt 9 ztc (n + 1) d 166 L S h = q_X11_run_0 (zrunX zXt 9 ztc n) d L S h := zrun_miss (zXt_none (by decide)) zc_166
theorem zc_167 : zget 9 ztc 167 = q_X11_set_0 := rfl
theorem ca_167 {n d L : Nat} {S : List Nat} {h : zH} : zrunX zXt 9 ztc (n + 1) d 167 L S h = q_X11_set_0 (zrunX zXt 9 ztc n) d L S h := zrun_miss (zXt_none (by decide)) zc_167
theorem zc_168 : zget 9 ztc 168 = q_X11_shown_0 := rfl
theorem ca_168 {n d L : Nat} {S : List Nat} {h : zH} : zrunX zXt 9 ztc (n + 1) d 168 L S h = q_X11_shown_0 (zrunX zXt 9 ztc n) d L S h := zrun_miss (zXt_none (by decide)) zc_168
theorem zc_172 : zget 9 ztc 172 = q_X11_tapeFour_0 := rfl
theorem ca_172 {n d L : Nat} {S : List Nat} {h : zH} : zrunX zXt 9 ztc (n + 1) d 172 L S h = q_X11_tapeFour_0 (zrunX zXt 9 ztc n) d L S h := zrun_miss (zXt_none (by decide)) zc_172
theorem zc_173 : zget 9 ztc 173 = q_X11_tapeFour_3 := rfl
theorem ca_173 {n d L : Nat} {S : List Nat} {h : zH} : zrunX zXt 9 ztc (n + 1) d 173 L S h = q_X11_tapeFour_3 (zrunX zXt 9 ztc n) d L S h := zrun_miss (zXt_none (by decide)) zc_173
theorem zc_174 : zget 9 ztc 174 = q_X11_word_0 := rfl
theorem ca_174 {n d L : Nat} {S : List Nat} {h : zH} : zrunX zXt 9 ztc (n + 1) d 174 L S h = q_X11_word_0 (zrunX zXt 9 ztc n) d L S h := zrun_miss (zXt_none (by decide)) zc_174
theorem zc_188 : zget 9 ztc 188 = q_X12_cell_0 := rfl
theorem ca_188 {n d L : Nat} {S : List Nat} {h : zH} : zrunX zXt 9 ztc (n + 1) d 188 L S h = q_X12_cell_0 (zrunX zXt 9 ztc n) d L S h := zrun_miss (zXt_none (by decide)) zc_188
theorem zc_200 : zget 9 ztc 200 = q_X12_end_0 := rfl
theorem ca_200 {n d L : Nat} {S : List Nat} {h : zH} : zrunX zXt 9 ztc (n + 1) d 200 L S h = q_X12_end_0 (zrunX zXt 9 ztc n) d L S h := zrun_miss (zXt_none (by decide)) zc_200
theorem zc_201 : zget 9 ztc 201 = q_X12_fault_0 := rfl
theorem ca_201 {n d L : Nat} {S : List Nat} {h : zH} : zrunX zXt 9 ztc (n + 1) d 201 L S h = q_X12_fault_0 (zrunX zXt 9 ztc n) d L S h := zrun_miss (zXt_none (by decide)) zc_201
theorem zc_202 : zget 9 ztc 202 = q_X12_feed_0 := rfl
theorem ca_202 {n d L : Nat} {S : List Nat} {h : zH} : zrunX zXt 9 ztc (n + 1) d 202 L S h = q_X12_feed_0 (zrunX zXt 9 ztc n) d L S h := zrun_miss (zXt_none (by decide)) zc_202
theorem zc_203 : zget 9 ztc 203 = q_X12_feeds_0 := rfl
theorem ca_203 {n d L : Nat} {S : List Nat} {h : zH} : zrunX zXt 9 ztc (n + 1) d 203 L S h = q_X12_feeds_0 (zrunX zXt 9 ztc n) d L S h := zrun_miss (zXt_none (by decide)) zc_203
theorem zc_204 : zget 9 ztc 204 = q_X12_feeds_3 := rfl
theorem ca_204 {n d L : Nat} {S : List Nat} {h : zH} : zrunX zXt 9 ztc (n + 1) d 204 L S h = q_X12_feeds_3 (zrunX zXt 9 ztc n) d L S h := zrun_miss (zXt_none (by decide)) zc_204
theorem zc_205 : zget 9 ztc 205 = q_X12_fetched_0 := rfl
theorem ca_205 {n d L : Nat} {S : List Nat} {h : zH} : zrunX zXt 9 ztc (n + 1) d 205 L S h = q_X12_fetched_0 (zrunX zXt 9 ztc n) d L S h := zrun_miss (zXt_none (by decide)) zc_205
theorem zc_210 : zget 9 ztc 210 = q_X12_go_0 := rfl
theorem ca_210 {n d L : Nat} {S : List Nat} {h : zH} : zrunX zXt 9 ztc (n + 1) d 210 L S h = q_X12_go_0 (zrunX zXt 9 ztc n) d L S h := zrun_miss (zXt_none (by decide)) zc_210
theorem zc_211 : zget 9 ztc 211 = q_X12_go_25 := rfl
theorem ca_211 {n d L : Nat} {S : List Nat} {h : zH} : zrunX zXt 9 ztc (n + 1) d 211 L S h = q_X12_go_25 (zrunX zXt 9 ztc n) d L S h := zrun_miss (zXt_none (by decide)) zc_211
theorem zc_216 : zget 9 ztc 216 = q_X12_held_0 := rfl
theorem ca_216 {n d L : Nat} {S : List Nat} {h : zH} : zrunX zXt 9 ztc (n + 1) d 216 L S h = q_X12_held_0 (zrunX zXt 9 ztc n) d L S h := zrun_miss (zXt_none (by decide)) zc_216
theorem zc_217 : zget 9 ztc 217 = q_X12_in_0 := rfl
theorem ca_217 {n d L : Nat} {S : List Nat} {h : zH} : zrunX zXt 9 ztc (n + 1) d 217 L S h = q_X12_in_0 (zrunX zXt 9 ztc n) d L S h := zrun_miss (zXt_none (by decide)) zc_217
theorem zc_219 : zget 9 ztc 219 = q_X12_input_0 := rfl
theorem ca_219 {n d L : Nat} {S : List Nat} {h : zH} : zrunX zXt 9 ztc (n + 1) d 219 L S h = q_X12_input_0 (zrunX zXt 9 ztc n) d L S h := zrun_miss (zXt_none (by decide)) zc_219
theorem zc_220 : zget 9 ztc 220 = q_X12_isBenchPlace_0 := rfl
theorem ca_220 {n d L : Nat} {S : List Nat} {h : zH} : zrunX zXt 9 ztc (n + 1) d 220 L S h = q_X12_isBenchPlace_0 (zrunX zXt 9 ztc n) d L S h := zrun_miss (zXt_none (by decide)) zc_220
theorem zc_227 : zget 9 ztc 227 = q_X12_isNumber_0 := rfl
theorem ca_227 {n d L : Nat} {S : List Nat} {h : zH} : zrunX zXt 9 ztc (n + 1) d 227 L S h = q_X12_isNumber_0 (zrunX zXt 9 ztc n) d L S h := zrun_miss (zXt_none (by decide)) zc_227
theorem zc_228 : zget 9 ztc 228 = q_X12_isPrimitive_0 := rfl
theorem ca_228 {n d L : Nat} {S : List Nat} {h : zH} : zrunX zXt 9 ztc (n + 1) d 228 L S h = q_X12_isPrimitive_0 (zrunX zXt 9 ztc n) d L S h := zrun_miss (zXt_none (by decide)) zc_228
theorem zc_229 : zget 9 ztc 229 = q_X12_isProcedure_0 := rfl
theorem ca_229 {n d L : Nat} {S : List Nat} {h : zH} : zrunX zXt 9 ztc (n + 1) d 229 L S h = q_X12_isProcedure_0 (zrunX zXt 9 ztc n) d L S h := zrun_miss (zXt_none (by decide)) zc_229
theorem zc_233 : zget 9 ztc 233 = q_X12_is__0 := rfl
theorem ca_233 {n d L : Nat} {S : List Nat} {h : zH} : zrunX zXt 9 ztc (n + 1) d 233 L S h = q_X12_is__0 (zrunX zXt 9 ztc n) d L S h := zrun_miss (zXt_none (by decide)) zc_233
theorem zc_234 : zget 9 ztc 234 = q_X12_item_0 := rfl
theorem ca_234 {n d L : Nat} {S : List Nat} {h : zH} : zrunX zXt 9 ztc (n + 1) d 234 L S h = q_X12_item_0 (zrunX zXt 9 ztc n) d L S h := zrun_miss (zXt_none (by decide)) zc_234
theorem zc_239 : zget 9 ztc 239 = q_X12_letter_0 := rfl
theorem ca_239 {n d L : Nat} {S : List Nat} {h : zH} : zrunX zXt 9 ztc (n + 1) d 239 L S h = q_X12_letter_0 (zrunX zXt 9 ztc n) d L S h := zrun_miss (zXt_none (by decide)) zc_239
theorem zc_242 : zget 9 ztc 242 = q_X12_look_0 := rfl
theorem ca_242 {n d L : Nat} {S : List Nat} {h : zH} : zrunX zXt 9 ztc (n + 1) d 242 L S h = q_X12_look_0 (zrunX zXt 9 ztc n) d L S h := zrun_miss (zXt_none (by decide)) zc_242
theorem zc_249 : zget 9 ztc 249 = q_X12_out_0 := rfl
theorem ca_249 {n d L : Nat} {S : List Nat} {h : zH} : zrunX zXt 9 ztc (n + 1) d 249 L S h = q_X12_out_0 (zrunX zXt 9 ztc n) d L S h := zrun_miss (zXt_none (by decide)) zc_249
theorem zc_252 : zget 9 ztc 252 = q_X12_peek_0 := rfl
theorem ca_252 {n d L : Nat} {S : List Nat} {h : zH} : zrunX zXt 9 ztc (n + 1) d 252 L S h = q_X12_peek_0 (zrunX zXt 9 ztc n) d L S h := zrun_miss (zXt_none (by decide)) zc_252
theorem zc_253 : zget 9 ztc 253 = q_X12_poke_0 := rfl
theorem ca_253 {n d L : Nat} {S : List Nat} {h : zH} : zrunX zXt 9 ztc (n + 1) d 253 L S h = q_X12_poke_0 (zrunX zXt 9 ztc n) d L S h := zrun_miss (zXt_none (by decide)) zc_253
theorem zc_254 : zget 9 ztc 254 = q_X12_r_0 := rfl
theorem ca_254 {n d L : Nat} {S : List Nat} {h : zH} : zrunX zXt 9 ztc (n + 1) d 254 L S h = q_X12_r_0 (zrunX zXt 9 ztc n) d L S h := zrun_miss (zXt_none (by decide)) zc_254
theorem zc_257 : zget 9 ztc 257 = q_X12_register_0 := rfl
theorem ca_257 {n d L : Nat} {S : List Nat} {h : zH} : zrunX zXt 9 ztc (n + 1) d 257 L S h = q_X12_register_0 (zrunX zXt 9 ztc n) d L S h := zrun_miss (zXt_none (by decide)) zc_257
theorem zc_266 : zget 9 ztc 266 = q_X12_run_0 := rfl
theorem ca_266 {n d L : Nat} {S : List Nat} {h : zH} : zrunX zXt 9 ztc (n + 1) d 266 L S h = q_X12_run_0 (zrunX zXt 9 ztc n) d L S h := zrun_miss (zXt_none (by decide)) zc_266
theorem zc_269 : zget 9 ztc 269 = q_X12_set_0 := rfl
theorem ca_269 {n d L : Nat} {S : List Nat} {h : zH} : zrunX zXt 9 ztc (n + 1) d 269 L S h = q_X12_set_0 (zrunX zXt 9 ztc n) d L S h := zrun_miss (zXt_none (by decide)) zc_269
theorem zc_270 : zget 9 ztc 270 = q_X12_set_35 := rfl
theorem ca_270 {n d L : Nat} {S : List Nat} {h : zH} : zrunX zXt 9 ztc (n + 1) d 270 L S h = q_X12_set_35 (zrunX zXt 9 ztc n) d L S h := zrun_miss (zXt_none (by decide)) zc_270
theorem zc_272 : zget 9 ztc 272 = q_X12_setR_0 := rfl
theorem ca_272 {n d L : Nat} {S : List Nat} {h : zH} : zrunX zXt 9 ztc (n + 1) d 272 L S h = q_X12_setR_0 (zrunX zXt 9 ztc n) d L S h := zrun_miss (zXt_none (by decide)) zc_272
theorem zc_273 : zget 9 ztc 273 = q_X12_shown_0 := rfl
theorem ca_273 {n d L : Nat} {S : List Nat} {h : zH} : zrunX zXt 9 ztc (n + 1) d 273 L S h = q_X12_shown_0 (zrunX zXt 9 ztc n) d L S h := zrun_miss (zXt_none (by decide)) zc_273
theorem zc_274 : zget 9 ztc 274 = q_X12_single_0 := rfl
theorem ca_274 {n d L : Nat} {S : List Nat} {h : zH} : zrunX zXt 9 ztc (n + 1) d 274 L S h = q_X12_single_0 (zrunX zXt 9 ztc n) d L S h := zrun_miss (zXt_none (by decide)) zc_274
theorem zc_278 : zget 9 ztc 278 = q_X12_step_0 := rfl
theorem ca_278 {n d L : Nat} {S : List Nat} {h : zH} : zrunX zXt 9 ztc (n + 1) d 278 L S h = q_X12_step_0 (zrunX zXt 9 ztc n) d L S h := zrun_miss (zXt_none (by decide)) zc_278
theorem zc_289 : zget 9 ztc 289 = q_X12_told_0 := rfl
theorem ca_289 {n d L : Nat} {S : List Nat} {h : zH} : zrunX zXt 9 ztc (n + 1) d 289 L S h = q_X12_told_0 (zrunX zXt 9 ztc n) d L S h := zrun_miss (zXt_none (by decide)) zc_289
theorem zc_294 : zget 9 ztc 294 = q_X12_wordAt_0 := rfl
theorem ca_294 {n d L : Nat} {S : List Nat} {h : zH} : zrunX zXt 9 ztc (n + 1) d 294 L S h = q_X12_wordAt_0 (zrunX zXt 9 ztc n) d L S h := zrun_miss (zXt_none (by decide)) zc_294
theorem zc_295 : zget 9 ztc 295 = q_X12_word__0 := rfl
theorem ca_295 {n d L : Nat} {S : List Nat} {h : zH} : zrunX zXt 9 ztc (n + 1) d 295 L S h = q_X12_word__0 (zrunX zXt 9 ztc n) d L S h := zrun_miss (zXt_none (by decide)) zc_295
theorem zc_296 : zget 9 ztc 296 = q_X12_write_0 := rfl
theorem ca_296 {n d L : Nat} {S : List Nat} {h : zH} : zrunX zXt 9 ztc (n + 1) d 296 L S h = q_X12_write_0 (zrunX zXt 9 ztc n) d L S h := zrun_miss (zXt_none (by decide)) zc_296
theorem zc_297 : zget 9 ztc 297 = q_X12_written_0 := rfl
theorem ca_297 {n d L : Nat} {S : List Nat} {h : zH} : zrunX zXt 9 ztc (n + 1) d 297 L S h = q_X12_written_0 (zrunX zXt 9 ztc n) d L S h := zrun_miss (zXt_none (by decide)) zc_297
set_option maxRecDepth 100000 in
theorem zb_cx_b : zall (fun i => Nat.ble (zcv hbA3_c7 i) 4294967295) 32768 = true := by decide +kernel
theorem zb_cx (i : Nat) (h : i < 32768) : zcv hbA3_c7 i < 4294967296 := Nat.lt_succ_of_le (Nat.le_of_ble_eq_true (zall_get zb_cx_b i h))
set_option maxRecDepth 100000 in
theorem zb_cm_b : zall (fun i => Nat.ble (zcv hbB12_c63 i) 4294967295) 65536 = true := by decide +kernel
theorem zb_cm (i : Nat) (h : i < 65536) : zcv hbB12_c63 i < 4294967296 := Nat.lt_succ_of_le (Nat.le_of_ble_eq_true (zall_get zb_cm_b i h))
set_option maxRecDepth 100000 in
theorem zb_bx_b : zall (fun i => Nat.ble (zcv haA0_c4 i) 4294967295) 4096 = true := by decide +kernel
theorem zb_bx (i : Nat) (h : i < 4096) : zcv haA0_c4 i < 4294967296 := Nat.lt_succ_of_le (Nat.le_of_ble_eq_true (zall_get zb_bx_b i h))
set_option maxRecDepth 100000 in
theorem zb_bm_b : zall (fun i => Nat.ble (zcv haA0_c13 i) 4294967295) 8192 = true := by decide +kernel
theorem zb_bm (i : Nat) (h : i < 8192) : zcv haA0_c13 i < 4294967296 := Nat.lt_succ_of_le (Nat.le_of_ble_eq_true (zall_get zb_bm_b i h))
set_option maxRecDepth 100000 in
theorem zb_lx_b : zall (fun i => Nat.ble (zcv hbA0_c9 i) 4294967295) 3900 = true := by decide +kernel
theorem zb_lx (i : Nat) (h : i < 3900) : zcv hbA0_c9 i < 4294967296 := Nat.lt_succ_of_le (Nat.le_of_ble_eq_true (zall_get zb_lx_b i h))
set_option maxRecDepth 100000 in
theorem zb_nx_b : zall (fun i => Nat.ble (zcv hbA0_c10 i) 4294967295) 300 = true := by decide +kernel
theorem zb_nx (i : Nat) (h : i < 300) : zcv hbA0_c10 i < 4294967296 := Nat.lt_succ_of_le (Nat.le_of_ble_eq_true (zall_get zb_nx_b i h))
theorem zb_lm (i : Nat) (h : i < 3900) : zcv hbA0_c9 i < 4294967296 := zb_lx i h
theorem zb_nm (i : Nat) (h : i < 300) : zcv hbA0_c10 i < 4294967296 := zb_nx i h
theorem zf_nx_b : zall (fun i => cond (Nat.ble 1 (zcv hbA0_c10 i)) (Nat.ble (zcv hbA0_c10 i) 13) false) 55 = true := by decide +kernel
theorem zf_nx (i : Nat) (h : i < 55) : 1 ≤ zcv hbA0_c10 i ∧ zcv hbA0_c10 i ≤ 13 := by
  obtain ⟨h1, h2⟩ := zcond_f (zall_get zf_nx_b i h)
  exact ⟨Nat.le_of_ble_eq_true h1, Nat.le_of_ble_eq_true h2⟩
theorem zf_nm (i : Nat) (h : i < 55) : 1 ≤ zcv hbA0_c10 i ∧ zcv hbA0_c10 i ≤ 13 := zf_nx i h
set_option maxRecDepth 100000 in
theorem zeq_word_b : zall (fun k => Nat.beq (z_or (zcv hbB12_c63 (2 * k)) (z_shl (zcv hbB12_c63 (2 * k + 1)) 8)) (zcv hbA3_c7 k)) 32768 = true := by decide +kernel
theorem zeq_word (v : Nat) (h : v < 65536) (h2 : v % 2 = 0) : z_or (zcv hbB12_c63 v) (z_shl (zcv hbB12_c63 (v + 1)) 8) = zcv hbA3_c7 (v / 2) := by
  have e := Nat.eq_of_beq_eq_true (zall_get zeq_word_b (v / 2) (by omega))
  rw [show 2 * (v / 2) = v by omega] at e
  exact e
set_option maxRecDepth 100000 in
theorem zeq_peek_b : zall (fun k => Nat.beq (z_or (zcv haA0_c13 (2 * k)) (z_shl (zcv haA0_c13 (2 * k + 1)) 8)) (zcv haA0_c4 k)) 4096 = true := by decide +kernel
theorem zeq_peek (v : Nat) (h : v < 8192) (h2 : v % 2 = 0) : z_or (zcv haA0_c13 v) (z_shl (zcv haA0_c13 (v + 1)) 8) = zcv haA0_c4 (v / 2) := by
  have e := Nat.eq_of_beq_eq_true (zall_get zeq_peek_b (v / 2) (by omega))
  rw [show 2 * (v / 2) = v by omega] at e
  exact e
theorem zeq_letter (v w : Nat) (_ : v < 55) (_ : w < zcv hbA0_c10 v) : zcv hbA0_c9 ((13 * v) + w) = zcv hbA0_c9 ((v * 13) + w) := by rw [Nat.mul_comm 13 v]
