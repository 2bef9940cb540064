/-! the run that knows the constructors, load() and reset() of a new object; first calls -/
noncomputable def zXt : zRec := (zme_A5 (zme_B16 (zme_C17 (zme_D19 (zme_E25 (zme_F36 zX0))))))
section
variable {l : Launch} {D : va_G} {tc : Nat → ClassId} {A : Nat → Prop} {nS : Nat} {xs : Nat → Int32}
theorem okXt : zOkR l D vwCl tc [(tc 100, .int), (tc 101, .boolean), (tc 102, .array .int)] A (zEE tc A nS xs) zTw zlab zXt := (zmo_A5 (zmo_B16 (zmo_C17 (zmo_D19 (zmo_E25 (zmo_F36 z_none_ok))))))
end
/-- a first call on both sides, one behind the other: the same answer -/
def zFst (n lx Lx lm Lm : Nat) : Prop := ∃ (r : Nat) (h1 h2 : zH), r < 4294967296 ∧ zrunX zXt 9 ztc (n + 60) 1679 lx Lx [] hbB16 = some ([r], h1) ∧ h1.1 = 129 ∧ (zget 8 h1.2.2 61).1 = 12 ∧ zrunX zXt 9 ztc (n + 60) 1679 lm Lm [] h1 = some ([r], h2) ∧ h2.1 = 129 ∧ h2.2.1 = 650610
theorem ca_30 {n d L : Nat} {S : List Nat} {h : zH} : zrunX zXt 9 ztc (n + 1) d 30 L S h = q_X1_kind_0 (zrunX zXt 9 ztc n) d L S h := rfl
theorem ca_39 {n d L : Nat} {S : List Nat} {h : zH} : zrunX zXt 9 ztc (n + 1) d 39 L S h = q_X2_letterOf_0 (zrunX zXt 9 ztc n) d L S h := rfl
theorem ca_44 {n d L : Nat} {S : List Nat} {h : zH} : zrunX zXt 9 ztc (n + 1) d 44 L S h = q_X3_at_0 (zrunX zXt 9 ztc n) d L S h := rfl
theorem ca_46 {n d L : Nat} {S : List Nat} {h : zH} : zrunX zXt 9 ztc (n + 1) d 46 L S h = q_X3_holds_0 (zrunX zXt 9 ztc n) d L S h := rfl
theorem ca_48 {n d L : Nat} {S : List Nat} {h : zH} : zrunX zXt 9 ztc (n + 1) d 48 L S h = q_X3_low_0 (zrunX zXt 9 ztc n) d L S h := rfl
theorem ca_49 {n d L : Nat} {S : List Nat} {h : zH} : zrunX zXt 9 ztc (n + 1) d 49 L S h = q_X3_put_0 (zrunX zXt 9 ztc n) d L S h := rfl
theorem ca_50 {n d L : Nat} {S : List Nat} {h : zH} : zrunX zXt 9 ztc (n + 1) d 50 L S h = q_X3_putFlags_0 (zrunX zXt 9 ztc n) d L S h := rfl
theorem ca_51 {n d L : Nat} {S : List Nat} {h : zH} : zrunX zXt 9 ztc (n + 1) d 51 L S h = q_X3_step_0 (zrunX zXt 9 ztc n) d L S h := rfl
theorem ca_52 {n d L : Nat} {S : List Nat} {h : zH} : zrunX zXt 9 ztc (n + 1) d 52 L S h = q_X3_told_0 (zrunX zXt 9 ztc n) d L S h := rfl
theorem ca_89 {n d L : Nat} {S : List Nat} {h : zH} : zrunX zXt 9 ztc (n + 1) d 89 L S h = q_X6_offer_0 (zrunX zXt 9 ztc n) d L S h := rfl
theorem ca_90 {n d L : Nat} {S : List Nat} {h : zH} : zrunX zXt 9 ztc (n + 1) d 90 L S h = q_X6_proceed_0 (zrunX zXt 9 ztc n) d L S h := rfl
theorem ca_102 {n d L : Nat} {S : List Nat} {h : zH} : zrunX zXt 9 ztc (n + 1) d 102 L S h = q_X8_begin_0 (zrunX zXt 9 ztc n) d L S h := rfl
theorem ca_105 {n d L : Nat} {S : List Nat} {h : zH} : zrunX zXt 9 ztc (n + 1) d 105 L S h = q_X8_mark_0 (zrunX zXt 9 ztc n) d L S h := rfl
theorem ca_106 {n d L : Nat} {S : List Nat} {h : zH} : zrunX zXt 9 ztc (n + 1) d 106 L S h = q_X8_part_0 (zrunX zXt 9 ztc n) d L S h := rfl
theorem ca_107 {n d L : Nat} {S : List Nat} {h : zH} : zrunX zXt 9 ztc (n + 1) d 107 L S h = q_X8_render_0 (zrunX zXt 9 ztc n) d L S h := rfl
theorem ca_146 {n d L : Nat} {S : List Nat} {h : zH} : zrunX zXt 9 ztc (n + 1) d 146 L S h = q_X11_end_0 (zrunX zXt 9 ztc n) d L S h := rfl
theorem ca_147 {n d L : Nat} {S : List Nat} {h : zH} : zrunX zXt 9 ztc (n + 1) d 147 L S h = q_X11_fault_0 (zrunX zXt 9 ztc n) d L S h := rfl
theorem ca_148 {n d L : Nat} {S : List Nat} {h : zH} : zrunX zXt 9 ztc (n + 1) d 148 L S h = q_X11_feed_0 (zrunX zXt 9 ztc n) d L S h := rfl
theorem ca_149 {n d L : Nat} {S : List Nat} {h : zH} : zrunX zXt 9 ztc (n + 1) d 149 L S h = q_X11_go_0 (zrunX zXt 9 ztc n) d L S h := rfl
theorem ca_150 {n d L : Nat} {S : List Nat} {h : zH} : zrunX zXt 9 ztc (n + 1) d 150 L S h = q_X11_go_23 (zrunX zXt 9 ztc n) d L S h := rfl
theorem ca_151 {n d L : Nat} {S : List Nat} {h : zH} : zrunX zXt 9 ztc (n + 1) d 151 L S h = q_X11_held_0 (zrunX zXt 9 ztc n) d L S h := rfl
theorem ca_153 {n d L : Nat} {S : List Nat} {h : zH} : zrunX zXt 9 ztc (n + 1) d 153 L S h = q_X11_input_0 (zrunX zXt 9 ztc n) d L S h := rfl
theorem ca_154 {n d L : Nat} {S : List Nat} {h : zH} : zrunX zXt 9 ztc (n + 1) d 154 L S h = q_X11_isPrimitive_0 (zrunX zXt 9 ztc n) d L S h := rfl
theorem ca_155 {n d L : Nat} {S : List Nat} {h : zH} : zrunX zXt 9 ztc (n + 1) d 155 L S h = q_X11_letter_0 (zrunX zXt 9 ztc n) d L S h := rfl
theorem ca_158 {n d L : Nat} {S : List Nat} {h : zH} : zrunX zXt 9 ztc (n + 1) d 158 L S h = q_X11_look_0 (zrunX zXt 9 ztc n) d L S h := rfl
theorem ca_159 {n d L : Nat} {S : List Nat} {h : zH} : zrunX zXt 9 ztc (n + 1) d 159 L S h = q_X11_out_0 (zrunX zXt 9 ztc n) d L S h := rfl
theorem ca_160 {n d L : Nat} {S : List Nat} {h : zH} : zrunX zXt 9 ztc (n + 1) d 160 L S h = q_X11_peek_0 (zrunX zXt 9 ztc n) d L S h := rfl
theorem ca_161 {n d L : Nat} {S : List Nat} {h : zH} : zrunX zXt 9 ztc (n + 1) d 161 L S h = q_X11_poke_0 (zrunX zXt 9 ztc n) d L S h := rfl
theorem ca_164 {n d L : Nat} {S : List Nat} {h : zH} : zrunX zXt 9 ztc (n + 1) d 164 L S h = q_X11_register_0 (zrunX zXt 9 ztc n) d L S h := rfl
theorem ca_166 {n d L : Nat} {S : List Nat} {h : zH} : zrunX zXt 9 ztc (n + 1) d 166 L S h = q_X11_run_0 (zrunX zXt 9 ztc n) d L S h := rfl
theorem ca_167 {n d L : Nat} {S : List Nat} {h : zH} : zrunX zXt 9 ztc (n + 1) d 167 L S h = q_X11_set_0 (zrunX zXt 9 ztc n) d L S h := rfl
theorem ca_168 {n d L : Nat} {S : List Nat} {h : zH} : zrunX zXt 9 ztc (n + 1) d 168 L S h = q_X11_shown_0 (zrunX zXt 9 ztc n) d L S h := rfl
theorem ca_172 {n d L : Nat} {S : List Nat} {h : zH} : zrunX zXt 9 ztc (n + 1) d 172 L S h = q_X11_tapeFour_0 (zrunX zXt 9 ztc n) d L S h := rfl
theorem ca_173 {n d L : Nat} {S : List Nat} {h : zH} : zrunX zXt 9 ztc (n + 1) d 173 L S h = q_X11_tapeFour_3 (zrunX zXt 9 ztc n) d L S h := rfl
theorem ca_174 {n d L : Nat} {S : List Nat} {h : zH} : zrunX zXt 9 ztc (n + 1) d 174 L S h = q_X11_word_0 (zrunX zXt 9 ztc n) d L S h := rfl
theorem ca_188 {n d L : Nat} {S : List Nat} {h : zH} : zrunX zXt 9 ztc (n + 1) d 188 L S h = q_X12_cell_0 (zrunX zXt 9 ztc n) d L S h := rfl
theorem ca_200 {n d L : Nat} {S : List Nat} {h : zH} : zrunX zXt 9 ztc (n + 1) d 200 L S h = q_X12_end_0 (zrunX zXt 9 ztc n) d L S h := rfl
theorem ca_201 {n d L : Nat} {S : List Nat} {h : zH} : zrunX zXt 9 ztc (n + 1) d 201 L S h = q_X12_fault_0 (zrunX zXt 9 ztc n) d L S h := rfl
theorem ca_202 {n d L : Nat} {S : List Nat} {h : zH} : zrunX zXt 9 ztc (n + 1) d 202 L S h = q_X12_feed_0 (zrunX zXt 9 ztc n) d L S h := rfl
theorem ca_203 {n d L : Nat} {S : List Nat} {h : zH} : zrunX zXt 9 ztc (n + 1) d 203 L S h = q_X12_feeds_0 (zrunX zXt 9 ztc n) d L S h := rfl
theorem ca_204 {n d L : Nat} {S : List Nat} {h : zH} : zrunX zXt 9 ztc (n + 1) d 204 L S h = q_X12_feeds_3 (zrunX zXt 9 ztc n) d L S h := rfl
theorem ca_205 {n d L : Nat} {S : List Nat} {h : zH} : zrunX zXt 9 ztc (n + 1) d 205 L S h = q_X12_fetched_0 (zrunX zXt 9 ztc n) d L S h := rfl
theorem ca_210 {n d L : Nat} {S : List Nat} {h : zH} : zrunX zXt 9 ztc (n + 1) d 210 L S h = q_X12_go_0 (zrunX zXt 9 ztc n) d L S h := rfl
theorem ca_211 {n d L : Nat} {S : List Nat} {h : zH} : zrunX zXt 9 ztc (n + 1) d 211 L S h = q_X12_go_25 (zrunX zXt 9 ztc n) d L S h := rfl
theorem ca_216 {n d L : Nat} {S : List Nat} {h : zH} : zrunX zXt 9 ztc (n + 1) d 216 L S h = q_X12_held_0 (zrunX zXt 9 ztc n) d L S h := rfl
theorem ca_217 {n d L : Nat} {S : List Nat} {h : zH} : zrunX zXt 9 ztc (n + 1) d 217 L S h = q_X12_in_0 (zrunX zXt 9 ztc n) d L S h := rfl
theorem ca_219 {n d L : Nat} {S : List Nat} {h : zH} : zrunX zXt 9 ztc (n + 1) d 219 L S h = q_X12_input_0 (zrunX zXt 9 ztc n) d L S h := rfl
theorem ca_220 {n d L : Nat} {S : List Nat} {h : zH} : zrunX zXt 9 ztc (n + 1) d 220 L S h = q_X12_isBenchPlace_0 (zrunX zXt 9 ztc n) d L S h := rfl
theorem ca_227 {n d L : Nat} {S : List Nat} {h : zH} : zrunX zXt 9 ztc (n + 1) d 227 L S h = q_X12_isNumber_0 (zrunX zXt 9 ztc n) d L S h := rfl
theorem ca_228 {n d L : Nat} {S : List Nat} {h : zH} : zrunX zXt 9 ztc (n + 1) d 228 L S h = q_X12_isPrimitive_0 (zrunX zXt 9 ztc n) d L S h := rfl
theorem ca_229 {n d L : Nat} {S : List Nat} {h : zH} : zrunX zXt 9 ztc (n + 1) d 229 L S h = q_X12_isProcedure_0 (zrunX zXt 9 ztc n) d L S h := rfl
theorem ca_233 {n d L : Nat} {S : List Nat} {h : zH} : zrunX zXt 9 ztc (n + 1) d 233 L S h = q_X12_is__0 (zrunX zXt 9 ztc n) d L S h := rfl
theorem ca_234 {n d L : Nat} {S : List Nat} {h : zH} : zrunX zXt 9 ztc (n + 1) d 234 L S h = q_X12_item_0 (zrunX zXt 9 ztc n) d L S h := rfl
theorem ca_239 {n d L : Nat} {S : List Nat} {h : zH} : zrunX zXt 9 ztc (n + 1) d 239 L S h = q_X12_letter_0 (zrunX zXt 9 ztc n) d L S h := rfl
theorem ca_242 {n d L : Nat} {S : List Nat} {h : zH} : zrunX zXt 9 ztc (n + 1) d 242 L S h = q_X12_look_0 (zrunX zXt 9 ztc n) d L S h := rfl
theorem ca_249 {n d L : Nat} {S : List Nat} {h : zH} : zrunX zXt 9 ztc (n + 1) d 249 L S h = q_X12_out_0 (zrunX zXt 9 ztc n) d L S h := rfl
theorem ca_252 {n d L : Nat} {S : List Nat} {h : zH} : zrunX zXt 9 ztc (n + 1) d 252 L S h = q_X12_peek_0 (zrunX zXt 9 ztc n) d L S h := rfl
theorem ca_253 {n d L : Nat} {S : List Nat} {h : zH} : zrunX zXt 9 ztc (n + 1) d 253 L S h = q_X12_poke_0 (zrunX zXt 9 ztc n) d L S h := rfl
theorem ca_254 {n d L : Nat} {S : List Nat} {h : zH} : zrunX zXt 9 ztc (n + 1) d 254 L S h = q_X12_r_0 (zrunX zXt 9 ztc n) d L S h := rfl
theorem ca_257 {n d L : Nat} {S : List Nat} {h : zH} : zrunX zXt 9 ztc (n + 1) d 257 L S h = q_X12_register_0 (zrunX zXt 9 ztc n) d L S h := rfl
theorem ca_266 {n d L : Nat} {S : List Nat} {h : zH} : zrunX zXt 9 ztc (n + 1) d 266 L S h = q_X12_run_0 (zrunX zXt 9 ztc n) d L S h := rfl
theorem ca_269 {n d L : Nat} {S : List Nat} {h : zH} : zrunX zXt 9 ztc (n + 1) d 269 L S h = q_X12_set_0 (zrunX zXt 9 ztc n) d L S h := rfl
theorem ca_270 {n d L : Nat} {S : List Nat} {h : zH} : zrunX zXt 9 ztc (n + 1) d 270 L S h = q_X12_set_35 (zrunX zXt 9 ztc n) d L S h := rfl
theorem ca_272 {n d L : Nat} {S : List Nat} {h : zH} : zrunX zXt 9 ztc (n + 1) d 272 L S h = q_X12_setR_0 (zrunX zXt 9 ztc n) d L S h := rfl
theorem ca_273 {n d L : Nat} {S : List Nat} {h : zH} : zrunX zXt 9 ztc (n + 1) d 273 L S h = q_X12_shown_0 (zrunX zXt 9 ztc n) d L S h := rfl
theorem ca_274 {n d L : Nat} {S : List Nat} {h : zH} : zrunX zXt 9 ztc (n + 1) d 274 L S h = q_X12_single_0 (zrunX zXt 9 ztc n) d L S h := rfl
theorem ca_278 {n d L : Nat} {S : List Nat} {h : zH} : zrunX zXt 9 ztc (n + 1) d 278 L S h = q_X12_step_0 (zrunX zXt 9 ztc n) d L S h := rfl
theorem ca_289 {n d L : Nat} {S : List Nat} {h : zH} : zrunX zXt 9 ztc (n + 1) d 289 L S h = q_X12_told_0 (zrunX zXt 9 ztc n) d L S h := rfl
theorem ca_294 {n d L : Nat} {S : List Nat} {h : zH} : zrunX zXt 9 ztc (n + 1) d 294 L S h = q_X12_wordAt_0 (zrunX zXt 9 ztc n) d L S h := rfl
theorem ca_295 {n d L : Nat} {S : List Nat} {h : zH} : zrunX zXt 9 ztc (n + 1) d 295 L S h = q_X12_word__0 (zrunX zXt 9 ztc n) d L S h := rfl
theorem ca_296 {n d L : Nat} {S : List Nat} {h : zH} : zrunX zXt 9 ztc (n + 1) d 296 L S h = q_X12_write_0 (zrunX zXt 9 ztc n) d L S h := rfl
theorem ca_297 {n d L : Nat} {S : List Nat} {h : zH} : zrunX zXt 9 ztc (n + 1) d 297 L S h = q_X12_written_0 (zrunX zXt 9 ztc n) d L S h := rfl
set_option maxRecDepth 100000 in
theorem zb_cx_b : zall (fun i => Nat.ble (zcv hbA3_c7 i) 4294967295) 32768 = true := by decide +kernel
theorem zb_cx (i : Nat) (h : i < 32768) : zcv hbA3_c7 i < 4294967296 := Nat.lt_succ_of_le (Nat.le_of_ble_eq_true (zall_get zb_cx_b i h))
set_option maxRecDepth 100000 in
theorem zb_cm_b : zall (fun i => Nat.ble (zcv hbB12_c63 i) 4294967295) 65536 = true := by decide +kernel
theorem zb_cm (i : Nat) (h : i < 65536) : zcv hbB12_c63 i < 4294967296 := Nat.lt_succ_of_le (Nat.le_of_ble_eq_true (zall_get zb_cm_b i h))
set_option maxRecDepth 100000 in
theorem zb_bx_b : zall (fun i => Nat.ble (zcv haA0_c4 i) 4294967295) 4096 = true := by decide +kernel
theorem zb_bx (i : Nat) (h : i < 4096) : zcv haA0_c4 i < 4294967296 := Nat.lt_succ_of_le (Nat.le_of_ble_eq_true (zall_get zb_bx_b i h))
set_option maxRecDepth 100000 in
theorem zb_bm_b : zall (fun i => Nat.ble (zcv haA0_c13 i) 4294967295) 8192 = true := by decide +kernel
theorem zb_bm (i : Nat) (h : i < 8192) : zcv haA0_c13 i < 4294967296 := Nat.lt_succ_of_le (Nat.le_of_ble_eq_true (zall_get zb_bm_b i h))
set_option maxRecDepth 100000 in
theorem zb_lx_b : zall (fun i => Nat.ble (zcv hbA0_c9 i) 4294967295) 3900 = true := by decide +kernel
theorem zb_lx (i : Nat) (h : i < 3900) : zcv hbA0_c9 i < 4294967296 := Nat.lt_succ_of_le (Nat.le_of_ble_eq_true (zall_get zb_lx_b i h))
set_option maxRecDepth 100000 in
theorem zb_nx_b : zall (fun i => Nat.ble (zcv hbA0_c10 i) 4294967295) 300 = true := by decide +kernel
theorem zb_nx (i : Nat) (h : i < 300) : zcv hbA0_c10 i < 4294967296 := Nat.lt_succ_of_le (Nat.le_of_ble_eq_true (zall_get zb_nx_b i h))
theorem zb_lm (i : Nat) (h : i < 3900) : zcv hbA0_c9 i < 4294967296 := zb_lx i h
theorem zb_nm (i : Nat) (h : i < 300) : zcv hbA0_c10 i < 4294967296 := zb_nx i h
theorem zf_nx_b : zall (fun i => cond (Nat.ble 1 (zcv hbA0_c10 i)) (Nat.ble (zcv hbA0_c10 i) 13) false) 55 = true := by decide +kernel
theorem zf_nx (i : Nat) (h : i < 55) : 1 ≤ zcv hbA0_c10 i ∧ zcv hbA0_c10 i ≤ 13 := by
  obtain ⟨h1, h2⟩ := zcond_f (zall_get zf_nx_b i h)
  exact ⟨Nat.le_of_ble_eq_true h1, Nat.le_of_ble_eq_true h2⟩
theorem zf_nm (i : Nat) (h : i < 55) : 1 ≤ zcv hbA0_c10 i ∧ zcv hbA0_c10 i ≤ 13 := zf_nx i h
set_option maxRecDepth 100000 in
theorem zeq_word_b : zall (fun k => Nat.beq (z_or (zcv hbB12_c63 (2 * k)) (z_shl (zcv hbB12_c63 (2 * k + 1)) 8)) (zcv hbA3_c7 k)) 32768 = true := by decide +kernel
theorem zeq_word (v : Nat) (h : v < 65536) (h2 : v % 2 = 0) : z_or (zcv hbB12_c63 v) (z_shl (zcv hbB12_c63 (v + 1)) 8) = zcv hbA3_c7 (v / 2) := by
  have e := Nat.eq_of_beq_eq_true (zall_get zeq_word_b (v / 2) (by omega))
  rw [show 2 * (v / 2) = v by omega] at e
  exact e
set_option maxRecDepth 100000 in
theorem zeq_peek_b : zall (fun k => Nat.beq (z_or (zcv haA0_c13 (2 * k)) (z_shl (zcv haA0_c13 (2 * k + 1)) 8)) (zcv haA0_c4 k)) 4096 = true := by decide +kernel
theorem zeq_peek (v : Nat) (h : v < 8192) (h2 : v % 2 = 0) : z_or (zcv haA0_c13 v) (z_shl (zcv haA0_c13 (v + 1)) 8) = zcv haA0_c4 (v / 2) := by
  have e := Nat.eq_of_beq_eq_true (zall_get zeq_peek_b (v / 2) (by omega))
  rw [show 2 * (v / 2) = v by omega] at e
  exact e
theorem zeq_letter (v w : Nat) (_ : v < 55) (_ : w < zcv hbA0_c10 v) : zcv hbA0_c9 ((13 * v) + w) = zcv hbA0_c9 ((v * 13) + w) := by rw [Nat.mul_comm 13 v]
