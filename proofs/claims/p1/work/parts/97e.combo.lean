theorem fc_end (v : Nat) (hv : v < 4294967296) : zFst 99940 146 (zput (zput 0 1 (v + 1)) 0 (4294967297 + 1)) 200 (zput (zput 0 1 (v + 1)) 0 (4294967358 + 1)) := by
  by_cases k0 : v = 0
  · subst k0; exact fk_end_0
  by_cases sg : 2147483648 ≤ v
  · exact fs_end_neg v hv sg _
  · exact fs_end_pos v hv (by omega) (by omega) _
theorem fc_fault (v : Nat) (hv : v < 4294967296) : zFst 99940 147 (zput (zput 0 1 (v + 1)) 0 (4294967297 + 1)) 201 (zput (zput 0 1 (v + 1)) 0 (4294967358 + 1)) := by
  by_cases k0 : v = 0
  · subst k0; exact fk_fault_0
  by_cases k1 : v = 1
  · subst k1; exact fk_fault_1
  exact fs_fault v hv (by omega) _
theorem fc_run (v : Nat) (hv : v < 4294967296) : zFst 99940 166 (zput (zput 0 1 (v + 1)) 0 (4294967297 + 1)) 266 (zput (zput 0 1 (v + 1)) 0 (4294967358 + 1)) := by
  by_cases k0 : v = 0
  · subst k0; exact fk_run_0
  by_cases sg : 2147483648 ≤ v
  · exact fs_run_neg v hv sg _
  by_cases b : v ≤ 20000
  · exact fs_run_in v hv (by omega) b _
  · exact fs_run_big v hv (by omega) (by omega) _
theorem fc_look (v : Nat) (hv : v < 4294967296) : zFst 99940 158 (zput (zput 0 1 (v + 1)) 0 (4294967297 + 1)) 242 (zput (zput 0 1 (v + 1)) 0 (4294967358 + 1)) := by
  by_cases k0 : v = 0
  · subst k0; exact fk_look_0
  by_cases k1 : v = 1
  · subst k1; exact fk_look_1
  by_cases k2 : v = 2
  · subst k2; exact fk_look_2
  by_cases k3 : v = 3
  · subst k3; exact fk_look_3
  by_cases k4 : v = 4
  · subst k4; exact fk_look_4
  by_cases k5 : v = 5
  · subst k5; exact fk_look_5
  by_cases k6 : v = 6
  · subst k6; exact fk_look_6
  by_cases k7 : v = 7
  · subst k7; exact fk_look_7
  by_cases k8 : v = 8
  · subst k8; exact fk_look_8
  by_cases k9 : v = 9
  · subst k9; exact fk_look_9
  by_cases k10 : v = 10
  · subst k10; exact fk_look_10
  exact fs_look v hv (by omega) _
theorem fc_word (v : Nat) (hv : v < 4294967296) : zFst 99940 174 (zput (zput 0 1 (v + 1)) 0 (4294967297 + 1)) 295 (zput (zput 0 1 (v + 1)) 0 (4294967358 + 1)) := by
  by_cases sg : 2147483648 ≤ v
  · exact fs_word_neg v hv sg _
  by_cases b : v < 65536
  · by_cases p : v % 2 = 0
    · exact fs_word_even v hv b p _
    · exact fs_word_odd v hv b (by omega) _
  · by_cases p : v % 2 = 0
    · exact fs_word_heven v hv (by omega) (by omega) p _
    · exact fs_word_hodd v hv (by omega) (by omega) (by omega) _
theorem fc_peek (v : Nat) (hv : v < 4294967296) : zFst 99940 160 (zput (zput 0 1 (v + 1)) 0 (4294967297 + 1)) 252 (zput (zput 0 1 (v + 1)) 0 (4294967358 + 1)) := by
  by_cases sg : 2147483648 ≤ v
  · exact fs_peek_neg v hv sg _
  by_cases b : v < 8192
  · by_cases p : v % 2 = 0
    · exact fs_peek_even v hv b p _
    · exact fs_peek_odd v hv b (by omega) _
  · by_cases p : v % 2 = 0
    · exact fs_peek_heven v hv (by omega) (by omega) p _
    · exact fs_peek_hodd v hv (by omega) (by omega) (by omega) _
theorem fc_register (v : Nat) (hv : v < 4294967296) : zFst 99940 164 (zput (zput 0 1 (v + 1)) 0 (4294967297 + 1)) 257 (zput (zput 0 1 (v + 1)) 0 (4294967358 + 1)) := by
  by_cases k0 : v = 0
  · subst k0; exact fk_register_0
  by_cases k1 : v = 1
  · subst k1; exact fk_register_1
  by_cases k2 : v = 2
  · subst k2; exact fk_register_2
  by_cases k3 : v = 3
  · subst k3; exact fk_register_3
  by_cases k4 : v = 4
  · subst k4; exact fk_register_4
  by_cases k5 : v = 5
  · subst k5; exact fk_register_5
  by_cases k6 : v = 6
  · subst k6; exact fk_register_6
  by_cases k7 : v = 7
  · subst k7; exact fk_register_7
  by_cases k8 : v = 8
  · subst k8; exact fk_register_8
  by_cases sg : 2147483648 ≤ v
  · exact fs_register_neg v hv sg _
  · exact fs_register_big v hv (by omega) (by omega) _
theorem fc_held (v : Nat) (hv : v < 4294967296) : zFst 99940 151 (zput (zput 0 1 (v + 1)) 0 (4294967297 + 1)) 216 (zput (zput 0 1 (v + 1)) 0 (4294967358 + 1)) := by
  by_cases k0 : v = 0
  · subst k0; exact fk_held_0
  by_cases k1 : v = 1
  · subst k1; exact fk_held_1
  by_cases k2 : v = 2
  · subst k2; exact fk_held_2
  by_cases k3 : v = 3
  · subst k3; exact fk_held_3
  by_cases k4 : v = 4
  · subst k4; exact fk_held_4
  by_cases k5 : v = 5
  · subst k5; exact fk_held_5
  by_cases k6 : v = 6
  · subst k6; exact fk_held_6
  by_cases k7 : v = 7
  · subst k7; exact fk_held_7
  by_cases k8 : v = 8
  · subst k8; exact fk_held_8
  by_cases k9 : v = 9
  · subst k9; exact fk_held_9
  by_cases sg : 2147483648 ≤ v
  · exact fs_held_neg v hv sg _
  · exact fs_held_big v hv (by omega) (by omega) _
theorem fc_shown (v : Nat) (hv : v < 4294967296) : zFst 99940 168 (zput (zput 0 1 (v + 1)) 0 (4294967297 + 1)) 273 (zput (zput 0 1 (v + 1)) 0 (4294967358 + 1)) := by
  by_cases sg : 2147483648 ≤ v
  · exact fs_shown_neg v hv sg _
  · exact fs_shown_pos v hv (by omega) (by omega) _
theorem fc_out (v : Nat) (hv : v < 4294967296) : zFst 99940 159 (zput (zput 0 1 (v + 1)) 0 (4294967297 + 1)) 249 (zput (zput 0 1 (v + 1)) 0 (4294967358 + 1)) := by
  by_cases sg : 2147483648 ≤ v
  · exact fs_out_neg v hv sg _
  · exact fs_out_pos v hv (by omega) (by omega) _
theorem fc_input (v : Nat) (hv : v < 4294967296) : zFst 99940 153 (zput (zput 0 1 (v + 1)) 0 (4294967297 + 1)) 219 (zput (zput 0 1 (v + 1)) 0 (4294967358 + 1)) := by
  by_cases a : v < 16384
  · exact fs_input_in v hv a _
  by_cases b : 4294950912 ≤ v
  · exact fs_input_neg v hv b _
  by_cases sg : 2147483648 ≤ v
  · exact fs_input_low v hv sg (by omega) _
  · exact fs_input_big v hv (by omega) (by omega) _
theorem fc_letter (v : Nat) (hv : v < 4294967296) (w : Nat) (hw : w < 4294967296) : zFst 99940 155 (zput (zput (zput 0 2 (w + 1)) 1 (v + 1)) 0 (4294967297 + 1)) 239 (zput (zput (zput 0 2 (w + 1)) 1 (v + 1)) 0 (4294967358 + 1)) := by
  by_cases sg : 2147483648 ≤ v
  · exact fs_letter_neg v hv w hw sg _
  by_cases b : 55 ≤ v
  · exact fs_letter_big v hv w hw b (by omega) _
  by_cases c : 2147483648 ≤ w
  · exact fs_letter_ineg v hv w hw (by omega) c _
  by_cases e : w < zcv hbA0_c10 v
  · exact fs_letter_in v hv w hw (by omega) e _
  · exact fs_letter_ibig v hv w hw (by omega) (by omega) (by omega) _
theorem fc_poke (v : Nat) (hv : v < 4294967296) (w : Nat) (hw : w < 4294967296) : zFst 99940 161 (zput (zput (zput 0 2 (w + 1)) 1 (v + 1)) 0 (4294967297 + 1)) 253 (zput (zput (zput 0 2 (w + 1)) 1 (v + 1)) 0 (4294967358 + 1)) := by
  by_cases sg : 2147483648 ≤ v
  · exact fs_poke_neg v hv w hw sg _
  by_cases b : v < 8192
  · by_cases p : v % 2 = 0
    · exact fs_poke_even v hv w hw b p _
    · exact fs_poke_odd v hv w hw b (by omega) _
  · by_cases p : v % 2 = 0
    · exact fs_poke_heven v hv w hw (by omega) (by omega) p _
    · exact fs_poke_hodd v hv w hw (by omega) (by omega) (by omega) _
theorem fc_set (v : Nat) (hv : v < 4294967296) (w : Nat) (hw : w < 4294967296) : zFst 99940 167 (zput (zput (zput 0 2 (w + 1)) 1 (v + 1)) 0 (4294967297 + 1)) 269 (zput (zput (zput 0 2 (w + 1)) 1 (v + 1)) 0 (4294967358 + 1)) := by
  by_cases k0 : v = 0
  · subst k0; exact fs_set_0 w hw _
  by_cases k1 : v = 1
  · subst k1; exact fs_set_1 w hw _
  by_cases k2 : v = 2
  · subst k2; exact fs_set_2 w hw _
  by_cases k3 : v = 3
  · subst k3; exact fs_set_3 w hw _
  by_cases k4 : v = 4
  · subst k4; exact fs_set_4 w hw _
  by_cases k5 : v = 5
  · subst k5; exact fs_set_5 w hw _
  by_cases k6 : v = 6
  · subst k6; exact fs_set_6 w hw _
  by_cases k7 : v = 7
  · subst k7; exact fs_set_7 w hw _
  by_cases k8 : v = 8
  · subst k8
    by_cases b8 : z_and w 8 = 0
    ·
      by_cases b4 : z_and w 4 = 0
      ·
        by_cases b2 : z_and w 2 = 0
        ·
          by_cases b1 : w % 2 = 0
          ·
            exact fs_set_8_0 w hw b8 b4 b2 b1 _
          ·
            exact fs_set_8_1 w hw b8 b4 b2 b1 _
        ·
          by_cases b1 : w % 2 = 0
          ·
            exact fs_set_8_2 w hw b8 b4 b2 b1 _
          ·
            exact fs_set_8_3 w hw b8 b4 b2 b1 _
      ·
        by_cases b2 : z_and w 2 = 0
        ·
          by_cases b1 : w % 2 = 0
          ·
            exact fs_set_8_4 w hw b8 b4 b2 b1 _
          ·
            exact fs_set_8_5 w hw b8 b4 b2 b1 _
        ·
          by_cases b1 : w % 2 = 0
          ·
            exact fs_set_8_6 w hw b8 b4 b2 b1 _
          ·
            exact fs_set_8_7 w hw b8 b4 b2 b1 _
    ·
      by_cases b4 : z_and w 4 = 0
      ·
        by_cases b2 : z_and w 2 = 0
        ·
          by_cases b1 : w % 2 = 0
          ·
            exact fs_set_8_8 w hw b8 b4 b2 b1 _
          ·
            exact fs_set_8_9 w hw b8 b4 b2 b1 _
        ·
          by_cases b1 : w % 2 = 0
          ·
            exact fs_set_8_10 w hw b8 b4 b2 b1 _
          ·
            exact fs_set_8_11 w hw b8 b4 b2 b1 _
      ·
        by_cases b2 : z_and w 2 = 0
        ·
          by_cases b1 : w % 2 = 0
          ·
            exact fs_set_8_12 w hw b8 b4 b2 b1 _
          ·
            exact fs_set_8_13 w hw b8 b4 b2 b1 _
        ·
          by_cases b1 : w % 2 = 0
          ·
            exact fs_set_8_14 w hw b8 b4 b2 b1 _
          ·
            exact fs_set_8_15 w hw b8 b4 b2 b1 _
  by_cases sg : 2147483648 ≤ v
  · exact fs_set_neg v hv w hw sg _
  · exact fs_set_big v hv w hw (by omega) (by omega) _
theorem fc_go (v : Nat) (hv : v < 4294967296) : zFst 99940 149 (zput (zput 0 1 (v + 1)) 0 (4294967297 + 1)) 210 (zput (zput 0 1 (v + 1)) 0 (4294967358 + 1)) := by
  by_cases k0 : v = 0
  · subst k0; exact fk_go_0
  by_cases k1 : v = 1
  · subst k1; exact fk_go_1
  by_cases sg : 2147483648 ≤ v
  · exact fs_go_neg v hv sg _
  by_cases b : v ≤ 5000
  · exact fs_go_in v hv (by omega) b _
  · exact fs_go_big v hv (by omega) (by omega) _
theorem fc_feed (x1 : Nat) (hx1 : x1 < 4294967296) (x2 : Nat) (hx2 : x2 < 4294967296) (x3 : Nat) (hx3 : x3 < 4294967296) (x4 : Nat) (hx4 : x4 < 4294967296) (x5 : Nat) (hx5 : x5 < 4294967296) : zFst 99940 148 (zput (zput (zput (zput (zput (zput 0 5 (x5 + 1)) 4 (x4 + 1)) 3 (x3 + 1)) 2 (x2 + 1)) 1 (x1 + 1)) 0 (4294967297 + 1)) 202 (zput (zput (zput (zput (zput (zput 0 5 (x5 + 1)) 4 (x4 + 1)) 3 (x3 + 1)) 2 (x2 + 1)) 1 (x1 + 1)) 0 (4294967358 + 1)) := fs_feed x1 hx1 x2 hx2 x3 hx3 x4 hx4 x5 hx5 _
theorem hit_A {h : zH} (hh : zheq2 h haA5 = true) : zXt 1679 152 (zput 0 0 (4294967297 + 1)) [] h = some ([], hbA5) := by
  unfold zXt zme_A5
  exact zmem2_hit (by decide +kernel) hh
theorem hit_B {h : zH} (hh : zheq2 h haB16 = true) : zXt 1679 218 (zput 0 0 (4294967358 + 1)) [] h = some ([], hbB16) := by
  unfold zXt zme_A5
  rw [zmem2_miss (by decide)]
  unfold zme_B16
  exact zmem2_hit (by decide +kernel) hh
theorem hit_C {h : zH} (hh : zheq2 h haC17 = true) : zXt 1679 156 (zput 0 0 (4294967297 + 1)) [] h = some ([0], hbC17) := by
  unfold zXt zme_A5
  rw [zmem2_miss (by decide)]
  unfold zme_B16
  rw [zmem2_miss (by decide)]
  unfold zme_C17
  exact zmem2_hit (by decide +kernel) hh
theorem hit_D {h : zH} (hh : zheq2 h haD19 = true) : zXt 1679 241 (zput 0 0 (4294967358 + 1)) [] h = some ([0], hbD19) := by
  unfold zXt zme_A5
  rw [zmem2_miss (by decide)]
  unfold zme_B16
  rw [zmem2_miss (by decide)]
  unfold zme_C17
  rw [zmem2_miss (by decide)]
  unfold zme_D19
  exact zmem2_hit (by decide +kernel) hh
theorem hit_E {h : zH} (hh : zheq2 h haE25 = true) : zXt 1679 165 (zput 0 0 (4294967297 + 1)) [] h = some ([], hbE25) := by
  unfold zXt zme_A5
  rw [zmem2_miss (by decide)]
  unfold zme_B16
  rw [zmem2_miss (by decide)]
  unfold zme_C17
  rw [zmem2_miss (by decide)]
  unfold zme_D19
  rw [zmem2_miss (by decide)]
  unfold zme_E25
  exact zmem2_hit (by decide +kernel) hh
theorem hit_F {h : zH} (hh : zheq2 h haF36 = true) : zXt 1679 258 (zput 0 0 (4294967358 + 1)) [] h = some ([], hbF36) := by
  unfold zXt zme_A5
  rw [zmem2_miss (by decide)]
  unfold zme_B16
  rw [zmem2_miss (by decide)]
  unfold zme_C17
  rw [zmem2_miss (by decide)]
  unfold zme_D19
  rw [zmem2_miss (by decide)]
  unfold zme_E25
  rw [zmem2_miss (by decide)]
  unfold zme_F36
  exact zmem2_hit (by decide +kernel) hh
theorem fc_load : zFst 99940 156 (zput 0 0 (4294967297 + 1)) 241 (zput 0 0 (4294967358 + 1)) := ⟨0, hbC17, hbD19, by decide, zrun_hit (n := 99999) (hit_C (by decide +kernel)), by decide +kernel, by decide +kernel, zrun_hit (n := 99999) (hit_D (by decide +kernel)), by decide +kernel, by decide +kernel⟩
