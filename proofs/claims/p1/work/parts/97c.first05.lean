theorem fs_out_pos_o0 (v : Nat) (hv : v < 4294967296) (i1 : 0 ≤ v) (i2 : v < 2147483648) : (0 + 2147483648) % 4294967296 ≤ (v + 2147483648) % 4294967296 := by omega
theorem fs_out_pos_o1 (v : Nat) (hv : v < 4294967296) (i1 : 0 ≤ v) (i2 : v < 2147483648) : (4294967295 + 2147483648) % 4294967296 < (v + 2147483648) % 4294967296 := by omega
theorem fs_out_pos (v : Nat) (hv : v < 4294967296) (i1 : 0 ≤ v) (i2 : v < 2147483648) (n : Nat) : zFst n 159 (zput (zput 0 1 (v + 1)) 0 (4294967297 + 1)) 249 (zput (zput 0 1 (v + 1)) 0 (4294967358 + 1)) := by
  have hs0 : hbB16.1 = 129 := rfl
  have sl0 : hbB16.2.1 = 650610 := rfl
  obtain ⟨L1, eL1⟩ : ∃ x : Nat, x = zput 0 1 (v + 1) := ⟨_, rfl⟩
  obtain ⟨L2, eL2⟩ : ∃ x : Nat, x = zput L1 0 (4294967297 + 1) := ⟨_, rfl⟩
  have lL1_1 : zlane L1 1 = v + 1 := by rw [eL1]; exact zlane_same (Nat.lt_of_le_of_lt (Nat.succ_le_of_lt hv) (by decide))
  have lL2_1 : zlane L2 1 = v + 1 := by rw [eL2]; exact (zlane_ne (by decide) (by decide)).trans lL1_1
  have lL2_0 : zlane L2 0 = 4294967297 + 1 := by rw [eL2]; exact zlane_same (by decide)
  have v0_7_0 : zcv haA0_c0 7 = 4294967312 := by decide +kernel
  have g0_0 : zget 8 hbB16.2.2 0 = haA0_c0 := rfl
  have st0_0 : haA0_c0.1 = 11 := rfl
  have ln0_0 : haA0_c0.2.1 = 18 := rfl
  have v15_7_0 : zcv haA0_c15 7 = 0 := by decide +kernel
  have g15_0 : zget 8 hbB16.2.2 15 = haA0_c15 := rfl
  have st15_0 : haA0_c15.1 = 8 := rfl
  have ln15_0 : haA0_c15.2.1 = 9 := rfl
  obtain ⟨L3, eL3⟩ : ∃ x : Nat, x = zput 0 1 (v + 1) := ⟨_, rfl⟩
  obtain ⟨L4, eL4⟩ : ∃ x : Nat, x = zput L3 0 (4294967358 + 1) := ⟨_, rfl⟩
  have lL3_1 : zlane L3 1 = v + 1 := by rw [eL3]; exact zlane_same (Nat.lt_of_le_of_lt (Nat.succ_le_of_lt hv) (by decide))
  have lL4_1 : zlane L4 1 = v + 1 := by rw [eL4]; exact (zlane_ne (by decide) (by decide)).trans lL3_1
  have lL4_0 : zlane L4 0 = 4294967358 + 1 := by rw [eL4]; exact zlane_same (by decide)
  have v61_26_0 : zcv hbB15_c61 26 = 0 := by decide +kernel
  have g61_0 : zget 8 hbB16.2.2 61 = hbB15_c61 := rfl
  have st61_0 : hbB15_c61.1 = 12 := rfl
  have ln61_0 : hbB15_c61.2.1 = 114 := rfl
  obtain ⟨L5, eL5⟩ : ∃ x : Nat, x = zput 0 2 (4294967295 + 1) := ⟨_, rfl⟩
  obtain ⟨L6, eL6⟩ : ∃ x : Nat, x = zput L5 1 (0 + 1) := ⟨_, rfl⟩
  obtain ⟨L7, eL7⟩ : ∃ x : Nat, x = zput L6 0 (v + 1) := ⟨_, rfl⟩
  have lL7_0 : zlane L7 0 = v + 1 := by rw [eL7]; exact zlane_same (Nat.lt_of_le_of_lt (Nat.succ_le_of_lt hv) (by decide))
  have lL6_1 : zlane L6 1 = 0 + 1 := by rw [eL6]; exact zlane_same (by decide)
  have lL7_1 : zlane L7 1 = 0 + 1 := by rw [eL7]; exact (zlane_ne (Nat.lt_of_le_of_lt (Nat.succ_le_of_lt hv) (by decide)) (by decide)).trans lL6_1
  have lL5_2 : zlane L5 2 = 4294967295 + 1 := by rw [eL5]; exact zlane_same (by decide)
  have lL6_2 : zlane L6 2 = 4294967295 + 1 := by rw [eL6]; exact (zlane_ne (by decide) (by decide)).trans lL5_2
  have lL7_2 : zlane L7 2 = 4294967295 + 1 := by rw [eL7]; exact (zlane_ne (Nat.lt_of_le_of_lt (Nat.succ_le_of_lt hv) (by decide)) (by decide)).trans lL6_2
  have MS : (zget 8 hbB16.2.2 61).1 = 12 := by rw [g61_0]; exact st61_0
  have A1 : zrunX zXt 9 ztc (n + 60) 1679 159 L2 [] hbB16 = some ([4294967295], hbB16) := by
    refine (ca_159 (n := n + 59)).trans ?_
    refine (e_iload lL2_1 hv).trans ?_
    refine (f_if_f (f := fun a => z_lt a 0) hv (zlt_f (a := v) (b := 0) (fs_out_pos_o0 v hv i1 i2))).trans ?_
    refine (e_iload lL2_1 hv).trans ?_
    refine (e_aload lL2_0 (by decide)).trans ?_
    refine (f_getf (k := 0) (by rw [hs0]; decide) g0_0 st0_0 (by rw [ln0_0]; decide) v0_7_0).trans ?_
    refine (f_getf (k := 15) (by rw [hs0]; decide) g15_0 st15_0 (by rw [ln15_0]; decide) v15_7_0).trans ?_
    refine (f_cmp_t (f := z_ge) hv (by decide) (zge_t (a := v) (b := 0) (fs_out_pos_o0 v hv i1 i2))).trans ?_
    refine (e_push).trans ?_
    exact e_ret (R := zrunX zXt 9 ztc (n + 59)) (d := 1679) (L := L2) (h := hbB16) (v := 4294967295) (by decide)
  have A2 : zrunX zXt 9 ztc (n + 60) 1679 249 L4 [] hbB16 = some ([4294967295], hbB16) := by
    refine (ca_249 (n := n + 59)).trans ?_
    refine (e_iload lL4_1 hv).trans ?_
    refine (e_push).trans ?_
    refine (e_aload lL4_0 (by decide)).trans ?_
    refine (f_getf (k := 61) (by rw [hs0]; decide) g61_0 st61_0 (by rw [ln61_0]; decide) v61_26_0).trans ?_
    refine (e_push).trans ?_
    refine (f_bin (f := z_sub) (v := 4294967295) (by decide) (by decide) (by decide +kernel)).trans ?_
    have m8 : zrunX zXt 9 ztc (n + 59) 1678 217 L7 [] hbB16 = some ([0], hbB16) := by
      refine (ca_217 (n := n + 58)).trans ?_
      refine (e_iload lL7_0 hv).trans ?_
      refine (e_iload lL7_1 (by decide)).trans ?_
      refine (f_cmp_f (f := z_lt) hv (by decide) (zlt_f (a := v) (b := 0) (fs_out_pos_o0 v hv i1 i2))).trans ?_
      refine (e_iload lL7_0 hv).trans ?_
      refine (e_iload lL7_2 (by decide)).trans ?_
      refine (f_cmp_t (f := z_gt) hv (by decide) (zgt_t (a := v) (b := 4294967295) (fs_out_pos_o1 v hv i1 i2))).trans ?_
      refine (e_push).trans ?_
      exact e_zret (R := zrunX zXt 9 ztc (n + 58)) (d := 1678) (L := L7) (h := hbB16) (v := 0) (by decide)
    refine (f_callS (d' := 1678) (S0 := [4294967295, 0, v]) (S' := []) (S2 := [0]) (fun q => by rw [zargs_s q (by decide), ← eL5, zargs_s q (by decide), ← eL6, zargs_s q (Nat.le_of_lt (Nat.lt_trans hv (by decide))), ← eL7]; rfl) (Nat.le_of_ble_eq_true rfl) m8 (hs0.trans hs0.symm) rfl).trans ?_
    refine (f_if_t (f := fun a => Nat.beq a 0) (by decide) (by decide +kernel)).trans ?_
    refine (e_push).trans ?_
    exact e_ret (R := zrunX zXt 9 ztc (n + 59)) (d := 1679) (L := L4) (h := hbB16) (v := 4294967295) (by decide)
  rw [eL2, eL1] at A1
  rw [eL4, eL3] at A2
  exact ⟨_, _, _, (by decide), A1, hs0, MS, A2, hs0, sl0⟩
theorem fs_input_in_o0 (v : Nat) (hv : v < 4294967296) (i1 : v < 16384) : (4294950912 + 2147483648) % 4294967296 ≤ (v + 2147483648) % 4294967296 := by omega
theorem fs_input_in_o1 (v : Nat) (hv : v < 4294967296) (i1 : v < 16384) : (v + 2147483648) % 4294967296 ≤ (16383 + 2147483648) % 4294967296 := by omega
theorem fs_input_in (v : Nat) (hv : v < 4294967296) (i1 : v < 16384) (n : Nat) : zFst n 153 (zput (zput 0 1 (v + 1)) 0 (4294967297 + 1)) 219 (zput (zput 0 1 (v + 1)) 0 (4294967358 + 1)) := by
  have hs0 : hbB16.1 = 129 := rfl
  have sl0 : hbB16.2.1 = 650610 := rfl
  obtain ⟨L1, eL1⟩ : ∃ x : Nat, x = zput 0 1 (v + 1) := ⟨_, rfl⟩
  obtain ⟨L2, eL2⟩ : ∃ x : Nat, x = zput L1 0 (4294967297 + 1) := ⟨_, rfl⟩
  have lL2_0 : zlane L2 0 = 4294967297 + 1 := by rw [eL2]; exact zlane_same (by decide)
  have v0_8_0 : zcv haA0_c0 8 = 4294967315 := by decide +kernel
  have g0_0 : zget 8 hbB16.2.2 0 = haA0_c0 := rfl
  have st0_0 : haA0_c0.1 = 11 := rfl
  have ln0_0 : haA0_c0.2.1 = 18 := rfl
  have lL1_1 : zlane L1 1 = v + 1 := by rw [eL1]; exact zlane_same (Nat.lt_of_le_of_lt (Nat.succ_le_of_lt hv) (by decide))
  have lL2_1 : zlane L2 1 = v + 1 := by rw [eL2]; exact (zlane_ne (by decide) (by decide)).trans lL1_1
  obtain ⟨L3, eL3⟩ : ∃ x : Nat, x = zput 0 1 (v + 1) := ⟨_, rfl⟩
  obtain ⟨L4, eL4⟩ : ∃ x : Nat, x = zput L3 0 (4294967315 + 1) := ⟨_, rfl⟩
  have lL3_1 : zlane L3 1 = v + 1 := by rw [eL3]; exact zlane_same (Nat.lt_of_le_of_lt (Nat.succ_le_of_lt hv) (by decide))
  have lL4_1 : zlane L4 1 = v + 1 := by rw [eL4]; exact (zlane_ne (by decide) (by decide)).trans lL3_1
  have lL4_0 : zlane L4 0 = 4294967315 + 1 := by rw [eL4]; exact zlane_same (by decide)
  have v18_14_0 : zcv haA0_c18 14 = 0 := by decide +kernel
  have g18_0 : zget 8 hbB16.2.2 18 = haA0_c18 := rfl
  have st18_0 : haA0_c18.1 = 6 := rfl
  have ln18_0 : haA0_c18.2.1 = 15 := rfl
  have v18_13_0 : zcv haA0_c18 13 = 4294967318 := by decide +kernel
  have g21_0 : zget 8 hbB16.2.2 21 = haA0_c21 := rfl
  have st21_0 : haA0_c21.1 = 100 := rfl
  have ln21_0 : haA0_c21.2.1 = 50 := rfl
  obtain ⟨h1, eh1⟩ : ∃ x : zH, x = (hbB16.1, hbB16.2.1, zst 8 hbB16.2.2 21 (fun c => zcst c 0 ((z_add (z_mul 2 v) 1) % 65536))) := ⟨_, rfl⟩
  have hs1 : h1.1 = 129 := by rw [eh1]; exact hs0
  have sl1 : h1.2.1 = 650610 := by rw [eh1]; exact sl0
  have g18_1 : zget 8 h1.2.2 18 = haA0_c18 := by rw [eh1]; exact zg_n (by decide) (by decide) (by decide) g18_0
  obtain ⟨h2, eh2⟩ : ∃ x : zH, x = (h1.1, h1.2.1, zst 8 h1.2.2 18 (fun c => zcst c 14 1)) := ⟨_, rfl⟩
  have hs2 : h2.1 = 129 := by rw [eh2]; exact hs1
  have sl2 : h2.2.1 = 650610 := by rw [eh2]; exact sl1
  obtain ⟨L6, eL6⟩ : ∃ x : Nat, x = zput 0 1 (v + 1) := ⟨_, rfl⟩
  obtain ⟨L7, eL7⟩ : ∃ x : Nat, x = zput L6 0 (4294967358 + 1) := ⟨_, rfl⟩
  have lL6_1 : zlane L6 1 = v + 1 := by rw [eL6]; exact zlane_same (Nat.lt_of_le_of_lt (Nat.succ_le_of_lt hv) (by decide))
  have lL7_1 : zlane L7 1 = v + 1 := by rw [eL7]; exact (zlane_ne (by decide) (by decide)).trans lL6_1
  obtain ⟨L8, eL8⟩ : ∃ x : Nat, x = zput 0 2 (16383 + 1) := ⟨_, rfl⟩
  obtain ⟨L9, eL9⟩ : ∃ x : Nat, x = zput L8 1 (4294950912 + 1) := ⟨_, rfl⟩
  obtain ⟨L10, eL10⟩ : ∃ x : Nat, x = zput L9 0 (v + 1) := ⟨_, rfl⟩
  have lL10_0 : zlane L10 0 = v + 1 := by rw [eL10]; exact zlane_same (Nat.lt_of_le_of_lt (Nat.succ_le_of_lt hv) (by decide))
  have lL9_1 : zlane L9 1 = 4294950912 + 1 := by rw [eL9]; exact zlane_same (by decide)
  have lL10_1 : zlane L10 1 = 4294950912 + 1 := by rw [eL10]; exact (zlane_ne (Nat.lt_of_le_of_lt (Nat.succ_le_of_lt hv) (by decide)) (by decide)).trans lL9_1
  have lL8_2 : zlane L8 2 = 16383 + 1 := by rw [eL8]; exact zlane_same (by decide)
  have lL9_2 : zlane L9 2 = 16383 + 1 := by rw [eL9]; exact (zlane_ne (by decide) (by decide)).trans lL8_2
  have lL10_2 : zlane L10 2 = 16383 + 1 := by rw [eL10]; exact (zlane_ne (Nat.lt_of_le_of_lt (Nat.succ_le_of_lt hv) (by decide)) (by decide)).trans lL9_2
  have lL7_0 : zlane L7 0 = 4294967358 + 1 := by rw [eL7]; exact zlane_same (by decide)
  have v61_23_0 : zcv hbB15_c61 23 = 0 := by decide +kernel
  have g61_0 : zget 8 hbB16.2.2 61 = hbB15_c61 := rfl
  have g61_1 : zget 8 h1.2.2 61 = hbB15_c61 := by rw [eh1]; exact zg_n (by decide) (by decide) (by decide) g61_0
  have g61_2 : zget 8 h2.2.2 61 = hbB15_c61 := by rw [eh2]; exact zg_n (by decide) (by decide) (by decide) g61_1
  have st61_0 : hbB15_c61.1 = 12 := rfl
  have ln61_0 : hbB15_c61.2.1 = 114 := rfl
  have v61_22_0 : zcv hbB15_c61 22 = 4294967373 := by decide +kernel
  have g76_0 : zget 8 hbB16.2.2 76 = haA0_c21 := rfl
  have g76_1 : zget 8 h1.2.2 76 = haA0_c21 := by rw [eh1]; exact zg_n (by decide) (by decide) (by decide) g76_0
  have g76_2 : zget 8 h2.2.2 76 = haA0_c21 := by rw [eh2]; exact zg_n (by decide) (by decide) (by decide) g76_1
  have st76_0 : haA0_c21.1 = 100 := rfl
  have ln76_0 : haA0_c21.2.1 = 50 := rfl
  obtain ⟨h3, eh3⟩ : ∃ x : zH, x = (h2.1, h2.2.1, zst 8 h2.2.2 76 (fun c => zcst c 0 v)) := ⟨_, rfl⟩
  have hs3 : h3.1 = 129 := by rw [eh3]; exact hs2
  have sl3 : h3.2.1 = 650610 := by rw [eh3]; exact sl2
  have g61_3 : zget 8 h3.2.2 61 = hbB15_c61 := by rw [eh3]; exact zg_n (by decide) (by decide) (by decide) g61_2
  obtain ⟨h4, eh4⟩ : ∃ x : zH, x = (h3.1, h3.2.1, zst 8 h3.2.2 61 (fun c => zcst c 23 1)) := ⟨_, rfl⟩
  have hs4 : h4.1 = 129 := by rw [eh4]; exact hs3
  have sl4 : h4.2.1 = 650610 := by rw [eh4]; exact sl3
  have MS : (zget 8 h2.2.2 61).1 = 12 := by rw [g61_2]; exact st61_0
  have A1 : zrunX zXt 9 ztc (n + 60) 1679 153 L2 [] hbB16 = some ([1], h2) := by
    refine (ca_153 (n := n + 59)).trans ?_
    refine (e_aload lL2_0 (by decide)).trans ?_
    refine (f_getf (k := 0) (by rw [hs0]; decide) g0_0 st0_0 (by rw [ln0_0]; decide) v0_8_0).trans ?_
    refine (e_iload lL2_1 hv).trans ?_
    have m5 : zrunX zXt 9 ztc (n + 59) 1678 89 L4 [] hbB16 = some ([1], h2) := by
      refine (ca_89 (n := n + 58)).trans ?_
      refine (e_iload lL4_1 hv).trans ?_
      refine (e_push).trans ?_
      refine (f_cmp_f (f := z_lt) hv (by decide) (zlt_f (a := v) (b := 4294950912) (fs_input_in_o0 v hv i1))).trans ?_
      refine (e_iload lL4_1 hv).trans ?_
      refine (e_push).trans ?_
      refine (f_cmp_f (f := z_gt) hv (by decide) (zgt_f (a := v) (b := 16383) (fs_input_in_o1 v hv i1))).trans ?_
      refine (e_aload lL4_0 (by decide)).trans ?_
      refine (f_getf (k := 18) (by rw [hs0]; decide) g18_0 st18_0 (by rw [ln18_0]; decide) v18_14_0).trans ?_
      refine (e_push).trans ?_
      refine (f_cmp_t (f := z_lt) (by decide) (by decide) (by decide +kernel)).trans ?_
      refine (e_aload lL4_0 (by decide)).trans ?_
      refine (f_getf (k := 18) (by rw [hs0]; decide) g18_0 st18_0 (by rw [ln18_0]; decide) v18_13_0).trans ?_
      refine (e_aload lL4_0 (by decide)).trans ?_
      refine (f_getf (k := 18) (by rw [hs0]; decide) g18_0 st18_0 (by rw [ln18_0]; decide) v18_14_0).trans ?_
      refine (e_push).trans ?_
      refine (e_iload lL4_1 hv).trans ?_
      refine (f_bin (f := z_mul) (v := (z_mul 2 v)) (by decide) hv rfl).trans ?_
      refine (e_push).trans ?_
      refine (f_bin (f := z_add) (v := (z_add (z_mul 2 v) 1)) (show (z_mul 2 v) < 4294967296 from (z_mul_ok _ _ (by decide) hv).1) (by decide) rfl).trans ?_
      refine (e_push).trans ?_
      refine (f_bin (f := z_and) (v := ((z_add (z_mul 2 v) 1) % 65536)) (show (z_add (z_mul 2 v) 1) < 4294967296 from (z_add_ok _ _ (show (z_mul 2 v) < 4294967296 from (z_mul_ok _ _ (by decide) hv).1) (by decide)).1) (by decide) (z_and_m (k := 16) (by decide))).trans ?_
      refine (f_iast (k := 21) (show ((z_add (z_mul 2 v) 1) % 65536) < 4294967296 from (Nat.lt_trans (Nat.mod_lt _ (by decide)) (by decide))) (by decide) (by rw [hs0]; decide) g21_0 st21_0 (by rw [ln21_0]; decide) eh1.symm).trans ?_
      refine (e_aload lL4_0 (by decide)).trans ?_
      refine (e_dup).trans ?_
      refine (f_getf (k := 18) (by rw [hs1]; decide) g18_1 st18_0 (by rw [ln18_0]; decide) v18_14_0).trans ?_
      refine (e_push).trans ?_
      refine (f_bin (f := z_add) (v := 1) (by decide) (by decide) (by decide +kernel)).trans ?_
      refine (f_putf (ck := ck_int) (k := 18) (by decide +kernel) (by rw [hs1]; decide) g18_1 st18_0 (by rw [ln18_0]; decide) eh2.symm).trans ?_
      refine (e_push).trans ?_
      exact e_zret (R := zrunX zXt 9 ztc (n + 58)) (d := 1678) (L := L4) (h := h2) (v := 1) (by decide)
    refine (f_callV (k := 18) (d' := 1678) (S0 := [v, 4294967315]) (S' := []) (S2 := [1]) (fun q => by rw [zargs_s q (Nat.le_of_lt (Nat.lt_trans hv (by decide))), ← eL3, zargs_s q (by decide), ← eL4]; rfl) lL4_0 (by rw [hs0]; decide) g18_0 st18_0 (Nat.le_of_ble_eq_true rfl) m5 (hs2.trans hs0.symm) rfl).trans ?_
    exact e_zret (R := zrunX zXt 9 ztc (n + 59)) (d := 1679) (L := L2) (h := h2) (v := 1) (by decide)
  have A2 : zrunX zXt 9 ztc (n + 60) 1679 219 L7 [] h2 = some ([1], h4) := by
    refine (ca_219 (n := n + 59)).trans ?_
    refine (e_iload lL7_1 hv).trans ?_
    refine (e_push).trans ?_
    refine (e_push).trans ?_
    have m11 : zrunX zXt 9 ztc (n + 59) 1678 217 L10 [] h2 = some ([1], h2) := by
      refine (ca_217 (n := n + 58)).trans ?_
      refine (e_iload lL10_0 hv).trans ?_
      refine (e_iload lL10_1 (by decide)).trans ?_
      refine (f_cmp_f (f := z_lt) hv (by decide) (zlt_f (a := v) (b := 4294950912) (fs_input_in_o0 v hv i1))).trans ?_
      refine (e_iload lL10_0 hv).trans ?_
      refine (e_iload lL10_2 (by decide)).trans ?_
      refine (f_cmp_f (f := z_gt) hv (by decide) (zgt_f (a := v) (b := 16383) (fs_input_in_o1 v hv i1))).trans ?_
      refine (e_push).trans ?_
      show q_X12_in_15 _ _ _ _ _ = _
      exact e_zret (R := zrunX zXt 9 ztc (n + 58)) (d := 1678) (L := L10) (h := h2) (v := 1) (by decide)
    refine (f_callS (d' := 1678) (S0 := [16383, 4294950912, v]) (S' := []) (S2 := [1]) (fun q => by rw [zargs_s q (by decide), ← eL8, zargs_s q (by decide), ← eL9, zargs_s q (Nat.le_of_lt (Nat.lt_trans hv (by decide))), ← eL10]; rfl) (Nat.le_of_ble_eq_true rfl) m11 (hs2.trans hs2.symm) rfl).trans ?_
    refine (f_if_f (f := fun a => Nat.beq a 0) (by decide) (by decide +kernel)).trans ?_
    refine (e_aload lL7_0 (by decide)).trans ?_
    refine (f_getf (k := 61) (by rw [hs2]; decide) g61_2 st61_0 (by rw [ln61_0]; decide) v61_23_0).trans ?_
    refine (e_push).trans ?_
    refine (f_cmp_t (f := z_ne) (by decide) (by decide) (by decide +kernel)).trans ?_
    refine (e_aload lL7_0 (by decide)).trans ?_
    refine (f_getf (k := 61) (by rw [hs2]; decide) g61_2 st61_0 (by rw [ln61_0]; decide) v61_22_0).trans ?_
    refine (e_aload lL7_0 (by decide)).trans ?_
    refine (f_getf (k := 61) (by rw [hs2]; decide) g61_2 st61_0 (by rw [ln61_0]; decide) v61_23_0).trans ?_
    refine (e_iload lL7_1 hv).trans ?_
    refine (f_iast (k := 76) hv (by decide) (by rw [hs2]; decide) g76_2 st76_0 (by rw [ln76_0]; decide) eh3.symm).trans ?_
    refine (e_aload lL7_0 (by decide)).trans ?_
    refine (e_dup).trans ?_
    refine (f_getf (k := 61) (by rw [hs3]; decide) g61_3 st61_0 (by rw [ln61_0]; decide) v61_23_0).trans ?_
    refine (e_push).trans ?_
    refine (f_bin (f := z_add) (v := 1) (by decide) (by decide) (by decide +kernel)).trans ?_
    refine (f_putf (ck := ck_int) (k := 61) (by decide +kernel) (by rw [hs3]; decide) g61_3 st61_0 (by rw [ln61_0]; decide) eh4.symm).trans ?_
    refine (e_push).trans ?_
    exact e_zret (R := zrunX zXt 9 ztc (n + 59)) (d := 1679) (L := L7) (h := h4) (v := 1) (by decide)
  rw [eL2, eL1] at A1
  rw [eL7, eL6] at A2
  exact ⟨_, _, _, (by decide), A1, hs2, MS, A2, hs4, sl4⟩
theorem fs_input_neg_o0 (v : Nat) (hv : v < 4294967296) (i1 : 4294950912 ≤ v) : (4294950912 + 2147483648) % 4294967296 ≤ (v + 2147483648) % 4294967296 := by omega
theorem fs_input_neg_o1 (v : Nat) (hv : v < 4294967296) (i1 : 4294950912 ≤ v) : (v + 2147483648) % 4294967296 ≤ (16383 + 2147483648) % 4294967296 := by omega
theorem fs_input_neg (v : Nat) (hv : v < 4294967296) (i1 : 4294950912 ≤ v) (n : Nat) : zFst n 153 (zput (zput 0 1 (v + 1)) 0 (4294967297 + 1)) 219 (zput (zput 0 1 (v + 1)) 0 (4294967358 + 1)) := by
  have hs0 : hbB16.1 = 129 := rfl
  have sl0 : hbB16.2.1 = 650610 := rfl
  obtain ⟨L1, eL1⟩ : ∃ x : Nat, x = zput 0 1 (v + 1) := ⟨_, rfl⟩
  obtain ⟨L2, eL2⟩ : ∃ x : Nat, x = zput L1 0 (4294967297 + 1) := ⟨_, rfl⟩
  have lL2_0 : zlane L2 0 = 4294967297 + 1 := by rw [eL2]; exact zlane_same (by decide)
  have v0_8_0 : zcv haA0_c0 8 = 4294967315 := by decide +kernel
  have g0_0 : zget 8 hbB16.2.2 0 = haA0_c0 := rfl
  have st0_0 : haA0_c0.1 = 11 := rfl
  have ln0_0 : haA0_c0.2.1 = 18 := rfl
  have lL1_1 : zlane L1 1 = v + 1 := by rw [eL1]; exact zlane_same (Nat.lt_of_le_of_lt (Nat.succ_le_of_lt hv) (by decide))
  have lL2_1 : zlane L2 1 = v + 1 := by rw [eL2]; exact (zlane_ne (by decide) (by decide)).trans lL1_1
  obtain ⟨L3, eL3⟩ : ∃ x : Nat, x = zput 0 1 (v + 1) := ⟨_, rfl⟩
  obtain ⟨L4, eL4⟩ : ∃ x : Nat, x = zput L3 0 (4294967315 + 1) := ⟨_, rfl⟩
  have lL3_1 : zlane L3 1 = v + 1 := by rw [eL3]; exact zlane_same (Nat.lt_of_le_of_lt (Nat.succ_le_of_lt hv) (by decide))
  have lL4_1 : zlane L4 1 = v + 1 := by rw [eL4]; exact (zlane_ne (by decide) (by decide)).trans lL3_1
  have lL4_0 : zlane L4 0 = 4294967315 + 1 := by rw [eL4]; exact zlane_same (by decide)
  have v18_14_0 : zcv haA0_c18 14 = 0 := by decide +kernel
  have g18_0 : zget 8 hbB16.2.2 18 = haA0_c18 := rfl
  have st18_0 : haA0_c18.1 = 6 := rfl
  have ln18_0 : haA0_c18.2.1 = 15 := rfl
  have v18_13_0 : zcv haA0_c18 13 = 4294967318 := by decide +kernel
  have g21_0 : zget 8 hbB16.2.2 21 = haA0_c21 := rfl
  have st21_0 : haA0_c21.1 = 100 := rfl
  have ln21_0 : haA0_c21.2.1 = 50 := rfl
  obtain ⟨h1, eh1⟩ : ∃ x : zH, x = (hbB16.1, hbB16.2.1, zst 8 hbB16.2.2 21 (fun c => zcst c 0 ((z_add (z_mul 2 v) 1) % 65536))) := ⟨_, rfl⟩
  have hs1 : h1.1 = 129 := by rw [eh1]; exact hs0
  have sl1 : h1.2.1 = 650610 := by rw [eh1]; exact sl0
  have g18_1 : zget 8 h1.2.2 18 = haA0_c18 := by rw [eh1]; exact zg_n (by decide) (by decide) (by decide) g18_0
  obtain ⟨h2, eh2⟩ : ∃ x : zH, x = (h1.1, h1.2.1, zst 8 h1.2.2 18 (fun c => zcst c 14 1)) := ⟨_, rfl⟩
  have hs2 : h2.1 = 129 := by rw [eh2]; exact hs1
  have sl2 : h2.2.1 = 650610 := by rw [eh2]; exact sl1
  obtain ⟨L6, eL6⟩ : ∃ x : Nat, x = zput 0 1 (v + 1) := ⟨_, rfl⟩
  obtain ⟨L7, eL7⟩ : ∃ x : Nat, x = zput L6 0 (4294967358 + 1) := ⟨_, rfl⟩
  have lL6_1 : zlane L6 1 = v + 1 := by rw [eL6]; exact zlane_same (Nat.lt_of_le_of_lt (Nat.succ_le_of_lt hv) (by decide))
  have lL7_1 : zlane L7 1 = v + 1 := by rw [eL7]; exact (zlane_ne (by decide) (by decide)).trans lL6_1
  obtain ⟨L8, eL8⟩ : ∃ x : Nat, x = zput 0 2 (16383 + 1) := ⟨_, rfl⟩
  obtain ⟨L9, eL9⟩ : ∃ x : Nat, x = zput L8 1 (4294950912 + 1) := ⟨_, rfl⟩
  obtain ⟨L10, eL10⟩ : ∃ x : Nat, x = zput L9 0 (v + 1) := ⟨_, rfl⟩
  have lL10_0 : zlane L10 0 = v + 1 := by rw [eL10]; exact zlane_same (Nat.lt_of_le_of_lt (Nat.succ_le_of_lt hv) (by decide))
  have lL9_1 : zlane L9 1 = 4294950912 + 1 := by rw [eL9]; exact zlane_same (by decide)
  have lL10_1 : zlane L10 1 = 4294950912 + 1 := by rw [eL10]; exact (zlane_ne (Nat.lt_of_le_of_lt (Nat.succ_le_of_lt hv) (by decide)) (by decide)).trans lL9_1
  have lL8_2 : zlane L8 2 = 16383 + 1 := by rw [eL8]; exact zlane_same (by decide)
  have lL9_2 : zlane L9 2 = 16383 + 1 := by rw [eL9]; exact (zlane_ne (by decide) (by decide)).trans lL8_2
  have lL10_2 : zlane L10 2 = 16383 + 1 := by rw [eL10]; exact (zlane_ne (Nat.lt_of_le_of_lt (Nat.succ_le_of_lt hv) (by decide)) (by decide)).trans lL9_2
  have lL7_0 : zlane L7 0 = 4294967358 + 1 := by rw [eL7]; exact zlane_same (by decide)
  have v61_23_0 : zcv hbB15_c61 23 = 0 := by decide +kernel
  have g61_0 : zget 8 hbB16.2.2 61 = hbB15_c61 := rfl
  have g61_1 : zget 8 h1.2.2 61 = hbB15_c61 := by rw [eh1]; exact zg_n (by decide) (by decide) (by decide) g61_0
  have g61_2 : zget 8 h2.2.2 61 = hbB15_c61 := by rw [eh2]; exact zg_n (by decide) (by decide) (by decide) g61_1
  have st61_0 : hbB15_c61.1 = 12 := rfl
  have ln61_0 : hbB15_c61.2.1 = 114 := rfl
  have v61_22_0 : zcv hbB15_c61 22 = 4294967373 := by decide +kernel
  have g76_0 : zget 8 hbB16.2.2 76 = haA0_c21 := rfl
  have g76_1 : zget 8 h1.2.2 76 = haA0_c21 := by rw [eh1]; exact zg_n (by decide) (by decide) (by decide) g76_0
  have g76_2 : zget 8 h2.2.2 76 = haA0_c21 := by rw [eh2]; exact zg_n (by decide) (by decide) (by decide) g76_1
  have st76_0 : haA0_c21.1 = 100 := rfl
  have ln76_0 : haA0_c21.2.1 = 50 := rfl
  obtain ⟨h3, eh3⟩ : ∃ x : zH, x = (h2.1, h2.2.1, zst 8 h2.2.2 76 (fun c => zcst c 0 v)) := ⟨_, rfl⟩
  have hs3 : h3.1 = 129 := by rw [eh3]; exact hs2
  have sl3 : h3.2.1 = 650610 := by rw [eh3]; exact sl2
  have g61_3 : zget 8 h3.2.2 61 = hbB15_c61 := by rw [eh3]; exact zg_n (by decide) (by decide) (by decide) g61_2
  obtain ⟨h4, eh4⟩ : ∃ x : zH, x = (h3.1, h3.2.1, zst 8 h3.2.2 61 (fun c => zcst c 23 1)) := ⟨_, rfl⟩
  have hs4 : h4.1 = 129 := by rw [eh4]; exact hs3
  have sl4 : h4.2.1 = 650610 := by rw [eh4]; exact sl3
  have MS : (zget 8 h2.2.2 61).1 = 12 := by rw [g61_2]; exact st61_0
  have A1 : zrunX zXt 9 ztc (n + 60) 1679 153 L2 [] hbB16 = some ([1], h2) := by
    refine (ca_153 (n := n + 59)).trans ?_
    refine (e_aload lL2_0 (by decide)).trans ?_
    refine (f_getf (k := 0) (by rw [hs0]; decide) g0_0 st0_0 (by rw [ln0_0]; decide) v0_8_0).trans ?_
    refine (e_iload lL2_1 hv).trans ?_
    have m5 : zrunX zXt 9 ztc (n + 59) 1678 89 L4 [] hbB16 = some ([1], h2) := by
      refine (ca_89 (n := n + 58)).trans ?_
      refine (e_iload lL4_1 hv).trans ?_
      refine (e_push).trans ?_
      refine (f_cmp_f (f := z_lt) hv (by decide) (zlt_f (a := v) (b := 4294950912) (fs_input_neg_o0 v hv i1))).trans ?_
      refine (e_iload lL4_1 hv).trans ?_
      refine (e_push).trans ?_
      refine (f_cmp_f (f := z_gt) hv (by decide) (zgt_f (a := v) (b := 16383) (fs_input_neg_o1 v hv i1))).trans ?_
      refine (e_aload lL4_0 (by decide)).trans ?_
      refine (f_getf (k := 18) (by rw [hs0]; decide) g18_0 st18_0 (by rw [ln18_0]; decide) v18_14_0).trans ?_
      refine (e_push).trans ?_
      refine (f_cmp_t (f := z_lt) (by decide) (by decide) (by decide +kernel)).trans ?_
      refine (e_aload lL4_0 (by decide)).trans ?_
      refine (f_getf (k := 18) (by rw [hs0]; decide) g18_0 st18_0 (by rw [ln18_0]; decide) v18_13_0).trans ?_
      refine (e_aload lL4_0 (by decide)).trans ?_
      refine (f_getf (k := 18) (by rw [hs0]; decide) g18_0 st18_0 (by rw [ln18_0]; decide) v18_14_0).trans ?_
      refine (e_push).trans ?_
      refine (e_iload lL4_1 hv).trans ?_
      refine (f_bin (f := z_mul) (v := (z_mul 2 v)) (by decide) hv rfl).trans ?_
      refine (e_push).trans ?_
      refine (f_bin (f := z_add) (v := (z_add (z_mul 2 v) 1)) (show (z_mul 2 v) < 4294967296 from (z_mul_ok _ _ (by decide) hv).1) (by decide) rfl).trans ?_
      refine (e_push).trans ?_
      refine (f_bin (f := z_and) (v := ((z_add (z_mul 2 v) 1) % 65536)) (show (z_add (z_mul 2 v) 1) < 4294967296 from (z_add_ok _ _ (show (z_mul 2 v) < 4294967296 from (z_mul_ok _ _ (by decide) hv).1) (by decide)).1) (by decide) (z_and_m (k := 16) (by decide))).trans ?_
      refine (f_iast (k := 21) (show ((z_add (z_mul 2 v) 1) % 65536) < 4294967296 from (Nat.lt_trans (Nat.mod_lt _ (by decide)) (by decide))) (by decide) (by rw [hs0]; decide) g21_0 st21_0 (by rw [ln21_0]; decide) eh1.symm).trans ?_
      refine (e_aload lL4_0 (by decide)).trans ?_
      refine (e_dup).trans ?_
      refine (f_getf (k := 18) (by rw [hs1]; decide) g18_1 st18_0 (by rw [ln18_0]; decide) v18_14_0).trans ?_
      refine (e_push).trans ?_
      refine (f_bin (f := z_add) (v := 1) (by decide) (by decide) (by decide +kernel)).trans ?_
      refine (f_putf (ck := ck_int) (k := 18) (by decide +kernel) (by rw [hs1]; decide) g18_1 st18_0 (by rw [ln18_0]; decide) eh2.symm).trans ?_
      refine (e_push).trans ?_
      exact e_zret (R := zrunX zXt 9 ztc (n + 58)) (d := 1678) (L := L4) (h := h2) (v := 1) (by decide)
    refine (f_callV (k := 18) (d' := 1678) (S0 := [v, 4294967315]) (S' := []) (S2 := [1]) (fun q => by rw [zargs_s q (Nat.le_of_lt (Nat.lt_trans hv (by decide))), ← eL3, zargs_s q (by decide), ← eL4]; rfl) lL4_0 (by rw [hs0]; decide) g18_0 st18_0 (Nat.le_of_ble_eq_true rfl) m5 (hs2.trans hs0.symm) rfl).trans ?_
    exact e_zret (R := zrunX zXt 9 ztc (n + 59)) (d := 1679) (L := L2) (h := h2) (v := 1) (by decide)
  have A2 : zrunX zXt 9 ztc (n + 60) 1679 219 L7 [] h2 = some ([1], h4) := by
    refine (ca_219 (n := n + 59)).trans ?_
    refine (e_iload lL7_1 hv).trans ?_
    refine (e_push).trans ?_
    refine (e_push).trans ?_
    have m11 : zrunX zXt 9 ztc (n + 59) 1678 217 L10 [] h2 = some ([1], h2) := by
      refine (ca_217 (n := n + 58)).trans ?_
      refine (e_iload lL10_0 hv).trans ?_
      refine (e_iload lL10_1 (by decide)).trans ?_
      refine (f_cmp_f (f := z_lt) hv (by decide) (zlt_f (a := v) (b := 4294950912) (fs_input_neg_o0 v hv i1))).trans ?_
      refine (e_iload lL10_0 hv).trans ?_
      refine (e_iload lL10_2 (by decide)).trans ?_
      refine (f_cmp_f (f := z_gt) hv (by decide) (zgt_f (a := v) (b := 16383) (fs_input_neg_o1 v hv i1))).trans ?_
      refine (e_push).trans ?_
      show q_X12_in_15 _ _ _ _ _ = _
      exact e_zret (R := zrunX zXt 9 ztc (n + 58)) (d := 1678) (L := L10) (h := h2) (v := 1) (by decide)
    refine (f_callS (d' := 1678) (S0 := [16383, 4294950912, v]) (S' := []) (S2 := [1]) (fun q => by rw [zargs_s q (by decide), ← eL8, zargs_s q (by decide), ← eL9, zargs_s q (Nat.le_of_lt (Nat.lt_trans hv (by decide))), ← eL10]; rfl) (Nat.le_of_ble_eq_true rfl) m11 (hs2.trans hs2.symm) rfl).trans ?_
    refine (f_if_f (f := fun a => Nat.beq a 0) (by decide) (by decide +kernel)).trans ?_
    refine (e_aload lL7_0 (by decide)).trans ?_
    refine (f_getf (k := 61) (by rw [hs2]; decide) g61_2 st61_0 (by rw [ln61_0]; decide) v61_23_0).trans ?_
    refine (e_push).trans ?_
    refine (f_cmp_t (f := z_ne) (by decide) (by decide) (by decide +kernel)).trans ?_
    refine (e_aload lL7_0 (by decide)).trans ?_
    refine (f_getf (k := 61) (by rw [hs2]; decide) g61_2 st61_0 (by rw [ln61_0]; decide) v61_22_0).trans ?_
    refine (e_aload lL7_0 (by decide)).trans ?_
    refine (f_getf (k := 61) (by rw [hs2]; decide) g61_2 st61_0 (by rw [ln61_0]; decide) v61_23_0).trans ?_
    refine (e_iload lL7_1 hv).trans ?_
    refine (f_iast (k := 76) hv (by decide) (by rw [hs2]; decide) g76_2 st76_0 (by rw [ln76_0]; decide) eh3.symm).trans ?_
    refine (e_aload lL7_0 (by decide)).trans ?_
    refine (e_dup).trans ?_
    refine (f_getf (k := 61) (by rw [hs3]; decide) g61_3 st61_0 (by rw [ln61_0]; decide) v61_23_0).trans ?_
    refine (e_push).trans ?_
    refine (f_bin (f := z_add) (v := 1) (by decide) (by decide) (by decide +kernel)).trans ?_
    refine (f_putf (ck := ck_int) (k := 61) (by decide +kernel) (by rw [hs3]; decide) g61_3 st61_0 (by rw [ln61_0]; decide) eh4.symm).trans ?_
    refine (e_push).trans ?_
    exact e_zret (R := zrunX zXt 9 ztc (n + 59)) (d := 1679) (L := L7) (h := h4) (v := 1) (by decide)
  rw [eL2, eL1] at A1
  rw [eL7, eL6] at A2
  exact ⟨_, _, _, (by decide), A1, hs2, MS, A2, hs4, sl4⟩
theorem fs_input_big_o0 (v : Nat) (hv : v < 4294967296) (i1 : 16384 ≤ v) (i2 : v < 2147483648) : (4294950912 + 2147483648) % 4294967296 ≤ (v + 2147483648) % 4294967296 := by omega
theorem fs_input_big_o1 (v : Nat) (hv : v < 4294967296) (i1 : 16384 ≤ v) (i2 : v < 2147483648) : (16383 + 2147483648) % 4294967296 < (v + 2147483648) % 4294967296 := by omega
theorem fs_input_big (v : Nat) (hv : v < 4294967296) (i1 : 16384 ≤ v) (i2 : v < 2147483648) (n : Nat) : zFst n 153 (zput (zput 0 1 (v + 1)) 0 (4294967297 + 1)) 219 (zput (zput 0 1 (v + 1)) 0 (4294967358 + 1)) := by
  have hs0 : hbB16.1 = 129 := rfl
  have sl0 : hbB16.2.1 = 650610 := rfl
  obtain ⟨L1, eL1⟩ : ∃ x : Nat, x = zput 0 1 (v + 1) := ⟨_, rfl⟩
  obtain ⟨L2, eL2⟩ : ∃ x : Nat, x = zput L1 0 (4294967297 + 1) := ⟨_, rfl⟩
  have lL2_0 : zlane L2 0 = 4294967297 + 1 := by rw [eL2]; exact zlane_same (by decide)
  have v0_8_0 : zcv haA0_c0 8 = 4294967315 := by decide +kernel
  have g0_0 : zget 8 hbB16.2.2 0 = haA0_c0 := rfl
  have st0_0 : haA0_c0.1 = 11 := rfl
  have ln0_0 : haA0_c0.2.1 = 18 := rfl
  have lL1_1 : zlane L1 1 = v + 1 := by rw [eL1]; exact zlane_same (Nat.lt_of_le_of_lt (Nat.succ_le_of_lt hv) (by decide))
  have lL2_1 : zlane L2 1 = v + 1 := by rw [eL2]; exact (zlane_ne (by decide) (by decide)).trans lL1_1
  obtain ⟨L3, eL3⟩ : ∃ x : Nat, x = zput 0 1 (v + 1) := ⟨_, rfl⟩
  obtain ⟨L4, eL4⟩ : ∃ x : Nat, x = zput L3 0 (4294967315 + 1) := ⟨_, rfl⟩
  have lL3_1 : zlane L3 1 = v + 1 := by rw [eL3]; exact zlane_same (Nat.lt_of_le_of_lt (Nat.succ_le_of_lt hv) (by decide))
  have lL4_1 : zlane L4 1 = v + 1 := by rw [eL4]; exact (zlane_ne (by decide) (by decide)).trans lL3_1
  have lL4_0 : zlane L4 0 = 4294967315 + 1 := by rw [eL4]; exact zlane_same (by decide)
  have g18_0 : zget 8 hbB16.2.2 18 = haA0_c18 := rfl
  have st18_0 : haA0_c18.1 = 6 := rfl
  obtain ⟨L6, eL6⟩ : ∃ x : Nat, x = zput 0 1 (v + 1) := ⟨_, rfl⟩
  obtain ⟨L7, eL7⟩ : ∃ x : Nat, x = zput L6 0 (4294967358 + 1) := ⟨_, rfl⟩
  have lL6_1 : zlane L6 1 = v + 1 := by rw [eL6]; exact zlane_same (Nat.lt_of_le_of_lt (Nat.succ_le_of_lt hv) (by decide))
  have lL7_1 : zlane L7 1 = v + 1 := by rw [eL7]; exact (zlane_ne (by decide) (by decide)).trans lL6_1
  obtain ⟨L8, eL8⟩ : ∃ x : Nat, x = zput 0 2 (16383 + 1) := ⟨_, rfl⟩
  obtain ⟨L9, eL9⟩ : ∃ x : Nat, x = zput L8 1 (4294950912 + 1) := ⟨_, rfl⟩
  obtain ⟨L10, eL10⟩ : ∃ x : Nat, x = zput L9 0 (v + 1) := ⟨_, rfl⟩
  have lL10_0 : zlane L10 0 = v + 1 := by rw [eL10]; exact zlane_same (Nat.lt_of_le_of_lt (Nat.succ_le_of_lt hv) (by decide))
  have lL9_1 : zlane L9 1 = 4294950912 + 1 := by rw [eL9]; exact zlane_same (by decide)
  have lL10_1 : zlane L10 1 = 4294950912 + 1 := by rw [eL10]; exact (zlane_ne (Nat.lt_of_le_of_lt (Nat.succ_le_of_lt hv) (by decide)) (by decide)).trans lL9_1
  have lL8_2 : zlane L8 2 = 16383 + 1 := by rw [eL8]; exact zlane_same (by decide)
  have lL9_2 : zlane L9 2 = 16383 + 1 := by rw [eL9]; exact (zlane_ne (by decide) (by decide)).trans lL8_2
  have lL10_2 : zlane L10 2 = 16383 + 1 := by rw [eL10]; exact (zlane_ne (Nat.lt_of_le_of_lt (Nat.succ_le_of_lt hv) (by decide)) (by decide)).trans lL9_2
  have g61_0 : zget 8 hbB16.2.2 61 = hbB15_c61 := rfl
  have st61_0 : hbB15_c61.1 = 12 := rfl
  have MS : (zget 8 hbB16.2.2 61).1 = 12 := by rw [g61_0]; exact st61_0
  have A1 : zrunX zXt 9 ztc (n + 60) 1679 153 L2 [] hbB16 = some ([0], hbB16) := by
    refine (ca_153 (n := n + 59)).trans ?_
    refine (e_aload lL2_0 (by decide)).trans ?_
    refine (f_getf (k := 0) (by rw [hs0]; decide) g0_0 st0_0 (by rw [ln0_0]; decide) v0_8_0).trans ?_
    refine (e_iload lL2_1 hv).trans ?_
    have m5 : zrunX zXt 9 ztc (n + 59) 1678 89 L4 [] hbB16 = some ([0], hbB16) := by
      refine (ca_89 (n := n + 58)).trans ?_
      refine (e_iload lL4_1 hv).trans ?_
      refine (e_push).trans ?_
      refine (f_cmp_f (f := z_lt) hv (by decide) (zlt_f (a := v) (b := 4294950912) (fs_input_big_o0 v hv i1 i2))).trans ?_
      refine (e_iload lL4_1 hv).trans ?_
      refine (e_push).trans ?_
      refine (f_cmp_t (f := z_gt) hv (by decide) (zgt_t (a := v) (b := 16383) (fs_input_big_o1 v hv i1 i2))).trans ?_
      refine (e_push).trans ?_
      exact e_zret (R := zrunX zXt 9 ztc (n + 58)) (d := 1678) (L := L4) (h := hbB16) (v := 0) (by decide)
    refine (f_callV (k := 18) (d' := 1678) (S0 := [v, 4294967315]) (S' := []) (S2 := [0]) (fun q => by rw [zargs_s q (Nat.le_of_lt (Nat.lt_trans hv (by decide))), ← eL3, zargs_s q (by decide), ← eL4]; rfl) lL4_0 (by rw [hs0]; decide) g18_0 st18_0 (Nat.le_of_ble_eq_true rfl) m5 (hs0.trans hs0.symm) rfl).trans ?_
    exact e_zret (R := zrunX zXt 9 ztc (n + 59)) (d := 1679) (L := L2) (h := hbB16) (v := 0) (by decide)
  have A2 : zrunX zXt 9 ztc (n + 60) 1679 219 L7 [] hbB16 = some ([0], hbB16) := by
    refine (ca_219 (n := n + 59)).trans ?_
    refine (e_iload lL7_1 hv).trans ?_
    refine (e_push).trans ?_
    refine (e_push).trans ?_
    have m11 : zrunX zXt 9 ztc (n + 59) 1678 217 L10 [] hbB16 = some ([0], hbB16) := by
      refine (ca_217 (n := n + 58)).trans ?_
      refine (e_iload lL10_0 hv).trans ?_
      refine (e_iload lL10_1 (by decide)).trans ?_
      refine (f_cmp_f (f := z_lt) hv (by decide) (zlt_f (a := v) (b := 4294950912) (fs_input_big_o0 v hv i1 i2))).trans ?_
      refine (e_iload lL10_0 hv).trans ?_
      refine (e_iload lL10_2 (by decide)).trans ?_
      refine (f_cmp_t (f := z_gt) hv (by decide) (zgt_t (a := v) (b := 16383) (fs_input_big_o1 v hv i1 i2))).trans ?_
      refine (e_push).trans ?_
      exact e_zret (R := zrunX zXt 9 ztc (n + 58)) (d := 1678) (L := L10) (h := hbB16) (v := 0) (by decide)
    refine (f_callS (d' := 1678) (S0 := [16383, 4294950912, v]) (S' := []) (S2 := [0]) (fun q => by rw [zargs_s q (by decide), ← eL8, zargs_s q (by decide), ← eL9, zargs_s q (Nat.le_of_lt (Nat.lt_trans hv (by decide))), ← eL10]; rfl) (Nat.le_of_ble_eq_true rfl) m11 (hs0.trans hs0.symm) rfl).trans ?_
    refine (f_if_t (f := fun a => Nat.beq a 0) (by decide) (by decide +kernel)).trans ?_
    refine (e_push).trans ?_
    exact e_zret (R := zrunX zXt 9 ztc (n + 59)) (d := 1679) (L := L7) (h := hbB16) (v := 0) (by decide)
  rw [eL2, eL1] at A1
  rw [eL7, eL6] at A2
  exact ⟨_, _, _, (by decide), A1, hs0, MS, A2, hs0, sl0⟩
theorem fs_input_low_o0 (v : Nat) (hv : v < 4294967296) (i1 : 2147483648 ≤ v) (i2 : v < 4294950912) : (v + 2147483648) % 4294967296 < (4294950912 + 2147483648) % 4294967296 := by omega
theorem fs_input_low (v : Nat) (hv : v < 4294967296) (i1 : 2147483648 ≤ v) (i2 : v < 4294950912) (n : Nat) : zFst n 153 (zput (zput 0 1 (v + 1)) 0 (4294967297 + 1)) 219 (zput (zput 0 1 (v + 1)) 0 (4294967358 + 1)) := by
  have hs0 : hbB16.1 = 129 := rfl
  have sl0 : hbB16.2.1 = 650610 := rfl
  obtain ⟨L1, eL1⟩ : ∃ x : Nat, x = zput 0 1 (v + 1) := ⟨_, rfl⟩
  obtain ⟨L2, eL2⟩ : ∃ x : Nat, x = zput L1 0 (4294967297 + 1) := ⟨_, rfl⟩
  have lL2_0 : zlane L2 0 = 4294967297 + 1 := by rw [eL2]; exact zlane_same (by decide)
  have v0_8_0 : zcv haA0_c0 8 = 4294967315 := by decide +kernel
  have g0_0 : zget 8 hbB16.2.2 0 = haA0_c0 := rfl
  have st0_0 : haA0_c0.1 = 11 := rfl
  have ln0_0 : haA0_c0.2.1 = 18 := rfl
  have lL1_1 : zlane L1 1 = v + 1 := by rw [eL1]; exact zlane_same (Nat.lt_of_le_of_lt (Nat.succ_le_of_lt hv) (by decide))
  have lL2_1 : zlane L2 1 = v + 1 := by rw [eL2]; exact (zlane_ne (by decide) (by decide)).trans lL1_1
  obtain ⟨L3, eL3⟩ : ∃ x : Nat, x = zput 0 1 (v + 1) := ⟨_, rfl⟩
  obtain ⟨L4, eL4⟩ : ∃ x : Nat, x = zput L3 0 (4294967315 + 1) := ⟨_, rfl⟩
  have lL3_1 : zlane L3 1 = v + 1 := by rw [eL3]; exact zlane_same (Nat.lt_of_le_of_lt (Nat.succ_le_of_lt hv) (by decide))
  have lL4_1 : zlane L4 1 = v + 1 := by rw [eL4]; exact (zlane_ne (by decide) (by decide)).trans lL3_1
  have lL4_0 : zlane L4 0 = 4294967315 + 1 := by rw [eL4]; exact zlane_same (by decide)
  have g18_0 : zget 8 hbB16.2.2 18 = haA0_c18 := rfl
  have st18_0 : haA0_c18.1 = 6 := rfl
  obtain ⟨L6, eL6⟩ : ∃ x : Nat, x = zput 0 1 (v + 1) := ⟨_, rfl⟩
  obtain ⟨L7, eL7⟩ : ∃ x : Nat, x = zput L6 0 (4294967358 + 1) := ⟨_, rfl⟩
  have lL6_1 : zlane L6 1 = v + 1 := by rw [eL6]; exact zlane_same (Nat.lt_of_le_of_lt (Nat.succ_le_of_lt hv) (by decide))
  have lL7_1 : zlane L7 1 = v + 1 := by rw [eL7]; exact (zlane_ne (by decide) (by decide)).trans lL6_1
  obtain ⟨L8, eL8⟩ : ∃ x : Nat, x = zput 0 2 (16383 + 1) := ⟨_, rfl⟩
  obtain ⟨L9, eL9⟩ : ∃ x : Nat, x = zput L8 1 (4294950912 + 1) := ⟨_, rfl⟩
  obtain ⟨L10, eL10⟩ : ∃ x : Nat, x = zput L9 0 (v + 1) := ⟨_, rfl⟩
  have lL10_0 : zlane L10 0 = v + 1 := by rw [eL10]; exact zlane_same (Nat.lt_of_le_of_lt (Nat.succ_le_of_lt hv) (by decide))
  have lL9_1 : zlane L9 1 = 4294950912 + 1 := by rw [eL9]; exact zlane_same (by decide)
  have lL10_1 : zlane L10 1 = 4294950912 + 1 := by rw [eL10]; exact (zlane_ne (Nat.lt_of_le_of_lt (Nat.succ_le_of_lt hv) (by decide)) (by decide)).trans lL9_1
  have g61_0 : zget 8 hbB16.2.2 61 = hbB15_c61 := rfl
  have st61_0 : hbB15_c61.1 = 12 := rfl
  have MS : (zget 8 hbB16.2.2 61).1 = 12 := by rw [g61_0]; exact st61_0
  have A1 : zrunX zXt 9 ztc (n + 60) 1679 153 L2 [] hbB16 = some ([0], hbB16) := by
    refine (ca_153 (n := n + 59)).trans ?_
    refine (e_aload lL2_0 (by decide)).trans ?_
    refine (f_getf (k := 0) (by rw [hs0]; decide) g0_0 st0_0 (by rw [ln0_0]; decide) v0_8_0).trans ?_
    refine (e_iload lL2_1 hv).trans ?_
    have m5 : zrunX zXt 9 ztc (n + 59) 1678 89 L4 [] hbB16 = some ([0], hbB16) := by
      refine (ca_89 (n := n + 58)).trans ?_
      refine (e_iload lL4_1 hv).trans ?_
      refine (e_push).trans ?_
      refine (f_cmp_t (f := z_lt) hv (by decide) (zlt_t (a := v) (b := 4294950912) (fs_input_low_o0 v hv i1 i2))).trans ?_
      refine (e_push).trans ?_
      exact e_zret (R := zrunX zXt 9 ztc (n + 58)) (d := 1678) (L := L4) (h := hbB16) (v := 0) (by decide)
    refine (f_callV (k := 18) (d' := 1678) (S0 := [v, 4294967315]) (S' := []) (S2 := [0]) (fun q => by rw [zargs_s q (Nat.le_of_lt (Nat.lt_trans hv (by decide))), ← eL3, zargs_s q (by decide), ← eL4]; rfl) lL4_0 (by rw [hs0]; decide) g18_0 st18_0 (Nat.le_of_ble_eq_true rfl) m5 (hs0.trans hs0.symm) rfl).trans ?_
    exact e_zret (R := zrunX zXt 9 ztc (n + 59)) (d := 1679) (L := L2) (h := hbB16) (v := 0) (by decide)
  have A2 : zrunX zXt 9 ztc (n + 60) 1679 219 L7 [] hbB16 = some ([0], hbB16) := by
    refine (ca_219 (n := n + 59)).trans ?_
    refine (e_iload lL7_1 hv).trans ?_
    refine (e_push).trans ?_
    refine (e_push).trans ?_
    have m11 : zrunX zXt 9 ztc (n + 59) 1678 217 L10 [] hbB16 = some ([0], hbB16) := by
      refine (ca_217 (n := n + 58)).trans ?_
      refine (e_iload lL10_0 hv).trans ?_
      refine (e_iload lL10_1 (by decide)).trans ?_
      refine (f_cmp_t (f := z_lt) hv (by decide) (zlt_t (a := v) (b := 4294950912) (fs_input_low_o0 v hv i1 i2))).trans ?_
      refine (e_push).trans ?_
      exact e_zret (R := zrunX zXt 9 ztc (n + 58)) (d := 1678) (L := L10) (h := hbB16) (v := 0) (by decide)
    refine (f_callS (d' := 1678) (S0 := [16383, 4294950912, v]) (S' := []) (S2 := [0]) (fun q => by rw [zargs_s q (by decide), ← eL8, zargs_s q (by decide), ← eL9, zargs_s q (Nat.le_of_lt (Nat.lt_trans hv (by decide))), ← eL10]; rfl) (Nat.le_of_ble_eq_true rfl) m11 (hs0.trans hs0.symm) rfl).trans ?_
    refine (f_if_t (f := fun a => Nat.beq a 0) (by decide) (by decide +kernel)).trans ?_
    refine (e_push).trans ?_
    exact e_zret (R := zrunX zXt 9 ztc (n + 59)) (d := 1679) (L := L7) (h := hbB16) (v := 0) (by decide)
  rw [eL2, eL1] at A1
  rw [eL7, eL6] at A2
  exact ⟨_, _, _, (by decide), A1, hs0, MS, A2, hs0, sl0⟩
theorem fs_letter_neg_o0 (v : Nat) (hv : v < 4294967296) (w : Nat) (hw : w < 4294967296) (i1 : 2147483648 ≤ v) : (v + 2147483648) % 4294967296 < (0 + 2147483648) % 4294967296 := by omega
theorem fs_letter_neg (v : Nat) (hv : v < 4294967296) (w : Nat) (hw : w < 4294967296) (i1 : 2147483648 ≤ v) (n : Nat) : zFst n 155 (zput (zput (zput 0 2 (w + 1)) 1 (v + 1)) 0 (4294967297 + 1)) 239 (zput (zput (zput 0 2 (w + 1)) 1 (v + 1)) 0 (4294967358 + 1)) := by
  have hs0 : hbB16.1 = 129 := rfl
  have sl0 : hbB16.2.1 = 650610 := rfl
  obtain ⟨L1, eL1⟩ : ∃ x : Nat, x = zput 0 2 (w + 1) := ⟨_, rfl⟩
  obtain ⟨L2, eL2⟩ : ∃ x : Nat, x = zput L1 1 (v + 1) := ⟨_, rfl⟩
  obtain ⟨L3, eL3⟩ : ∃ x : Nat, x = zput L2 0 (4294967297 + 1) := ⟨_, rfl⟩
  have lL3_0 : zlane L3 0 = 4294967297 + 1 := by rw [eL3]; exact zlane_same (by decide)
  have v0_5_0 : zcv haA0_c0 5 = 4294967305 := by decide +kernel
  have g0_0 : zget 8 hbB16.2.2 0 = haA0_c0 := rfl
  have st0_0 : haA0_c0.1 = 11 := rfl
  have ln0_0 : haA0_c0.2.1 = 18 := rfl
  have lL2_1 : zlane L2 1 = v + 1 := by rw [eL2]; exact zlane_same (Nat.lt_of_le_of_lt (Nat.succ_le_of_lt hv) (by decide))
  have lL3_1 : zlane L3 1 = v + 1 := by rw [eL3]; exact (zlane_ne (by decide) (by decide)).trans lL2_1
  have lL1_2 : zlane L1 2 = w + 1 := by rw [eL1]; exact zlane_same (Nat.lt_of_le_of_lt (Nat.succ_le_of_lt hw) (by decide))
  have lL2_2 : zlane L2 2 = w + 1 := by rw [eL2]; exact (zlane_ne (Nat.lt_of_le_of_lt (Nat.succ_le_of_lt hv) (by decide)) (by decide)).trans lL1_2
  have lL3_2 : zlane L3 2 = w + 1 := by rw [eL3]; exact (zlane_ne (by decide) (by decide)).trans lL2_2
  obtain ⟨L4, eL4⟩ : ∃ x : Nat, x = zput 0 2 (w + 1) := ⟨_, rfl⟩
  obtain ⟨L5, eL5⟩ : ∃ x : Nat, x = zput L4 1 (v + 1) := ⟨_, rfl⟩
  obtain ⟨L6, eL6⟩ : ∃ x : Nat, x = zput L5 0 (4294967305 + 1) := ⟨_, rfl⟩
  have lL5_1 : zlane L5 1 = v + 1 := by rw [eL5]; exact zlane_same (Nat.lt_of_le_of_lt (Nat.succ_le_of_lt hv) (by decide))
  have lL6_1 : zlane L6 1 = v + 1 := by rw [eL6]; exact (zlane_ne (by decide) (by decide)).trans lL5_1
  have lL6_0 : zlane L6 0 = 4294967305 + 1 := by rw [eL6]; exact zlane_same (by decide)
  have g8_0 : zget 8 hbB16.2.2 8 = hbA3_c8 := rfl
  have st8_0 : hbA3_c8.1 = 2 := rfl
  obtain ⟨L8, eL8⟩ : ∃ x : Nat, x = zput 0 2 (w + 1) := ⟨_, rfl⟩
  obtain ⟨L9, eL9⟩ : ∃ x : Nat, x = zput L8 1 (v + 1) := ⟨_, rfl⟩
  obtain ⟨L10, eL10⟩ : ∃ x : Nat, x = zput L9 0 (4294967358 + 1) := ⟨_, rfl⟩
  have lL9_1 : zlane L9 1 = v + 1 := by rw [eL9]; exact zlane_same (Nat.lt_of_le_of_lt (Nat.succ_le_of_lt hv) (by decide))
  have lL10_1 : zlane L10 1 = v + 1 := by rw [eL10]; exact (zlane_ne (by decide) (by decide)).trans lL9_1
  have lL10_0 : zlane L10 0 = 4294967358 + 1 := by rw [eL10]; exact zlane_same (by decide)
  have v61_45_0 : zcv hbB15_c61 45 = 55 := by decide +kernel
  have g61_0 : zget 8 hbB16.2.2 61 = hbB15_c61 := rfl
  have st61_0 : hbB15_c61.1 = 12 := rfl
  have ln61_0 : hbB15_c61.2.1 = 114 := rfl
  obtain ⟨L11, eL11⟩ : ∃ x : Nat, x = zput 0 2 (54 + 1) := ⟨_, rfl⟩
  obtain ⟨L12, eL12⟩ : ∃ x : Nat, x = zput L11 1 (0 + 1) := ⟨_, rfl⟩
  obtain ⟨L13, eL13⟩ : ∃ x : Nat, x = zput L12 0 (v + 1) := ⟨_, rfl⟩
  have lL13_0 : zlane L13 0 = v + 1 := by rw [eL13]; exact zlane_same (Nat.lt_of_le_of_lt (Nat.succ_le_of_lt hv) (by decide))
  have lL12_1 : zlane L12 1 = 0 + 1 := by rw [eL12]; exact zlane_same (by decide)
  have lL13_1 : zlane L13 1 = 0 + 1 := by rw [eL13]; exact (zlane_ne (Nat.lt_of_le_of_lt (Nat.succ_le_of_lt hv) (by decide)) (by decide)).trans lL12_1
  have MS : (zget 8 hbB16.2.2 61).1 = 12 := by rw [g61_0]; exact st61_0
  have A1 : zrunX zXt 9 ztc (n + 60) 1679 155 L3 [] hbB16 = some ([4294967295], hbB16) := by
    refine (ca_155 (n := n + 59)).trans ?_
    refine (e_aload lL3_0 (by decide)).trans ?_
    refine (f_getf (k := 0) (by rw [hs0]; decide) g0_0 st0_0 (by rw [ln0_0]; decide) v0_5_0).trans ?_
    refine (e_iload lL3_1 hv).trans ?_
    refine (e_iload lL3_2 hw).trans ?_
    have m7 : zrunX zXt 9 ztc (n + 59) 1678 39 L6 [] hbB16 = some ([4294967295], hbB16) := by
      refine (ca_39 (n := n + 58)).trans ?_
      refine (e_iload lL6_1 hv).trans ?_
      refine (f_if_t (f := fun a => z_lt a 0) hv (zlt_t (a := v) (b := 0) (fs_letter_neg_o0 v hv w hw i1))).trans ?_
      refine (e_push).trans ?_
      exact e_ret (R := zrunX zXt 9 ztc (n + 58)) (d := 1678) (L := L6) (h := hbB16) (v := 4294967295) (by decide)
    refine (f_callV (k := 8) (d' := 1678) (S0 := [w, v, 4294967305]) (S' := []) (S2 := [4294967295]) (fun q => by rw [zargs_s q (Nat.le_of_lt (Nat.lt_trans hw (by decide))), ← eL4, zargs_s q (Nat.le_of_lt (Nat.lt_trans hv (by decide))), ← eL5, zargs_s q (by decide), ← eL6]; rfl) lL6_0 (by rw [hs0]; decide) g8_0 st8_0 (Nat.le_of_ble_eq_true rfl) m7 (hs0.trans hs0.symm) rfl).trans ?_
    exact e_ret (R := zrunX zXt 9 ztc (n + 59)) (d := 1679) (L := L3) (h := hbB16) (v := 4294967295) (by decide)
  have A2 : zrunX zXt 9 ztc (n + 60) 1679 239 L10 [] hbB16 = some ([4294967295], hbB16) := by
    refine (ca_239 (n := n + 59)).trans ?_
    refine (e_iload lL10_1 hv).trans ?_
    refine (e_push).trans ?_
    refine (e_aload lL10_0 (by decide)).trans ?_
    refine (f_getf (k := 61) (by rw [hs0]; decide) g61_0 st61_0 (by rw [ln61_0]; decide) v61_45_0).trans ?_
    refine (e_push).trans ?_
    refine (f_bin (f := z_sub) (v := 54) (by decide) (by decide) (by decide +kernel)).trans ?_
    have m14 : zrunX zXt 9 ztc (n + 59) 1678 217 L13 [] hbB16 = some ([0], hbB16) := by
      refine (ca_217 (n := n + 58)).trans ?_
      refine (e_iload lL13_0 hv).trans ?_
      refine (e_iload lL13_1 (by decide)).trans ?_
      refine (f_cmp_t (f := z_lt) hv (by decide) (zlt_t (a := v) (b := 0) (fs_letter_neg_o0 v hv w hw i1))).trans ?_
      refine (e_push).trans ?_
      exact e_zret (R := zrunX zXt 9 ztc (n + 58)) (d := 1678) (L := L13) (h := hbB16) (v := 0) (by decide)
    refine (f_callS (d' := 1678) (S0 := [54, 0, v]) (S' := []) (S2 := [0]) (fun q => by rw [zargs_s q (by decide), ← eL11, zargs_s q (by decide), ← eL12, zargs_s q (Nat.le_of_lt (Nat.lt_trans hv (by decide))), ← eL13]; rfl) (Nat.le_of_ble_eq_true rfl) m14 (hs0.trans hs0.symm) rfl).trans ?_
    refine (f_if_t (f := fun a => Nat.beq a 0) (by decide) (by decide +kernel)).trans ?_
    refine (e_push).trans ?_
    exact e_ret (R := zrunX zXt 9 ztc (n + 59)) (d := 1679) (L := L10) (h := hbB16) (v := 4294967295) (by decide)
  rw [eL3, eL2, eL1] at A1
  rw [eL10, eL9, eL8] at A2
  exact ⟨_, _, _, (by decide), A1, hs0, MS, A2, hs0, sl0⟩
theorem fs_letter_big_o0 (v : Nat) (hv : v < 4294967296) (w : Nat) (hw : w < 4294967296) (i1 : 55 ≤ v) (i2 : v < 2147483648) : (0 + 2147483648) % 4294967296 ≤ (v + 2147483648) % 4294967296 := by omega
theorem fs_letter_big_o1 (v : Nat) (hv : v < 4294967296) (w : Nat) (hw : w < 4294967296) (i1 : 55 ≤ v) (i2 : v < 2147483648) : (55 + 2147483648) % 4294967296 ≤ (v + 2147483648) % 4294967296 := by omega
theorem fs_letter_big_o2 (v : Nat) (hv : v < 4294967296) (w : Nat) (hw : w < 4294967296) (i1 : 55 ≤ v) (i2 : v < 2147483648) : (54 + 2147483648) % 4294967296 < (v + 2147483648) % 4294967296 := by omega
theorem fs_letter_big (v : Nat) (hv : v < 4294967296) (w : Nat) (hw : w < 4294967296) (i1 : 55 ≤ v) (i2 : v < 2147483648) (n : Nat) : zFst n 155 (zput (zput (zput 0 2 (w + 1)) 1 (v + 1)) 0 (4294967297 + 1)) 239 (zput (zput (zput 0 2 (w + 1)) 1 (v + 1)) 0 (4294967358 + 1)) := by
  have hs0 : hbB16.1 = 129 := rfl
  have sl0 : hbB16.2.1 = 650610 := rfl
  obtain ⟨L1, eL1⟩ : ∃ x : Nat, x = zput 0 2 (w + 1) := ⟨_, rfl⟩
  obtain ⟨L2, eL2⟩ : ∃ x : Nat, x = zput L1 1 (v + 1) := ⟨_, rfl⟩
  obtain ⟨L3, eL3⟩ : ∃ x : Nat, x = zput L2 0 (4294967297 + 1) := ⟨_, rfl⟩
  have lL3_0 : zlane L3 0 = 4294967297 + 1 := by rw [eL3]; exact zlane_same (by decide)
  have v0_5_0 : zcv haA0_c0 5 = 4294967305 := by decide +kernel
  have g0_0 : zget 8 hbB16.2.2 0 = haA0_c0 := rfl
  have st0_0 : haA0_c0.1 = 11 := rfl
  have ln0_0 : haA0_c0.2.1 = 18 := rfl
  have lL2_1 : zlane L2 1 = v + 1 := by rw [eL2]; exact zlane_same (Nat.lt_of_le_of_lt (Nat.succ_le_of_lt hv) (by decide))
  have lL3_1 : zlane L3 1 = v + 1 := by rw [eL3]; exact (zlane_ne (by decide) (by decide)).trans lL2_1
  have lL1_2 : zlane L1 2 = w + 1 := by rw [eL1]; exact zlane_same (Nat.lt_of_le_of_lt (Nat.succ_le_of_lt hw) (by decide))
  have lL2_2 : zlane L2 2 = w + 1 := by rw [eL2]; exact (zlane_ne (Nat.lt_of_le_of_lt (Nat.succ_le_of_lt hv) (by decide)) (by decide)).trans lL1_2
  have lL3_2 : zlane L3 2 = w + 1 := by rw [eL3]; exact (zlane_ne (by decide) (by decide)).trans lL2_2
  obtain ⟨L4, eL4⟩ : ∃ x : Nat, x = zput 0 2 (w + 1) := ⟨_, rfl⟩
  obtain ⟨L5, eL5⟩ : ∃ x : Nat, x = zput L4 1 (v + 1) := ⟨_, rfl⟩
  obtain ⟨L6, eL6⟩ : ∃ x : Nat, x = zput L5 0 (4294967305 + 1) := ⟨_, rfl⟩
  have lL5_1 : zlane L5 1 = v + 1 := by rw [eL5]; exact zlane_same (Nat.lt_of_le_of_lt (Nat.succ_le_of_lt hv) (by decide))
  have lL6_1 : zlane L6 1 = v + 1 := by rw [eL6]; exact (zlane_ne (by decide) (by decide)).trans lL5_1
  have lL6_0 : zlane L6 0 = 4294967305 + 1 := by rw [eL6]; exact zlane_same (by decide)
  have v8_4_0 : zcv hbA3_c8 4 = 55 := by decide +kernel
  have g8_0 : zget 8 hbB16.2.2 8 = hbA3_c8 := rfl
  have st8_0 : hbA3_c8.1 = 2 := rfl
  have ln8_0 : hbA3_c8.2.1 = 10 := rfl
  obtain ⟨L8, eL8⟩ : ∃ x : Nat, x = zput 0 2 (w + 1) := ⟨_, rfl⟩
  obtain ⟨L9, eL9⟩ : ∃ x : Nat, x = zput L8 1 (v + 1) := ⟨_, rfl⟩
  obtain ⟨L10, eL10⟩ : ∃ x : Nat, x = zput L9 0 (4294967358 + 1) := ⟨_, rfl⟩
  have lL9_1 : zlane L9 1 = v + 1 := by rw [eL9]; exact zlane_same (Nat.lt_of_le_of_lt (Nat.succ_le_of_lt hv) (by decide))
  have lL10_1 : zlane L10 1 = v + 1 := by rw [eL10]; exact (zlane_ne (by decide) (by decide)).trans lL9_1
  have lL10_0 : zlane L10 0 = 4294967358 + 1 := by rw [eL10]; exact zlane_same (by decide)
  have v61_45_0 : zcv hbB15_c61 45 = 55 := by decide +kernel
  have g61_0 : zget 8 hbB16.2.2 61 = hbB15_c61 := rfl
  have st61_0 : hbB15_c61.1 = 12 := rfl
  have ln61_0 : hbB15_c61.2.1 = 114 := rfl
  obtain ⟨L11, eL11⟩ : ∃ x : Nat, x = zput 0 2 (54 + 1) := ⟨_, rfl⟩
  obtain ⟨L12, eL12⟩ : ∃ x : Nat, x = zput L11 1 (0 + 1) := ⟨_, rfl⟩
  obtain ⟨L13, eL13⟩ : ∃ x : Nat, x = zput L12 0 (v + 1) := ⟨_, rfl⟩
  have lL13_0 : zlane L13 0 = v + 1 := by rw [eL13]; exact zlane_same (Nat.lt_of_le_of_lt (Nat.succ_le_of_lt hv) (by decide))
  have lL12_1 : zlane L12 1 = 0 + 1 := by rw [eL12]; exact zlane_same (by decide)
  have lL13_1 : zlane L13 1 = 0 + 1 := by rw [eL13]; exact (zlane_ne (Nat.lt_of_le_of_lt (Nat.succ_le_of_lt hv) (by decide)) (by decide)).trans lL12_1
  have lL11_2 : zlane L11 2 = 54 + 1 := by rw [eL11]; exact zlane_same (by decide)
  have lL12_2 : zlane L12 2 = 54 + 1 := by rw [eL12]; exact (zlane_ne (by decide) (by decide)).trans lL11_2
  have lL13_2 : zlane L13 2 = 54 + 1 := by rw [eL13]; exact (zlane_ne (Nat.lt_of_le_of_lt (Nat.succ_le_of_lt hv) (by decide)) (by decide)).trans lL12_2
  have MS : (zget 8 hbB16.2.2 61).1 = 12 := by rw [g61_0]; exact st61_0
  have A1 : zrunX zXt 9 ztc (n + 60) 1679 155 L3 [] hbB16 = some ([4294967295], hbB16) := by
    refine (ca_155 (n := n + 59)).trans ?_
    refine (e_aload lL3_0 (by decide)).trans ?_
    refine (f_getf (k := 0) (by rw [hs0]; decide) g0_0 st0_0 (by rw [ln0_0]; decide) v0_5_0).trans ?_
    refine (e_iload lL3_1 hv).trans ?_
    refine (e_iload lL3_2 hw).trans ?_
    have m7 : zrunX zXt 9 ztc (n + 59) 1678 39 L6 [] hbB16 = some ([4294967295], hbB16) := by
      refine (ca_39 (n := n + 58)).trans ?_
      refine (e_iload lL6_1 hv).trans ?_
      refine (f_if_f (f := fun a => z_lt a 0) hv (zlt_f (a := v) (b := 0) (fs_letter_big_o0 v hv w hw i1 i2))).trans ?_
      refine (e_iload lL6_1 hv).trans ?_
      refine (e_aload lL6_0 (by decide)).trans ?_
      refine (f_getf (k := 8) (by rw [hs0]; decide) g8_0 st8_0 (by rw [ln8_0]; decide) v8_4_0).trans ?_
      refine (f_cmp_t (f := z_ge) hv (by decide) (zge_t (a := v) (b := 55) (fs_letter_big_o1 v hv w hw i1 i2))).trans ?_
      refine (e_push).trans ?_
      exact e_ret (R := zrunX zXt 9 ztc (n + 58)) (d := 1678) (L := L6) (h := hbB16) (v := 4294967295) (by decide)
    refine (f_callV (k := 8) (d' := 1678) (S0 := [w, v, 4294967305]) (S' := []) (S2 := [4294967295]) (fun q => by rw [zargs_s q (Nat.le_of_lt (Nat.lt_trans hw (by decide))), ← eL4, zargs_s q (Nat.le_of_lt (Nat.lt_trans hv (by decide))), ← eL5, zargs_s q (by decide), ← eL6]; rfl) lL6_0 (by rw [hs0]; decide) g8_0 st8_0 (Nat.le_of_ble_eq_true rfl) m7 (hs0.trans hs0.symm) rfl).trans ?_
    exact e_ret (R := zrunX zXt 9 ztc (n + 59)) (d := 1679) (L := L3) (h := hbB16) (v := 4294967295) (by decide)
  have A2 : zrunX zXt 9 ztc (n + 60) 1679 239 L10 [] hbB16 = some ([4294967295], hbB16) := by
    refine (ca_239 (n := n + 59)).trans ?_
    refine (e_iload lL10_1 hv).trans ?_
    refine (e_push).trans ?_
    refine (e_aload lL10_0 (by decide)).trans ?_
    refine (f_getf (k := 61) (by rw [hs0]; decide) g61_0 st61_0 (by rw [ln61_0]; decide) v61_45_0).trans ?_
    refine (e_push).trans ?_
    refine (f_bin (f := z_sub) (v := 54) (by decide) (by decide) (by decide +kernel)).trans ?_
    have m14 : zrunX zXt 9 ztc (n + 59) 1678 217 L13 [] hbB16 = some ([0], hbB16) := by
      refine (ca_217 (n := n + 58)).trans ?_
      refine (e_iload lL13_0 hv).trans ?_
      refine (e_iload lL13_1 (by decide)).trans ?_
      refine (f_cmp_f (f := z_lt) hv (by decide) (zlt_f (a := v) (b := 0) (fs_letter_big_o0 v hv w hw i1 i2))).trans ?_
      refine (e_iload lL13_0 hv).trans ?_
      refine (e_iload lL13_2 (by decide)).trans ?_
      refine (f_cmp_t (f := z_gt) hv (by decide) (zgt_t (a := v) (b := 54) (fs_letter_big_o2 v hv w hw i1 i2))).trans ?_
      refine (e_push).trans ?_
      exact e_zret (R := zrunX zXt 9 ztc (n + 58)) (d := 1678) (L := L13) (h := hbB16) (v := 0) (by decide)
    refine (f_callS (d' := 1678) (S0 := [54, 0, v]) (S' := []) (S2 := [0]) (fun q => by rw [zargs_s q (by decide), ← eL11, zargs_s q (by decide), ← eL12, zargs_s q (Nat.le_of_lt (Nat.lt_trans hv (by decide))), ← eL13]; rfl) (Nat.le_of_ble_eq_true rfl) m14 (hs0.trans hs0.symm) rfl).trans ?_
    refine (f_if_t (f := fun a => Nat.beq a 0) (by decide) (by decide +kernel)).trans ?_
    refine (e_push).trans ?_
    exact e_ret (R := zrunX zXt 9 ztc (n + 59)) (d := 1679) (L := L10) (h := hbB16) (v := 4294967295) (by decide)
  rw [eL3, eL2, eL1] at A1
  rw [eL10, eL9, eL8] at A2
  exact ⟨_, _, _, (by decide), A1, hs0, MS, A2, hs0, sl0⟩
