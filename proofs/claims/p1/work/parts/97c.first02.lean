theorem fs_input_neg (v : Nat) (hv : v < 4294967296) (i1 : 4294950912 ≤ v) (n : Nat) : zFst n 153 (zput (zput 0 1 (v + 1)) 0 (4294967297 + 1)) 219 (zput (zput 0 1 (v + 1)) 0 (4294967358 + 1)) := by
  have hs0 : hbB16.1 = 129 := rfl
  have sl0 : hbB16.2.1 = 650610 := rfl
  obtain ⟨L1, eL1⟩ : ∃ x : Nat, x = zput 0 1 (v + 1) := ⟨_, rfl⟩
  obtain ⟨L2, eL2⟩ : ∃ x : Nat, x = zput L1 0 (4294967297 + 1) := ⟨_, rfl⟩
  have lL2_0 : zlane L2 0 = 4294967297 + 1 := by rw [eL2]; exact zlane_same (by decide)
  have v0_8_0 : zcv haA0_c0 8 = 4294967315 := by decide +kernel
  have g0_0 : zget 8 hbB16.2.2 0 = haA0_c0 := rfl
  have st0_0 : haA0_c0.1 = 11 := rfl
  have ln0_0 : haA0_c0.2.1 = 18 := rfl
  have lL1_1 : zlane L1 1 = v + 1 := by rw [eL1]; exact zlane_same (Nat.lt_of_le_of_lt (Nat.succ_le_of_lt hv) (by decide))
  have lL2_1 : zlane L2 1 = v + 1 := by rw [eL2]; exact (zlane_ne (by decide) (by decide)).trans lL1_1
  obtain ⟨L3, eL3⟩ : ∃ x : Nat, x = zput 0 1 (v + 1) := ⟨_, rfl⟩
  obtain ⟨L4, eL4⟩ : ∃ x : Nat, x = zput L3 0 (4294967315 + 1) := ⟨_, rfl⟩
  have lL3_1 : zlane L3 1 = v + 1 := by rw [eL3]; exact zlane_same (Nat.lt_of_le_of_lt (Nat.succ_le_of_lt hv) (by decide))
  have lL4_1 : zlane L4 1 = v + 1 := by rw [eL4]; exact (zlane_ne (by decide) (by decide)).trans lL3_1
  have lL4_0 : zlane L4 0 = 4294967315 + 1 := by rw [eL4]; exact zlane_same (by decide)
  have v18_14_0 : zcv haA0_c18 14 = 0 := by decide +kernel
  have g18_0 : zget 8 hbB16.2.2 18 = haA0_c18 := rfl
  have st18_0 : haA0_c18.1 = 6 := rfl
  have ln18_0 : haA0_c18.2.1 = 15 := rfl
  have v18_13_0 : zcv haA0_c18 13 = 4294967318 := by decide +kernel
  have g21_0 : zget 8 hbB16.2.2 21 = haA0_c21 := rfl
  have st21_0 : haA0_c21.1 = 100 := rfl
  have ln21_0 : haA0_c21.2.1 = 50 := rfl
  obtain ⟨h1, eh1⟩ : ∃ x : zH, x = (hbB16.1, hbB16.2.1, zst 8 hbB16.2.2 21 (fun c => zcst c 0 ((z_add (z_mul 2 v) 1) % 65536))) := ⟨_, rfl⟩
  have hs1 : h1.1 = 129 := by rw [eh1]; exact hs0
  have sl1 : h1.2.1 = 650610 := by rw [eh1]; exact sl0
  have g18_1 : zget 8 h1.2.2 18 = haA0_c18 := by rw [eh1]; exact zg_n (by decide) (by decide) (by decide) g18_0
  obtain ⟨h2, eh2⟩ : ∃ x : zH, x = (h1.1, h1.2.1, zst 8 h1.2.2 18 (fun c => zcst c 14 1)) := ⟨_, rfl⟩
  have hs2 : h2.1 = 129 := by rw [eh2]; exact hs1
  have sl2 : h2.2.1 = 650610 := by rw [eh2]; exact sl1
  obtain ⟨L6, eL6⟩ : ∃ x : Nat, x = zput 0 1 (v + 1) := ⟨_, rfl⟩
  obtain ⟨L7, eL7⟩ : ∃ x : Nat, x = zput L6 0 (4294967358 + 1) := ⟨_, rfl⟩
  have lL6_1 : zlane L6 1 = v + 1 := by rw [eL6]; exact zlane_same (Nat.lt_of_le_of_lt (Nat.succ_le_of_lt hv) (by decide))
  have lL7_1 : zlane L7 1 = v + 1 := by rw [eL7]; exact (zlane_ne (by decide) (by decide)).trans lL6_1
  obtain ⟨L8, eL8⟩ : ∃ x : Nat, x = zput 0 2 (16383 + 1) := ⟨_, rfl⟩
  obtain ⟨L9, eL9⟩ : ∃ x : Nat, x = zput L8 1 (4294950912 + 1) := ⟨_, rfl⟩
  obtain ⟨L10, eL10⟩ : ∃ x : Nat, x = zput L9 0 (v + 1) := ⟨_, rfl⟩
  have lL10_0 : zlane L10 0 = v + 1 := by rw [eL10]; exact zlane_same (Nat.lt_of_le_of_lt (Nat.succ_le_of_lt hv) (by decide))
  have lL9_1 : zlane L9 1 = 4294950912 + 1 := by rw [eL9]; exact zlane_same (by decide)
  have lL10_1 : zlane L10 1 = 4294950912 + 1 := by rw [eL10]; exact (zlane_ne (Nat.lt_of_le_of_lt (Nat.succ_le_of_lt hv) (by decide)) (by decide)).trans lL9_1
  have lL8_2 : zlane L8 2 = 16383 + 1 := by rw [eL8]; exact zlane_same (by decide)
  have lL9_2 : zlane L9 2 = 16383 + 1 := by rw [eL9]; exact (zlane_ne (by decide) (by decide)).trans lL8_2
  have lL10_2 : zlane L10 2 = 16383 + 1 := by rw [eL10]; exact (zlane_ne (Nat.lt_of_le_of_lt (Nat.succ_le_of_lt hv) (by decide)) (by decide)).trans lL9_2
  have lL7_0 : zlane L7 0 = 4294967358 + 1 := by rw [eL7]; exact zlane_same (by decide)
  have v61_23_0 : zcv hbB15_c61 23 = 0 := by decide +kernel
  have g61_0 : zget 8 hbB16.2.2 61 = hbB15_c61 := rfl
  have g61_1 : zget 8 h1.2.2 61 = hbB15_c61 := by rw [eh1]; exact zg_n (by decide) (by decide) (by decide) g61_0
  have g61_2 : zget 8 h2.2.2 61 = hbB15_c61 := by rw [eh2]; exact zg_n (by decide) (by decide) (by decide) g61_1
  have st61_0 : hbB15_c61.1 = 12 := rfl
  have ln61_0 : hbB15_c61.2.1 = 114 := rfl
  have v61_22_0 : zcv hbB15_c61 22 = 4294967373 := by decide +kernel
  have g76_0 : zget 8 hbB16.2.2 76 = haA0_c21 := rfl
  have g76_1 : zget 8 h1.2.2 76 = haA0_c21 := by rw [eh1]; exact zg_n (by decide) (by decide) (by decide) g76_0
  have g76_2 : zget 8 h2.2.2 76 = haA0_c21 := by rw [eh2]; exact zg_n (by decide) (by decide) (by decide) g76_1
  have st76_0 : haA0_c21.1 = 100 := rfl
  have ln76_0 : haA0_c21.2.1 = 50 := rfl
  obtain ⟨h3, eh3⟩ : ∃ x : zH, x = (h2.1, h2.2.1, zst 8 h2.2.2 76 (fun c => zcst c 0 v)) := ⟨_, rfl⟩
  have hs3 : h3.1 = 129 := by rw [eh3]; exact hs2
  have sl3 : h3.2.1 = 650610 := by rw [eh3]; exact sl2
  have g61_3 : zget 8 h3.2.2 61 = hbB15_c61 := by rw [eh3]; exact zg_n (by decide) (by decide) (by decide) g61_2
  obtain ⟨h4, eh4⟩ : ∃ x : zH, x = (h3.1, h3.2.1, zst 8 h3.2.2 61 (fun c => zcst c 23 1)) := ⟨_, rfl⟩
  have hs4 : h4.1 = 129 := by rw [eh4]; exact hs3
  have sl4 : h4.2.1 = 650610 := by rw [eh4]; exact sl3
  have MS : (zget 8 h2.2.2 61).1 = 12 := by rw [g61_2]; exact st61_0
  have A1 : zrunX zXt 9 ztc (n + 60) 1679 153 L2 [] hbB16 = some ([1], h2) := by
    refine (ca_153 (n := n + 59)).trans ?_
    refine (e_aload lL2_0 (by decide)).trans ?_
    refine (f_getf (k := 0) (by rw [hs0]; decide) g0_0 st0_0 (by rw [ln0_0]; decide) v0_8_0).trans ?_
    refine (e_iload lL2_1 hv).trans ?_
    have m5 : zrunX zXt 9 ztc (n + 59) 1678 89 L4 [] hbB16 = some ([1], h2) := by
      refine (ca_89 (n := n + 58)).trans ?_
      refine (e_iload lL4_1 hv).trans ?_
      refine (e_push).trans ?_
      refine (f_cmp_f (f := z_lt) hv (by decide) (zlt_f (a := v) (b := 4294950912) (by omega))).trans ?_
      refine (e_iload lL4_1 hv).trans ?_
      refine (e_push).trans ?_
      refine (f_cmp_f (f := z_gt) hv (by decide) (zgt_f (a := v) (b := 16383) (by omega))).trans ?_
      refine (e_aload lL4_0 (by decide)).trans ?_
      refine (f_getf (k := 18) (by rw [hs0]; decide) g18_0 st18_0 (by rw [ln18_0]; decide) v18_14_0).trans ?_
      refine (e_push).trans ?_
      refine (f_cmp_t (f := z_lt) (by decide) (by decide) (by decide +kernel)).trans ?_
      refine (e_aload lL4_0 (by decide)).trans ?_
      refine (f_getf (k := 18) (by rw [hs0]; decide) g18_0 st18_0 (by rw [ln18_0]; decide) v18_13_0).trans ?_
      refine (e_aload lL4_0 (by decide)).trans ?_
      refine (f_getf (k := 18) (by rw [hs0]; decide) g18_0 st18_0 (by rw [ln18_0]; decide) v18_14_0).trans ?_
      refine (e_push).trans ?_
      refine (e_iload lL4_1 hv).trans ?_
      refine (f_bin (f := z_mul) (v := (z_mul 2 v)) (by decide) hv rfl).trans ?_
      refine (e_push).trans ?_
      refine (f_bin (f := z_add) (v := (z_add (z_mul 2 v) 1)) (z_mul_ok _ _ (by decide) hv).1 (by decide) rfl).trans ?_
      refine (e_push).trans ?_
      refine (f_bin (f := z_and) (v := ((z_add (z_mul 2 v) 1) % 65536)) (z_add_ok _ _ (z_mul_ok _ _ (by decide) hv).1 (by decide)).1 (by decide) (z_and_m (k := 16) (by decide))).trans ?_
      refine (f_iast (k := 21) (Nat.lt_trans (Nat.mod_lt _ (by decide)) (by decide)) (by decide) (by rw [hs0]; decide) g21_0 st21_0 (by rw [ln21_0]; decide) eh1.symm).trans ?_
      refine (e_aload lL4_0 (by decide)).trans ?_
      refine (e_dup).trans ?_
      refine (f_getf (k := 18) (by rw [hs1]; decide) g18_1 st18_0 (by rw [ln18_0]; decide) v18_14_0).trans ?_
      refine (e_push).trans ?_
      refine (f_bin (f := z_add) (v := 1) (by decide) (by decide) (by decide +kernel)).trans ?_
      refine (f_putf (k := 18) (by decide +kernel) (by rw [hs1]; decide) g18_1 st18_0 (by rw [ln18_0]; decide) eh2.symm).trans ?_
      refine (e_push).trans ?_
      exact e_zret (R := zrunX zXt 9 ztc (n + 58)) (d := 1678) (L := L4) (h := h2) (v := 1) (by decide)
    refine (f_callV (k := 18) (d' := 1678) (S0 := [v, 4294967315]) (S' := []) (S2 := [1]) (fun q => by rw [zargs_s q (Nat.le_of_lt (Nat.lt_trans hv (by decide))), ← eL3, zargs_s q (by decide), ← eL4]; rfl) lL4_0 (by rw [hs0]; decide) g18_0 st18_0 (Nat.le_of_ble_eq_true rfl) m5 (hs2.trans hs0.symm) rfl).trans ?_
    exact e_zret (R := zrunX zXt 9 ztc (n + 59)) (d := 1679) (L := L2) (h := h2) (v := 1) (by decide)
  have A2 : zrunX zXt 9 ztc (n + 60) 1679 219 L7 [] h2 = some ([1], h4) := by
    refine (ca_219 (n := n + 59)).trans ?_
    refine (e_iload lL7_1 hv).trans ?_
    refine (e_push).trans ?_
    refine (e_push).trans ?_
    have m11 : zrunX zXt 9 ztc (n + 59) 1678 217 L10 [] h2 = some ([1], h2) := by
      refine (ca_217 (n := n + 58)).trans ?_
      refine (e_iload lL10_0 hv).trans ?_
      refine (e_iload lL10_1 (by decide)).trans ?_
      refine (f_cmp_f (f := z_lt) hv (by decide) (zlt_f (a := v) (b := 4294950912) (by omega))).trans ?_
      refine (e_iload lL10_0 hv).trans ?_
      refine (e_iload lL10_2 (by decide)).trans ?_
      refine (f_cmp_f (f := z_gt) hv (by decide) (zgt_f (a := v) (b := 16383) (by omega))).trans ?_
      refine (e_push).trans ?_
      exact e_zret (R := zrunX zXt 9 ztc (n + 58)) (d := 1678) (L := L10) (h := h2) (v := 1) (by decide)
    refine (f_callS (d' := 1678) (S0 := [16383, 4294950912, v]) (S' := []) (S2 := [1]) (fun q => by rw [zargs_s q (by decide), ← eL8, zargs_s q (by decide), ← eL9, zargs_s q (Nat.le_of_lt (Nat.lt_trans hv (by decide))), ← eL10]; rfl) (Nat.le_of_ble_eq_true rfl) m11 (hs2.trans hs2.symm) rfl).trans ?_
    refine (f_if_f (f := fun a => Nat.beq a 0) (by decide) (by decide +kernel)).trans ?_
    refine (e_aload lL7_0 (by decide)).trans ?_
    refine (f_getf (k := 61) (by rw [hs2]; decide) g61_2 st61_0 (by rw [ln61_0]; decide) v61_23_0).trans ?_
    refine (e_push).trans ?_
    refine (f_cmp_t (f := z_ne) (by decide) (by decide) (by decide +kernel)).trans ?_
    refine (e_aload lL7_0 (by decide)).trans ?_
    refine (f_getf (k := 61) (by rw [hs2]; decide) g61_2 st61_0 (by rw [ln61_0]; decide) v61_22_0).trans ?_
    refine (e_aload lL7_0 (by decide)).trans ?_
    refine (f_getf (k := 61) (by rw [hs2]; decide) g61_2 st61_0 (by rw [ln61_0]; decide) v61_23_0).trans ?_
    refine (e_iload lL7_1 hv).trans ?_
    refine (f_iast (k := 76) hv (by decide) (by rw [hs2]; decide) g76_2 st76_0 (by rw [ln76_0]; decide) eh3.symm).trans ?_
    refine (e_aload lL7_0 (by decide)).trans ?_
    refine (e_dup).trans ?_
    refine (f_getf (k := 61) (by rw [hs3]; decide) g61_3 st61_0 (by rw [ln61_0]; decide) v61_23_0).trans ?_
    refine (e_push).trans ?_
    refine (f_bin (f := z_add) (v := 1) (by decide) (by decide) (by decide +kernel)).trans ?_
    refine (f_putf (k := 61) (by decide +kernel) (by rw [hs3]; decide) g61_3 st61_0 (by rw [ln61_0]; decide) eh4.symm).trans ?_
    refine (e_push).trans ?_
    exact e_zret (R := zrunX zXt 9 ztc (n + 59)) (d := 1679) (L := L7) (h := h4) (v := 1) (by decide)
  rw [eL2, eL1] at A1
  rw [eL7, eL6] at A2
  exact ⟨_, _, _, (by decide), A1, hs2, MS, A2, hs4, sl4⟩
theorem fs_input_big (v : Nat) (hv : v < 4294967296) (i1 : 16384 ≤ v) (i2 : v < 2147483648) (n : Nat) : zFst n 153 (zput (zput 0 1 (v + 1)) 0 (4294967297 + 1)) 219 (zput (zput 0 1 (v + 1)) 0 (4294967358 + 1)) := by
  have hs0 : hbB16.1 = 129 := rfl
  have sl0 : hbB16.2.1 = 650610 := rfl
  obtain ⟨L1, eL1⟩ : ∃ x : Nat, x = zput 0 1 (v + 1) := ⟨_, rfl⟩
  obtain ⟨L2, eL2⟩ : ∃ x : Nat, x = zput L1 0 (4294967297 + 1) := ⟨_, rfl⟩
  have lL2_0 : zlane L2 0 = 4294967297 + 1 := by rw [eL2]; exact zlane_same (by decide)
  have v0_8_0 : zcv haA0_c0 8 = 4294967315 := by decide +kernel
  have g0_0 : zget 8 hbB16.2.2 0 = haA0_c0 := rfl
  have st0_0 : haA0_c0.1 = 11 := rfl
  have ln0_0 : haA0_c0.2.1 = 18 := rfl
  have lL1_1 : zlane L1 1 = v + 1 := by rw [eL1]; exact zlane_same (Nat.lt_of_le_of_lt (Nat.succ_le_of_lt hv) (by decide))
  have lL2_1 : zlane L2 1 = v + 1 := by rw [eL2]; exact (zlane_ne (by decide) (by decide)).trans lL1_1
  obtain ⟨L3, eL3⟩ : ∃ x : Nat, x = zput 0 1 (v + 1) := ⟨_, rfl⟩
  obtain ⟨L4, eL4⟩ : ∃ x : Nat, x = zput L3 0 (4294967315 + 1) := ⟨_, rfl⟩
  have lL3_1 : zlane L3 1 = v + 1 := by rw [eL3]; exact zlane_same (Nat.lt_of_le_of_lt (Nat.succ_le_of_lt hv) (by decide))
  have lL4_1 : zlane L4 1 = v + 1 := by rw [eL4]; exact (zlane_ne (by decide) (by decide)).trans lL3_1
  have lL4_0 : zlane L4 0 = 4294967315 + 1 := by rw [eL4]; exact zlane_same (by decide)
  have g18_0 : zget 8 hbB16.2.2 18 = haA0_c18 := rfl
  have st18_0 : haA0_c18.1 = 6 := rfl
  obtain ⟨L6, eL6⟩ : ∃ x : Nat, x = zput 0 1 (v + 1) := ⟨_, rfl⟩
  obtain ⟨L7, eL7⟩ : ∃ x : Nat, x = zput L6 0 (4294967358 + 1) := ⟨_, rfl⟩
  have lL6_1 : zlane L6 1 = v + 1 := by rw [eL6]; exact zlane_same (Nat.lt_of_le_of_lt (Nat.succ_le_of_lt hv) (by decide))
  have lL7_1 : zlane L7 1 = v + 1 := by rw [eL7]; exact (zlane_ne (by decide) (by decide)).trans lL6_1
  obtain ⟨L8, eL8⟩ : ∃ x : Nat, x = zput 0 2 (16383 + 1) := ⟨_, rfl⟩
  obtain ⟨L9, eL9⟩ : ∃ x : Nat, x = zput L8 1 (4294950912 + 1) := ⟨_, rfl⟩
  obtain ⟨L10, eL10⟩ : ∃ x : Nat, x = zput L9 0 (v + 1) := ⟨_, rfl⟩
  have lL10_0 : zlane L10 0 = v + 1 := by rw [eL10]; exact zlane_same (Nat.lt_of_le_of_lt (Nat.succ_le_of_lt hv) (by decide))
  have lL9_1 : zlane L9 1 = 4294950912 + 1 := by rw [eL9]; exact zlane_same (by decide)
  have lL10_1 : zlane L10 1 = 4294950912 + 1 := by rw [eL10]; exact (zlane_ne (Nat.lt_of_le_of_lt (Nat.succ_le_of_lt hv) (by decide)) (by decide)).trans lL9_1
  have lL8_2 : zlane L8 2 = 16383 + 1 := by rw [eL8]; exact zlane_same (by decide)
  have lL9_2 : zlane L9 2 = 16383 + 1 := by rw [eL9]; exact (zlane_ne (by decide) (by decide)).trans lL8_2
  have lL10_2 : zlane L10 2 = 16383 + 1 := by rw [eL10]; exact (zlane_ne (Nat.lt_of_le_of_lt (Nat.succ_le_of_lt hv) (by decide)) (by decide)).trans lL9_2
  have g61_0 : zget 8 hbB16.2.2 61 = hbB15_c61 := rfl
  have st61_0 : hbB15_c61.1 = 12 := rfl
  have MS : (zget 8 hbB16.2.2 61).1 = 12 := by rw [g61_0]; exact st61_0
  have A1 : zrunX zXt 9 ztc (n + 60) 1679 153 L2 [] hbB16 = some ([0], hbB16) := by
    refine (ca_153 (n := n + 59)).trans ?_
    refine (e_aload lL2_0 (by decide)).trans ?_
    refine (f_getf (k := 0) (by rw [hs0]; decide) g0_0 st0_0 (by rw [ln0_0]; decide) v0_8_0).trans ?_
    refine (e_iload lL2_1 hv).trans ?_
    have m5 : zrunX zXt 9 ztc (n + 59) 1678 89 L4 [] hbB16 = some ([0], hbB16) := by
      refine (ca_89 (n := n + 58)).trans ?_
      refine (e_iload lL4_1 hv).trans ?_
      refine (e_push).trans ?_
      refine (f_cmp_f (f := z_lt) hv (by decide) (zlt_f (a := v) (b := 4294950912) (by omega))).trans ?_
      refine (e_iload lL4_1 hv).trans ?_
      refine (e_push).trans ?_
      refine (f_cmp_t (f := z_gt) hv (by decide) (zgt_t (a := v) (b := 16383) (by omega))).trans ?_
      refine (e_push).trans ?_
      exact e_zret (R := zrunX zXt 9 ztc (n + 58)) (d := 1678) (L := L4) (h := hbB16) (v := 0) (by decide)
    refine (f_callV (k := 18) (d' := 1678) (S0 := [v, 4294967315]) (S' := []) (S2 := [0]) (fun q => by rw [zargs_s q (Nat.le_of_lt (Nat.lt_trans hv (by decide))), ← eL3, zargs_s q (by decide), ← eL4]; rfl) lL4_0 (by rw [hs0]; decide) g18_0 st18_0 (Nat.le_of_ble_eq_true rfl) m5 (hs0.trans hs0.symm) rfl).trans ?_
    exact e_zret (R := zrunX zXt 9 ztc (n + 59)) (d := 1679) (L := L2) (h := hbB16) (v := 0) (by decide)
  have A2 : zrunX zXt 9 ztc (n + 60) 1679 219 L7 [] hbB16 = some ([0], hbB16) := by
    refine (ca_219 (n := n + 59)).trans ?_
    refine (e_iload lL7_1 hv).trans ?_
    refine (e_push).trans ?_
    refine (e_push).trans ?_
    have m11 : zrunX zXt 9 ztc (n + 59) 1678 217 L10 [] hbB16 = some ([0], hbB16) := by
      refine (ca_217 (n := n + 58)).trans ?_
      refine (e_iload lL10_0 hv).trans ?_
      refine (e_iload lL10_1 (by decide)).trans ?_
      refine (f_cmp_f (f := z_lt) hv (by decide) (zlt_f (a := v) (b := 4294950912) (by omega))).trans ?_
      refine (e_iload lL10_0 hv).trans ?_
      refine (e_iload lL10_2 (by decide)).trans ?_
      refine (f_cmp_t (f := z_gt) hv (by decide) (zgt_t (a := v) (b := 16383) (by omega))).trans ?_
      refine (e_push).trans ?_
      exact e_zret (R := zrunX zXt 9 ztc (n + 58)) (d := 1678) (L := L10) (h := hbB16) (v := 0) (by decide)
    refine (f_callS (d' := 1678) (S0 := [16383, 4294950912, v]) (S' := []) (S2 := [0]) (fun q => by rw [zargs_s q (by decide), ← eL8, zargs_s q (by decide), ← eL9, zargs_s q (Nat.le_of_lt (Nat.lt_trans hv (by decide))), ← eL10]; rfl) (Nat.le_of_ble_eq_true rfl) m11 (hs0.trans hs0.symm) rfl).trans ?_
    refine (f_if_t (f := fun a => Nat.beq a 0) (by decide) (by decide +kernel)).trans ?_
    refine (e_push).trans ?_
    exact e_zret (R := zrunX zXt 9 ztc (n + 59)) (d := 1679) (L := L7) (h := hbB16) (v := 0) (by decide)
  rw [eL2, eL1] at A1
  rw [eL7, eL6] at A2
  exact ⟨_, _, _, (by decide), A1, hs0, MS, A2, hs0, sl0⟩
theorem fs_input_low (v : Nat) (hv : v < 4294967296) (i1 : 2147483648 ≤ v) (i2 : v < 4294950912) (n : Nat) : zFst n 153 (zput (zput 0 1 (v + 1)) 0 (4294967297 + 1)) 219 (zput (zput 0 1 (v + 1)) 0 (4294967358 + 1)) := by
  have hs0 : hbB16.1 = 129 := rfl
  have sl0 : hbB16.2.1 = 650610 := rfl
  obtain ⟨L1, eL1⟩ : ∃ x : Nat, x = zput 0 1 (v + 1) := ⟨_, rfl⟩
  obtain ⟨L2, eL2⟩ : ∃ x : Nat, x = zput L1 0 (4294967297 + 1) := ⟨_, rfl⟩
  have lL2_0 : zlane L2 0 = 4294967297 + 1 := by rw [eL2]; exact zlane_same (by decide)
  have v0_8_0 : zcv haA0_c0 8 = 4294967315 := by decide +kernel
  have g0_0 : zget 8 hbB16.2.2 0 = haA0_c0 := rfl
  have st0_0 : haA0_c0.1 = 11 := rfl
  have ln0_0 : haA0_c0.2.1 = 18 := rfl
  have lL1_1 : zlane L1 1 = v + 1 := by rw [eL1]; exact zlane_same (Nat.lt_of_le_of_lt (Nat.succ_le_of_lt hv) (by decide))
  have lL2_1 : zlane L2 1 = v + 1 := by rw [eL2]; exact (zlane_ne (by decide) (by decide)).trans lL1_1
  obtain ⟨L3, eL3⟩ : ∃ x : Nat, x = zput 0 1 (v + 1) := ⟨_, rfl⟩
  obtain ⟨L4, eL4⟩ : ∃ x : Nat, x = zput L3 0 (4294967315 + 1) := ⟨_, rfl⟩
  have lL3_1 : zlane L3 1 = v + 1 := by rw [eL3]; exact zlane_same (Nat.lt_of_le_of_lt (Nat.succ_le_of_lt hv) (by decide))
  have lL4_1 : zlane L4 1 = v + 1 := by rw [eL4]; exact (zlane_ne (by decide) (by decide)).trans lL3_1
  have lL4_0 : zlane L4 0 = 4294967315 + 1 := by rw [eL4]; exact zlane_same (by decide)
  have g18_0 : zget 8 hbB16.2.2 18 = haA0_c18 := rfl
  have st18_0 : haA0_c18.1 = 6 := rfl
  obtain ⟨L6, eL6⟩ : ∃ x : Nat, x = zput 0 1 (v + 1) := ⟨_, rfl⟩
  obtain ⟨L7, eL7⟩ : ∃ x : Nat, x = zput L6 0 (4294967358 + 1) := ⟨_, rfl⟩
  have lL6_1 : zlane L6 1 = v + 1 := by rw [eL6]; exact zlane_same (Nat.lt_of_le_of_lt (Nat.succ_le_of_lt hv) (by decide))
  have lL7_1 : zlane L7 1 = v + 1 := by rw [eL7]; exact (zlane_ne (by decide) (by decide)).trans lL6_1
  obtain ⟨L8, eL8⟩ : ∃ x : Nat, x = zput 0 2 (16383 + 1) := ⟨_, rfl⟩
  obtain ⟨L9, eL9⟩ : ∃ x : Nat, x = zput L8 1 (4294950912 + 1) := ⟨_, rfl⟩
  obtain ⟨L10, eL10⟩ : ∃ x : Nat, x = zput L9 0 (v + 1) := ⟨_, rfl⟩
  have lL10_0 : zlane L10 0 = v + 1 := by rw [eL10]; exact zlane_same (Nat.lt_of_le_of_lt (Nat.succ_le_of_lt hv) (by decide))
  have lL9_1 : zlane L9 1 = 4294950912 + 1 := by rw [eL9]; exact zlane_same (by decide)
  have lL10_1 : zlane L10 1 = 4294950912 + 1 := by rw [eL10]; exact (zlane_ne (Nat.lt_of_le_of_lt (Nat.succ_le_of_lt hv) (by decide)) (by decide)).trans lL9_1
  have g61_0 : zget 8 hbB16.2.2 61 = hbB15_c61 := rfl
  have st61_0 : hbB15_c61.1 = 12 := rfl
  have MS : (zget 8 hbB16.2.2 61).1 = 12 := by rw [g61_0]; exact st61_0
  have A1 : zrunX zXt 9 ztc (n + 60) 1679 153 L2 [] hbB16 = some ([0], hbB16) := by
    refine (ca_153 (n := n + 59)).trans ?_
    refine (e_aload lL2_0 (by decide)).trans ?_
    refine (f_getf (k := 0) (by rw [hs0]; decide) g0_0 st0_0 (by rw [ln0_0]; decide) v0_8_0).trans ?_
    refine (e_iload lL2_1 hv).trans ?_
    have m5 : zrunX zXt 9 ztc (n + 59) 1678 89 L4 [] hbB16 = some ([0], hbB16) := by
      refine (ca_89 (n := n + 58)).trans ?_
      refine (e_iload lL4_1 hv).trans ?_
      refine (e_push).trans ?_
      refine (f_cmp_t (f := z_lt) hv (by decide) (zlt_t (a := v) (b := 4294950912) (by omega))).trans ?_
      refine (e_push).trans ?_
      exact e_zret (R := zrunX zXt 9 ztc (n + 58)) (d := 1678) (L := L4) (h := hbB16) (v := 0) (by decide)
    refine (f_callV (k := 18) (d' := 1678) (S0 := [v, 4294967315]) (S' := []) (S2 := [0]) (fun q => by rw [zargs_s q (Nat.le_of_lt (Nat.lt_trans hv (by decide))), ← eL3, zargs_s q (by decide), ← eL4]; rfl) lL4_0 (by rw [hs0]; decide) g18_0 st18_0 (Nat.le_of_ble_eq_true rfl) m5 (hs0.trans hs0.symm) rfl).trans ?_
    exact e_zret (R := zrunX zXt 9 ztc (n + 59)) (d := 1679) (L := L2) (h := hbB16) (v := 0) (by decide)
  have A2 : zrunX zXt 9 ztc (n + 60) 1679 219 L7 [] hbB16 = some ([0], hbB16) := by
    refine (ca_219 (n := n + 59)).trans ?_
    refine (e_iload lL7_1 hv).trans ?_
    refine (e_push).trans ?_
    refine (e_push).trans ?_
    have m11 : zrunX zXt 9 ztc (n + 59) 1678 217 L10 [] hbB16 = some ([0], hbB16) := by
      refine (ca_217 (n := n + 58)).trans ?_
      refine (e_iload lL10_0 hv).trans ?_
      refine (e_iload lL10_1 (by decide)).trans ?_
      refine (f_cmp_t (f := z_lt) hv (by decide) (zlt_t (a := v) (b := 4294950912) (by omega))).trans ?_
      refine (e_push).trans ?_
      exact e_zret (R := zrunX zXt 9 ztc (n + 58)) (d := 1678) (L := L10) (h := hbB16) (v := 0) (by decide)
    refine (f_callS (d' := 1678) (S0 := [16383, 4294950912, v]) (S' := []) (S2 := [0]) (fun q => by rw [zargs_s q (by decide), ← eL8, zargs_s q (by decide), ← eL9, zargs_s q (Nat.le_of_lt (Nat.lt_trans hv (by decide))), ← eL10]; rfl) (Nat.le_of_ble_eq_true rfl) m11 (hs0.trans hs0.symm) rfl).trans ?_
    refine (f_if_t (f := fun a => Nat.beq a 0) (by decide) (by decide +kernel)).trans ?_
    refine (e_push).trans ?_
    exact e_zret (R := zrunX zXt 9 ztc (n + 59)) (d := 1679) (L := L7) (h := hbB16) (v := 0) (by decide)
  rw [eL2, eL1] at A1
  rw [eL7, eL6] at A2
  exact ⟨_, _, _, (by decide), A1, hs0, MS, A2, hs0, sl0⟩
theorem fs_letter_neg (v : Nat) (hv : v < 4294967296) (w : Nat) (hw : w < 4294967296) (i1 : 2147483648 ≤ v) (n : Nat) : zFst n 155 (zput (zput (zput 0 2 (w + 1)) 1 (v + 1)) 0 (4294967297 + 1)) 239 (zput (zput (zput 0 2 (w + 1)) 1 (v + 1)) 0 (4294967358 + 1)) := by
  have hs0 : hbB16.1 = 129 := rfl
  have sl0 : hbB16.2.1 = 650610 := rfl
  obtain ⟨L1, eL1⟩ : ∃ x : Nat, x = zput 0 2 (w + 1) := ⟨_, rfl⟩
  obtain ⟨L2, eL2⟩ : ∃ x : Nat, x = zput L1 1 (v + 1) := ⟨_, rfl⟩
  obtain ⟨L3, eL3⟩ : ∃ x : Nat, x = zput L2 0 (4294967297 + 1) := ⟨_, rfl⟩
  have lL3_0 : zlane L3 0 = 4294967297 + 1 := by rw [eL3]; exact zlane_same (by decide)
  have v0_5_0 : zcv haA0_c0 5 = 4294967305 := by decide +kernel
  have g0_0 : zget 8 hbB16.2.2 0 = haA0_c0 := rfl
  have st0_0 : haA0_c0.1 = 11 := rfl
  have ln0_0 : haA0_c0.2.1 = 18 := rfl
  have lL2_1 : zlane L2 1 = v + 1 := by rw [eL2]; exact zlane_same (Nat.lt_of_le_of_lt (Nat.succ_le_of_lt hv) (by decide))
  have lL3_1 : zlane L3 1 = v + 1 := by rw [eL3]; exact (zlane_ne (by decide) (by decide)).trans lL2_1
  have lL1_2 : zlane L1 2 = w + 1 := by rw [eL1]; exact zlane_same (Nat.lt_of_le_of_lt (Nat.succ_le_of_lt hw) (by decide))
  have lL2_2 : zlane L2 2 = w + 1 := by rw [eL2]; exact (zlane_ne (Nat.lt_of_le_of_lt (Nat.succ_le_of_lt hv) (by decide)) (by decide)).trans lL1_2
  have lL3_2 : zlane L3 2 = w + 1 := by rw [eL3]; exact (zlane_ne (by decide) (by decide)).trans lL2_2
  obtain ⟨L4, eL4⟩ : ∃ x : Nat, x = zput 0 2 (w + 1) := ⟨_, rfl⟩
  obtain ⟨L5, eL5⟩ : ∃ x : Nat, x = zput L4 1 (v + 1) := ⟨_, rfl⟩
  obtain ⟨L6, eL6⟩ : ∃ x : Nat, x = zput L5 0 (4294967305 + 1) := ⟨_, rfl⟩
  have lL5_1 : zlane L5 1 = v + 1 := by rw [eL5]; exact zlane_same (Nat.lt_of_le_of_lt (Nat.succ_le_of_lt hv) (by decide))
  have lL6_1 : zlane L6 1 = v + 1 := by rw [eL6]; exact (zlane_ne (by decide) (by decide)).trans lL5_1
  have lL6_0 : zlane L6 0 = 4294967305 + 1 := by rw [eL6]; exact zlane_same (by decide)
  have g8_0 : zget 8 hbB16.2.2 8 = hbA3_c8 := rfl
  have st8_0 : hbA3_c8.1 = 2 := rfl
  obtain ⟨L8, eL8⟩ : ∃ x : Nat, x = zput 0 2 (w + 1) := ⟨_, rfl⟩
  obtain ⟨L9, eL9⟩ : ∃ x : Nat, x = zput L8 1 (v + 1) := ⟨_, rfl⟩
  obtain ⟨L10, eL10⟩ : ∃ x : Nat, x = zput L9 0 (4294967358 + 1) := ⟨_, rfl⟩
  have lL9_1 : zlane L9 1 = v + 1 := by rw [eL9]; exact zlane_same (Nat.lt_of_le_of_lt (Nat.succ_le_of_lt hv) (by decide))
  have lL10_1 : zlane L10 1 = v + 1 := by rw [eL10]; exact (zlane_ne (by decide) (by decide)).trans lL9_1
  have lL10_0 : zlane L10 0 = 4294967358 + 1 := by rw [eL10]; exact zlane_same (by decide)
  have v61_45_0 : zcv hbB15_c61 45 = 55 := by decide +kernel
  have g61_0 : zget 8 hbB16.2.2 61 = hbB15_c61 := rfl
  have st61_0 : hbB15_c61.1 = 12 := rfl
  have ln61_0 : hbB15_c61.2.1 = 114 := rfl
  obtain ⟨L11, eL11⟩ : ∃ x : Nat, x = zput 0 2 (54 + 1) := ⟨_, rfl⟩
  obtain ⟨L12, eL12⟩ : ∃ x : Nat, x = zput L11 1 (0 + 1) := ⟨_, rfl⟩
  obtain ⟨L13, eL13⟩ : ∃ x : Nat, x = zput L12 0 (v + 1) := ⟨_, rfl⟩
  have lL13_0 : zlane L13 0 = v + 1 := by rw [eL13]; exact zlane_same (Nat.lt_of_le_of_lt (Nat.succ_le_of_lt hv) (by decide))
  have lL12_1 : zlane L12 1 = 0 + 1 := by rw [eL12]; exact zlane_same (by decide)
  have lL13_1 : zlane L13 1 = 0 + 1 := by rw [eL13]; exact (zlane_ne (Nat.lt_of_le_of_lt (Nat.succ_le_of_lt hv) (by decide)) (by decide)).trans lL12_1
  have MS : (zget 8 hbB16.2.2 61).1 = 12 := by rw [g61_0]; exact st61_0
  have A1 : zrunX zXt 9 ztc (n + 60) 1679 155 L3 [] hbB16 = some ([4294967295], hbB16) := by
    refine (ca_155 (n := n + 59)).trans ?_
    refine (e_aload lL3_0 (by decide)).trans ?_
    refine (f_getf (k := 0) (by rw [hs0]; decide) g0_0 st0_0 (by rw [ln0_0]; decide) v0_5_0).trans ?_
    refine (e_iload lL3_1 hv).trans ?_
    refine (e_iload lL3_2 hw).trans ?_
    have m7 : zrunX zXt 9 ztc (n + 59) 1678 39 L6 [] hbB16 = some ([4294967295], hbB16) := by
      refine (ca_39 (n := n + 58)).trans ?_
      refine (e_iload lL6_1 hv).trans ?_
      refine (f_if_t (f := fun a => z_lt a 0) hv (zlt_t (a := v) (b := 0) (by omega))).trans ?_
      refine (e_push).trans ?_
      exact e_ret (R := zrunX zXt 9 ztc (n + 58)) (d := 1678) (L := L6) (h := hbB16) (v := 4294967295) (by decide)
    refine (f_callV (k := 8) (d' := 1678) (S0 := [w, v, 4294967305]) (S' := []) (S2 := [4294967295]) (fun q => by rw [zargs_s q (Nat.le_of_lt (Nat.lt_trans hw (by decide))), ← eL4, zargs_s q (Nat.le_of_lt (Nat.lt_trans hv (by decide))), ← eL5, zargs_s q (by decide), ← eL6]; rfl) lL6_0 (by rw [hs0]; decide) g8_0 st8_0 (Nat.le_of_ble_eq_true rfl) m7 (hs0.trans hs0.symm) rfl).trans ?_
    exact e_ret (R := zrunX zXt 9 ztc (n + 59)) (d := 1679) (L := L3) (h := hbB16) (v := 4294967295) (by decide)
  have A2 : zrunX zXt 9 ztc (n + 60) 1679 239 L10 [] hbB16 = some ([4294967295], hbB16) := by
    refine (ca_239 (n := n + 59)).trans ?_
    refine (e_iload lL10_1 hv).trans ?_
    refine (e_push).trans ?_
    refine (e_aload lL10_0 (by decide)).trans ?_
    refine (f_getf (k := 61) (by rw [hs0]; decide) g61_0 st61_0 (by rw [ln61_0]; decide) v61_45_0).trans ?_
    refine (e_push).trans ?_
    refine (f_bin (f := z_sub) (v := 54) (by decide) (by decide) (by decide +kernel)).trans ?_
    have m14 : zrunX zXt 9 ztc (n + 59) 1678 217 L13 [] hbB16 = some ([0], hbB16) := by
      refine (ca_217 (n := n + 58)).trans ?_
      refine (e_iload lL13_0 hv).trans ?_
      refine (e_iload lL13_1 (by decide)).trans ?_
      refine (f_cmp_t (f := z_lt) hv (by decide) (zlt_t (a := v) (b := 0) (by omega))).trans ?_
      refine (e_push).trans ?_
      exact e_zret (R := zrunX zXt 9 ztc (n + 58)) (d := 1678) (L := L13) (h := hbB16) (v := 0) (by decide)
    refine (f_callS (d' := 1678) (S0 := [54, 0, v]) (S' := []) (S2 := [0]) (fun q => by rw [zargs_s q (by decide), ← eL11, zargs_s q (by decide), ← eL12, zargs_s q (Nat.le_of_lt (Nat.lt_trans hv (by decide))), ← eL13]; rfl) (Nat.le_of_ble_eq_true rfl) m14 (hs0.trans hs0.symm) rfl).trans ?_
    refine (f_if_t (f := fun a => Nat.beq a 0) (by decide) (by decide +kernel)).trans ?_
    refine (e_push).trans ?_
    exact e_ret (R := zrunX zXt 9 ztc (n + 59)) (d := 1679) (L := L10) (h := hbB16) (v := 4294967295) (by decide)
  rw [eL3, eL2, eL1] at A1
  rw [eL10, eL9, eL8] at A2
  exact ⟨_, _, _, (by decide), A1, hs0, MS, A2, hs0, sl0⟩
theorem fs_letter_big (v : Nat) (hv : v < 4294967296) (w : Nat) (hw : w < 4294967296) (i1 : 55 ≤ v) (i2 : v < 2147483648) (n : Nat) : zFst n 155 (zput (zput (zput 0 2 (w + 1)) 1 (v + 1)) 0 (4294967297 + 1)) 239 (zput (zput (zput 0 2 (w + 1)) 1 (v + 1)) 0 (4294967358 + 1)) := by
  have hs0 : hbB16.1 = 129 := rfl
  have sl0 : hbB16.2.1 = 650610 := rfl
  obtain ⟨L1, eL1⟩ : ∃ x : Nat, x = zput 0 2 (w + 1) := ⟨_, rfl⟩
  obtain ⟨L2, eL2⟩ : ∃ x : Nat, x = zput L1 1 (v + 1) := ⟨_, rfl⟩
  obtain ⟨L3, eL3⟩ : ∃ x : Nat, x = zput L2 0 (4294967297 + 1) := ⟨_, rfl⟩
  have lL3_0 : zlane L3 0 = 4294967297 + 1 := by rw [eL3]; exact zlane_same (by decide)
  have v0_5_0 : zcv haA0_c0 5 = 4294967305 := by decide +kernel
  have g0_0 : zget 8 hbB16.2.2 0 = haA0_c0 := rfl
  have st0_0 : haA0_c0.1 = 11 := rfl
  have ln0_0 : haA0_c0.2.1 = 18 := rfl
  have lL2_1 : zlane L2 1 = v + 1 := by rw [eL2]; exact zlane_same (Nat.lt_of_le_of_lt (Nat.succ_le_of_lt hv) (by decide))
  have lL3_1 : zlane L3 1 = v + 1 := by rw [eL3]; exact (zlane_ne (by decide) (by decide)).trans lL2_1
  have lL1_2 : zlane L1 2 = w + 1 := by rw [eL1]; exact zlane_same (Nat.lt_of_le_of_lt (Nat.succ_le_of_lt hw) (by decide))
  have lL2_2 : zlane L2 2 = w + 1 := by rw [eL2]; exact (zlane_ne (Nat.lt_of_le_of_lt (Nat.succ_le_of_lt hv) (by decide)) (by decide)).trans lL1_2
  have lL3_2 : zlane L3 2 = w + 1 := by rw [eL3]; exact (zlane_ne (by decide) (by decide)).trans lL2_2
  obtain ⟨L4, eL4⟩ : ∃ x : Nat, x = zput 0 2 (w + 1) := ⟨_, rfl⟩
  obtain ⟨L5, eL5⟩ : ∃ x : Nat, x = zput L4 1 (v + 1) := ⟨_, rfl⟩
  obtain ⟨L6, eL6⟩ : ∃ x : Nat, x = zput L5 0 (4294967305 + 1) := ⟨_, rfl⟩
  have lL5_1 : zlane L5 1 = v + 1 := by rw [eL5]; exact zlane_same (Nat.lt_of_le_of_lt (Nat.succ_le_of_lt hv) (by decide))
  have lL6_1 : zlane L6 1 = v + 1 := by rw [eL6]; exact (zlane_ne (by decide) (by decide)).trans lL5_1
  have lL6_0 : zlane L6 0 = 4294967305 + 1 := by rw [eL6]; exact zlane_same (by decide)
  have v8_4_0 : zcv hbA3_c8 4 = 55 := by decide +kernel
  have g8_0 : zget 8 hbB16.2.2 8 = hbA3_c8 := rfl
  have st8_0 : hbA3_c8.1 = 2 := rfl
  have ln8_0 : hbA3_c8.2.1 = 10 := rfl
  obtain ⟨L8, eL8⟩ : ∃ x : Nat, x = zput 0 2 (w + 1) := ⟨_, rfl⟩
  obtain ⟨L9, eL9⟩ : ∃ x : Nat, x = zput L8 1 (v + 1) := ⟨_, rfl⟩
  obtain ⟨L10, eL10⟩ : ∃ x : Nat, x = zput L9 0 (4294967358 + 1) := ⟨_, rfl⟩
  have lL9_1 : zlane L9 1 = v + 1 := by rw [eL9]; exact zlane_same (Nat.lt_of_le_of_lt (Nat.succ_le_of_lt hv) (by decide))
  have lL10_1 : zlane L10 1 = v + 1 := by rw [eL10]; exact (zlane_ne (by decide) (by decide)).trans lL9_1
  have lL10_0 : zlane L10 0 = 4294967358 + 1 := by rw [eL10]; exact zlane_same (by decide)
  have v61_45_0 : zcv hbB15_c61 45 = 55 := by decide +kernel
  have g61_0 : zget 8 hbB16.2.2 61 = hbB15_c61 := rfl
  have st61_0 : hbB15_c61.1 = 12 := rfl
  have ln61_0 : hbB15_c61.2.1 = 114 := rfl
  obtain ⟨L11, eL11⟩ : ∃ x : Nat, x = zput 0 2 (54 + 1) := ⟨_, rfl⟩
  obtain ⟨L12, eL12⟩ : ∃ x : Nat, x = zput L11 1 (0 + 1) := ⟨_, rfl⟩
  obtain ⟨L13, eL13⟩ : ∃ x : Nat, x = zput L12 0 (v + 1) := ⟨_, rfl⟩
  have lL13_0 : zlane L13 0 = v + 1 := by rw [eL13]; exact zlane_same (Nat.lt_of_le_of_lt (Nat.succ_le_of_lt hv) (by decide))
  have lL12_1 : zlane L12 1 = 0 + 1 := by rw [eL12]; exact zlane_same (by decide)
  have lL13_1 : zlane L13 1 = 0 + 1 := by rw [eL13]; exact (zlane_ne (Nat.lt_of_le_of_lt (Nat.succ_le_of_lt hv) (by decide)) (by decide)).trans lL12_1
  have lL11_2 : zlane L11 2 = 54 + 1 := by rw [eL11]; exact zlane_same (by decide)
  have lL12_2 : zlane L12 2 = 54 + 1 := by rw [eL12]; exact (zlane_ne (by decide) (by decide)).trans lL11_2
  have lL13_2 : zlane L13 2 = 54 + 1 := by rw [eL13]; exact (zlane_ne (Nat.lt_of_le_of_lt (Nat.succ_le_of_lt hv) (by decide)) (by decide)).trans lL12_2
  have MS : (zget 8 hbB16.2.2 61).1 = 12 := by rw [g61_0]; exact st61_0
  have A1 : zrunX zXt 9 ztc (n + 60) 1679 155 L3 [] hbB16 = some ([4294967295], hbB16) := by
    refine (ca_155 (n := n + 59)).trans ?_
    refine (e_aload lL3_0 (by decide)).trans ?_
    refine (f_getf (k := 0) (by rw [hs0]; decide) g0_0 st0_0 (by rw [ln0_0]; decide) v0_5_0).trans ?_
    refine (e_iload lL3_1 hv).trans ?_
    refine (e_iload lL3_2 hw).trans ?_
    have m7 : zrunX zXt 9 ztc (n + 59) 1678 39 L6 [] hbB16 = some ([4294967295], hbB16) := by
      refine (ca_39 (n := n + 58)).trans ?_
      refine (e_iload lL6_1 hv).trans ?_
      refine (f_if_f (f := fun a => z_lt a 0) hv (zlt_f (a := v) (b := 0) (by omega))).trans ?_
      refine (e_iload lL6_1 hv).trans ?_
      refine (e_aload lL6_0 (by decide)).trans ?_
      refine (f_getf (k := 8) (by rw [hs0]; decide) g8_0 st8_0 (by rw [ln8_0]; decide) v8_4_0).trans ?_
      refine (f_cmp_t (f := z_ge) hv (by decide) (zge_t (a := v) (b := 55) (by omega))).trans ?_
      refine (e_push).trans ?_
      exact e_ret (R := zrunX zXt 9 ztc (n + 58)) (d := 1678) (L := L6) (h := hbB16) (v := 4294967295) (by decide)
    refine (f_callV (k := 8) (d' := 1678) (S0 := [w, v, 4294967305]) (S' := []) (S2 := [4294967295]) (fun q => by rw [zargs_s q (Nat.le_of_lt (Nat.lt_trans hw (by decide))), ← eL4, zargs_s q (Nat.le_of_lt (Nat.lt_trans hv (by decide))), ← eL5, zargs_s q (by decide), ← eL6]; rfl) lL6_0 (by rw [hs0]; decide) g8_0 st8_0 (Nat.le_of_ble_eq_true rfl) m7 (hs0.trans hs0.symm) rfl).trans ?_
    exact e_ret (R := zrunX zXt 9 ztc (n + 59)) (d := 1679) (L := L3) (h := hbB16) (v := 4294967295) (by decide)
  have A2 : zrunX zXt 9 ztc (n + 60) 1679 239 L10 [] hbB16 = some ([4294967295], hbB16) := by
    refine (ca_239 (n := n + 59)).trans ?_
    refine (e_iload lL10_1 hv).trans ?_
    refine (e_push).trans ?_
    refine (e_aload lL10_0 (by decide)).trans ?_
    refine (f_getf (k := 61) (by rw [hs0]; decide) g61_0 st61_0 (by rw [ln61_0]; decide) v61_45_0).trans ?_
    refine (e_push).trans ?_
    refine (f_bin (f := z_sub) (v := 54) (by decide) (by decide) (by decide +kernel)).trans ?_
    have m14 : zrunX zXt 9 ztc (n + 59) 1678 217 L13 [] hbB16 = some ([0], hbB16) := by
      refine (ca_217 (n := n + 58)).trans ?_
      refine (e_iload lL13_0 hv).trans ?_
      refine (e_iload lL13_1 (by decide)).trans ?_
      refine (f_cmp_f (f := z_lt) hv (by decide) (zlt_f (a := v) (b := 0) (by omega))).trans ?_
      refine (e_iload lL13_0 hv).trans ?_
      refine (e_iload lL13_2 (by decide)).trans ?_
      refine (f_cmp_t (f := z_gt) hv (by decide) (zgt_t (a := v) (b := 54) (by omega))).trans ?_
      refine (e_push).trans ?_
      exact e_zret (R := zrunX zXt 9 ztc (n + 58)) (d := 1678) (L := L13) (h := hbB16) (v := 0) (by decide)
    refine (f_callS (d' := 1678) (S0 := [54, 0, v]) (S' := []) (S2 := [0]) (fun q => by rw [zargs_s q (by decide), ← eL11, zargs_s q (by decide), ← eL12, zargs_s q (Nat.le_of_lt (Nat.lt_trans hv (by decide))), ← eL13]; rfl) (Nat.le_of_ble_eq_true rfl) m14 (hs0.trans hs0.symm) rfl).trans ?_
    refine (f_if_t (f := fun a => Nat.beq a 0) (by decide) (by decide +kernel)).trans ?_
    refine (e_push).trans ?_
    exact e_ret (R := zrunX zXt 9 ztc (n + 59)) (d := 1679) (L := L10) (h := hbB16) (v := 4294967295) (by decide)
  rw [eL3, eL2, eL1] at A1
  rw [eL10, eL9, eL8] at A2
  exact ⟨_, _, _, (by decide), A1, hs0, MS, A2, hs0, sl0⟩
theorem fs_letter_ineg (v : Nat) (hv : v < 4294967296) (w : Nat) (hw : w < 4294967296) (i1 : v < 55) (i2 : 2147483648 ≤ w) (n : Nat) : zFst n 155 (zput (zput (zput 0 2 (w + 1)) 1 (v + 1)) 0 (4294967297 + 1)) 239 (zput (zput (zput 0 2 (w + 1)) 1 (v + 1)) 0 (4294967358 + 1)) := by
  have hs0 : hbB16.1 = 129 := rfl
  have sl0 : hbB16.2.1 = 650610 := rfl
  have hq1 := zf_nx v i1
  have hq2 := zf_nm v i1
  obtain ⟨L1, eL1⟩ : ∃ x : Nat, x = zput 0 2 (w + 1) := ⟨_, rfl⟩
  obtain ⟨L2, eL2⟩ : ∃ x : Nat, x = zput L1 1 (v + 1) := ⟨_, rfl⟩
  obtain ⟨L3, eL3⟩ : ∃ x : Nat, x = zput L2 0 (4294967297 + 1) := ⟨_, rfl⟩
  have lL3_0 : zlane L3 0 = 4294967297 + 1 := by rw [eL3]; exact zlane_same (by decide)
  have v0_5_0 : zcv haA0_c0 5 = 4294967305 := by decide +kernel
  have g0_0 : zget 8 hbB16.2.2 0 = haA0_c0 := rfl
  have st0_0 : haA0_c0.1 = 11 := rfl
  have ln0_0 : haA0_c0.2.1 = 18 := rfl
  have lL2_1 : zlane L2 1 = v + 1 := by rw [eL2]; exact zlane_same (Nat.lt_of_le_of_lt (Nat.succ_le_of_lt hv) (by decide))
  have lL3_1 : zlane L3 1 = v + 1 := by rw [eL3]; exact (zlane_ne (by decide) (by decide)).trans lL2_1
  have lL1_2 : zlane L1 2 = w + 1 := by rw [eL1]; exact zlane_same (Nat.lt_of_le_of_lt (Nat.succ_le_of_lt hw) (by decide))
  have lL2_2 : zlane L2 2 = w + 1 := by rw [eL2]; exact (zlane_ne (Nat.lt_of_le_of_lt (Nat.succ_le_of_lt hv) (by decide)) (by decide)).trans lL1_2
  have lL3_2 : zlane L3 2 = w + 1 := by rw [eL3]; exact (zlane_ne (by decide) (by decide)).trans lL2_2
  obtain ⟨L4, eL4⟩ : ∃ x : Nat, x = zput 0 2 (w + 1) := ⟨_, rfl⟩
  obtain ⟨L5, eL5⟩ : ∃ x : Nat, x = zput L4 1 (v + 1) := ⟨_, rfl⟩
  obtain ⟨L6, eL6⟩ : ∃ x : Nat, x = zput L5 0 (4294967305 + 1) := ⟨_, rfl⟩
  have lL5_1 : zlane L5 1 = v + 1 := by rw [eL5]; exact zlane_same (Nat.lt_of_le_of_lt (Nat.succ_le_of_lt hv) (by decide))
  have lL6_1 : zlane L6 1 = v + 1 := by rw [eL6]; exact (zlane_ne (by decide) (by decide)).trans lL5_1
  have lL6_0 : zlane L6 0 = 4294967305 + 1 := by rw [eL6]; exact zlane_same (by decide)
  have v8_4_0 : zcv hbA3_c8 4 = 55 := by decide +kernel
  have g8_0 : zget 8 hbB16.2.2 8 = hbA3_c8 := rfl
  have st8_0 : hbA3_c8.1 = 2 := rfl
  have ln8_0 : hbA3_c8.2.1 = 10 := rfl
  have lL4_2 : zlane L4 2 = w + 1 := by rw [eL4]; exact zlane_same (Nat.lt_of_le_of_lt (Nat.succ_le_of_lt hw) (by decide))
  have lL5_2 : zlane L5 2 = w + 1 := by rw [eL5]; exact (zlane_ne (Nat.lt_of_le_of_lt (Nat.succ_le_of_lt hv) (by decide)) (by decide)).trans lL4_2
  have lL6_2 : zlane L6 2 = w + 1 := by rw [eL6]; exact (zlane_ne (by decide) (by decide)).trans lL5_2
  obtain ⟨L8, eL8⟩ : ∃ x : Nat, x = zput 0 2 (w + 1) := ⟨_, rfl⟩
  obtain ⟨L9, eL9⟩ : ∃ x : Nat, x = zput L8 1 (v + 1) := ⟨_, rfl⟩
  obtain ⟨L10, eL10⟩ : ∃ x : Nat, x = zput L9 0 (4294967358 + 1) := ⟨_, rfl⟩
  have lL9_1 : zlane L9 1 = v + 1 := by rw [eL9]; exact zlane_same (Nat.lt_of_le_of_lt (Nat.succ_le_of_lt hv) (by decide))
  have lL10_1 : zlane L10 1 = v + 1 := by rw [eL10]; exact (zlane_ne (by decide) (by decide)).trans lL9_1
  have lL10_0 : zlane L10 0 = 4294967358 + 1 := by rw [eL10]; exact zlane_same (by decide)
  have v61_45_0 : zcv hbB15_c61 45 = 55 := by decide +kernel
  have g61_0 : zget 8 hbB16.2.2 61 = hbB15_c61 := rfl
  have st61_0 : hbB15_c61.1 = 12 := rfl
  have ln61_0 : hbB15_c61.2.1 = 114 := rfl
  obtain ⟨L11, eL11⟩ : ∃ x : Nat, x = zput 0 2 (54 + 1) := ⟨_, rfl⟩
  obtain ⟨L12, eL12⟩ : ∃ x : Nat, x = zput L11 1 (0 + 1) := ⟨_, rfl⟩
  obtain ⟨L13, eL13⟩ : ∃ x : Nat, x = zput L12 0 (v + 1) := ⟨_, rfl⟩
  have lL13_0 : zlane L13 0 = v + 1 := by rw [eL13]; exact zlane_same (Nat.lt_of_le_of_lt (Nat.succ_le_of_lt hv) (by decide))
  have lL12_1 : zlane L12 1 = 0 + 1 := by rw [eL12]; exact zlane_same (by decide)
  have lL13_1 : zlane L13 1 = 0 + 1 := by rw [eL13]; exact (zlane_ne (Nat.lt_of_le_of_lt (Nat.succ_le_of_lt hv) (by decide)) (by decide)).trans lL12_1
  have lL11_2 : zlane L11 2 = 54 + 1 := by rw [eL11]; exact zlane_same (by decide)
  have lL12_2 : zlane L12 2 = 54 + 1 := by rw [eL12]; exact (zlane_ne (by decide) (by decide)).trans lL11_2
  have lL13_2 : zlane L13 2 = 54 + 1 := by rw [eL13]; exact (zlane_ne (Nat.lt_of_le_of_lt (Nat.succ_le_of_lt hv) (by decide)) (by decide)).trans lL12_2
  have lL8_2 : zlane L8 2 = w + 1 := by rw [eL8]; exact zlane_same (Nat.lt_of_le_of_lt (Nat.succ_le_of_lt hw) (by decide))
  have lL9_2 : zlane L9 2 = w + 1 := by rw [eL9]; exact (zlane_ne (Nat.lt_of_le_of_lt (Nat.succ_le_of_lt hv) (by decide)) (by decide)).trans lL8_2
  have lL10_2 : zlane L10 2 = w + 1 := by rw [eL10]; exact (zlane_ne (by decide) (by decide)).trans lL9_2
  have v61_43_0 : zcv hbB15_c61 43 = 4294967384 := by decide +kernel
  have ln87_0 : hbA0_c10.2.1 = 300 := rfl
  have g87_0 : zget 8 hbB16.2.2 87 = hbA0_c10 := rfl
  have st87_0 : hbA0_c10.1 = 100 := rfl
  obtain ⟨L15, eL15⟩ : ∃ x : Nat, x = zput 0 2 (((zcv hbA0_c10 v) - 1) + 1) := ⟨_, rfl⟩
  obtain ⟨L16, eL16⟩ : ∃ x : Nat, x = zput L15 1 (0 + 1) := ⟨_, rfl⟩
  obtain ⟨L17, eL17⟩ : ∃ x : Nat, x = zput L16 0 (w + 1) := ⟨_, rfl⟩
  have lL17_0 : zlane L17 0 = w + 1 := by rw [eL17]; exact zlane_same (Nat.lt_of_le_of_lt (Nat.succ_le_of_lt hw) (by decide))
  have lL16_1 : zlane L16 1 = 0 + 1 := by rw [eL16]; exact zlane_same (by decide)
  have lL17_1 : zlane L17 1 = 0 + 1 := by rw [eL17]; exact (zlane_ne (Nat.lt_of_le_of_lt (Nat.succ_le_of_lt hw) (by decide)) (by decide)).trans lL16_1
  have MS : (zget 8 hbB16.2.2 61).1 = 12 := by rw [g61_0]; exact st61_0
  have A1 : zrunX zXt 9 ztc (n + 60) 1679 155 L3 [] hbB16 = some ([4294967295], hbB16) := by
    refine (ca_155 (n := n + 59)).trans ?_
    refine (e_aload lL3_0 (by decide)).trans ?_
    refine (f_getf (k := 0) (by rw [hs0]; decide) g0_0 st0_0 (by rw [ln0_0]; decide) v0_5_0).trans ?_
    refine (e_iload lL3_1 hv).trans ?_
    refine (e_iload lL3_2 hw).trans ?_
    have m7 : zrunX zXt 9 ztc (n + 59) 1678 39 L6 [] hbB16 = some ([4294967295], hbB16) := by
      refine (ca_39 (n := n + 58)).trans ?_
      refine (e_iload lL6_1 hv).trans ?_
      refine (f_if_f (f := fun a => z_lt a 0) hv (zlt_f (a := v) (b := 0) (by omega))).trans ?_
      refine (e_iload lL6_1 hv).trans ?_
      refine (e_aload lL6_0 (by decide)).trans ?_
      refine (f_getf (k := 8) (by rw [hs0]; decide) g8_0 st8_0 (by rw [ln8_0]; decide) v8_4_0).trans ?_
      refine (f_cmp_f (f := z_ge) hv (by decide) (zge_f (a := v) (b := 55) (by omega))).trans ?_
      refine (e_iload lL6_2 hw).trans ?_
      refine (f_if_t (f := fun a => z_lt a 0) hw (zlt_t (a := w) (b := 0) (by omega))).trans ?_
      refine (e_push).trans ?_
      exact e_ret (R := zrunX zXt 9 ztc (n + 58)) (d := 1678) (L := L6) (h := hbB16) (v := 4294967295) (by decide)
    refine (f_callV (k := 8) (d' := 1678) (S0 := [w, v, 4294967305]) (S' := []) (S2 := [4294967295]) (fun q => by rw [zargs_s q (Nat.le_of_lt (Nat.lt_trans hw (by decide))), ← eL4, zargs_s q (Nat.le_of_lt (Nat.lt_trans hv (by decide))), ← eL5, zargs_s q (by decide), ← eL6]; rfl) lL6_0 (by rw [hs0]; decide) g8_0 st8_0 (Nat.le_of_ble_eq_true rfl) m7 (hs0.trans hs0.symm) rfl).trans ?_
    exact e_ret (R := zrunX zXt 9 ztc (n + 59)) (d := 1679) (L := L3) (h := hbB16) (v := 4294967295) (by decide)
  have A2 : zrunX zXt 9 ztc (n + 60) 1679 239 L10 [] hbB16 = some ([4294967295], hbB16) := by
    refine (ca_239 (n := n + 59)).trans ?_
    refine (e_iload lL10_1 hv).trans ?_
    refine (e_push).trans ?_
    refine (e_aload lL10_0 (by decide)).trans ?_
    refine (f_getf (k := 61) (by rw [hs0]; decide) g61_0 st61_0 (by rw [ln61_0]; decide) v61_45_0).trans ?_
    refine (e_push).trans ?_
    refine (f_bin (f := z_sub) (v := 54) (by decide) (by decide) (by decide +kernel)).trans ?_
    have m14 : zrunX zXt 9 ztc (n + 59) 1678 217 L13 [] hbB16 = some ([1], hbB16) := by
      refine (ca_217 (n := n + 58)).trans ?_
      refine (e_iload lL13_0 hv).trans ?_
      refine (e_iload lL13_1 (by decide)).trans ?_
      refine (f_cmp_f (f := z_lt) hv (by decide) (zlt_f (a := v) (b := 0) (by omega))).trans ?_
      refine (e_iload lL13_0 hv).trans ?_
      refine (e_iload lL13_2 (by decide)).trans ?_
      refine (f_cmp_f (f := z_gt) hv (by decide) (zgt_f (a := v) (b := 54) (by omega))).trans ?_
      refine (e_push).trans ?_
      exact e_zret (R := zrunX zXt 9 ztc (n + 58)) (d := 1678) (L := L13) (h := hbB16) (v := 1) (by decide)
    refine (f_callS (d' := 1678) (S0 := [54, 0, v]) (S' := []) (S2 := [1]) (fun q => by rw [zargs_s q (by decide), ← eL11, zargs_s q (by decide), ← eL12, zargs_s q (Nat.le_of_lt (Nat.lt_trans hv (by decide))), ← eL13]; rfl) (Nat.le_of_ble_eq_true rfl) m14 (hs0.trans hs0.symm) rfl).trans ?_
    refine (f_if_f (f := fun a => Nat.beq a 0) (by decide) (by decide +kernel)).trans ?_
    refine (e_iload lL10_2 hw).trans ?_
    refine (e_push).trans ?_
    refine (e_aload lL10_0 (by decide)).trans ?_
    refine (f_getf (k := 61) (by rw [hs0]; decide) g61_0 st61_0 (by rw [ln61_0]; decide) v61_43_0).trans ?_
    refine (e_iload lL10_1 hv).trans ?_
    refine (e_iald (k := 87) hv (by rw [hs0]; decide) g87_0 st87_0 (by rw [ln87_0]; omega) rfl (zb_nm _ (by omega))).trans ?_
    refine (e_push).trans ?_
    refine (f_bin (f := z_sub) (v := ((zcv hbA0_c10 v) - 1)) (zb_nm _ (by omega)) (by decide) (z_sub_l (by omega) (by omega))).trans ?_
    have m18 : zrunX zXt 9 ztc (n + 59) 1678 217 L17 [] hbB16 = some ([0], hbB16) := by
      refine (ca_217 (n := n + 58)).trans ?_
      refine (e_iload lL17_0 hw).trans ?_
      refine (e_iload lL17_1 (by decide)).trans ?_
      refine (f_cmp_t (f := z_lt) hw (by decide) (zlt_t (a := w) (b := 0) (by omega))).trans ?_
      refine (e_push).trans ?_
      exact e_zret (R := zrunX zXt 9 ztc (n + 58)) (d := 1678) (L := L17) (h := hbB16) (v := 0) (by decide)
    refine (f_callS (d' := 1678) (S0 := [((zcv hbA0_c10 v) - 1), 0, w]) (S' := []) (S2 := [0]) (fun q => by rw [zargs_s q (Nat.le_of_lt (Nat.lt_trans (by omega) (by decide))), ← eL15, zargs_s q (by decide), ← eL16, zargs_s q (Nat.le_of_lt (Nat.lt_trans hw (by decide))), ← eL17]; rfl) (Nat.le_of_ble_eq_true rfl) m18 (hs0.trans hs0.symm) rfl).trans ?_
    refine (f_if_t (f := fun a => Nat.beq a 0) (by decide) (by decide +kernel)).trans ?_
    refine (e_push).trans ?_
    exact e_ret (R := zrunX zXt 9 ztc (n + 59)) (d := 1679) (L := L10) (h := hbB16) (v := 4294967295) (by decide)
  rw [eL3, eL2, eL1] at A1
  rw [eL10, eL9, eL8] at A2
  exact ⟨_, _, _, (by decide), A1, hs0, MS, A2, hs0, sl0⟩
theorem fs_letter_ibig (v : Nat) (hv : v < 4294967296) (w : Nat) (hw : w < 4294967296) (i1 : v < 55) (i2 : zcv hbA0_c10 v ≤ w) (i3 : w < 2147483648) (n : Nat) : zFst n 155 (zput (zput (zput 0 2 (w + 1)) 1 (v + 1)) 0 (4294967297 + 1)) 239 (zput (zput (zput 0 2 (w + 1)) 1 (v + 1)) 0 (4294967358 + 1)) := by
  have hs0 : hbB16.1 = 129 := rfl
  have sl0 : hbB16.2.1 = 650610 := rfl
  have hq1 := zf_nx v i1
  have hq2 := zf_nm v i1
  obtain ⟨L1, eL1⟩ : ∃ x : Nat, x = zput 0 2 (w + 1) := ⟨_, rfl⟩
  obtain ⟨L2, eL2⟩ : ∃ x : Nat, x = zput L1 1 (v + 1) := ⟨_, rfl⟩
  obtain ⟨L3, eL3⟩ : ∃ x : Nat, x = zput L2 0 (4294967297 + 1) := ⟨_, rfl⟩
  have lL3_0 : zlane L3 0 = 4294967297 + 1 := by rw [eL3]; exact zlane_same (by decide)
  have v0_5_0 : zcv haA0_c0 5 = 4294967305 := by decide +kernel
  have g0_0 : zget 8 hbB16.2.2 0 = haA0_c0 := rfl
  have st0_0 : haA0_c0.1 = 11 := rfl
  have ln0_0 : haA0_c0.2.1 = 18 := rfl
  have lL2_1 : zlane L2 1 = v + 1 := by rw [eL2]; exact zlane_same (Nat.lt_of_le_of_lt (Nat.succ_le_of_lt hv) (by decide))
  have lL3_1 : zlane L3 1 = v + 1 := by rw [eL3]; exact (zlane_ne (by decide) (by decide)).trans lL2_1
  have lL1_2 : zlane L1 2 = w + 1 := by rw [eL1]; exact zlane_same (Nat.lt_of_le_of_lt (Nat.succ_le_of_lt hw) (by decide))
  have lL2_2 : zlane L2 2 = w + 1 := by rw [eL2]; exact (zlane_ne (Nat.lt_of_le_of_lt (Nat.succ_le_of_lt hv) (by decide)) (by decide)).trans lL1_2
  have lL3_2 : zlane L3 2 = w + 1 := by rw [eL3]; exact (zlane_ne (by decide) (by decide)).trans lL2_2
  obtain ⟨L4, eL4⟩ : ∃ x : Nat, x = zput 0 2 (w + 1) := ⟨_, rfl⟩
  obtain ⟨L5, eL5⟩ : ∃ x : Nat, x = zput L4 1 (v + 1) := ⟨_, rfl⟩
  obtain ⟨L6, eL6⟩ : ∃ x : Nat, x = zput L5 0 (4294967305 + 1) := ⟨_, rfl⟩
  have lL5_1 : zlane L5 1 = v + 1 := by rw [eL5]; exact zlane_same (Nat.lt_of_le_of_lt (Nat.succ_le_of_lt hv) (by decide))
  have lL6_1 : zlane L6 1 = v + 1 := by rw [eL6]; exact (zlane_ne (by decide) (by decide)).trans lL5_1
  have lL6_0 : zlane L6 0 = 4294967305 + 1 := by rw [eL6]; exact zlane_same (by decide)
  have v8_4_0 : zcv hbA3_c8 4 = 55 := by decide +kernel
  have g8_0 : zget 8 hbB16.2.2 8 = hbA3_c8 := rfl
  have st8_0 : hbA3_c8.1 = 2 := rfl
  have ln8_0 : hbA3_c8.2.1 = 10 := rfl
  have lL4_2 : zlane L4 2 = w + 1 := by rw [eL4]; exact zlane_same (Nat.lt_of_le_of_lt (Nat.succ_le_of_lt hw) (by decide))
  have lL5_2 : zlane L5 2 = w + 1 := by rw [eL5]; exact (zlane_ne (Nat.lt_of_le_of_lt (Nat.succ_le_of_lt hv) (by decide)) (by decide)).trans lL4_2
  have lL6_2 : zlane L6 2 = w + 1 := by rw [eL6]; exact (zlane_ne (by decide) (by decide)).trans lL5_2
  have v8_2_0 : zcv hbA3_c8 2 = 4294967307 := by decide +kernel
  have ln10_0 : hbA0_c10.2.1 = 300 := rfl
  have g10_0 : zget 8 hbB16.2.2 10 = hbA0_c10 := rfl
  have st10_0 : hbA0_c10.1 = 100 := rfl
  obtain ⟨L8, eL8⟩ : ∃ x : Nat, x = zput 0 2 (w + 1) := ⟨_, rfl⟩
  obtain ⟨L9, eL9⟩ : ∃ x : Nat, x = zput L8 1 (v + 1) := ⟨_, rfl⟩
  obtain ⟨L10, eL10⟩ : ∃ x : Nat, x = zput L9 0 (4294967358 + 1) := ⟨_, rfl⟩
  have lL9_1 : zlane L9 1 = v + 1 := by rw [eL9]; exact zlane_same (Nat.lt_of_le_of_lt (Nat.succ_le_of_lt hv) (by decide))
  have lL10_1 : zlane L10 1 = v + 1 := by rw [eL10]; exact (zlane_ne (by decide) (by decide)).trans lL9_1
  have lL10_0 : zlane L10 0 = 4294967358 + 1 := by rw [eL10]; exact zlane_same (by decide)
  have v61_45_0 : zcv hbB15_c61 45 = 55 := by decide +kernel
  have g61_0 : zget 8 hbB16.2.2 61 = hbB15_c61 := rfl
  have st61_0 : hbB15_c61.1 = 12 := rfl
  have ln61_0 : hbB15_c61.2.1 = 114 := rfl
  obtain ⟨L11, eL11⟩ : ∃ x : Nat, x = zput 0 2 (54 + 1) := ⟨_, rfl⟩
  obtain ⟨L12, eL12⟩ : ∃ x : Nat, x = zput L11 1 (0 + 1) := ⟨_, rfl⟩
  obtain ⟨L13, eL13⟩ : ∃ x : Nat, x = zput L12 0 (v + 1) := ⟨_, rfl⟩
  have lL13_0 : zlane L13 0 = v + 1 := by rw [eL13]; exact zlane_same (Nat.lt_of_le_of_lt (Nat.succ_le_of_lt hv) (by decide))
  have lL12_1 : zlane L12 1 = 0 + 1 := by rw [eL12]; exact zlane_same (by decide)
  have lL13_1 : zlane L13 1 = 0 + 1 := by rw [eL13]; exact (zlane_ne (Nat.lt_of_le_of_lt (Nat.succ_le_of_lt hv) (by decide)) (by decide)).trans lL12_1
  have lL11_2 : zlane L11 2 = 54 + 1 := by rw [eL11]; exact zlane_same (by decide)
  have lL12_2 : zlane L12 2 = 54 + 1 := by rw [eL12]; exact (zlane_ne (by decide) (by decide)).trans lL11_2
  have lL13_2 : zlane L13 2 = 54 + 1 := by rw [eL13]; exact (zlane_ne (Nat.lt_of_le_of_lt (Nat.succ_le_of_lt hv) (by decide)) (by decide)).trans lL12_2
  have lL8_2 : zlane L8 2 = w + 1 := by rw [eL8]; exact zlane_same (Nat.lt_of_le_of_lt (Nat.succ_le_of_lt hw) (by decide))
  have lL9_2 : zlane L9 2 = w + 1 := by rw [eL9]; exact (zlane_ne (Nat.lt_of_le_of_lt (Nat.succ_le_of_lt hv) (by decide)) (by decide)).trans lL8_2
  have lL10_2 : zlane L10 2 = w + 1 := by rw [eL10]; exact (zlane_ne (by decide) (by decide)).trans lL9_2
  have v61_43_0 : zcv hbB15_c61 43 = 4294967384 := by decide +kernel
  have ln87_0 : hbA0_c10.2.1 = 300 := rfl
  have g87_0 : zget 8 hbB16.2.2 87 = hbA0_c10 := rfl
  have st87_0 : hbA0_c10.1 = 100 := rfl
  obtain ⟨L15, eL15⟩ : ∃ x : Nat, x = zput 0 2 (((zcv hbA0_c10 v) - 1) + 1) := ⟨_, rfl⟩
  obtain ⟨L16, eL16⟩ : ∃ x : Nat, x = zput L15 1 (0 + 1) := ⟨_, rfl⟩
  obtain ⟨L17, eL17⟩ : ∃ x : Nat, x = zput L16 0 (w + 1) := ⟨_, rfl⟩
  have lL17_0 : zlane L17 0 = w + 1 := by rw [eL17]; exact zlane_same (Nat.lt_of_le_of_lt (Nat.succ_le_of_lt hw) (by decide))
  have lL16_1 : zlane L16 1 = 0 + 1 := by rw [eL16]; exact zlane_same (by decide)
  have lL17_1 : zlane L17 1 = 0 + 1 := by rw [eL17]; exact (zlane_ne (Nat.lt_of_le_of_lt (Nat.succ_le_of_lt hw) (by decide)) (by decide)).trans lL16_1
  have lL15_2 : zlane L15 2 = ((zcv hbA0_c10 v) - 1) + 1 := by rw [eL15]; exact zlane_same (Nat.lt_of_le_of_lt (Nat.succ_le_of_lt (by omega)) (by decide))
  have lL16_2 : zlane L16 2 = ((zcv hbA0_c10 v) - 1) + 1 := by rw [eL16]; exact (zlane_ne (by decide) (by decide)).trans lL15_2
  have lL17_2 : zlane L17 2 = ((zcv hbA0_c10 v) - 1) + 1 := by rw [eL17]; exact (zlane_ne (Nat.lt_of_le_of_lt (Nat.succ_le_of_lt hw) (by decide)) (by decide)).trans lL16_2
  have MS : (zget 8 hbB16.2.2 61).1 = 12 := by rw [g61_0]; exact st61_0
  have A1 : zrunX zXt 9 ztc (n + 60) 1679 155 L3 [] hbB16 = some ([4294967295], hbB16) := by
    refine (ca_155 (n := n + 59)).trans ?_
    refine (e_aload lL3_0 (by decide)).trans ?_
    refine (f_getf (k := 0) (by rw [hs0]; decide) g0_0 st0_0 (by rw [ln0_0]; decide) v0_5_0).trans ?_
    refine (e_iload lL3_1 hv).trans ?_
    refine (e_iload lL3_2 hw).trans ?_
    have m7 : zrunX zXt 9 ztc (n + 59) 1678 39 L6 [] hbB16 = some ([4294967295], hbB16) := by
      refine (ca_39 (n := n + 58)).trans ?_
      refine (e_iload lL6_1 hv).trans ?_
      refine (f_if_f (f := fun a => z_lt a 0) hv (zlt_f (a := v) (b := 0) (by omega))).trans ?_
      refine (e_iload lL6_1 hv).trans ?_
      refine (e_aload lL6_0 (by decide)).trans ?_
      refine (f_getf (k := 8) (by rw [hs0]; decide) g8_0 st8_0 (by rw [ln8_0]; decide) v8_4_0).trans ?_
      refine (f_cmp_f (f := z_ge) hv (by decide) (zge_f (a := v) (b := 55) (by omega))).trans ?_
      refine (e_iload lL6_2 hw).trans ?_
      refine (f_if_f (f := fun a => z_lt a 0) hw (zlt_f (a := w) (b := 0) (by omega))).trans ?_
      refine (e_iload lL6_2 hw).trans ?_
      refine (e_aload lL6_0 (by decide)).trans ?_
      refine (f_getf (k := 8) (by rw [hs0]; decide) g8_0 st8_0 (by rw [ln8_0]; decide) v8_2_0).trans ?_
      refine (e_iload lL6_1 hv).trans ?_
      refine (e_iald (k := 10) hv (by rw [hs0]; decide) g10_0 st10_0 (by rw [ln10_0]; omega) rfl (zb_nx _ (by omega))).trans ?_
      refine (f_cmp_f (f := z_lt) hw (zb_nx _ (by omega)) (zlt_f (a := w) (b := (zcv hbA0_c10 v)) (by omega))).trans ?_
      refine (e_push).trans ?_
      exact e_ret (R := zrunX zXt 9 ztc (n + 58)) (d := 1678) (L := L6) (h := hbB16) (v := 4294967295) (by decide)
    refine (f_callV (k := 8) (d' := 1678) (S0 := [w, v, 4294967305]) (S' := []) (S2 := [4294967295]) (fun q => by rw [zargs_s q (Nat.le_of_lt (Nat.lt_trans hw (by decide))), ← eL4, zargs_s q (Nat.le_of_lt (Nat.lt_trans hv (by decide))), ← eL5, zargs_s q (by decide), ← eL6]; rfl) lL6_0 (by rw [hs0]; decide) g8_0 st8_0 (Nat.le_of_ble_eq_true rfl) m7 (hs0.trans hs0.symm) rfl).trans ?_
    exact e_ret (R := zrunX zXt 9 ztc (n + 59)) (d := 1679) (L := L3) (h := hbB16) (v := 4294967295) (by decide)
  have A2 : zrunX zXt 9 ztc (n + 60) 1679 239 L10 [] hbB16 = some ([4294967295], hbB16) := by
    refine (ca_239 (n := n + 59)).trans ?_
    refine (e_iload lL10_1 hv).trans ?_
    refine (e_push).trans ?_
    refine (e_aload lL10_0 (by decide)).trans ?_
    refine (f_getf (k := 61) (by rw [hs0]; decide) g61_0 st61_0 (by rw [ln61_0]; decide) v61_45_0).trans ?_
    refine (e_push).trans ?_
    refine (f_bin (f := z_sub) (v := 54) (by decide) (by decide) (by decide +kernel)).trans ?_
    have m14 : zrunX zXt 9 ztc (n + 59) 1678 217 L13 [] hbB16 = some ([1], hbB16) := by
      refine (ca_217 (n := n + 58)).trans ?_
      refine (e_iload lL13_0 hv).trans ?_
      refine (e_iload lL13_1 (by decide)).trans ?_
      refine (f_cmp_f (f := z_lt) hv (by decide) (zlt_f (a := v) (b := 0) (by omega))).trans ?_
      refine (e_iload lL13_0 hv).trans ?_
      refine (e_iload lL13_2 (by decide)).trans ?_
      refine (f_cmp_f (f := z_gt) hv (by decide) (zgt_f (a := v) (b := 54) (by omega))).trans ?_
      refine (e_push).trans ?_
      exact e_zret (R := zrunX zXt 9 ztc (n + 58)) (d := 1678) (L := L13) (h := hbB16) (v := 1) (by decide)
    refine (f_callS (d' := 1678) (S0 := [54, 0, v]) (S' := []) (S2 := [1]) (fun q => by rw [zargs_s q (by decide), ← eL11, zargs_s q (by decide), ← eL12, zargs_s q (Nat.le_of_lt (Nat.lt_trans hv (by decide))), ← eL13]; rfl) (Nat.le_of_ble_eq_true rfl) m14 (hs0.trans hs0.symm) rfl).trans ?_
    refine (f_if_f (f := fun a => Nat.beq a 0) (by decide) (by decide +kernel)).trans ?_
    refine (e_iload lL10_2 hw).trans ?_
    refine (e_push).trans ?_
    refine (e_aload lL10_0 (by decide)).trans ?_
    refine (f_getf (k := 61) (by rw [hs0]; decide) g61_0 st61_0 (by rw [ln61_0]; decide) v61_43_0).trans ?_
    refine (e_iload lL10_1 hv).trans ?_
    refine (e_iald (k := 87) hv (by rw [hs0]; decide) g87_0 st87_0 (by rw [ln87_0]; omega) rfl (zb_nm _ (by omega))).trans ?_
    refine (e_push).trans ?_
    refine (f_bin (f := z_sub) (v := ((zcv hbA0_c10 v) - 1)) (zb_nm _ (by omega)) (by decide) (z_sub_l (by omega) (by omega))).trans ?_
    have m18 : zrunX zXt 9 ztc (n + 59) 1678 217 L17 [] hbB16 = some ([0], hbB16) := by
      refine (ca_217 (n := n + 58)).trans ?_
      refine (e_iload lL17_0 hw).trans ?_
      refine (e_iload lL17_1 (by decide)).trans ?_
      refine (f_cmp_f (f := z_lt) hw (by decide) (zlt_f (a := w) (b := 0) (by omega))).trans ?_
      refine (e_iload lL17_0 hw).trans ?_
      refine (e_iload lL17_2 (by omega)).trans ?_
      refine (f_cmp_t (f := z_gt) hw (by omega) (zgt_t (a := w) (b := ((zcv hbA0_c10 v) - 1)) (by omega))).trans ?_
      refine (e_push).trans ?_
      exact e_zret (R := zrunX zXt 9 ztc (n + 58)) (d := 1678) (L := L17) (h := hbB16) (v := 0) (by decide)
    refine (f_callS (d' := 1678) (S0 := [((zcv hbA0_c10 v) - 1), 0, w]) (S' := []) (S2 := [0]) (fun q => by rw [zargs_s q (Nat.le_of_lt (Nat.lt_trans (by omega) (by decide))), ← eL15, zargs_s q (by decide), ← eL16, zargs_s q (Nat.le_of_lt (Nat.lt_trans hw (by decide))), ← eL17]; rfl) (Nat.le_of_ble_eq_true rfl) m18 (hs0.trans hs0.symm) rfl).trans ?_
    refine (f_if_t (f := fun a => Nat.beq a 0) (by decide) (by decide +kernel)).trans ?_
    refine (e_push).trans ?_
    exact e_ret (R := zrunX zXt 9 ztc (n + 59)) (d := 1679) (L := L10) (h := hbB16) (v := 4294967295) (by decide)
  rw [eL3, eL2, eL1] at A1
  rw [eL10, eL9, eL8] at A2
  exact ⟨_, _, _, (by decide), A1, hs0, MS, A2, hs0, sl0⟩
theorem fs_letter_in (v : Nat) (hv : v < 4294967296) (w : Nat) (hw : w < 4294967296) (i1 : v < 55) (i2 : w < zcv hbA0_c10 v) (n : Nat) : zFst n 155 (zput (zput (zput 0 2 (w + 1)) 1 (v + 1)) 0 (4294967297 + 1)) 239 (zput (zput (zput 0 2 (w + 1)) 1 (v + 1)) 0 (4294967358 + 1)) := by
  have hs0 : hbB16.1 = 129 := rfl
  have sl0 : hbB16.2.1 = 650610 := rfl
  have hq1 := zf_nx v i1
  have hq2 := zf_nm v i1
  obtain ⟨L1, eL1⟩ : ∃ x : Nat, x = zput 0 2 (w + 1) := ⟨_, rfl⟩
  obtain ⟨L2, eL2⟩ : ∃ x : Nat, x = zput L1 1 (v + 1) := ⟨_, rfl⟩
  obtain ⟨L3, eL3⟩ : ∃ x : Nat, x = zput L2 0 (4294967297 + 1) := ⟨_, rfl⟩
  have lL3_0 : zlane L3 0 = 4294967297 + 1 := by rw [eL3]; exact zlane_same (by decide)
  have v0_5_0 : zcv haA0_c0 5 = 4294967305 := by decide +kernel
  have g0_0 : zget 8 hbB16.2.2 0 = haA0_c0 := rfl
  have st0_0 : haA0_c0.1 = 11 := rfl
  have ln0_0 : haA0_c0.2.1 = 18 := rfl
  have lL2_1 : zlane L2 1 = v + 1 := by rw [eL2]; exact zlane_same (Nat.lt_of_le_of_lt (Nat.succ_le_of_lt hv) (by decide))
  have lL3_1 : zlane L3 1 = v + 1 := by rw [eL3]; exact (zlane_ne (by decide) (by decide)).trans lL2_1
  have lL1_2 : zlane L1 2 = w + 1 := by rw [eL1]; exact zlane_same (Nat.lt_of_le_of_lt (Nat.succ_le_of_lt hw) (by decide))
  have lL2_2 : zlane L2 2 = w + 1 := by rw [eL2]; exact (zlane_ne (Nat.lt_of_le_of_lt (Nat.succ_le_of_lt hv) (by decide)) (by decide)).trans lL1_2
  have lL3_2 : zlane L3 2 = w + 1 := by rw [eL3]; exact (zlane_ne (by decide) (by decide)).trans lL2_2
  obtain ⟨L4, eL4⟩ : ∃ x : Nat, x = zput 0 2 (w + 1) := ⟨_, rfl⟩
  obtain ⟨L5, eL5⟩ : ∃ x : Nat, x = zput L4 1 (v + 1) := ⟨_, rfl⟩
  obtain ⟨L6, eL6⟩ : ∃ x : Nat, x = zput L5 0 (4294967305 + 1) := ⟨_, rfl⟩
  have lL5_1 : zlane L5 1 = v + 1 := by rw [eL5]; exact zlane_same (Nat.lt_of_le_of_lt (Nat.succ_le_of_lt hv) (by decide))
  have lL6_1 : zlane L6 1 = v + 1 := by rw [eL6]; exact (zlane_ne (by decide) (by decide)).trans lL5_1
  have lL6_0 : zlane L6 0 = 4294967305 + 1 := by rw [eL6]; exact zlane_same (by decide)
  have v8_4_0 : zcv hbA3_c8 4 = 55 := by decide +kernel
  have g8_0 : zget 8 hbB16.2.2 8 = hbA3_c8 := rfl
  have st8_0 : hbA3_c8.1 = 2 := rfl
  have ln8_0 : hbA3_c8.2.1 = 10 := rfl
  have lL4_2 : zlane L4 2 = w + 1 := by rw [eL4]; exact zlane_same (Nat.lt_of_le_of_lt (Nat.succ_le_of_lt hw) (by decide))
  have lL5_2 : zlane L5 2 = w + 1 := by rw [eL5]; exact (zlane_ne (Nat.lt_of_le_of_lt (Nat.succ_le_of_lt hv) (by decide)) (by decide)).trans lL4_2
  have lL6_2 : zlane L6 2 = w + 1 := by rw [eL6]; exact (zlane_ne (by decide) (by decide)).trans lL5_2
  have v8_2_0 : zcv hbA3_c8 2 = 4294967307 := by decide +kernel
  have ln10_0 : hbA0_c10.2.1 = 300 := rfl
  have g10_0 : zget 8 hbB16.2.2 10 = hbA0_c10 := rfl
  have st10_0 : hbA0_c10.1 = 100 := rfl
  have v8_1_0 : zcv hbA3_c8 1 = 4294967306 := by decide +kernel
  have ln9_0 : hbA0_c9.2.1 = 3900 := rfl
  have g9_0 : zget 8 hbB16.2.2 9 = hbA0_c9 := rfl
  have st9_0 : hbA0_c9.1 = 100 := rfl
  obtain ⟨L8, eL8⟩ : ∃ x : Nat, x = zput 0 2 (w + 1) := ⟨_, rfl⟩
  obtain ⟨L9, eL9⟩ : ∃ x : Nat, x = zput L8 1 (v + 1) := ⟨_, rfl⟩
  obtain ⟨L10, eL10⟩ : ∃ x : Nat, x = zput L9 0 (4294967358 + 1) := ⟨_, rfl⟩
  have lL9_1 : zlane L9 1 = v + 1 := by rw [eL9]; exact zlane_same (Nat.lt_of_le_of_lt (Nat.succ_le_of_lt hv) (by decide))
  have lL10_1 : zlane L10 1 = v + 1 := by rw [eL10]; exact (zlane_ne (by decide) (by decide)).trans lL9_1
  have lL10_0 : zlane L10 0 = 4294967358 + 1 := by rw [eL10]; exact zlane_same (by decide)
  have v61_45_0 : zcv hbB15_c61 45 = 55 := by decide +kernel
  have g61_0 : zget 8 hbB16.2.2 61 = hbB15_c61 := rfl
  have st61_0 : hbB15_c61.1 = 12 := rfl
  have ln61_0 : hbB15_c61.2.1 = 114 := rfl
  obtain ⟨L11, eL11⟩ : ∃ x : Nat, x = zput 0 2 (54 + 1) := ⟨_, rfl⟩
  obtain ⟨L12, eL12⟩ : ∃ x : Nat, x = zput L11 1 (0 + 1) := ⟨_, rfl⟩
  obtain ⟨L13, eL13⟩ : ∃ x : Nat, x = zput L12 0 (v + 1) := ⟨_, rfl⟩
  have lL13_0 : zlane L13 0 = v + 1 := by rw [eL13]; exact zlane_same (Nat.lt_of_le_of_lt (Nat.succ_le_of_lt hv) (by decide))
  have lL12_1 : zlane L12 1 = 0 + 1 := by rw [eL12]; exact zlane_same (by decide)
  have lL13_1 : zlane L13 1 = 0 + 1 := by rw [eL13]; exact (zlane_ne (Nat.lt_of_le_of_lt (Nat.succ_le_of_lt hv) (by decide)) (by decide)).trans lL12_1
  have lL11_2 : zlane L11 2 = 54 + 1 := by rw [eL11]; exact zlane_same (by decide)
  have lL12_2 : zlane L12 2 = 54 + 1 := by rw [eL12]; exact (zlane_ne (by decide) (by decide)).trans lL11_2
  have lL13_2 : zlane L13 2 = 54 + 1 := by rw [eL13]; exact (zlane_ne (Nat.lt_of_le_of_lt (Nat.succ_le_of_lt hv) (by decide)) (by decide)).trans lL12_2
  have lL8_2 : zlane L8 2 = w + 1 := by rw [eL8]; exact zlane_same (Nat.lt_of_le_of_lt (Nat.succ_le_of_lt hw) (by decide))
  have lL9_2 : zlane L9 2 = w + 1 := by rw [eL9]; exact (zlane_ne (Nat.lt_of_le_of_lt (Nat.succ_le_of_lt hv) (by decide)) (by decide)).trans lL8_2
  have lL10_2 : zlane L10 2 = w + 1 := by rw [eL10]; exact (zlane_ne (by decide) (by decide)).trans lL9_2
  have v61_43_0 : zcv hbB15_c61 43 = 4294967384 := by decide +kernel
  have ln87_0 : hbA0_c10.2.1 = 300 := rfl
  have g87_0 : zget 8 hbB16.2.2 87 = hbA0_c10 := rfl
  have st87_0 : hbA0_c10.1 = 100 := rfl
  obtain ⟨L15, eL15⟩ : ∃ x : Nat, x = zput 0 2 (((zcv hbA0_c10 v) - 1) + 1) := ⟨_, rfl⟩
  obtain ⟨L16, eL16⟩ : ∃ x : Nat, x = zput L15 1 (0 + 1) := ⟨_, rfl⟩
  obtain ⟨L17, eL17⟩ : ∃ x : Nat, x = zput L16 0 (w + 1) := ⟨_, rfl⟩
  have lL17_0 : zlane L17 0 = w + 1 := by rw [eL17]; exact zlane_same (Nat.lt_of_le_of_lt (Nat.succ_le_of_lt hw) (by decide))
  have lL16_1 : zlane L16 1 = 0 + 1 := by rw [eL16]; exact zlane_same (by decide)
  have lL17_1 : zlane L17 1 = 0 + 1 := by rw [eL17]; exact (zlane_ne (Nat.lt_of_le_of_lt (Nat.succ_le_of_lt hw) (by decide)) (by decide)).trans lL16_1
  have lL15_2 : zlane L15 2 = ((zcv hbA0_c10 v) - 1) + 1 := by rw [eL15]; exact zlane_same (Nat.lt_of_le_of_lt (Nat.succ_le_of_lt (by omega)) (by decide))
  have lL16_2 : zlane L16 2 = ((zcv hbA0_c10 v) - 1) + 1 := by rw [eL16]; exact (zlane_ne (by decide) (by decide)).trans lL15_2
  have lL17_2 : zlane L17 2 = ((zcv hbA0_c10 v) - 1) + 1 := by rw [eL17]; exact (zlane_ne (Nat.lt_of_le_of_lt (Nat.succ_le_of_lt hw) (by decide)) (by decide)).trans lL16_2
  have v61_42_0 : zcv hbB15_c61 42 = 4294967383 := by decide +kernel
  have ln86_0 : hbA0_c9.2.1 = 3900 := rfl
  have g86_0 : zget 8 hbB16.2.2 86 = hbA0_c9 := rfl
  have st86_0 : hbA0_c9.1 = 100 := rfl
  have MS : (zget 8 hbB16.2.2 61).1 = 12 := by rw [g61_0]; exact st61_0
  have A1 : zrunX zXt 9 ztc (n + 60) 1679 155 L3 [] hbB16 = some ([(zcv hbA0_c9 ((v * 13) + w))], hbB16) := by
    refine (ca_155 (n := n + 59)).trans ?_
    refine (e_aload lL3_0 (by decide)).trans ?_
    refine (f_getf (k := 0) (by rw [hs0]; decide) g0_0 st0_0 (by rw [ln0_0]; decide) v0_5_0).trans ?_
    refine (e_iload lL3_1 hv).trans ?_
    refine (e_iload lL3_2 hw).trans ?_
    have m7 : zrunX zXt 9 ztc (n + 59) 1678 39 L6 [] hbB16 = some ([(zcv hbA0_c9 ((v * 13) + w))], hbB16) := by
      refine (ca_39 (n := n + 58)).trans ?_
      refine (e_iload lL6_1 hv).trans ?_
      refine (f_if_f (f := fun a => z_lt a 0) hv (zlt_f (a := v) (b := 0) (by omega))).trans ?_
      refine (e_iload lL6_1 hv).trans ?_
      refine (e_aload lL6_0 (by decide)).trans ?_
      refine (f_getf (k := 8) (by rw [hs0]; decide) g8_0 st8_0 (by rw [ln8_0]; decide) v8_4_0).trans ?_
      refine (f_cmp_f (f := z_ge) hv (by decide) (zge_f (a := v) (b := 55) (by omega))).trans ?_
      refine (e_iload lL6_2 hw).trans ?_
      refine (f_if_f (f := fun a => z_lt a 0) hw (zlt_f (a := w) (b := 0) (by omega))).trans ?_
      refine (e_iload lL6_2 hw).trans ?_
      refine (e_aload lL6_0 (by decide)).trans ?_
      refine (f_getf (k := 8) (by rw [hs0]; decide) g8_0 st8_0 (by rw [ln8_0]; decide) v8_2_0).trans ?_
      refine (e_iload lL6_1 hv).trans ?_
      refine (e_iald (k := 10) hv (by rw [hs0]; decide) g10_0 st10_0 (by rw [ln10_0]; omega) rfl (zb_nx _ (by omega))).trans ?_
      refine (f_cmp_t (f := z_lt) hw (zb_nx _ (by omega)) (zlt_t (a := w) (b := (zcv hbA0_c10 v)) (by omega))).trans ?_
      refine (e_aload lL6_0 (by decide)).trans ?_
      refine (f_getf (k := 8) (by rw [hs0]; decide) g8_0 st8_0 (by rw [ln8_0]; decide) v8_1_0).trans ?_
      refine (e_iload lL6_1 hv).trans ?_
      refine (e_push).trans ?_
      refine (f_bin (f := z_mul) (v := (v * 13)) hv (by decide) (z_mul_l (by omega))).trans ?_
      refine (e_iload lL6_2 hw).trans ?_
      refine (f_bin (f := z_add) (v := ((v * 13) + w)) (by omega) hw (z_add_l (by omega))).trans ?_
      refine (e_iald (k := 9) (by omega) (by rw [hs0]; decide) g9_0 st9_0 (by rw [ln9_0]; omega) rfl (zb_lx _ (by omega))).trans ?_
      exact e_ret (R := zrunX zXt 9 ztc (n + 58)) (d := 1678) (L := L6) (h := hbB16) (v := (zcv hbA0_c9 ((v * 13) + w))) (zb_lx _ (by omega))
    refine (f_callV (k := 8) (d' := 1678) (S0 := [w, v, 4294967305]) (S' := []) (S2 := [(zcv hbA0_c9 ((v * 13) + w))]) (fun q => by rw [zargs_s q (Nat.le_of_lt (Nat.lt_trans hw (by decide))), ← eL4, zargs_s q (Nat.le_of_lt (Nat.lt_trans hv (by decide))), ← eL5, zargs_s q (by decide), ← eL6]; rfl) lL6_0 (by rw [hs0]; decide) g8_0 st8_0 (Nat.le_of_ble_eq_true rfl) m7 (hs0.trans hs0.symm) rfl).trans ?_
    exact e_ret (R := zrunX zXt 9 ztc (n + 59)) (d := 1679) (L := L3) (h := hbB16) (v := (zcv hbA0_c9 ((v * 13) + w))) (zb_lx _ (by omega))
  have A2 : zrunX zXt 9 ztc (n + 60) 1679 239 L10 [] hbB16 = some ([(zcv hbA0_c9 ((13 * v) + w))], hbB16) := by
    refine (ca_239 (n := n + 59)).trans ?_
    refine (e_iload lL10_1 hv).trans ?_
    refine (e_push).trans ?_
    refine (e_aload lL10_0 (by decide)).trans ?_
    refine (f_getf (k := 61) (by rw [hs0]; decide) g61_0 st61_0 (by rw [ln61_0]; decide) v61_45_0).trans ?_
    refine (e_push).trans ?_
    refine (f_bin (f := z_sub) (v := 54) (by decide) (by decide) (by decide +kernel)).trans ?_
    have m14 : zrunX zXt 9 ztc (n + 59) 1678 217 L13 [] hbB16 = some ([1], hbB16) := by
      refine (ca_217 (n := n + 58)).trans ?_
      refine (e_iload lL13_0 hv).trans ?_
      refine (e_iload lL13_1 (by decide)).trans ?_
      refine (f_cmp_f (f := z_lt) hv (by decide) (zlt_f (a := v) (b := 0) (by omega))).trans ?_
      refine (e_iload lL13_0 hv).trans ?_
      refine (e_iload lL13_2 (by decide)).trans ?_
      refine (f_cmp_f (f := z_gt) hv (by decide) (zgt_f (a := v) (b := 54) (by omega))).trans ?_
      refine (e_push).trans ?_
      exact e_zret (R := zrunX zXt 9 ztc (n + 58)) (d := 1678) (L := L13) (h := hbB16) (v := 1) (by decide)
    refine (f_callS (d' := 1678) (S0 := [54, 0, v]) (S' := []) (S2 := [1]) (fun q => by rw [zargs_s q (by decide), ← eL11, zargs_s q (by decide), ← eL12, zargs_s q (Nat.le_of_lt (Nat.lt_trans hv (by decide))), ← eL13]; rfl) (Nat.le_of_ble_eq_true rfl) m14 (hs0.trans hs0.symm) rfl).trans ?_
    refine (f_if_f (f := fun a => Nat.beq a 0) (by decide) (by decide +kernel)).trans ?_
    refine (e_iload lL10_2 hw).trans ?_
    refine (e_push).trans ?_
    refine (e_aload lL10_0 (by decide)).trans ?_
    refine (f_getf (k := 61) (by rw [hs0]; decide) g61_0 st61_0 (by rw [ln61_0]; decide) v61_43_0).trans ?_
    refine (e_iload lL10_1 hv).trans ?_
    refine (e_iald (k := 87) hv (by rw [hs0]; decide) g87_0 st87_0 (by rw [ln87_0]; omega) rfl (zb_nm _ (by omega))).trans ?_
    refine (e_push).trans ?_
    refine (f_bin (f := z_sub) (v := ((zcv hbA0_c10 v) - 1)) (zb_nm _ (by omega)) (by decide) (z_sub_l (by omega) (by omega))).trans ?_
    have m18 : zrunX zXt 9 ztc (n + 59) 1678 217 L17 [] hbB16 = some ([1], hbB16) := by
      refine (ca_217 (n := n + 58)).trans ?_
      refine (e_iload lL17_0 hw).trans ?_
      refine (e_iload lL17_1 (by decide)).trans ?_
      refine (f_cmp_f (f := z_lt) hw (by decide) (zlt_f (a := w) (b := 0) (by omega))).trans ?_
      refine (e_iload lL17_0 hw).trans ?_
      refine (e_iload lL17_2 (by omega)).trans ?_
      refine (f_cmp_f (f := z_gt) hw (by omega) (zgt_f (a := w) (b := ((zcv hbA0_c10 v) - 1)) (by omega))).trans ?_
      refine (e_push).trans ?_
      exact e_zret (R := zrunX zXt 9 ztc (n + 58)) (d := 1678) (L := L17) (h := hbB16) (v := 1) (by decide)
    refine (f_callS (d' := 1678) (S0 := [((zcv hbA0_c10 v) - 1), 0, w]) (S' := []) (S2 := [1]) (fun q => by rw [zargs_s q (Nat.le_of_lt (Nat.lt_trans (by omega) (by decide))), ← eL15, zargs_s q (by decide), ← eL16, zargs_s q (Nat.le_of_lt (Nat.lt_trans hw (by decide))), ← eL17]; rfl) (Nat.le_of_ble_eq_true rfl) m18 (hs0.trans hs0.symm) rfl).trans ?_
    refine (f_if_f (f := fun a => Nat.beq a 0) (by decide) (by decide +kernel)).trans ?_
    refine (e_aload lL10_0 (by decide)).trans ?_
    refine (f_getf (k := 61) (by rw [hs0]; decide) g61_0 st61_0 (by rw [ln61_0]; decide) v61_42_0).trans ?_
    refine (e_push).trans ?_
    refine (e_iload lL10_1 hv).trans ?_
    refine (f_bin (f := z_mul) (v := (13 * v)) (by decide) hv (z_mul_l (by omega))).trans ?_
    refine (e_iload lL10_2 hw).trans ?_
    refine (f_bin (f := z_add) (v := ((13 * v) + w)) (by omega) hw (z_add_l (by omega))).trans ?_
    refine (e_iald (k := 86) (by omega) (by rw [hs0]; decide) g86_0 st86_0 (by rw [ln86_0]; omega) rfl (zb_lm _ (by omega))).trans ?_
    exact e_ret (R := zrunX zXt 9 ztc (n + 59)) (d := 1679) (L := L10) (h := hbB16) (v := (zcv hbA0_c9 ((13 * v) + w))) (zb_lm _ (by omega))
  rw [zeq_letter v w i1 i2] at A2
  rw [eL3, eL2, eL1] at A1
  rw [eL10, eL9, eL8] at A2
  exact ⟨_, _, _, (zb_lx _ (by omega)), A1, hs0, MS, A2, hs0, sl0⟩
theorem fs_poke_neg (v : Nat) (hv : v < 4294967296) (w : Nat) (hw : w < 4294967296) (i1 : 2147483648 ≤ v) (n : Nat) : zFst n 161 (zput (zput (zput 0 2 (w + 1)) 1 (v + 1)) 0 (4294967297 + 1)) 253 (zput (zput (zput 0 2 (w + 1)) 1 (v + 1)) 0 (4294967358 + 1)) := by
  have hs0 : hbB16.1 = 129 := rfl
  have sl0 : hbB16.2.1 = 650610 := rfl
  obtain ⟨L1, eL1⟩ : ∃ x : Nat, x = zput 0 2 (w + 1) := ⟨_, rfl⟩
  obtain ⟨L2, eL2⟩ : ∃ x : Nat, x = zput L1 1 (v + 1) := ⟨_, rfl⟩
  obtain ⟨L3, eL3⟩ : ∃ x : Nat, x = zput L2 0 (4294967297 + 1) := ⟨_, rfl⟩
  have lL3_0 : zlane L3 0 = 4294967297 + 1 := by rw [eL3]; exact zlane_same (by decide)
  have v0_2_0 : zcv haA0_c0 2 = 4294967299 := by decide +kernel
  have g0_0 : zget 8 hbB16.2.2 0 = haA0_c0 := rfl
  have st0_0 : haA0_c0.1 = 11 := rfl
  have ln0_0 : haA0_c0.2.1 = 18 := rfl
  have lL2_1 : zlane L2 1 = v + 1 := by rw [eL2]; exact zlane_same (Nat.lt_of_le_of_lt (Nat.succ_le_of_lt hv) (by decide))
  have lL3_1 : zlane L3 1 = v + 1 := by rw [eL3]; exact (zlane_ne (by decide) (by decide)).trans lL2_1
  obtain ⟨L4, eL4⟩ : ∃ x : Nat, x = zput 0 1 (v + 1) := ⟨_, rfl⟩
  obtain ⟨L5, eL5⟩ : ∃ x : Nat, x = zput L4 0 (4294967299 + 1) := ⟨_, rfl⟩
  have lL4_1 : zlane L4 1 = v + 1 := by rw [eL4]; exact zlane_same (Nat.lt_of_le_of_lt (Nat.succ_le_of_lt hv) (by decide))
  have lL5_1 : zlane L5 1 = v + 1 := by rw [eL5]; exact (zlane_ne (by decide) (by decide)).trans lL4_1
  have lL5_0 : zlane L5 0 = 4294967299 + 1 := by rw [eL5]; exact zlane_same (by decide)
  have g2_0 : zget 8 hbB16.2.2 2 = haA0_c2 := rfl
  have st2_0 : haA0_c2.1 = 3 := rfl
  obtain ⟨L7, eL7⟩ : ∃ x : Nat, x = zput 0 2 (w + 1) := ⟨_, rfl⟩
  obtain ⟨L8, eL8⟩ : ∃ x : Nat, x = zput L7 1 (v + 1) := ⟨_, rfl⟩
  obtain ⟨L9, eL9⟩ : ∃ x : Nat, x = zput L8 0 (4294967358 + 1) := ⟨_, rfl⟩
  have lL8_1 : zlane L8 1 = v + 1 := by rw [eL8]; exact zlane_same (Nat.lt_of_le_of_lt (Nat.succ_le_of_lt hv) (by decide))
  have lL9_1 : zlane L9 1 = v + 1 := by rw [eL9]; exact (zlane_ne (by decide) (by decide)).trans lL8_1
  obtain ⟨L10, eL10⟩ : ∃ x : Nat, x = zput 0 0 (v + 1) := ⟨_, rfl⟩
  have lL10_0 : zlane L10 0 = v + 1 := by rw [eL10]; exact zlane_same (Nat.lt_of_le_of_lt (Nat.succ_le_of_lt hv) (by decide))
  obtain ⟨L12, eL12⟩ : ∃ x : Nat, x = zput 0 2 (8191 + 1) := ⟨_, rfl⟩
  obtain ⟨L13, eL13⟩ : ∃ x : Nat, x = zput L12 1 (0 + 1) := ⟨_, rfl⟩
  obtain ⟨L14, eL14⟩ : ∃ x : Nat, x = zput L13 0 (v + 1) := ⟨_, rfl⟩
  have lL14_0 : zlane L14 0 = v + 1 := by rw [eL14]; exact zlane_same (Nat.lt_of_le_of_lt (Nat.succ_le_of_lt hv) (by decide))
  have lL13_1 : zlane L13 1 = 0 + 1 := by rw [eL13]; exact zlane_same (by decide)
  have lL14_1 : zlane L14 1 = 0 + 1 := by rw [eL14]; exact (zlane_ne (Nat.lt_of_le_of_lt (Nat.succ_le_of_lt hv) (by decide)) (by decide)).trans lL13_1
  have g61_0 : zget 8 hbB16.2.2 61 = hbB15_c61 := rfl
  have st61_0 : hbB15_c61.1 = 12 := rfl
  have MS : (zget 8 hbB16.2.2 61).1 = 12 := by rw [g61_0]; exact st61_0
  have A1 : zrunX zXt 9 ztc (n + 60) 1679 161 L3 [] hbB16 = some ([0], hbB16) := by
    refine (ca_161 (n := n + 59)).trans ?_
    refine (e_aload lL3_0 (by decide)).trans ?_
    refine (f_getf (k := 0) (by rw [hs0]; decide) g0_0 st0_0 (by rw [ln0_0]; decide) v0_2_0).trans ?_
    refine (e_iload lL3_1 hv).trans ?_
    have m6 : zrunX zXt 9 ztc (n + 59) 1678 46 L5 [] hbB16 = some ([0], hbB16) := by
      refine (ca_46 (n := n + 58)).trans ?_
      refine (e_iload lL5_1 hv).trans ?_
      refine (f_if_t (f := fun a => z_lt a 0) hv (zlt_t (a := v) (b := 0) (by omega))).trans ?_
      refine (e_push).trans ?_
      exact e_zret (R := zrunX zXt 9 ztc (n + 58)) (d := 1678) (L := L5) (h := hbB16) (v := 0) (by decide)
    refine (f_callV (k := 2) (d' := 1678) (S0 := [v, 4294967299]) (S' := []) (S2 := [0]) (fun q => by rw [zargs_s q (Nat.le_of_lt (Nat.lt_trans hv (by decide))), ← eL4, zargs_s q (by decide), ← eL5]; rfl) lL5_0 (by rw [hs0]; decide) g2_0 st2_0 (Nat.le_of_ble_eq_true rfl) m6 (hs0.trans hs0.symm) rfl).trans ?_
    refine (f_if_f (f := fun a => z_ne a 0) (by decide) (by decide +kernel)).trans ?_
    refine (e_push).trans ?_
    exact e_zret (R := zrunX zXt 9 ztc (n + 59)) (d := 1679) (L := L3) (h := hbB16) (v := 0) (by decide)
  have A2 : zrunX zXt 9 ztc (n + 60) 1679 253 L9 [] hbB16 = some ([0], hbB16) := by
    refine (ca_253 (n := n + 59)).trans ?_
    refine (e_iload lL9_1 hv).trans ?_
    have m11 : zrunX zXt 9 ztc (n + 59) 1678 220 L10 [] hbB16 = some ([0], hbB16) := by
      refine (ca_220 (n := n + 58)).trans ?_
      refine (e_iload lL10_0 hv).trans ?_
      refine (e_push).trans ?_
      refine (e_push).trans ?_
      have m15 : zrunX zXt 9 ztc (n + 58) 1677 217 L14 [] hbB16 = some ([0], hbB16) := by
        refine (ca_217 (n := n + 57)).trans ?_
        refine (e_iload lL14_0 hv).trans ?_
        refine (e_iload lL14_1 (by decide)).trans ?_
        refine (f_cmp_t (f := z_lt) hv (by decide) (zlt_t (a := v) (b := 0) (by omega))).trans ?_
        refine (e_push).trans ?_
        exact e_zret (R := zrunX zXt 9 ztc (n + 57)) (d := 1677) (L := L14) (h := hbB16) (v := 0) (by decide)
      refine (f_callS (d' := 1677) (S0 := [8191, 0, v]) (S' := []) (S2 := [0]) (fun q => by rw [zargs_s q (by decide), ← eL12, zargs_s q (by decide), ← eL13, zargs_s q (Nat.le_of_lt (Nat.lt_trans hv (by decide))), ← eL14]; rfl) (Nat.le_of_ble_eq_true rfl) m15 (hs0.trans hs0.symm) rfl).trans ?_
      refine (f_if_t (f := fun a => Nat.beq a 0) (by decide) (by decide +kernel)).trans ?_
      refine (e_push).trans ?_
      exact e_zret (R := zrunX zXt 9 ztc (n + 58)) (d := 1678) (L := L10) (h := hbB16) (v := 0) (by decide)
    refine (f_callS (d' := 1678) (S0 := [v]) (S' := []) (S2 := [0]) (fun q => by rw [zargs_s q (Nat.le_of_lt (Nat.lt_trans hv (by decide))), ← eL10]; rfl) (Nat.le_of_ble_eq_true rfl) m11 (hs0.trans hs0.symm) rfl).trans ?_
    refine (f_if_f (f := fun a => z_ne a 0) (by decide) (by decide +kernel)).trans ?_
    refine (e_push).trans ?_
    exact e_zret (R := zrunX zXt 9 ztc (n + 59)) (d := 1679) (L := L9) (h := hbB16) (v := 0) (by decide)
  rw [eL3, eL2, eL1] at A1
  rw [eL9, eL8, eL7] at A2
  exact ⟨_, _, _, (by decide), A1, hs0, MS, A2, hs0, sl0⟩
theorem fs_poke_odd (v : Nat) (hv : v < 4294967296) (w : Nat) (hw : w < 4294967296) (i1 : v < 8192) (i2 : v % 2 = 1) (n : Nat) : zFst n 161 (zput (zput (zput 0 2 (w + 1)) 1 (v + 1)) 0 (4294967297 + 1)) 253 (zput (zput (zput 0 2 (w + 1)) 1 (v + 1)) 0 (4294967358 + 1)) := by
  have hs0 : hbB16.1 = 129 := rfl
  have sl0 : hbB16.2.1 = 650610 := rfl
  obtain ⟨L1, eL1⟩ : ∃ x : Nat, x = zput 0 2 (w + 1) := ⟨_, rfl⟩
  obtain ⟨L2, eL2⟩ : ∃ x : Nat, x = zput L1 1 (v + 1) := ⟨_, rfl⟩
  obtain ⟨L3, eL3⟩ : ∃ x : Nat, x = zput L2 0 (4294967297 + 1) := ⟨_, rfl⟩
  have lL3_0 : zlane L3 0 = 4294967297 + 1 := by rw [eL3]; exact zlane_same (by decide)
  have v0_2_0 : zcv haA0_c0 2 = 4294967299 := by decide +kernel
  have g0_0 : zget 8 hbB16.2.2 0 = haA0_c0 := rfl
  have st0_0 : haA0_c0.1 = 11 := rfl
  have ln0_0 : haA0_c0.2.1 = 18 := rfl
  have lL2_1 : zlane L2 1 = v + 1 := by rw [eL2]; exact zlane_same (Nat.lt_of_le_of_lt (Nat.succ_le_of_lt hv) (by decide))
  have lL3_1 : zlane L3 1 = v + 1 := by rw [eL3]; exact (zlane_ne (by decide) (by decide)).trans lL2_1
  obtain ⟨L4, eL4⟩ : ∃ x : Nat, x = zput 0 1 (v + 1) := ⟨_, rfl⟩
  obtain ⟨L5, eL5⟩ : ∃ x : Nat, x = zput L4 0 (4294967299 + 1) := ⟨_, rfl⟩
  have lL4_1 : zlane L4 1 = v + 1 := by rw [eL4]; exact zlane_same (Nat.lt_of_le_of_lt (Nat.succ_le_of_lt hv) (by decide))
  have lL5_1 : zlane L5 1 = v + 1 := by rw [eL5]; exact (zlane_ne (by decide) (by decide)).trans lL4_1
  have lL5_0 : zlane L5 0 = 4294967299 + 1 := by rw [eL5]; exact zlane_same (by decide)
  have g2_0 : zget 8 hbB16.2.2 2 = haA0_c2 := rfl
  have st2_0 : haA0_c2.1 = 3 := rfl
  obtain ⟨L7, eL7⟩ : ∃ x : Nat, x = zput 0 2 (w + 1) := ⟨_, rfl⟩
  obtain ⟨L8, eL8⟩ : ∃ x : Nat, x = zput L7 1 (v + 1) := ⟨_, rfl⟩
  obtain ⟨L9, eL9⟩ : ∃ x : Nat, x = zput L8 0 (4294967358 + 1) := ⟨_, rfl⟩
  have lL8_1 : zlane L8 1 = v + 1 := by rw [eL8]; exact zlane_same (Nat.lt_of_le_of_lt (Nat.succ_le_of_lt hv) (by decide))
  have lL9_1 : zlane L9 1 = v + 1 := by rw [eL9]; exact (zlane_ne (by decide) (by decide)).trans lL8_1
  obtain ⟨L10, eL10⟩ : ∃ x : Nat, x = zput 0 0 (v + 1) := ⟨_, rfl⟩
  have lL10_0 : zlane L10 0 = v + 1 := by rw [eL10]; exact zlane_same (Nat.lt_of_le_of_lt (Nat.succ_le_of_lt hv) (by decide))
  obtain ⟨L12, eL12⟩ : ∃ x : Nat, x = zput 0 2 (8191 + 1) := ⟨_, rfl⟩
  obtain ⟨L13, eL13⟩ : ∃ x : Nat, x = zput L12 1 (0 + 1) := ⟨_, rfl⟩
  obtain ⟨L14, eL14⟩ : ∃ x : Nat, x = zput L13 0 (v + 1) := ⟨_, rfl⟩
  have lL14_0 : zlane L14 0 = v + 1 := by rw [eL14]; exact zlane_same (Nat.lt_of_le_of_lt (Nat.succ_le_of_lt hv) (by decide))
  have lL13_1 : zlane L13 1 = 0 + 1 := by rw [eL13]; exact zlane_same (by decide)
  have lL14_1 : zlane L14 1 = 0 + 1 := by rw [eL14]; exact (zlane_ne (Nat.lt_of_le_of_lt (Nat.succ_le_of_lt hv) (by decide)) (by decide)).trans lL13_1
  have lL12_2 : zlane L12 2 = 8191 + 1 := by rw [eL12]; exact zlane_same (by decide)
  have lL13_2 : zlane L13 2 = 8191 + 1 := by rw [eL13]; exact (zlane_ne (by decide) (by decide)).trans lL12_2
  have lL14_2 : zlane L14 2 = 8191 + 1 := by rw [eL14]; exact (zlane_ne (Nat.lt_of_le_of_lt (Nat.succ_le_of_lt hv) (by decide)) (by decide)).trans lL13_2
  have g61_0 : zget 8 hbB16.2.2 61 = hbB15_c61 := rfl
  have st61_0 : hbB15_c61.1 = 12 := rfl
  have MS : (zget 8 hbB16.2.2 61).1 = 12 := by rw [g61_0]; exact st61_0
  have A1 : zrunX zXt 9 ztc (n + 60) 1679 161 L3 [] hbB16 = some ([0], hbB16) := by
    refine (ca_161 (n := n + 59)).trans ?_
    refine (e_aload lL3_0 (by decide)).trans ?_
    refine (f_getf (k := 0) (by rw [hs0]; decide) g0_0 st0_0 (by rw [ln0_0]; decide) v0_2_0).trans ?_
    refine (e_iload lL3_1 hv).trans ?_
    have m6 : zrunX zXt 9 ztc (n + 59) 1678 46 L5 [] hbB16 = some ([0], hbB16) := by
      refine (ca_46 (n := n + 58)).trans ?_
      refine (e_iload lL5_1 hv).trans ?_
      refine (f_if_f (f := fun a => z_lt a 0) hv (zlt_f (a := v) (b := 0) (by omega))).trans ?_
      refine (e_iload lL5_1 hv).trans ?_
      refine (e_push).trans ?_
      refine (f_bin (f := z_and) (v := (v % 2)) hv (by decide) (z_and_m (k := 1) (by decide))).trans ?_
      refine (f_if_t (f := fun a => z_ne a 0) (Nat.lt_trans (Nat.mod_lt _ (by decide)) (by decide)) (zne_t (a := (v % 2)) (b := 0) (by omega))).trans ?_
      refine (e_push).trans ?_
      exact e_zret (R := zrunX zXt 9 ztc (n + 58)) (d := 1678) (L := L5) (h := hbB16) (v := 0) (by decide)
    refine (f_callV (k := 2) (d' := 1678) (S0 := [v, 4294967299]) (S' := []) (S2 := [0]) (fun q => by rw [zargs_s q (Nat.le_of_lt (Nat.lt_trans hv (by decide))), ← eL4, zargs_s q (by decide), ← eL5]; rfl) lL5_0 (by rw [hs0]; decide) g2_0 st2_0 (Nat.le_of_ble_eq_true rfl) m6 (hs0.trans hs0.symm) rfl).trans ?_
    refine (f_if_f (f := fun a => z_ne a 0) (by decide) (by decide +kernel)).trans ?_
    refine (e_push).trans ?_
    exact e_zret (R := zrunX zXt 9 ztc (n + 59)) (d := 1679) (L := L3) (h := hbB16) (v := 0) (by decide)
  have A2 : zrunX zXt 9 ztc (n + 60) 1679 253 L9 [] hbB16 = some ([0], hbB16) := by
    refine (ca_253 (n := n + 59)).trans ?_
    refine (e_iload lL9_1 hv).trans ?_
    have m11 : zrunX zXt 9 ztc (n + 59) 1678 220 L10 [] hbB16 = some ([0], hbB16) := by
      refine (ca_220 (n := n + 58)).trans ?_
      refine (e_iload lL10_0 hv).trans ?_
      refine (e_push).trans ?_
      refine (e_push).trans ?_
      have m15 : zrunX zXt 9 ztc (n + 58) 1677 217 L14 [] hbB16 = some ([1], hbB16) := by
        refine (ca_217 (n := n + 57)).trans ?_
        refine (e_iload lL14_0 hv).trans ?_
        refine (e_iload lL14_1 (by decide)).trans ?_
        refine (f_cmp_f (f := z_lt) hv (by decide) (zlt_f (a := v) (b := 0) (by omega))).trans ?_
        refine (e_iload lL14_0 hv).trans ?_
        refine (e_iload lL14_2 (by decide)).trans ?_
        refine (f_cmp_f (f := z_gt) hv (by decide) (zgt_f (a := v) (b := 8191) (by omega))).trans ?_
        refine (e_push).trans ?_
        exact e_zret (R := zrunX zXt 9 ztc (n + 57)) (d := 1677) (L := L14) (h := hbB16) (v := 1) (by decide)
      refine (f_callS (d' := 1677) (S0 := [8191, 0, v]) (S' := []) (S2 := [1]) (fun q => by rw [zargs_s q (by decide), ← eL12, zargs_s q (by decide), ← eL13, zargs_s q (Nat.le_of_lt (Nat.lt_trans hv (by decide))), ← eL14]; rfl) (Nat.le_of_ble_eq_true rfl) m15 (hs0.trans hs0.symm) rfl).trans ?_
      refine (f_if_f (f := fun a => Nat.beq a 0) (by decide) (by decide +kernel)).trans ?_
      refine (e_iload lL10_0 hv).trans ?_
      refine (e_push).trans ?_
      refine (f_bin (f := z_and) (v := (v % 2)) hv (by decide) (z_and_m (k := 1) (by decide))).trans ?_
      refine (f_if_t (f := fun a => z_ne a 0) (Nat.lt_trans (Nat.mod_lt _ (by decide)) (by decide)) (zne_t (a := (v % 2)) (b := 0) (by omega))).trans ?_
      refine (e_push).trans ?_
      exact e_zret (R := zrunX zXt 9 ztc (n + 58)) (d := 1678) (L := L10) (h := hbB16) (v := 0) (by decide)
    refine (f_callS (d' := 1678) (S0 := [v]) (S' := []) (S2 := [0]) (fun q => by rw [zargs_s q (Nat.le_of_lt (Nat.lt_trans hv (by decide))), ← eL10]; rfl) (Nat.le_of_ble_eq_true rfl) m11 (hs0.trans hs0.symm) rfl).trans ?_
    refine (f_if_f (f := fun a => z_ne a 0) (by decide) (by decide +kernel)).trans ?_
    refine (e_push).trans ?_
    exact e_zret (R := zrunX zXt 9 ztc (n + 59)) (d := 1679) (L := L9) (h := hbB16) (v := 0) (by decide)
  rw [eL3, eL2, eL1] at A1
  rw [eL9, eL8, eL7] at A2
  exact ⟨_, _, _, (by decide), A1, hs0, MS, A2, hs0, sl0⟩
theorem fs_poke_even (v : Nat) (hv : v < 4294967296) (w : Nat) (hw : w < 4294967296) (i1 : v < 8192) (i2 : v % 2 = 0) (n : Nat) : zFst n 161 (zput (zput (zput 0 2 (w + 1)) 1 (v + 1)) 0 (4294967297 + 1)) 253 (zput (zput (zput 0 2 (w + 1)) 1 (v + 1)) 0 (4294967358 + 1)) := by
  have hs0 : hbB16.1 = 129 := rfl
  have sl0 : hbB16.2.1 = 650610 := rfl
  obtain ⟨L1, eL1⟩ : ∃ x : Nat, x = zput 0 2 (w + 1) := ⟨_, rfl⟩
  obtain ⟨L2, eL2⟩ : ∃ x : Nat, x = zput L1 1 (v + 1) := ⟨_, rfl⟩
  obtain ⟨L3, eL3⟩ : ∃ x : Nat, x = zput L2 0 (4294967297 + 1) := ⟨_, rfl⟩
  have lL3_0 : zlane L3 0 = 4294967297 + 1 := by rw [eL3]; exact zlane_same (by decide)
  have v0_2_0 : zcv haA0_c0 2 = 4294967299 := by decide +kernel
  have g0_0 : zget 8 hbB16.2.2 0 = haA0_c0 := rfl
  have st0_0 : haA0_c0.1 = 11 := rfl
  have ln0_0 : haA0_c0.2.1 = 18 := rfl
  have lL2_1 : zlane L2 1 = v + 1 := by rw [eL2]; exact zlane_same (Nat.lt_of_le_of_lt (Nat.succ_le_of_lt hv) (by decide))
  have lL3_1 : zlane L3 1 = v + 1 := by rw [eL3]; exact (zlane_ne (by decide) (by decide)).trans lL2_1
  obtain ⟨L4, eL4⟩ : ∃ x : Nat, x = zput 0 1 (v + 1) := ⟨_, rfl⟩
  obtain ⟨L5, eL5⟩ : ∃ x : Nat, x = zput L4 0 (4294967299 + 1) := ⟨_, rfl⟩
  have lL4_1 : zlane L4 1 = v + 1 := by rw [eL4]; exact zlane_same (Nat.lt_of_le_of_lt (Nat.succ_le_of_lt hv) (by decide))
  have lL5_1 : zlane L5 1 = v + 1 := by rw [eL5]; exact (zlane_ne (by decide) (by decide)).trans lL4_1
  have lL5_0 : zlane L5 0 = 4294967299 + 1 := by rw [eL5]; exact zlane_same (by decide)
  have v2_0_0 : zcv haA0_c2 0 = 4294967301 := by decide +kernel
  have g2_0 : zget 8 hbB16.2.2 2 = haA0_c2 := rfl
  have st2_0 : haA0_c2.1 = 3 := rfl
  have ln2_0 : haA0_c2.2.1 = 7 := rfl
  have g4_0 : zget 8 hbB16.2.2 4 = haA0_c4 := rfl
  have st4_0 : haA0_c4.1 = 100 := rfl
  have ln4_0 : haA0_c4.2.1 = 4096 := rfl
  have lL1_2 : zlane L1 2 = w + 1 := by rw [eL1]; exact zlane_same (Nat.lt_of_le_of_lt (Nat.succ_le_of_lt hw) (by decide))
  have lL2_2 : zlane L2 2 = w + 1 := by rw [eL2]; exact (zlane_ne (Nat.lt_of_le_of_lt (Nat.succ_le_of_lt hv) (by decide)) (by decide)).trans lL1_2
  have lL3_2 : zlane L3 2 = w + 1 := by rw [eL3]; exact (zlane_ne (by decide) (by decide)).trans lL2_2
  obtain ⟨L7, eL7⟩ : ∃ x : Nat, x = zput 0 2 (w + 1) := ⟨_, rfl⟩
  obtain ⟨L8, eL8⟩ : ∃ x : Nat, x = zput L7 1 (v + 1) := ⟨_, rfl⟩
  obtain ⟨L9, eL9⟩ : ∃ x : Nat, x = zput L8 0 (4294967299 + 1) := ⟨_, rfl⟩
  have lL8_1 : zlane L8 1 = v + 1 := by rw [eL8]; exact zlane_same (Nat.lt_of_le_of_lt (Nat.succ_le_of_lt hv) (by decide))
  have lL9_1 : zlane L9 1 = v + 1 := by rw [eL9]; exact (zlane_ne (by decide) (by decide)).trans lL8_1
  obtain ⟨L11, eL11⟩ : ∃ x : Nat, x = zput L9 3 ((v / 2) + 1) := ⟨_, rfl⟩
  have lL11_1 : zlane L11 1 = v + 1 := by rw [eL11]; exact (zlane_ne (Nat.lt_of_le_of_lt (Nat.succ_le_of_lt (Nat.lt_of_le_of_lt (Nat.div_le_self _ _) hv)) (by decide)) (by decide)).trans lL9_1
  have lL11_3 : zlane L11 3 = (v / 2) + 1 := by rw [eL11]; exact zlane_same (Nat.lt_of_le_of_lt (Nat.succ_le_of_lt (Nat.lt_of_le_of_lt (Nat.div_le_self _ _) hv)) (by decide))
  have lL9_0 : zlane L9 0 = 4294967299 + 1 := by rw [eL9]; exact zlane_same (by decide)
  have lL11_0 : zlane L11 0 = 4294967299 + 1 := by rw [eL11]; exact (zlane_ne (Nat.lt_of_le_of_lt (Nat.succ_le_of_lt (Nat.lt_of_le_of_lt (Nat.div_le_self _ _) hv)) (by decide)) (by decide)).trans lL9_0
  have lL7_2 : zlane L7 2 = w + 1 := by rw [eL7]; exact zlane_same (Nat.lt_of_le_of_lt (Nat.succ_le_of_lt hw) (by decide))
  have lL8_2 : zlane L8 2 = w + 1 := by rw [eL8]; exact (zlane_ne (Nat.lt_of_le_of_lt (Nat.succ_le_of_lt hv) (by decide)) (by decide)).trans lL7_2
  have lL9_2 : zlane L9 2 = w + 1 := by rw [eL9]; exact (zlane_ne (by decide) (by decide)).trans lL8_2
  have lL11_2 : zlane L11 2 = w + 1 := by rw [eL11]; exact (zlane_ne (Nat.lt_of_le_of_lt (Nat.succ_le_of_lt (Nat.lt_of_le_of_lt (Nat.div_le_self _ _) hv)) (by decide)) (by decide)).trans lL9_2
  obtain ⟨h1, eh1⟩ : ∃ x : zH, x = (hbB16.1, hbB16.2.1, zst 8 hbB16.2.2 4 (fun c => zcst c (v / 2) (w % 65536))) := ⟨_, rfl⟩
  have hs1 : h1.1 = 129 := by rw [eh1]; exact hs0
  have sl1 : h1.2.1 = 650610 := by rw [eh1]; exact sl0
  obtain ⟨L12, eL12⟩ : ∃ x : Nat, x = zput 0 2 (w + 1) := ⟨_, rfl⟩
  obtain ⟨L13, eL13⟩ : ∃ x : Nat, x = zput L12 1 (v + 1) := ⟨_, rfl⟩
  obtain ⟨L14, eL14⟩ : ∃ x : Nat, x = zput L13 0 (4294967358 + 1) := ⟨_, rfl⟩
  have lL13_1 : zlane L13 1 = v + 1 := by rw [eL13]; exact zlane_same (Nat.lt_of_le_of_lt (Nat.succ_le_of_lt hv) (by decide))
  have lL14_1 : zlane L14 1 = v + 1 := by rw [eL14]; exact (zlane_ne (by decide) (by decide)).trans lL13_1
  obtain ⟨L15, eL15⟩ : ∃ x : Nat, x = zput 0 0 (v + 1) := ⟨_, rfl⟩
  have lL15_0 : zlane L15 0 = v + 1 := by rw [eL15]; exact zlane_same (Nat.lt_of_le_of_lt (Nat.succ_le_of_lt hv) (by decide))
  obtain ⟨L17, eL17⟩ : ∃ x : Nat, x = zput 0 2 (8191 + 1) := ⟨_, rfl⟩
  obtain ⟨L18, eL18⟩ : ∃ x : Nat, x = zput L17 1 (0 + 1) := ⟨_, rfl⟩
  obtain ⟨L19, eL19⟩ : ∃ x : Nat, x = zput L18 0 (v + 1) := ⟨_, rfl⟩
  have lL19_0 : zlane L19 0 = v + 1 := by rw [eL19]; exact zlane_same (Nat.lt_of_le_of_lt (Nat.succ_le_of_lt hv) (by decide))
  have lL18_1 : zlane L18 1 = 0 + 1 := by rw [eL18]; exact zlane_same (by decide)
  have lL19_1 : zlane L19 1 = 0 + 1 := by rw [eL19]; exact (zlane_ne (Nat.lt_of_le_of_lt (Nat.succ_le_of_lt hv) (by decide)) (by decide)).trans lL18_1
  have lL17_2 : zlane L17 2 = 8191 + 1 := by rw [eL17]; exact zlane_same (by decide)
  have lL18_2 : zlane L18 2 = 8191 + 1 := by rw [eL18]; exact (zlane_ne (by decide) (by decide)).trans lL17_2
  have lL19_2 : zlane L19 2 = 8191 + 1 := by rw [eL19]; exact (zlane_ne (Nat.lt_of_le_of_lt (Nat.succ_le_of_lt hv) (by decide)) (by decide)).trans lL18_2
  have lL14_0 : zlane L14 0 = 4294967358 + 1 := by rw [eL14]; exact zlane_same (by decide)
  have v61_0_0 : zcv hbB15_c61 0 = 4294967359 := by decide +kernel
  have g61_0 : zget 8 hbB16.2.2 61 = hbB15_c61 := rfl
  have g61_1 : zget 8 h1.2.2 61 = hbB15_c61 := by rw [eh1]; exact zg_n (by decide) (by decide) (by decide) g61_0
  have st61_0 : hbB15_c61.1 = 12 := rfl
  have ln61_0 : hbB15_c61.2.1 = 114 := rfl
  have v62_1_0 : zcv haB6_c62 1 = 4294967361 := by decide +kernel
  have g62_0 : zget 8 hbB16.2.2 62 = haB6_c62 := rfl
  have g62_1 : zget 8 h1.2.2 62 = haB6_c62 := by rw [eh1]; exact zg_n (by decide) (by decide) (by decide) g62_0
  have st62_0 : haB6_c62.1 = 102 := rfl
  have ln62_0 : haB6_c62.2.1 = 2 := rfl
  have lL12_2 : zlane L12 2 = w + 1 := by rw [eL12]; exact zlane_same (Nat.lt_of_le_of_lt (Nat.succ_le_of_lt hw) (by decide))
  have lL13_2 : zlane L13 2 = w + 1 := by rw [eL13]; exact (zlane_ne (Nat.lt_of_le_of_lt (Nat.succ_le_of_lt hv) (by decide)) (by decide)).trans lL12_2
  have lL14_2 : zlane L14 2 = w + 1 := by rw [eL14]; exact (zlane_ne (by decide) (by decide)).trans lL13_2
  have g64_0 : zget 8 hbB16.2.2 64 = haA0_c13 := rfl
  have g64_1 : zget 8 h1.2.2 64 = haA0_c13 := by rw [eh1]; exact zg_n (by decide) (by decide) (by decide) g64_0
  have st64_0 : haA0_c13.1 = 100 := rfl
  have ln64_0 : haA0_c13.2.1 = 8192 := rfl
  obtain ⟨h2, eh2⟩ : ∃ x : zH, x = (h1.1, h1.2.1, zst 8 h1.2.2 64 (fun c => zcst c v (w % 256))) := ⟨_, rfl⟩
  have hs2 : h2.1 = 129 := by rw [eh2]; exact hs1
  have sl2 : h2.2.1 = 650610 := by rw [eh2]; exact sl1
  have g61_2 : zget 8 h2.2.2 61 = hbB15_c61 := by rw [eh2]; exact zg_n (by decide) (by decide) (by decide) g61_1
  have g62_2 : zget 8 h2.2.2 62 = haB6_c62 := by rw [eh2]; exact zg_n (by decide) (by decide) (by decide) g62_1
  obtain ⟨c64_2, ec64_2⟩ : ∃ x : zC, x = zcst haA0_c13 v (w % 256) := ⟨_, rfl⟩
  have g64_2 : zget 8 h2.2.2 64 = c64_2 := by rw [eh2, ec64_2]; exact zg_s (by decide) g64_1
  have st64_2 : c64_2.1 = 100 := by rw [ec64_2]; exact (zcst_1 _ _ _).1.trans st64_0
  have ln64_2 : c64_2.2.1 = 8192 := by rw [ec64_2]; exact (zcst_1 _ _ _).2.trans ln64_0
  obtain ⟨h3, eh3⟩ : ∃ x : zH, x = (h2.1, h2.2.1, zst 8 h2.2.2 64 (fun c => zcst c (v + 1) ((w / 256) % 256))) := ⟨_, rfl⟩
  have hs3 : h3.1 = 129 := by rw [eh3]; exact hs2
  have sl3 : h3.2.1 = 650610 := by rw [eh3]; exact sl2
  have MS : (zget 8 h1.2.2 61).1 = 12 := by rw [g61_1]; exact st61_0
  have A1 : zrunX zXt 9 ztc (n + 60) 1679 161 L3 [] hbB16 = some ([1], h1) := by
    refine (ca_161 (n := n + 59)).trans ?_
    refine (e_aload lL3_0 (by decide)).trans ?_
    refine (f_getf (k := 0) (by rw [hs0]; decide) g0_0 st0_0 (by rw [ln0_0]; decide) v0_2_0).trans ?_
    refine (e_iload lL3_1 hv).trans ?_
    have m6 : zrunX zXt 9 ztc (n + 59) 1678 46 L5 [] hbB16 = some ([1], hbB16) := by
      refine (ca_46 (n := n + 58)).trans ?_
      refine (e_iload lL5_1 hv).trans ?_
      refine (f_if_f (f := fun a => z_lt a 0) hv (zlt_f (a := v) (b := 0) (by omega))).trans ?_
      refine (e_iload lL5_1 hv).trans ?_
      refine (e_push).trans ?_
      refine (f_bin (f := z_and) (v := (v % 2)) hv (by decide) (z_and_m (k := 1) (by decide))).trans ?_
      refine (f_if_f (f := fun a => z_ne a 0) (Nat.lt_trans (Nat.mod_lt _ (by decide)) (by decide)) (zne_f (a := (v % 2)) (b := 0) (by omega))).trans ?_
      refine (e_iload lL5_1 hv).trans ?_
      refine (e_push).trans ?_
      refine (f_bin (f := z_shr) (v := (v / 2)) hv (by decide) (z_shr_p (k := 1) (by omega) (by decide))).trans ?_
      refine (e_aload lL5_0 (by decide)).trans ?_
      refine (f_getf (k := 2) (by rw [hs0]; decide) g2_0 st2_0 (by rw [ln2_0]; decide) v2_0_0).trans ?_
      refine (f_len (k := 4) (by rw [hs0]; decide) g4_0 st4_0 ln4_0).trans ?_
      refine (f_cmp_f (f := z_ge) (Nat.lt_of_le_of_lt (Nat.div_le_self _ _) hv) (by decide) (zge_f (a := (v / 2)) (b := 4096) (by omega))).trans ?_
      refine (e_push).trans ?_
      exact e_zret (R := zrunX zXt 9 ztc (n + 58)) (d := 1678) (L := L5) (h := hbB16) (v := 1) (by decide)
    refine (f_callV (k := 2) (d' := 1678) (S0 := [v, 4294967299]) (S' := []) (S2 := [1]) (fun q => by rw [zargs_s q (Nat.le_of_lt (Nat.lt_trans hv (by decide))), ← eL4, zargs_s q (by decide), ← eL5]; rfl) lL5_0 (by rw [hs0]; decide) g2_0 st2_0 (Nat.le_of_ble_eq_true rfl) m6 (hs0.trans hs0.symm) rfl).trans ?_
    refine (f_if_t (f := fun a => z_ne a 0) (by decide) (by decide +kernel)).trans ?_
    refine (e_aload lL3_0 (by decide)).trans ?_
    refine (f_getf (k := 0) (by rw [hs0]; decide) g0_0 st0_0 (by rw [ln0_0]; decide) v0_2_0).trans ?_
    refine (e_iload lL3_1 hv).trans ?_
    refine (e_iload lL3_2 hw).trans ?_
    have m10 : zrunX zXt 9 ztc (n + 59) 1678 49 L9 [] hbB16 = some ([], h1) := by
      refine (ca_49 (n := n + 58)).trans ?_
      refine (e_iload lL9_1 hv).trans ?_
      refine (e_push).trans ?_
      refine (f_bin (f := z_shr) (v := (v / 2)) hv (by decide) (z_shr_p (k := 1) (by omega) (by decide))).trans ?_
      refine (f_istore (Nat.lt_of_le_of_lt (Nat.div_le_self _ _) hv) eL11.symm).trans ?_
      refine (e_iload lL11_1 hv).trans ?_
      refine (e_push).trans ?_
      refine (f_bin (f := z_and) (v := (v % 2)) hv (by decide) (z_and_m (k := 1) (by decide))).trans ?_
      refine (f_if_f (f := fun a => z_ne a 0) (Nat.lt_trans (Nat.mod_lt _ (by decide)) (by decide)) (zne_f (a := (v % 2)) (b := 0) (by omega))).trans ?_
      refine (e_iload lL11_3 (Nat.lt_of_le_of_lt (Nat.div_le_self _ _) hv)).trans ?_
      refine (f_if_f (f := fun a => z_lt a 0) (Nat.lt_of_le_of_lt (Nat.div_le_self _ _) hv) (zlt_f (a := (v / 2)) (b := 0) (by omega))).trans ?_
      refine (e_iload lL11_3 (Nat.lt_of_le_of_lt (Nat.div_le_self _ _) hv)).trans ?_
      refine (e_aload lL11_0 (by decide)).trans ?_
      refine (f_getf (k := 2) (by rw [hs0]; decide) g2_0 st2_0 (by rw [ln2_0]; decide) v2_0_0).trans ?_
      refine (f_len (k := 4) (by rw [hs0]; decide) g4_0 st4_0 ln4_0).trans ?_
      refine (f_cmp_f (f := z_ge) (Nat.lt_of_le_of_lt (Nat.div_le_self _ _) hv) (by decide) (zge_f (a := (v / 2)) (b := 4096) (by omega))).trans ?_
      refine (e_aload lL11_0 (by decide)).trans ?_
      refine (f_getf (k := 2) (by rw [hs0]; decide) g2_0 st2_0 (by rw [ln2_0]; decide) v2_0_0).trans ?_
      refine (e_iload lL11_3 (Nat.lt_of_le_of_lt (Nat.div_le_self _ _) hv)).trans ?_
      refine (e_iload lL11_2 hw).trans ?_
      refine (e_push).trans ?_
      refine (f_bin (f := z_and) (v := (w % 65536)) hw (by decide) (z_and_m (k := 16) (by decide))).trans ?_
      refine (f_iast (k := 4) (Nat.lt_trans (Nat.mod_lt _ (by decide)) (by decide)) (Nat.lt_of_le_of_lt (Nat.div_le_self _ _) hv) (by rw [hs0]; decide) g4_0 st4_0 (by rw [ln4_0]; omega) eh1.symm).trans ?_
      exact e_vret
    refine (f_callV (k := 2) (d' := 1678) (S0 := [w, v, 4294967299]) (S' := []) (S2 := []) (fun q => by rw [zargs_s q (Nat.le_of_lt (Nat.lt_trans hw (by decide))), ← eL7, zargs_s q (Nat.le_of_lt (Nat.lt_trans hv (by decide))), ← eL8, zargs_s q (by decide), ← eL9]; rfl) lL9_0 (by rw [hs0]; decide) g2_0 st2_0 (Nat.le_of_ble_eq_true rfl) m10 (hs1.trans hs0.symm) rfl).trans ?_
    refine (e_push).trans ?_
    exact e_zret (R := zrunX zXt 9 ztc (n + 59)) (d := 1679) (L := L3) (h := h1) (v := 1) (by decide)
  have A2 : zrunX zXt 9 ztc (n + 60) 1679 253 L14 [] h1 = some ([1], h3) := by
    refine (ca_253 (n := n + 59)).trans ?_
    refine (e_iload lL14_1 hv).trans ?_
    have m16 : zrunX zXt 9 ztc (n + 59) 1678 220 L15 [] h1 = some ([1], h1) := by
      refine (ca_220 (n := n + 58)).trans ?_
      refine (e_iload lL15_0 hv).trans ?_
      refine (e_push).trans ?_
      refine (e_push).trans ?_
      have m20 : zrunX zXt 9 ztc (n + 58) 1677 217 L19 [] h1 = some ([1], h1) := by
        refine (ca_217 (n := n + 57)).trans ?_
        refine (e_iload lL19_0 hv).trans ?_
        refine (e_iload lL19_1 (by decide)).trans ?_
        refine (f_cmp_f (f := z_lt) hv (by decide) (zlt_f (a := v) (b := 0) (by omega))).trans ?_
        refine (e_iload lL19_0 hv).trans ?_
        refine (e_iload lL19_2 (by decide)).trans ?_
        refine (f_cmp_f (f := z_gt) hv (by decide) (zgt_f (a := v) (b := 8191) (by omega))).trans ?_
        refine (e_push).trans ?_
        exact e_zret (R := zrunX zXt 9 ztc (n + 57)) (d := 1677) (L := L19) (h := h1) (v := 1) (by decide)
      refine (f_callS (d' := 1677) (S0 := [8191, 0, v]) (S' := []) (S2 := [1]) (fun q => by rw [zargs_s q (by decide), ← eL17, zargs_s q (by decide), ← eL18, zargs_s q (Nat.le_of_lt (Nat.lt_trans hv (by decide))), ← eL19]; rfl) (Nat.le_of_ble_eq_true rfl) m20 (hs1.trans hs1.symm) rfl).trans ?_
      refine (f_if_f (f := fun a => Nat.beq a 0) (by decide) (by decide +kernel)).trans ?_
      refine (e_iload lL15_0 hv).trans ?_
      refine (e_push).trans ?_
      refine (f_bin (f := z_and) (v := (v % 2)) hv (by decide) (z_and_m (k := 1) (by decide))).trans ?_
      refine (f_if_f (f := fun a => z_ne a 0) (Nat.lt_trans (Nat.mod_lt _ (by decide)) (by decide)) (zne_f (a := (v % 2)) (b := 0) (by omega))).trans ?_
      refine (e_push).trans ?_
      exact e_zret (R := zrunX zXt 9 ztc (n + 58)) (d := 1678) (L := L15) (h := h1) (v := 1) (by decide)
    refine (f_callS (d' := 1678) (S0 := [v]) (S' := []) (S2 := [1]) (fun q => by rw [zargs_s q (Nat.le_of_lt (Nat.lt_trans hv (by decide))), ← eL15]; rfl) (Nat.le_of_ble_eq_true rfl) m16 (hs1.trans hs1.symm) rfl).trans ?_
    refine (f_if_t (f := fun a => z_ne a 0) (by decide) (by decide +kernel)).trans ?_
    refine (e_aload lL14_0 (by decide)).trans ?_
    refine (f_getf (k := 61) (by rw [hs1]; decide) g61_1 st61_0 (by rw [ln61_0]; decide) v61_0_0).trans ?_
    refine (e_push).trans ?_
    refine (e_aald (k := 62) (by decide) (by rw [hs1]; decide) g62_1 st62_0 (by rw [ln62_0]; decide) v62_1_0 (by decide)).trans ?_
    refine (e_iload lL14_1 hv).trans ?_
    refine (e_iload lL14_2 hw).trans ?_
    refine (e_push).trans ?_
    refine (f_bin (f := z_and) (v := (w % 256)) hw (by decide) (z_and_m (k := 8) (by decide))).trans ?_
    refine (f_iast (k := 64) (Nat.lt_trans (Nat.mod_lt _ (by decide)) (by decide)) hv (by rw [hs1]; decide) g64_1 st64_0 (by rw [ln64_0]; omega) eh2.symm).trans ?_
    refine (e_aload lL14_0 (by decide)).trans ?_
    refine (f_getf (k := 61) (by rw [hs2]; decide) g61_2 st61_0 (by rw [ln61_0]; decide) v61_0_0).trans ?_
    refine (e_push).trans ?_
    refine (e_aald (k := 62) (by decide) (by rw [hs2]; decide) g62_2 st62_0 (by rw [ln62_0]; decide) v62_1_0 (by decide)).trans ?_
    refine (e_iload lL14_1 hv).trans ?_
    refine (e_push).trans ?_
    refine (f_bin (f := z_add) (v := (v + 1)) hv (by decide) (z_add_l (by omega))).trans ?_
    refine (e_iload lL14_2 hw).trans ?_
    refine (e_push).trans ?_
    refine (f_bin (f := z_shr) (v := (w / 256)) hw (by decide) (z_shr_p (k := 8) (by omega) (by decide))).trans ?_
    refine (e_push).trans ?_
    refine (f_bin (f := z_and) (v := ((w / 256) % 256)) (Nat.lt_of_le_of_lt (Nat.div_le_self _ _) hw) (by decide) (z_and_m (k := 8) (by decide))).trans ?_
    refine (f_iast (k := 64) (Nat.lt_trans (Nat.mod_lt _ (by decide)) (by decide)) (by omega) (by rw [hs2]; decide) g64_2 st64_2 (by rw [ln64_2]; omega) eh3.symm).trans ?_
    refine (e_push).trans ?_
    exact e_zret (R := zrunX zXt 9 ztc (n + 59)) (d := 1679) (L := L14) (h := h3) (v := 1) (by decide)
  rw [eL3, eL2, eL1] at A1
  rw [eL14, eL13, eL12] at A2
  exact ⟨_, _, _, (by decide), A1, hs1, MS, A2, hs3, sl3⟩
theorem fs_poke_hodd (v : Nat) (hv : v < 4294967296) (w : Nat) (hw : w < 4294967296) (i1 : 8192 ≤ v) (i2 : v < 2147483648) (i3 : v % 2 = 1) (n : Nat) : zFst n 161 (zput (zput (zput 0 2 (w + 1)) 1 (v + 1)) 0 (4294967297 + 1)) 253 (zput (zput (zput 0 2 (w + 1)) 1 (v + 1)) 0 (4294967358 + 1)) := by
  have hs0 : hbB16.1 = 129 := rfl
  have sl0 : hbB16.2.1 = 650610 := rfl
  obtain ⟨L1, eL1⟩ : ∃ x : Nat, x = zput 0 2 (w + 1) := ⟨_, rfl⟩
  obtain ⟨L2, eL2⟩ : ∃ x : Nat, x = zput L1 1 (v + 1) := ⟨_, rfl⟩
  obtain ⟨L3, eL3⟩ : ∃ x : Nat, x = zput L2 0 (4294967297 + 1) := ⟨_, rfl⟩
  have lL3_0 : zlane L3 0 = 4294967297 + 1 := by rw [eL3]; exact zlane_same (by decide)
  have v0_2_0 : zcv haA0_c0 2 = 4294967299 := by decide +kernel
  have g0_0 : zget 8 hbB16.2.2 0 = haA0_c0 := rfl
  have st0_0 : haA0_c0.1 = 11 := rfl
  have ln0_0 : haA0_c0.2.1 = 18 := rfl
  have lL2_1 : zlane L2 1 = v + 1 := by rw [eL2]; exact zlane_same (Nat.lt_of_le_of_lt (Nat.succ_le_of_lt hv) (by decide))
  have lL3_1 : zlane L3 1 = v + 1 := by rw [eL3]; exact (zlane_ne (by decide) (by decide)).trans lL2_1
  obtain ⟨L4, eL4⟩ : ∃ x : Nat, x = zput 0 1 (v + 1) := ⟨_, rfl⟩
  obtain ⟨L5, eL5⟩ : ∃ x : Nat, x = zput L4 0 (4294967299 + 1) := ⟨_, rfl⟩
  have lL4_1 : zlane L4 1 = v + 1 := by rw [eL4]; exact zlane_same (Nat.lt_of_le_of_lt (Nat.succ_le_of_lt hv) (by decide))
  have lL5_1 : zlane L5 1 = v + 1 := by rw [eL5]; exact (zlane_ne (by decide) (by decide)).trans lL4_1
  have lL5_0 : zlane L5 0 = 4294967299 + 1 := by rw [eL5]; exact zlane_same (by decide)
  have g2_0 : zget 8 hbB16.2.2 2 = haA0_c2 := rfl
  have st2_0 : haA0_c2.1 = 3 := rfl
  obtain ⟨L7, eL7⟩ : ∃ x : Nat, x = zput 0 2 (w + 1) := ⟨_, rfl⟩
  obtain ⟨L8, eL8⟩ : ∃ x : Nat, x = zput L7 1 (v + 1) := ⟨_, rfl⟩
  obtain ⟨L9, eL9⟩ : ∃ x : Nat, x = zput L8 0 (4294967358 + 1) := ⟨_, rfl⟩
  have lL8_1 : zlane L8 1 = v + 1 := by rw [eL8]; exact zlane_same (Nat.lt_of_le_of_lt (Nat.succ_le_of_lt hv) (by decide))
  have lL9_1 : zlane L9 1 = v + 1 := by rw [eL9]; exact (zlane_ne (by decide) (by decide)).trans lL8_1
  obtain ⟨L10, eL10⟩ : ∃ x : Nat, x = zput 0 0 (v + 1) := ⟨_, rfl⟩
  have lL10_0 : zlane L10 0 = v + 1 := by rw [eL10]; exact zlane_same (Nat.lt_of_le_of_lt (Nat.succ_le_of_lt hv) (by decide))
  obtain ⟨L12, eL12⟩ : ∃ x : Nat, x = zput 0 2 (8191 + 1) := ⟨_, rfl⟩
  obtain ⟨L13, eL13⟩ : ∃ x : Nat, x = zput L12 1 (0 + 1) := ⟨_, rfl⟩
  obtain ⟨L14, eL14⟩ : ∃ x : Nat, x = zput L13 0 (v + 1) := ⟨_, rfl⟩
  have lL14_0 : zlane L14 0 = v + 1 := by rw [eL14]; exact zlane_same (Nat.lt_of_le_of_lt (Nat.succ_le_of_lt hv) (by decide))
  have lL13_1 : zlane L13 1 = 0 + 1 := by rw [eL13]; exact zlane_same (by decide)
  have lL14_1 : zlane L14 1 = 0 + 1 := by rw [eL14]; exact (zlane_ne (Nat.lt_of_le_of_lt (Nat.succ_le_of_lt hv) (by decide)) (by decide)).trans lL13_1
  have lL12_2 : zlane L12 2 = 8191 + 1 := by rw [eL12]; exact zlane_same (by decide)
  have lL13_2 : zlane L13 2 = 8191 + 1 := by rw [eL13]; exact (zlane_ne (by decide) (by decide)).trans lL12_2
  have lL14_2 : zlane L14 2 = 8191 + 1 := by rw [eL14]; exact (zlane_ne (Nat.lt_of_le_of_lt (Nat.succ_le_of_lt hv) (by decide)) (by decide)).trans lL13_2
  have g61_0 : zget 8 hbB16.2.2 61 = hbB15_c61 := rfl
  have st61_0 : hbB15_c61.1 = 12 := rfl
  have MS : (zget 8 hbB16.2.2 61).1 = 12 := by rw [g61_0]; exact st61_0
  have A1 : zrunX zXt 9 ztc (n + 60) 1679 161 L3 [] hbB16 = some ([0], hbB16) := by
    refine (ca_161 (n := n + 59)).trans ?_
    refine (e_aload lL3_0 (by decide)).trans ?_
    refine (f_getf (k := 0) (by rw [hs0]; decide) g0_0 st0_0 (by rw [ln0_0]; decide) v0_2_0).trans ?_
    refine (e_iload lL3_1 hv).trans ?_
    have m6 : zrunX zXt 9 ztc (n + 59) 1678 46 L5 [] hbB16 = some ([0], hbB16) := by
      refine (ca_46 (n := n + 58)).trans ?_
      refine (e_iload lL5_1 hv).trans ?_
      refine (f_if_f (f := fun a => z_lt a 0) hv (zlt_f (a := v) (b := 0) (by omega))).trans ?_
      refine (e_iload lL5_1 hv).trans ?_
      refine (e_push).trans ?_
      refine (f_bin (f := z_and) (v := (v % 2)) hv (by decide) (z_and_m (k := 1) (by decide))).trans ?_
      refine (f_if_t (f := fun a => z_ne a 0) (Nat.lt_trans (Nat.mod_lt _ (by decide)) (by decide)) (zne_t (a := (v % 2)) (b := 0) (by omega))).trans ?_
      refine (e_push).trans ?_
      exact e_zret (R := zrunX zXt 9 ztc (n + 58)) (d := 1678) (L := L5) (h := hbB16) (v := 0) (by decide)
    refine (f_callV (k := 2) (d' := 1678) (S0 := [v, 4294967299]) (S' := []) (S2 := [0]) (fun q => by rw [zargs_s q (Nat.le_of_lt (Nat.lt_trans hv (by decide))), ← eL4, zargs_s q (by decide), ← eL5]; rfl) lL5_0 (by rw [hs0]; decide) g2_0 st2_0 (Nat.le_of_ble_eq_true rfl) m6 (hs0.trans hs0.symm) rfl).trans ?_
    refine (f_if_f (f := fun a => z_ne a 0) (by decide) (by decide +kernel)).trans ?_
    refine (e_push).trans ?_
    exact e_zret (R := zrunX zXt 9 ztc (n + 59)) (d := 1679) (L := L3) (h := hbB16) (v := 0) (by decide)
  have A2 : zrunX zXt 9 ztc (n + 60) 1679 253 L9 [] hbB16 = some ([0], hbB16) := by
    refine (ca_253 (n := n + 59)).trans ?_
    refine (e_iload lL9_1 hv).trans ?_
    have m11 : zrunX zXt 9 ztc (n + 59) 1678 220 L10 [] hbB16 = some ([0], hbB16) := by
      refine (ca_220 (n := n + 58)).trans ?_
      refine (e_iload lL10_0 hv).trans ?_
      refine (e_push).trans ?_
      refine (e_push).trans ?_
      have m15 : zrunX zXt 9 ztc (n + 58) 1677 217 L14 [] hbB16 = some ([0], hbB16) := by
        refine (ca_217 (n := n + 57)).trans ?_
        refine (e_iload lL14_0 hv).trans ?_
        refine (e_iload lL14_1 (by decide)).trans ?_
        refine (f_cmp_f (f := z_lt) hv (by decide) (zlt_f (a := v) (b := 0) (by omega))).trans ?_
        refine (e_iload lL14_0 hv).trans ?_
        refine (e_iload lL14_2 (by decide)).trans ?_
        refine (f_cmp_t (f := z_gt) hv (by decide) (zgt_t (a := v) (b := 8191) (by omega))).trans ?_
        refine (e_push).trans ?_
        exact e_zret (R := zrunX zXt 9 ztc (n + 57)) (d := 1677) (L := L14) (h := hbB16) (v := 0) (by decide)
      refine (f_callS (d' := 1677) (S0 := [8191, 0, v]) (S' := []) (S2 := [0]) (fun q => by rw [zargs_s q (by decide), ← eL12, zargs_s q (by decide), ← eL13, zargs_s q (Nat.le_of_lt (Nat.lt_trans hv (by decide))), ← eL14]; rfl) (Nat.le_of_ble_eq_true rfl) m15 (hs0.trans hs0.symm) rfl).trans ?_
      refine (f_if_t (f := fun a => Nat.beq a 0) (by decide) (by decide +kernel)).trans ?_
      refine (e_push).trans ?_
      exact e_zret (R := zrunX zXt 9 ztc (n + 58)) (d := 1678) (L := L10) (h := hbB16) (v := 0) (by decide)
    refine (f_callS (d' := 1678) (S0 := [v]) (S' := []) (S2 := [0]) (fun q => by rw [zargs_s q (Nat.le_of_lt (Nat.lt_trans hv (by decide))), ← eL10]; rfl) (Nat.le_of_ble_eq_true rfl) m11 (hs0.trans hs0.symm) rfl).trans ?_
    refine (f_if_f (f := fun a => z_ne a 0) (by decide) (by decide +kernel)).trans ?_
    refine (e_push).trans ?_
    exact e_zret (R := zrunX zXt 9 ztc (n + 59)) (d := 1679) (L := L9) (h := hbB16) (v := 0) (by decide)
  rw [eL3, eL2, eL1] at A1
  rw [eL9, eL8, eL7] at A2
  exact ⟨_, _, _, (by decide), A1, hs0, MS, A2, hs0, sl0⟩
theorem fs_poke_heven (v : Nat) (hv : v < 4294967296) (w : Nat) (hw : w < 4294967296) (i1 : 8192 ≤ v) (i2 : v < 2147483648) (i3 : v % 2 = 0) (n : Nat) : zFst n 161 (zput (zput (zput 0 2 (w + 1)) 1 (v + 1)) 0 (4294967297 + 1)) 253 (zput (zput (zput 0 2 (w + 1)) 1 (v + 1)) 0 (4294967358 + 1)) := by
  have hs0 : hbB16.1 = 129 := rfl
  have sl0 : hbB16.2.1 = 650610 := rfl
  obtain ⟨L1, eL1⟩ : ∃ x : Nat, x = zput 0 2 (w + 1) := ⟨_, rfl⟩
  obtain ⟨L2, eL2⟩ : ∃ x : Nat, x = zput L1 1 (v + 1) := ⟨_, rfl⟩
  obtain ⟨L3, eL3⟩ : ∃ x : Nat, x = zput L2 0 (4294967297 + 1) := ⟨_, rfl⟩
  have lL3_0 : zlane L3 0 = 4294967297 + 1 := by rw [eL3]; exact zlane_same (by decide)
  have v0_2_0 : zcv haA0_c0 2 = 4294967299 := by decide +kernel
  have g0_0 : zget 8 hbB16.2.2 0 = haA0_c0 := rfl
  have st0_0 : haA0_c0.1 = 11 := rfl
  have ln0_0 : haA0_c0.2.1 = 18 := rfl
  have lL2_1 : zlane L2 1 = v + 1 := by rw [eL2]; exact zlane_same (Nat.lt_of_le_of_lt (Nat.succ_le_of_lt hv) (by decide))
  have lL3_1 : zlane L3 1 = v + 1 := by rw [eL3]; exact (zlane_ne (by decide) (by decide)).trans lL2_1
  obtain ⟨L4, eL4⟩ : ∃ x : Nat, x = zput 0 1 (v + 1) := ⟨_, rfl⟩
  obtain ⟨L5, eL5⟩ : ∃ x : Nat, x = zput L4 0 (4294967299 + 1) := ⟨_, rfl⟩
  have lL4_1 : zlane L4 1 = v + 1 := by rw [eL4]; exact zlane_same (Nat.lt_of_le_of_lt (Nat.succ_le_of_lt hv) (by decide))
  have lL5_1 : zlane L5 1 = v + 1 := by rw [eL5]; exact (zlane_ne (by decide) (by decide)).trans lL4_1
  have lL5_0 : zlane L5 0 = 4294967299 + 1 := by rw [eL5]; exact zlane_same (by decide)
  have v2_0_0 : zcv haA0_c2 0 = 4294967301 := by decide +kernel
  have g2_0 : zget 8 hbB16.2.2 2 = haA0_c2 := rfl
  have st2_0 : haA0_c2.1 = 3 := rfl
  have ln2_0 : haA0_c2.2.1 = 7 := rfl
  have g4_0 : zget 8 hbB16.2.2 4 = haA0_c4 := rfl
  have st4_0 : haA0_c4.1 = 100 := rfl
  have ln4_0 : haA0_c4.2.1 = 4096 := rfl
  obtain ⟨L7, eL7⟩ : ∃ x : Nat, x = zput 0 2 (w + 1) := ⟨_, rfl⟩
  obtain ⟨L8, eL8⟩ : ∃ x : Nat, x = zput L7 1 (v + 1) := ⟨_, rfl⟩
  obtain ⟨L9, eL9⟩ : ∃ x : Nat, x = zput L8 0 (4294967358 + 1) := ⟨_, rfl⟩
  have lL8_1 : zlane L8 1 = v + 1 := by rw [eL8]; exact zlane_same (Nat.lt_of_le_of_lt (Nat.succ_le_of_lt hv) (by decide))
  have lL9_1 : zlane L9 1 = v + 1 := by rw [eL9]; exact (zlane_ne (by decide) (by decide)).trans lL8_1
  obtain ⟨L10, eL10⟩ : ∃ x : Nat, x = zput 0 0 (v + 1) := ⟨_, rfl⟩
  have lL10_0 : zlane L10 0 = v + 1 := by rw [eL10]; exact zlane_same (Nat.lt_of_le_of_lt (Nat.succ_le_of_lt hv) (by decide))
  obtain ⟨L12, eL12⟩ : ∃ x : Nat, x = zput 0 2 (8191 + 1) := ⟨_, rfl⟩
  obtain ⟨L13, eL13⟩ : ∃ x : Nat, x = zput L12 1 (0 + 1) := ⟨_, rfl⟩
  obtain ⟨L14, eL14⟩ : ∃ x : Nat, x = zput L13 0 (v + 1) := ⟨_, rfl⟩
  have lL14_0 : zlane L14 0 = v + 1 := by rw [eL14]; exact zlane_same (Nat.lt_of_le_of_lt (Nat.succ_le_of_lt hv) (by decide))
  have lL13_1 : zlane L13 1 = 0 + 1 := by rw [eL13]; exact zlane_same (by decide)
  have lL14_1 : zlane L14 1 = 0 + 1 := by rw [eL14]; exact (zlane_ne (Nat.lt_of_le_of_lt (Nat.succ_le_of_lt hv) (by decide)) (by decide)).trans lL13_1
  have lL12_2 : zlane L12 2 = 8191 + 1 := by rw [eL12]; exact zlane_same (by decide)
  have lL13_2 : zlane L13 2 = 8191 + 1 := by rw [eL13]; exact (zlane_ne (by decide) (by decide)).trans lL12_2
  have lL14_2 : zlane L14 2 = 8191 + 1 := by rw [eL14]; exact (zlane_ne (Nat.lt_of_le_of_lt (Nat.succ_le_of_lt hv) (by decide)) (by decide)).trans lL13_2
  have g61_0 : zget 8 hbB16.2.2 61 = hbB15_c61 := rfl
  have st61_0 : hbB15_c61.1 = 12 := rfl
  have MS : (zget 8 hbB16.2.2 61).1 = 12 := by rw [g61_0]; exact st61_0
  have A1 : zrunX zXt 9 ztc (n + 60) 1679 161 L3 [] hbB16 = some ([0], hbB16) := by
    refine (ca_161 (n := n + 59)).trans ?_
    refine (e_aload lL3_0 (by decide)).trans ?_
    refine (f_getf (k := 0) (by rw [hs0]; decide) g0_0 st0_0 (by rw [ln0_0]; decide) v0_2_0).trans ?_
    refine (e_iload lL3_1 hv).trans ?_
    have m6 : zrunX zXt 9 ztc (n + 59) 1678 46 L5 [] hbB16 = some ([0], hbB16) := by
      refine (ca_46 (n := n + 58)).trans ?_
      refine (e_iload lL5_1 hv).trans ?_
      refine (f_if_f (f := fun a => z_lt a 0) hv (zlt_f (a := v) (b := 0) (by omega))).trans ?_
      refine (e_iload lL5_1 hv).trans ?_
      refine (e_push).trans ?_
      refine (f_bin (f := z_and) (v := (v % 2)) hv (by decide) (z_and_m (k := 1) (by decide))).trans ?_
      refine (f_if_f (f := fun a => z_ne a 0) (Nat.lt_trans (Nat.mod_lt _ (by decide)) (by decide)) (zne_f (a := (v % 2)) (b := 0) (by omega))).trans ?_
      refine (e_iload lL5_1 hv).trans ?_
      refine (e_push).trans ?_
      refine (f_bin (f := z_shr) (v := (v / 2)) hv (by decide) (z_shr_p (k := 1) (by omega) (by decide))).trans ?_
      refine (e_aload lL5_0 (by decide)).trans ?_
      refine (f_getf (k := 2) (by rw [hs0]; decide) g2_0 st2_0 (by rw [ln2_0]; decide) v2_0_0).trans ?_
      refine (f_len (k := 4) (by rw [hs0]; decide) g4_0 st4_0 ln4_0).trans ?_
      refine (f_cmp_t (f := z_ge) (Nat.lt_of_le_of_lt (Nat.div_le_self _ _) hv) (by decide) (zge_t (a := (v / 2)) (b := 4096) (by omega))).trans ?_
      refine (e_push).trans ?_
      exact e_zret (R := zrunX zXt 9 ztc (n + 58)) (d := 1678) (L := L5) (h := hbB16) (v := 0) (by decide)
    refine (f_callV (k := 2) (d' := 1678) (S0 := [v, 4294967299]) (S' := []) (S2 := [0]) (fun q => by rw [zargs_s q (Nat.le_of_lt (Nat.lt_trans hv (by decide))), ← eL4, zargs_s q (by decide), ← eL5]; rfl) lL5_0 (by rw [hs0]; decide) g2_0 st2_0 (Nat.le_of_ble_eq_true rfl) m6 (hs0.trans hs0.symm) rfl).trans ?_
    refine (f_if_f (f := fun a => z_ne a 0) (by decide) (by decide +kernel)).trans ?_
    refine (e_push).trans ?_
    exact e_zret (R := zrunX zXt 9 ztc (n + 59)) (d := 1679) (L := L3) (h := hbB16) (v := 0) (by decide)
  have A2 : zrunX zXt 9 ztc (n + 60) 1679 253 L9 [] hbB16 = some ([0], hbB16) := by
    refine (ca_253 (n := n + 59)).trans ?_
    refine (e_iload lL9_1 hv).trans ?_
    have m11 : zrunX zXt 9 ztc (n + 59) 1678 220 L10 [] hbB16 = some ([0], hbB16) := by
      refine (ca_220 (n := n + 58)).trans ?_
      refine (e_iload lL10_0 hv).trans ?_
      refine (e_push).trans ?_
      refine (e_push).trans ?_
      have m15 : zrunX zXt 9 ztc (n + 58) 1677 217 L14 [] hbB16 = some ([0], hbB16) := by
        refine (ca_217 (n := n + 57)).trans ?_
        refine (e_iload lL14_0 hv).trans ?_
        refine (e_iload lL14_1 (by decide)).trans ?_
        refine (f_cmp_f (f := z_lt) hv (by decide) (zlt_f (a := v) (b := 0) (by omega))).trans ?_
        refine (e_iload lL14_0 hv).trans ?_
        refine (e_iload lL14_2 (by decide)).trans ?_
        refine (f_cmp_t (f := z_gt) hv (by decide) (zgt_t (a := v) (b := 8191) (by omega))).trans ?_
        refine (e_push).trans ?_
        exact e_zret (R := zrunX zXt 9 ztc (n + 57)) (d := 1677) (L := L14) (h := hbB16) (v := 0) (by decide)
      refine (f_callS (d' := 1677) (S0 := [8191, 0, v]) (S' := []) (S2 := [0]) (fun q => by rw [zargs_s q (by decide), ← eL12, zargs_s q (by decide), ← eL13, zargs_s q (Nat.le_of_lt (Nat.lt_trans hv (by decide))), ← eL14]; rfl) (Nat.le_of_ble_eq_true rfl) m15 (hs0.trans hs0.symm) rfl).trans ?_
      refine (f_if_t (f := fun a => Nat.beq a 0) (by decide) (by decide +kernel)).trans ?_
      refine (e_push).trans ?_
      exact e_zret (R := zrunX zXt 9 ztc (n + 58)) (d := 1678) (L := L10) (h := hbB16) (v := 0) (by decide)
    refine (f_callS (d' := 1678) (S0 := [v]) (S' := []) (S2 := [0]) (fun q => by rw [zargs_s q (Nat.le_of_lt (Nat.lt_trans hv (by decide))), ← eL10]; rfl) (Nat.le_of_ble_eq_true rfl) m11 (hs0.trans hs0.symm) rfl).trans ?_
    refine (f_if_f (f := fun a => z_ne a 0) (by decide) (by decide +kernel)).trans ?_
    refine (e_push).trans ?_
    exact e_zret (R := zrunX zXt 9 ztc (n + 59)) (d := 1679) (L := L9) (h := hbB16) (v := 0) (by decide)
  rw [eL3, eL2, eL1] at A1
  rw [eL9, eL8, eL7] at A2
  exact ⟨_, _, _, (by decide), A1, hs0, MS, A2, hs0, sl0⟩
theorem fs_set_neg (v : Nat) (hv : v < 4294967296) (w : Nat) (hw : w < 4294967296) (i1 : 2147483648 ≤ v) (n : Nat) : zFst n 167 (zput (zput (zput 0 2 (w + 1)) 1 (v + 1)) 0 (4294967297 + 1)) 269 (zput (zput (zput 0 2 (w + 1)) 1 (v + 1)) 0 (4294967358 + 1)) := by
  have hs0 : hbB16.1 = 129 := rfl
  have sl0 : hbB16.2.1 = 650610 := rfl
  obtain ⟨L1, eL1⟩ : ∃ x : Nat, x = zput 0 2 (w + 1) := ⟨_, rfl⟩
  obtain ⟨L2, eL2⟩ : ∃ x : Nat, x = zput L1 1 (v + 1) := ⟨_, rfl⟩
  obtain ⟨L3, eL3⟩ : ∃ x : Nat, x = zput L2 0 (4294967297 + 1) := ⟨_, rfl⟩
  have lL2_1 : zlane L2 1 = v + 1 := by rw [eL2]; exact zlane_same (Nat.lt_of_le_of_lt (Nat.succ_le_of_lt hv) (by decide))
  have lL3_1 : zlane L3 1 = v + 1 := by rw [eL3]; exact (zlane_ne (by decide) (by decide)).trans lL2_1
  obtain ⟨L4, eL4⟩ : ∃ x : Nat, x = zput 0 2 (w + 1) := ⟨_, rfl⟩
  obtain ⟨L5, eL5⟩ : ∃ x : Nat, x = zput L4 1 (v + 1) := ⟨_, rfl⟩
  obtain ⟨L6, eL6⟩ : ∃ x : Nat, x = zput L5 0 (4294967358 + 1) := ⟨_, rfl⟩
  have lL5_1 : zlane L5 1 = v + 1 := by rw [eL5]; exact zlane_same (Nat.lt_of_le_of_lt (Nat.succ_le_of_lt hv) (by decide))
  have lL6_1 : zlane L6 1 = v + 1 := by rw [eL6]; exact (zlane_ne (by decide) (by decide)).trans lL5_1
  obtain ⟨L7, eL7⟩ : ∃ x : Nat, x = zput 0 2 (8 + 1) := ⟨_, rfl⟩
  obtain ⟨L8, eL8⟩ : ∃ x : Nat, x = zput L7 1 (0 + 1) := ⟨_, rfl⟩
  obtain ⟨L9, eL9⟩ : ∃ x : Nat, x = zput L8 0 (v + 1) := ⟨_, rfl⟩
  have lL9_0 : zlane L9 0 = v + 1 := by rw [eL9]; exact zlane_same (Nat.lt_of_le_of_lt (Nat.succ_le_of_lt hv) (by decide))
  have lL8_1 : zlane L8 1 = 0 + 1 := by rw [eL8]; exact zlane_same (by decide)
  have lL9_1 : zlane L9 1 = 0 + 1 := by rw [eL9]; exact (zlane_ne (Nat.lt_of_le_of_lt (Nat.succ_le_of_lt hv) (by decide)) (by decide)).trans lL8_1
  have g61_0 : zget 8 hbB16.2.2 61 = hbB15_c61 := rfl
  have st61_0 : hbB15_c61.1 = 12 := rfl
  have MS : (zget 8 hbB16.2.2 61).1 = 12 := by rw [g61_0]; exact st61_0
  have A1 : zrunX zXt 9 ztc (n + 60) 1679 167 L3 [] hbB16 = some ([0], hbB16) := by
    refine (ca_167 (n := n + 59)).trans ?_
    refine (e_iload lL3_1 hv).trans ?_
    refine (e_push).trans ?_
    refine (f_cmp_t (f := z_ne) hv (by decide) (zne_t (a := v) (b := 8) (by omega))).trans ?_
    refine (e_iload lL3_1 hv).trans ?_
    refine (f_if_t (f := fun a => z_lt a 0) hv (zlt_t (a := v) (b := 0) (by omega))).trans ?_
    refine (e_push).trans ?_
    exact e_zret (R := zrunX zXt 9 ztc (n + 59)) (d := 1679) (L := L3) (h := hbB16) (v := 0) (by decide)
  have A2 : zrunX zXt 9 ztc (n + 60) 1679 269 L6 [] hbB16 = some ([0], hbB16) := by
    refine (ca_269 (n := n + 59)).trans ?_
    refine (e_iload lL6_1 hv).trans ?_
    refine (e_push).trans ?_
    refine (e_push).trans ?_
    have m10 : zrunX zXt 9 ztc (n + 59) 1678 217 L9 [] hbB16 = some ([0], hbB16) := by
      refine (ca_217 (n := n + 58)).trans ?_
      refine (e_iload lL9_0 hv).trans ?_
      refine (e_iload lL9_1 (by decide)).trans ?_
      refine (f_cmp_t (f := z_lt) hv (by decide) (zlt_t (a := v) (b := 0) (by omega))).trans ?_
      refine (e_push).trans ?_
      exact e_zret (R := zrunX zXt 9 ztc (n + 58)) (d := 1678) (L := L9) (h := hbB16) (v := 0) (by decide)
    refine (f_callS (d' := 1678) (S0 := [8, 0, v]) (S' := []) (S2 := [0]) (fun q => by rw [zargs_s q (by decide), ← eL7, zargs_s q (by decide), ← eL8, zargs_s q (Nat.le_of_lt (Nat.lt_trans hv (by decide))), ← eL9]; rfl) (Nat.le_of_ble_eq_true rfl) m10 (hs0.trans hs0.symm) rfl).trans ?_
    refine (f_if_f (f := fun a => z_ne a 0) (by decide) (by decide +kernel)).trans ?_
    refine (e_push).trans ?_
    exact e_zret (R := zrunX zXt 9 ztc (n + 59)) (d := 1679) (L := L6) (h := hbB16) (v := 0) (by decide)
  rw [eL3, eL2, eL1] at A1
  rw [eL6, eL5, eL4] at A2
  exact ⟨_, _, _, (by decide), A1, hs0, MS, A2, hs0, sl0⟩
theorem fs_set_big (v : Nat) (hv : v < 4294967296) (w : Nat) (hw : w < 4294967296) (i1 : 9 ≤ v) (i2 : v < 2147483648) (n : Nat) : zFst n 167 (zput (zput (zput 0 2 (w + 1)) 1 (v + 1)) 0 (4294967297 + 1)) 269 (zput (zput (zput 0 2 (w + 1)) 1 (v + 1)) 0 (4294967358 + 1)) := by
  have hs0 : hbB16.1 = 129 := rfl
  have sl0 : hbB16.2.1 = 650610 := rfl
  obtain ⟨L1, eL1⟩ : ∃ x : Nat, x = zput 0 2 (w + 1) := ⟨_, rfl⟩
  obtain ⟨L2, eL2⟩ : ∃ x : Nat, x = zput L1 1 (v + 1) := ⟨_, rfl⟩
  obtain ⟨L3, eL3⟩ : ∃ x : Nat, x = zput L2 0 (4294967297 + 1) := ⟨_, rfl⟩
  have lL2_1 : zlane L2 1 = v + 1 := by rw [eL2]; exact zlane_same (Nat.lt_of_le_of_lt (Nat.succ_le_of_lt hv) (by decide))
  have lL3_1 : zlane L3 1 = v + 1 := by rw [eL3]; exact (zlane_ne (by decide) (by decide)).trans lL2_1
  obtain ⟨L4, eL4⟩ : ∃ x : Nat, x = zput 0 2 (w + 1) := ⟨_, rfl⟩
  obtain ⟨L5, eL5⟩ : ∃ x : Nat, x = zput L4 1 (v + 1) := ⟨_, rfl⟩
  obtain ⟨L6, eL6⟩ : ∃ x : Nat, x = zput L5 0 (4294967358 + 1) := ⟨_, rfl⟩
  have lL5_1 : zlane L5 1 = v + 1 := by rw [eL5]; exact zlane_same (Nat.lt_of_le_of_lt (Nat.succ_le_of_lt hv) (by decide))
  have lL6_1 : zlane L6 1 = v + 1 := by rw [eL6]; exact (zlane_ne (by decide) (by decide)).trans lL5_1
  obtain ⟨L7, eL7⟩ : ∃ x : Nat, x = zput 0 2 (8 + 1) := ⟨_, rfl⟩
  obtain ⟨L8, eL8⟩ : ∃ x : Nat, x = zput L7 1 (0 + 1) := ⟨_, rfl⟩
  obtain ⟨L9, eL9⟩ : ∃ x : Nat, x = zput L8 0 (v + 1) := ⟨_, rfl⟩
  have lL9_0 : zlane L9 0 = v + 1 := by rw [eL9]; exact zlane_same (Nat.lt_of_le_of_lt (Nat.succ_le_of_lt hv) (by decide))
  have lL8_1 : zlane L8 1 = 0 + 1 := by rw [eL8]; exact zlane_same (by decide)
  have lL9_1 : zlane L9 1 = 0 + 1 := by rw [eL9]; exact (zlane_ne (Nat.lt_of_le_of_lt (Nat.succ_le_of_lt hv) (by decide)) (by decide)).trans lL8_1
  have lL7_2 : zlane L7 2 = 8 + 1 := by rw [eL7]; exact zlane_same (by decide)
  have lL8_2 : zlane L8 2 = 8 + 1 := by rw [eL8]; exact (zlane_ne (by decide) (by decide)).trans lL7_2
  have lL9_2 : zlane L9 2 = 8 + 1 := by rw [eL9]; exact (zlane_ne (Nat.lt_of_le_of_lt (Nat.succ_le_of_lt hv) (by decide)) (by decide)).trans lL8_2
  have g61_0 : zget 8 hbB16.2.2 61 = hbB15_c61 := rfl
  have st61_0 : hbB15_c61.1 = 12 := rfl
  have MS : (zget 8 hbB16.2.2 61).1 = 12 := by rw [g61_0]; exact st61_0
  have A1 : zrunX zXt 9 ztc (n + 60) 1679 167 L3 [] hbB16 = some ([0], hbB16) := by
    refine (ca_167 (n := n + 59)).trans ?_
    refine (e_iload lL3_1 hv).trans ?_
    refine (e_push).trans ?_
    refine (f_cmp_t (f := z_ne) hv (by decide) (zne_t (a := v) (b := 8) (by omega))).trans ?_
    refine (e_iload lL3_1 hv).trans ?_
    refine (f_if_f (f := fun a => z_lt a 0) hv (zlt_f (a := v) (b := 0) (by omega))).trans ?_
    refine (e_iload lL3_1 hv).trans ?_
    refine (e_push).trans ?_
    refine (f_cmp_f (f := z_le) hv (by decide) (zle_f (a := v) (b := 7) (by omega))).trans ?_
    refine (e_push).trans ?_
    exact e_zret (R := zrunX zXt 9 ztc (n + 59)) (d := 1679) (L := L3) (h := hbB16) (v := 0) (by decide)
  have A2 : zrunX zXt 9 ztc (n + 60) 1679 269 L6 [] hbB16 = some ([0], hbB16) := by
    refine (ca_269 (n := n + 59)).trans ?_
    refine (e_iload lL6_1 hv).trans ?_
    refine (e_push).trans ?_
    refine (e_push).trans ?_
    have m10 : zrunX zXt 9 ztc (n + 59) 1678 217 L9 [] hbB16 = some ([0], hbB16) := by
      refine (ca_217 (n := n + 58)).trans ?_
      refine (e_iload lL9_0 hv).trans ?_
      refine (e_iload lL9_1 (by decide)).trans ?_
      refine (f_cmp_f (f := z_lt) hv (by decide) (zlt_f (a := v) (b := 0) (by omega))).trans ?_
      refine (e_iload lL9_0 hv).trans ?_
      refine (e_iload lL9_2 (by decide)).trans ?_
      refine (f_cmp_t (f := z_gt) hv (by decide) (zgt_t (a := v) (b := 8) (by omega))).trans ?_
      refine (e_push).trans ?_
      exact e_zret (R := zrunX zXt 9 ztc (n + 58)) (d := 1678) (L := L9) (h := hbB16) (v := 0) (by decide)
    refine (f_callS (d' := 1678) (S0 := [8, 0, v]) (S' := []) (S2 := [0]) (fun q => by rw [zargs_s q (by decide), ← eL7, zargs_s q (by decide), ← eL8, zargs_s q (Nat.le_of_lt (Nat.lt_trans hv (by decide))), ← eL9]; rfl) (Nat.le_of_ble_eq_true rfl) m10 (hs0.trans hs0.symm) rfl).trans ?_
    refine (f_if_f (f := fun a => z_ne a 0) (by decide) (by decide +kernel)).trans ?_
    refine (e_push).trans ?_
    exact e_zret (R := zrunX zXt 9 ztc (n + 59)) (d := 1679) (L := L6) (h := hbB16) (v := 0) (by decide)
  rw [eL3, eL2, eL1] at A1
  rw [eL6, eL5, eL4] at A2
  exact ⟨_, _, _, (by decide), A1, hs0, MS, A2, hs0, sl0⟩
