theorem fs_set_1 (w : Nat) (hw : w < 4294967296) (n : Nat) : zFst n 167 (zput (zput (zput 0 2 (w + 1)) 1 (1 + 1)) 0 (4294967297 + 1)) 269 (zput (zput (zput 0 2 (w + 1)) 1 (1 + 1)) 0 (4294967358 + 1)) := by
  have hs0 : hbB16.1 = 129 := rfl
  have sl0 : hbB16.2.1 = 650610 := rfl
  obtain ⟨L1, eL1⟩ : ∃ x : Nat, x = zput 0 2 (w + 1) := ⟨_, rfl⟩
  obtain ⟨L2, eL2⟩ : ∃ x : Nat, x = zput L1 1 (1 + 1) := ⟨_, rfl⟩
  obtain ⟨L3, eL3⟩ : ∃ x : Nat, x = zput L2 0 (4294967297 + 1) := ⟨_, rfl⟩
  have lL2_1 : zlane L2 1 = 1 + 1 := by rw [eL2]; exact zlane_same (by decide)
  have lL3_1 : zlane L3 1 = 1 + 1 := by rw [eL3]; exact (zlane_ne (by decide) (by decide)).trans lL2_1
  have lL3_0 : zlane L3 0 = 4294967297 + 1 := by rw [eL3]; exact zlane_same (by decide)
  have v0_2_0 : zcv haA0_c0 2 = 4294967299 := by decide +kernel
  have g0_0 : zget 8 hbB16.2.2 0 = haA0_c0 := rfl
  have st0_0 : haA0_c0.1 = 11 := rfl
  have ln0_0 : haA0_c0.2.1 = 18 := rfl
  have v2_1_0 : zcv haA0_c2 1 = 4294967300 := by decide +kernel
  have g2_0 : zget 8 hbB16.2.2 2 = haA0_c2 := rfl
  have st2_0 : haA0_c2.1 = 3 := rfl
  have ln2_0 : haA0_c2.2.1 = 7 := rfl
  have lL1_2 : zlane L1 2 = w + 1 := by rw [eL1]; exact zlane_same (Nat.lt_of_le_of_lt (Nat.succ_le_of_lt hw) (by decide))
  have lL2_2 : zlane L2 2 = w + 1 := by rw [eL2]; exact (zlane_ne (by decide) (by decide)).trans lL1_2
  have lL3_2 : zlane L3 2 = w + 1 := by rw [eL3]; exact (zlane_ne (by decide) (by decide)).trans lL2_2
  have g3_0 : zget 8 hbB16.2.2 3 = haA0_c3 := rfl
  have st3_0 : haA0_c3.1 = 100 := rfl
  have ln3_0 : haA0_c3.2.1 = 8 := rfl
  obtain ⟨h1, eh1⟩ : ∃ x : zH, x = (hbB16.1, hbB16.2.1, zst 8 hbB16.2.2 3 (fun c => zcst c 1 (w % 65536))) := ⟨_, rfl⟩
  have hs1 : h1.1 = 129 := by rw [eh1]; exact hs0
  have sl1 : h1.2.1 = 650610 := by rw [eh1]; exact sl0
  obtain ⟨L4, eL4⟩ : ∃ x : Nat, x = zput 0 2 (w + 1) := ⟨_, rfl⟩
  obtain ⟨L5, eL5⟩ : ∃ x : Nat, x = zput L4 1 (1 + 1) := ⟨_, rfl⟩
  obtain ⟨L6, eL6⟩ : ∃ x : Nat, x = zput L5 0 (4294967358 + 1) := ⟨_, rfl⟩
  have lL5_1 : zlane L5 1 = 1 + 1 := by rw [eL5]; exact zlane_same (by decide)
  have lL6_1 : zlane L6 1 = 1 + 1 := by rw [eL6]; exact (zlane_ne (by decide) (by decide)).trans lL5_1
  obtain ⟨L7, eL7⟩ : ∃ x : Nat, x = zput 0 2 (8 + 1) := ⟨_, rfl⟩
  obtain ⟨L8, eL8⟩ : ∃ x : Nat, x = zput L7 1 (0 + 1) := ⟨_, rfl⟩
  obtain ⟨L9, eL9⟩ : ∃ x : Nat, x = zput L8 0 (1 + 1) := ⟨_, rfl⟩
  have lL9_0 : zlane L9 0 = 1 + 1 := by rw [eL9]; exact zlane_same (by decide)
  have lL8_1 : zlane L8 1 = 0 + 1 := by rw [eL8]; exact zlane_same (by decide)
  have lL9_1 : zlane L9 1 = 0 + 1 := by rw [eL9]; exact (zlane_ne (by decide) (by decide)).trans lL8_1
  have lL7_2 : zlane L7 2 = 8 + 1 := by rw [eL7]; exact zlane_same (by decide)
  have lL8_2 : zlane L8 2 = 8 + 1 := by rw [eL8]; exact (zlane_ne (by decide) (by decide)).trans lL7_2
  have lL9_2 : zlane L9 2 = 8 + 1 := by rw [eL9]; exact (zlane_ne (by decide) (by decide)).trans lL8_2
  have lL6_0 : zlane L6 0 = 4294967358 + 1 := by rw [eL6]; exact zlane_same (by decide)
  have v61_1_0 : zcv hbB15_c61 1 = 4294967362 := by decide +kernel
  have g61_0 : zget 8 hbB16.2.2 61 = hbB15_c61 := rfl
  have g61_1 : zget 8 h1.2.2 61 = hbB15_c61 := by rw [eh1]; exact zg_n (by decide) (by decide) (by decide) g61_0
  have st61_0 : hbB15_c61.1 = 12 := rfl
  have ln61_0 : hbB15_c61.2.1 = 114 := rfl
  have v65_1_0 : zcv haB6_c65 1 = 4294967364 := by decide +kernel
  have g65_0 : zget 8 hbB16.2.2 65 = haB6_c65 := rfl
  have g65_1 : zget 8 h1.2.2 65 = haB6_c65 := by rw [eh1]; exact zg_n (by decide) (by decide) (by decide) g65_0
  have st65_0 : haB6_c65.1 = 102 := rfl
  have ln65_0 : haB6_c65.2.1 = 2 := rfl
  have lL4_2 : zlane L4 2 = w + 1 := by rw [eL4]; exact zlane_same (Nat.lt_of_le_of_lt (Nat.succ_le_of_lt hw) (by decide))
  have lL5_2 : zlane L5 2 = w + 1 := by rw [eL5]; exact (zlane_ne (by decide) (by decide)).trans lL4_2
  have lL6_2 : zlane L6 2 = w + 1 := by rw [eL6]; exact (zlane_ne (by decide) (by decide)).trans lL5_2
  have g67_0 : zget 8 hbB16.2.2 67 = haA0_c3 := rfl
  have g67_1 : zget 8 h1.2.2 67 = haA0_c3 := by rw [eh1]; exact zg_n (by decide) (by decide) (by decide) g67_0
  have st67_0 : haA0_c3.1 = 100 := rfl
  have ln67_0 : haA0_c3.2.1 = 8 := rfl
  obtain ⟨h2, eh2⟩ : ∃ x : zH, x = (h1.1, h1.2.1, zst 8 h1.2.2 67 (fun c => zcst c 1 (w % 65536))) := ⟨_, rfl⟩
  have hs2 : h2.1 = 129 := by rw [eh2]; exact hs1
  have sl2 : h2.2.1 = 650610 := by rw [eh2]; exact sl1
  have MS : (zget 8 h1.2.2 61).1 = 12 := by rw [g61_1]; exact st61_0
  have A1 : zrunX zXt 9 ztc (n + 60) 1679 167 L3 [] hbB16 = some ([1], h1) := by
    refine (ca_167 (n := n + 59)).trans ?_
    refine (e_iload lL3_1 (by decide)).trans ?_
    refine (e_push).trans ?_
    refine (f_cmp_t (f := z_ne) (by decide) (by decide) (by decide +kernel)).trans ?_
    refine (e_iload lL3_1 (by decide)).trans ?_
    refine (f_if_f (f := fun a => z_lt a 0) (by decide) (by decide +kernel)).trans ?_
    refine (e_iload lL3_1 (by decide)).trans ?_
    refine (e_push).trans ?_
    refine (f_cmp_t (f := z_le) (by decide) (by decide) (by decide +kernel)).trans ?_
    refine (e_aload lL3_0 (by decide)).trans ?_
    refine (f_getf (k := 0) (by rw [hs0]; decide) g0_0 st0_0 (by rw [ln0_0]; decide) v0_2_0).trans ?_
    refine (f_getf (k := 2) (by rw [hs0]; decide) g2_0 st2_0 (by rw [ln2_0]; decide) v2_1_0).trans ?_
    refine (e_iload lL3_1 (by decide)).trans ?_
    refine (e_iload lL3_2 hw).trans ?_
    refine (e_push).trans ?_
    refine (f_bin (f := z_and) (v := (w % 65536)) hw (by decide) (z_and_m (k := 16) (by decide))).trans ?_
    refine (f_iast (k := 3) (show (w % 65536) < 4294967296 from (Nat.lt_trans (Nat.mod_lt _ (by decide)) (by decide))) (by decide) (by rw [hs0]; decide) g3_0 st3_0 (by rw [ln3_0]; decide) eh1.symm).trans ?_
    refine (e_push).trans ?_
    exact e_zret (R := zrunX zXt 9 ztc (n + 59)) (d := 1679) (L := L3) (h := h1) (v := 1) (by decide)
  have A2 : zrunX zXt 9 ztc (n + 60) 1679 269 L6 [] h1 = some ([1], h2) := by
    refine (ca_269 (n := n + 59)).trans ?_
    refine (e_iload lL6_1 (by decide)).trans ?_
    refine (e_push).trans ?_
    refine (e_push).trans ?_
    have m10 : zrunX zXt 9 ztc (n + 59) 1678 217 L9 [] h1 = some ([1], h1) := by
      refine (ca_217 (n := n + 58)).trans ?_
      refine (e_iload lL9_0 (by decide)).trans ?_
      refine (e_iload lL9_1 (by decide)).trans ?_
      refine (f_cmp_f (f := z_lt) (by decide) (by decide) (by decide +kernel)).trans ?_
      refine (e_iload lL9_0 (by decide)).trans ?_
      refine (e_iload lL9_2 (by decide)).trans ?_
      refine (f_cmp_f (f := z_gt) (by decide) (by decide) (by decide +kernel)).trans ?_
      refine (e_push).trans ?_
      show q_X12_in_15 _ _ _ _ _ = _
      exact e_zret (R := zrunX zXt 9 ztc (n + 58)) (d := 1678) (L := L9) (h := h1) (v := 1) (by decide)
    refine (f_callS (d' := 1678) (S0 := [8, 0, 1]) (S' := []) (S2 := [1]) (fun q => by rw [zargs_s q (by decide), ← eL7, zargs_s q (by decide), ← eL8, zargs_s q (by decide), ← eL9]; rfl) (Nat.le_of_ble_eq_true rfl) m10 (hs1.trans hs1.symm) rfl).trans ?_
    refine (f_if_t (f := fun a => z_ne a 0) (by decide) (by decide +kernel)).trans ?_
    refine (e_iload lL6_1 (by decide)).trans ?_
    refine (e_push).trans ?_
    refine (f_cmp_f (f := z_ge) (by decide) (by decide) (by decide +kernel)).trans ?_
    refine (e_aload lL6_0 (by decide)).trans ?_
    refine (f_getf (k := 61) (by rw [hs1]; decide) g61_1 st61_0 (by rw [ln61_0]; decide) v61_1_0).trans ?_
    refine (e_push).trans ?_
    refine (e_aald (k := 65) (by decide) (by rw [hs1]; decide) g65_1 st65_0 (by rw [ln65_0]; decide) v65_1_0 (by decide)).trans ?_
    refine (e_iload lL6_1 (by decide)).trans ?_
    refine (e_iload lL6_2 hw).trans ?_
    refine (e_push).trans ?_
    refine (f_bin (f := z_and) (v := (w % 65536)) hw (by decide) (z_and_m (k := 16) (by decide))).trans ?_
    refine (f_iast (k := 67) (show (w % 65536) < 4294967296 from (Nat.lt_trans (Nat.mod_lt _ (by decide)) (by decide))) (by decide) (by rw [hs1]; decide) g67_1 st67_0 (by rw [ln67_0]; decide) eh2.symm).trans ?_
    show q_X12_set_61 _ _ _ _ _ = _
    refine (e_push).trans ?_
    exact e_zret (R := zrunX zXt 9 ztc (n + 59)) (d := 1679) (L := L6) (h := h2) (v := 1) (by decide)
  rw [eL3, eL2, eL1] at A1
  rw [eL6, eL5, eL4] at A2
  exact ⟨_, _, _, (by decide), A1, hs1, MS, A2, hs2, sl2⟩
theorem fs_set_2 (w : Nat) (hw : w < 4294967296) (n : Nat) : zFst n 167 (zput (zput (zput 0 2 (w + 1)) 1 (2 + 1)) 0 (4294967297 + 1)) 269 (zput (zput (zput 0 2 (w + 1)) 1 (2 + 1)) 0 (4294967358 + 1)) := by
  have hs0 : hbB16.1 = 129 := rfl
  have sl0 : hbB16.2.1 = 650610 := rfl
  obtain ⟨L1, eL1⟩ : ∃ x : Nat, x = zput 0 2 (w + 1) := ⟨_, rfl⟩
  obtain ⟨L2, eL2⟩ : ∃ x : Nat, x = zput L1 1 (2 + 1) := ⟨_, rfl⟩
  obtain ⟨L3, eL3⟩ : ∃ x : Nat, x = zput L2 0 (4294967297 + 1) := ⟨_, rfl⟩
  have lL2_1 : zlane L2 1 = 2 + 1 := by rw [eL2]; exact zlane_same (by decide)
  have lL3_1 : zlane L3 1 = 2 + 1 := by rw [eL3]; exact (zlane_ne (by decide) (by decide)).trans lL2_1
  have lL3_0 : zlane L3 0 = 4294967297 + 1 := by rw [eL3]; exact zlane_same (by decide)
  have v0_2_0 : zcv haA0_c0 2 = 4294967299 := by decide +kernel
  have g0_0 : zget 8 hbB16.2.2 0 = haA0_c0 := rfl
  have st0_0 : haA0_c0.1 = 11 := rfl
  have ln0_0 : haA0_c0.2.1 = 18 := rfl
  have v2_1_0 : zcv haA0_c2 1 = 4294967300 := by decide +kernel
  have g2_0 : zget 8 hbB16.2.2 2 = haA0_c2 := rfl
  have st2_0 : haA0_c2.1 = 3 := rfl
  have ln2_0 : haA0_c2.2.1 = 7 := rfl
  have lL1_2 : zlane L1 2 = w + 1 := by rw [eL1]; exact zlane_same (Nat.lt_of_le_of_lt (Nat.succ_le_of_lt hw) (by decide))
  have lL2_2 : zlane L2 2 = w + 1 := by rw [eL2]; exact (zlane_ne (by decide) (by decide)).trans lL1_2
  have lL3_2 : zlane L3 2 = w + 1 := by rw [eL3]; exact (zlane_ne (by decide) (by decide)).trans lL2_2
  have g3_0 : zget 8 hbB16.2.2 3 = haA0_c3 := rfl
  have st3_0 : haA0_c3.1 = 100 := rfl
  have ln3_0 : haA0_c3.2.1 = 8 := rfl
  obtain ⟨h1, eh1⟩ : ∃ x : zH, x = (hbB16.1, hbB16.2.1, zst 8 hbB16.2.2 3 (fun c => zcst c 2 (w % 65536))) := ⟨_, rfl⟩
  have hs1 : h1.1 = 129 := by rw [eh1]; exact hs0
  have sl1 : h1.2.1 = 650610 := by rw [eh1]; exact sl0
  obtain ⟨L4, eL4⟩ : ∃ x : Nat, x = zput 0 2 (w + 1) := ⟨_, rfl⟩
  obtain ⟨L5, eL5⟩ : ∃ x : Nat, x = zput L4 1 (2 + 1) := ⟨_, rfl⟩
  obtain ⟨L6, eL6⟩ : ∃ x : Nat, x = zput L5 0 (4294967358 + 1) := ⟨_, rfl⟩
  have lL5_1 : zlane L5 1 = 2 + 1 := by rw [eL5]; exact zlane_same (by decide)
  have lL6_1 : zlane L6 1 = 2 + 1 := by rw [eL6]; exact (zlane_ne (by decide) (by decide)).trans lL5_1
  obtain ⟨L7, eL7⟩ : ∃ x : Nat, x = zput 0 2 (8 + 1) := ⟨_, rfl⟩
  obtain ⟨L8, eL8⟩ : ∃ x : Nat, x = zput L7 1 (0 + 1) := ⟨_, rfl⟩
  obtain ⟨L9, eL9⟩ : ∃ x : Nat, x = zput L8 0 (2 + 1) := ⟨_, rfl⟩
  have lL9_0 : zlane L9 0 = 2 + 1 := by rw [eL9]; exact zlane_same (by decide)
  have lL8_1 : zlane L8 1 = 0 + 1 := by rw [eL8]; exact zlane_same (by decide)
  have lL9_1 : zlane L9 1 = 0 + 1 := by rw [eL9]; exact (zlane_ne (by decide) (by decide)).trans lL8_1
  have lL7_2 : zlane L7 2 = 8 + 1 := by rw [eL7]; exact zlane_same (by decide)
  have lL8_2 : zlane L8 2 = 8 + 1 := by rw [eL8]; exact (zlane_ne (by decide) (by decide)).trans lL7_2
  have lL9_2 : zlane L9 2 = 8 + 1 := by rw [eL9]; exact (zlane_ne (by decide) (by decide)).trans lL8_2
  have lL6_0 : zlane L6 0 = 4294967358 + 1 := by rw [eL6]; exact zlane_same (by decide)
  have v61_1_0 : zcv hbB15_c61 1 = 4294967362 := by decide +kernel
  have g61_0 : zget 8 hbB16.2.2 61 = hbB15_c61 := rfl
  have g61_1 : zget 8 h1.2.2 61 = hbB15_c61 := by rw [eh1]; exact zg_n (by decide) (by decide) (by decide) g61_0
  have st61_0 : hbB15_c61.1 = 12 := rfl
  have ln61_0 : hbB15_c61.2.1 = 114 := rfl
  have v65_1_0 : zcv haB6_c65 1 = 4294967364 := by decide +kernel
  have g65_0 : zget 8 hbB16.2.2 65 = haB6_c65 := rfl
  have g65_1 : zget 8 h1.2.2 65 = haB6_c65 := by rw [eh1]; exact zg_n (by decide) (by decide) (by decide) g65_0
  have st65_0 : haB6_c65.1 = 102 := rfl
  have ln65_0 : haB6_c65.2.1 = 2 := rfl
  have lL4_2 : zlane L4 2 = w + 1 := by rw [eL4]; exact zlane_same (Nat.lt_of_le_of_lt (Nat.succ_le_of_lt hw) (by decide))
  have lL5_2 : zlane L5 2 = w + 1 := by rw [eL5]; exact (zlane_ne (by decide) (by decide)).trans lL4_2
  have lL6_2 : zlane L6 2 = w + 1 := by rw [eL6]; exact (zlane_ne (by decide) (by decide)).trans lL5_2
  have g67_0 : zget 8 hbB16.2.2 67 = haA0_c3 := rfl
  have g67_1 : zget 8 h1.2.2 67 = haA0_c3 := by rw [eh1]; exact zg_n (by decide) (by decide) (by decide) g67_0
  have st67_0 : haA0_c3.1 = 100 := rfl
  have ln67_0 : haA0_c3.2.1 = 8 := rfl
  obtain ⟨h2, eh2⟩ : ∃ x : zH, x = (h1.1, h1.2.1, zst 8 h1.2.2 67 (fun c => zcst c 2 (w % 65536))) := ⟨_, rfl⟩
  have hs2 : h2.1 = 129 := by rw [eh2]; exact hs1
  have sl2 : h2.2.1 = 650610 := by rw [eh2]; exact sl1
  have MS : (zget 8 h1.2.2 61).1 = 12 := by rw [g61_1]; exact st61_0
  have A1 : zrunX zXt 9 ztc (n + 60) 1679 167 L3 [] hbB16 = some ([1], h1) := by
    refine (ca_167 (n := n + 59)).trans ?_
    refine (e_iload lL3_1 (by decide)).trans ?_
    refine (e_push).trans ?_
    refine (f_cmp_t (f := z_ne) (by decide) (by decide) (by decide +kernel)).trans ?_
    refine (e_iload lL3_1 (by decide)).trans ?_
    refine (f_if_f (f := fun a => z_lt a 0) (by decide) (by decide +kernel)).trans ?_
    refine (e_iload lL3_1 (by decide)).trans ?_
    refine (e_push).trans ?_
    refine (f_cmp_t (f := z_le) (by decide) (by decide) (by decide +kernel)).trans ?_
    refine (e_aload lL3_0 (by decide)).trans ?_
    refine (f_getf (k := 0) (by rw [hs0]; decide) g0_0 st0_0 (by rw [ln0_0]; decide) v0_2_0).trans ?_
    refine (f_getf (k := 2) (by rw [hs0]; decide) g2_0 st2_0 (by rw [ln2_0]; decide) v2_1_0).trans ?_
    refine (e_iload lL3_1 (by decide)).trans ?_
    refine (e_iload lL3_2 hw).trans ?_
    refine (e_push).trans ?_
    refine (f_bin (f := z_and) (v := (w % 65536)) hw (by decide) (z_and_m (k := 16) (by decide))).trans ?_
    refine (f_iast (k := 3) (show (w % 65536) < 4294967296 from (Nat.lt_trans (Nat.mod_lt _ (by decide)) (by decide))) (by decide) (by rw [hs0]; decide) g3_0 st3_0 (by rw [ln3_0]; decide) eh1.symm).trans ?_
    refine (e_push).trans ?_
    exact e_zret (R := zrunX zXt 9 ztc (n + 59)) (d := 1679) (L := L3) (h := h1) (v := 1) (by decide)
  have A2 : zrunX zXt 9 ztc (n + 60) 1679 269 L6 [] h1 = some ([1], h2) := by
    refine (ca_269 (n := n + 59)).trans ?_
    refine (e_iload lL6_1 (by decide)).trans ?_
    refine (e_push).trans ?_
    refine (e_push).trans ?_
    have m10 : zrunX zXt 9 ztc (n + 59) 1678 217 L9 [] h1 = some ([1], h1) := by
      refine (ca_217 (n := n + 58)).trans ?_
      refine (e_iload lL9_0 (by decide)).trans ?_
      refine (e_iload lL9_1 (by decide)).trans ?_
      refine (f_cmp_f (f := z_lt) (by decide) (by decide) (by decide +kernel)).trans ?_
      refine (e_iload lL9_0 (by decide)).trans ?_
      refine (e_iload lL9_2 (by decide)).trans ?_
      refine (f_cmp_f (f := z_gt) (by decide) (by decide) (by decide +kernel)).trans ?_
      refine (e_push).trans ?_
      show q_X12_in_15 _ _ _ _ _ = _
      exact e_zret (R := zrunX zXt 9 ztc (n + 58)) (d := 1678) (L := L9) (h := h1) (v := 1) (by decide)
    refine (f_callS (d' := 1678) (S0 := [8, 0, 2]) (S' := []) (S2 := [1]) (fun q => by rw [zargs_s q (by decide), ← eL7, zargs_s q (by decide), ← eL8, zargs_s q (by decide), ← eL9]; rfl) (Nat.le_of_ble_eq_true rfl) m10 (hs1.trans hs1.symm) rfl).trans ?_
    refine (f_if_t (f := fun a => z_ne a 0) (by decide) (by decide +kernel)).trans ?_
    refine (e_iload lL6_1 (by decide)).trans ?_
    refine (e_push).trans ?_
    refine (f_cmp_f (f := z_ge) (by decide) (by decide) (by decide +kernel)).trans ?_
    refine (e_aload lL6_0 (by decide)).trans ?_
    refine (f_getf (k := 61) (by rw [hs1]; decide) g61_1 st61_0 (by rw [ln61_0]; decide) v61_1_0).trans ?_
    refine (e_push).trans ?_
    refine (e_aald (k := 65) (by decide) (by rw [hs1]; decide) g65_1 st65_0 (by rw [ln65_0]; decide) v65_1_0 (by decide)).trans ?_
    refine (e_iload lL6_1 (by decide)).trans ?_
    refine (e_iload lL6_2 hw).trans ?_
    refine (e_push).trans ?_
    refine (f_bin (f := z_and) (v := (w % 65536)) hw (by decide) (z_and_m (k := 16) (by decide))).trans ?_
    refine (f_iast (k := 67) (show (w % 65536) < 4294967296 from (Nat.lt_trans (Nat.mod_lt _ (by decide)) (by decide))) (by decide) (by rw [hs1]; decide) g67_1 st67_0 (by rw [ln67_0]; decide) eh2.symm).trans ?_
    show q_X12_set_61 _ _ _ _ _ = _
    refine (e_push).trans ?_
    exact e_zret (R := zrunX zXt 9 ztc (n + 59)) (d := 1679) (L := L6) (h := h2) (v := 1) (by decide)
  rw [eL3, eL2, eL1] at A1
  rw [eL6, eL5, eL4] at A2
  exact ⟨_, _, _, (by decide), A1, hs1, MS, A2, hs2, sl2⟩
theorem fs_set_3 (w : Nat) (hw : w < 4294967296) (n : Nat) : zFst n 167 (zput (zput (zput 0 2 (w + 1)) 1 (3 + 1)) 0 (4294967297 + 1)) 269 (zput (zput (zput 0 2 (w + 1)) 1 (3 + 1)) 0 (4294967358 + 1)) := by
  have hs0 : hbB16.1 = 129 := rfl
  have sl0 : hbB16.2.1 = 650610 := rfl
  obtain ⟨L1, eL1⟩ : ∃ x : Nat, x = zput 0 2 (w + 1) := ⟨_, rfl⟩
  obtain ⟨L2, eL2⟩ : ∃ x : Nat, x = zput L1 1 (3 + 1) := ⟨_, rfl⟩
  obtain ⟨L3, eL3⟩ : ∃ x : Nat, x = zput L2 0 (4294967297 + 1) := ⟨_, rfl⟩
  have lL2_1 : zlane L2 1 = 3 + 1 := by rw [eL2]; exact zlane_same (by decide)
  have lL3_1 : zlane L3 1 = 3 + 1 := by rw [eL3]; exact (zlane_ne (by decide) (by decide)).trans lL2_1
  have lL3_0 : zlane L3 0 = 4294967297 + 1 := by rw [eL3]; exact zlane_same (by decide)
  have v0_2_0 : zcv haA0_c0 2 = 4294967299 := by decide +kernel
  have g0_0 : zget 8 hbB16.2.2 0 = haA0_c0 := rfl
  have st0_0 : haA0_c0.1 = 11 := rfl
  have ln0_0 : haA0_c0.2.1 = 18 := rfl
  have v2_1_0 : zcv haA0_c2 1 = 4294967300 := by decide +kernel
  have g2_0 : zget 8 hbB16.2.2 2 = haA0_c2 := rfl
  have st2_0 : haA0_c2.1 = 3 := rfl
  have ln2_0 : haA0_c2.2.1 = 7 := rfl
  have lL1_2 : zlane L1 2 = w + 1 := by rw [eL1]; exact zlane_same (Nat.lt_of_le_of_lt (Nat.succ_le_of_lt hw) (by decide))
  have lL2_2 : zlane L2 2 = w + 1 := by rw [eL2]; exact (zlane_ne (by decide) (by decide)).trans lL1_2
  have lL3_2 : zlane L3 2 = w + 1 := by rw [eL3]; exact (zlane_ne (by decide) (by decide)).trans lL2_2
  have g3_0 : zget 8 hbB16.2.2 3 = haA0_c3 := rfl
  have st3_0 : haA0_c3.1 = 100 := rfl
  have ln3_0 : haA0_c3.2.1 = 8 := rfl
  obtain ⟨h1, eh1⟩ : ∃ x : zH, x = (hbB16.1, hbB16.2.1, zst 8 hbB16.2.2 3 (fun c => zcst c 3 (w % 65536))) := ⟨_, rfl⟩
  have hs1 : h1.1 = 129 := by rw [eh1]; exact hs0
  have sl1 : h1.2.1 = 650610 := by rw [eh1]; exact sl0
  obtain ⟨L4, eL4⟩ : ∃ x : Nat, x = zput 0 2 (w + 1) := ⟨_, rfl⟩
  obtain ⟨L5, eL5⟩ : ∃ x : Nat, x = zput L4 1 (3 + 1) := ⟨_, rfl⟩
  obtain ⟨L6, eL6⟩ : ∃ x : Nat, x = zput L5 0 (4294967358 + 1) := ⟨_, rfl⟩
  have lL5_1 : zlane L5 1 = 3 + 1 := by rw [eL5]; exact zlane_same (by decide)
  have lL6_1 : zlane L6 1 = 3 + 1 := by rw [eL6]; exact (zlane_ne (by decide) (by decide)).trans lL5_1
  obtain ⟨L7, eL7⟩ : ∃ x : Nat, x = zput 0 2 (8 + 1) := ⟨_, rfl⟩
  obtain ⟨L8, eL8⟩ : ∃ x : Nat, x = zput L7 1 (0 + 1) := ⟨_, rfl⟩
  obtain ⟨L9, eL9⟩ : ∃ x : Nat, x = zput L8 0 (3 + 1) := ⟨_, rfl⟩
  have lL9_0 : zlane L9 0 = 3 + 1 := by rw [eL9]; exact zlane_same (by decide)
  have lL8_1 : zlane L8 1 = 0 + 1 := by rw [eL8]; exact zlane_same (by decide)
  have lL9_1 : zlane L9 1 = 0 + 1 := by rw [eL9]; exact (zlane_ne (by decide) (by decide)).trans lL8_1
  have lL7_2 : zlane L7 2 = 8 + 1 := by rw [eL7]; exact zlane_same (by decide)
  have lL8_2 : zlane L8 2 = 8 + 1 := by rw [eL8]; exact (zlane_ne (by decide) (by decide)).trans lL7_2
  have lL9_2 : zlane L9 2 = 8 + 1 := by rw [eL9]; exact (zlane_ne (by decide) (by decide)).trans lL8_2
  have lL6_0 : zlane L6 0 = 4294967358 + 1 := by rw [eL6]; exact zlane_same (by decide)
  have v61_1_0 : zcv hbB15_c61 1 = 4294967362 := by decide +kernel
  have g61_0 : zget 8 hbB16.2.2 61 = hbB15_c61 := rfl
  have g61_1 : zget 8 h1.2.2 61 = hbB15_c61 := by rw [eh1]; exact zg_n (by decide) (by decide) (by decide) g61_0
  have st61_0 : hbB15_c61.1 = 12 := rfl
  have ln61_0 : hbB15_c61.2.1 = 114 := rfl
  have v65_1_0 : zcv haB6_c65 1 = 4294967364 := by decide +kernel
  have g65_0 : zget 8 hbB16.2.2 65 = haB6_c65 := rfl
  have g65_1 : zget 8 h1.2.2 65 = haB6_c65 := by rw [eh1]; exact zg_n (by decide) (by decide) (by decide) g65_0
  have st65_0 : haB6_c65.1 = 102 := rfl
  have ln65_0 : haB6_c65.2.1 = 2 := rfl
  have lL4_2 : zlane L4 2 = w + 1 := by rw [eL4]; exact zlane_same (Nat.lt_of_le_of_lt (Nat.succ_le_of_lt hw) (by decide))
  have lL5_2 : zlane L5 2 = w + 1 := by rw [eL5]; exact (zlane_ne (by decide) (by decide)).trans lL4_2
  have lL6_2 : zlane L6 2 = w + 1 := by rw [eL6]; exact (zlane_ne (by decide) (by decide)).trans lL5_2
  have g67_0 : zget 8 hbB16.2.2 67 = haA0_c3 := rfl
  have g67_1 : zget 8 h1.2.2 67 = haA0_c3 := by rw [eh1]; exact zg_n (by decide) (by decide) (by decide) g67_0
  have st67_0 : haA0_c3.1 = 100 := rfl
  have ln67_0 : haA0_c3.2.1 = 8 := rfl
  obtain ⟨h2, eh2⟩ : ∃ x : zH, x = (h1.1, h1.2.1, zst 8 h1.2.2 67 (fun c => zcst c 3 (w % 65536))) := ⟨_, rfl⟩
  have hs2 : h2.1 = 129 := by rw [eh2]; exact hs1
  have sl2 : h2.2.1 = 650610 := by rw [eh2]; exact sl1
  have MS : (zget 8 h1.2.2 61).1 = 12 := by rw [g61_1]; exact st61_0
  have A1 : zrunX zXt 9 ztc (n + 60) 1679 167 L3 [] hbB16 = some ([1], h1) := by
    refine (ca_167 (n := n + 59)).trans ?_
    refine (e_iload lL3_1 (by decide)).trans ?_
    refine (e_push).trans ?_
    refine (f_cmp_t (f := z_ne) (by decide) (by decide) (by decide +kernel)).trans ?_
    refine (e_iload lL3_1 (by decide)).trans ?_
    refine (f_if_f (f := fun a => z_lt a 0) (by decide) (by decide +kernel)).trans ?_
    refine (e_iload lL3_1 (by decide)).trans ?_
    refine (e_push).trans ?_
    refine (f_cmp_t (f := z_le) (by decide) (by decide) (by decide +kernel)).trans ?_
    refine (e_aload lL3_0 (by decide)).trans ?_
    refine (f_getf (k := 0) (by rw [hs0]; decide) g0_0 st0_0 (by rw [ln0_0]; decide) v0_2_0).trans ?_
    refine (f_getf (k := 2) (by rw [hs0]; decide) g2_0 st2_0 (by rw [ln2_0]; decide) v2_1_0).trans ?_
    refine (e_iload lL3_1 (by decide)).trans ?_
    refine (e_iload lL3_2 hw).trans ?_
    refine (e_push).trans ?_
    refine (f_bin (f := z_and) (v := (w % 65536)) hw (by decide) (z_and_m (k := 16) (by decide))).trans ?_
    refine (f_iast (k := 3) (show (w % 65536) < 4294967296 from (Nat.lt_trans (Nat.mod_lt _ (by decide)) (by decide))) (by decide) (by rw [hs0]; decide) g3_0 st3_0 (by rw [ln3_0]; decide) eh1.symm).trans ?_
    refine (e_push).trans ?_
    exact e_zret (R := zrunX zXt 9 ztc (n + 59)) (d := 1679) (L := L3) (h := h1) (v := 1) (by decide)
  have A2 : zrunX zXt 9 ztc (n + 60) 1679 269 L6 [] h1 = some ([1], h2) := by
    refine (ca_269 (n := n + 59)).trans ?_
    refine (e_iload lL6_1 (by decide)).trans ?_
    refine (e_push).trans ?_
    refine (e_push).trans ?_
    have m10 : zrunX zXt 9 ztc (n + 59) 1678 217 L9 [] h1 = some ([1], h1) := by
      refine (ca_217 (n := n + 58)).trans ?_
      refine (e_iload lL9_0 (by decide)).trans ?_
      refine (e_iload lL9_1 (by decide)).trans ?_
      refine (f_cmp_f (f := z_lt) (by decide) (by decide) (by decide +kernel)).trans ?_
      refine (e_iload lL9_0 (by decide)).trans ?_
      refine (e_iload lL9_2 (by decide)).trans ?_
      refine (f_cmp_f (f := z_gt) (by decide) (by decide) (by decide +kernel)).trans ?_
      refine (e_push).trans ?_
      show q_X12_in_15 _ _ _ _ _ = _
      exact e_zret (R := zrunX zXt 9 ztc (n + 58)) (d := 1678) (L := L9) (h := h1) (v := 1) (by decide)
    refine (f_callS (d' := 1678) (S0 := [8, 0, 3]) (S' := []) (S2 := [1]) (fun q => by rw [zargs_s q (by decide), ← eL7, zargs_s q (by decide), ← eL8, zargs_s q (by decide), ← eL9]; rfl) (Nat.le_of_ble_eq_true rfl) m10 (hs1.trans hs1.symm) rfl).trans ?_
    refine (f_if_t (f := fun a => z_ne a 0) (by decide) (by decide +kernel)).trans ?_
    refine (e_iload lL6_1 (by decide)).trans ?_
    refine (e_push).trans ?_
    refine (f_cmp_f (f := z_ge) (by decide) (by decide) (by decide +kernel)).trans ?_
    refine (e_aload lL6_0 (by decide)).trans ?_
    refine (f_getf (k := 61) (by rw [hs1]; decide) g61_1 st61_0 (by rw [ln61_0]; decide) v61_1_0).trans ?_
    refine (e_push).trans ?_
    refine (e_aald (k := 65) (by decide) (by rw [hs1]; decide) g65_1 st65_0 (by rw [ln65_0]; decide) v65_1_0 (by decide)).trans ?_
    refine (e_iload lL6_1 (by decide)).trans ?_
    refine (e_iload lL6_2 hw).trans ?_
    refine (e_push).trans ?_
    refine (f_bin (f := z_and) (v := (w % 65536)) hw (by decide) (z_and_m (k := 16) (by decide))).trans ?_
    refine (f_iast (k := 67) (show (w % 65536) < 4294967296 from (Nat.lt_trans (Nat.mod_lt _ (by decide)) (by decide))) (by decide) (by rw [hs1]; decide) g67_1 st67_0 (by rw [ln67_0]; decide) eh2.symm).trans ?_
    show q_X12_set_61 _ _ _ _ _ = _
    refine (e_push).trans ?_
    exact e_zret (R := zrunX zXt 9 ztc (n + 59)) (d := 1679) (L := L6) (h := h2) (v := 1) (by decide)
  rw [eL3, eL2, eL1] at A1
  rw [eL6, eL5, eL4] at A2
  exact ⟨_, _, _, (by decide), A1, hs1, MS, A2, hs2, sl2⟩
theorem fs_set_4 (w : Nat) (hw : w < 4294967296) (n : Nat) : zFst n 167 (zput (zput (zput 0 2 (w + 1)) 1 (4 + 1)) 0 (4294967297 + 1)) 269 (zput (zput (zput 0 2 (w + 1)) 1 (4 + 1)) 0 (4294967358 + 1)) := by
  have hs0 : hbB16.1 = 129 := rfl
  have sl0 : hbB16.2.1 = 650610 := rfl
  obtain ⟨L1, eL1⟩ : ∃ x : Nat, x = zput 0 2 (w + 1) := ⟨_, rfl⟩
  obtain ⟨L2, eL2⟩ : ∃ x : Nat, x = zput L1 1 (4 + 1) := ⟨_, rfl⟩
  obtain ⟨L3, eL3⟩ : ∃ x : Nat, x = zput L2 0 (4294967297 + 1) := ⟨_, rfl⟩
  have lL2_1 : zlane L2 1 = 4 + 1 := by rw [eL2]; exact zlane_same (by decide)
  have lL3_1 : zlane L3 1 = 4 + 1 := by rw [eL3]; exact (zlane_ne (by decide) (by decide)).trans lL2_1
  have lL3_0 : zlane L3 0 = 4294967297 + 1 := by rw [eL3]; exact zlane_same (by decide)
  have v0_2_0 : zcv haA0_c0 2 = 4294967299 := by decide +kernel
  have g0_0 : zget 8 hbB16.2.2 0 = haA0_c0 := rfl
  have st0_0 : haA0_c0.1 = 11 := rfl
  have ln0_0 : haA0_c0.2.1 = 18 := rfl
  have v2_1_0 : zcv haA0_c2 1 = 4294967300 := by decide +kernel
  have g2_0 : zget 8 hbB16.2.2 2 = haA0_c2 := rfl
  have st2_0 : haA0_c2.1 = 3 := rfl
  have ln2_0 : haA0_c2.2.1 = 7 := rfl
  have lL1_2 : zlane L1 2 = w + 1 := by rw [eL1]; exact zlane_same (Nat.lt_of_le_of_lt (Nat.succ_le_of_lt hw) (by decide))
  have lL2_2 : zlane L2 2 = w + 1 := by rw [eL2]; exact (zlane_ne (by decide) (by decide)).trans lL1_2
  have lL3_2 : zlane L3 2 = w + 1 := by rw [eL3]; exact (zlane_ne (by decide) (by decide)).trans lL2_2
  have g3_0 : zget 8 hbB16.2.2 3 = haA0_c3 := rfl
  have st3_0 : haA0_c3.1 = 100 := rfl
  have ln3_0 : haA0_c3.2.1 = 8 := rfl
  obtain ⟨h1, eh1⟩ : ∃ x : zH, x = (hbB16.1, hbB16.2.1, zst 8 hbB16.2.2 3 (fun c => zcst c 4 (w % 65536))) := ⟨_, rfl⟩
  have hs1 : h1.1 = 129 := by rw [eh1]; exact hs0
  have sl1 : h1.2.1 = 650610 := by rw [eh1]; exact sl0
  obtain ⟨L4, eL4⟩ : ∃ x : Nat, x = zput 0 2 (w + 1) := ⟨_, rfl⟩
  obtain ⟨L5, eL5⟩ : ∃ x : Nat, x = zput L4 1 (4 + 1) := ⟨_, rfl⟩
  obtain ⟨L6, eL6⟩ : ∃ x : Nat, x = zput L5 0 (4294967358 + 1) := ⟨_, rfl⟩
  have lL5_1 : zlane L5 1 = 4 + 1 := by rw [eL5]; exact zlane_same (by decide)
  have lL6_1 : zlane L6 1 = 4 + 1 := by rw [eL6]; exact (zlane_ne (by decide) (by decide)).trans lL5_1
  obtain ⟨L7, eL7⟩ : ∃ x : Nat, x = zput 0 2 (8 + 1) := ⟨_, rfl⟩
  obtain ⟨L8, eL8⟩ : ∃ x : Nat, x = zput L7 1 (0 + 1) := ⟨_, rfl⟩
  obtain ⟨L9, eL9⟩ : ∃ x : Nat, x = zput L8 0 (4 + 1) := ⟨_, rfl⟩
  have lL9_0 : zlane L9 0 = 4 + 1 := by rw [eL9]; exact zlane_same (by decide)
  have lL8_1 : zlane L8 1 = 0 + 1 := by rw [eL8]; exact zlane_same (by decide)
  have lL9_1 : zlane L9 1 = 0 + 1 := by rw [eL9]; exact (zlane_ne (by decide) (by decide)).trans lL8_1
  have lL7_2 : zlane L7 2 = 8 + 1 := by rw [eL7]; exact zlane_same (by decide)
  have lL8_2 : zlane L8 2 = 8 + 1 := by rw [eL8]; exact (zlane_ne (by decide) (by decide)).trans lL7_2
  have lL9_2 : zlane L9 2 = 8 + 1 := by rw [eL9]; exact (zlane_ne (by decide) (by decide)).trans lL8_2
  have lL6_0 : zlane L6 0 = 4294967358 + 1 := by rw [eL6]; exact zlane_same (by decide)
  have v61_1_0 : zcv hbB15_c61 1 = 4294967362 := by decide +kernel
  have g61_0 : zget 8 hbB16.2.2 61 = hbB15_c61 := rfl
  have g61_1 : zget 8 h1.2.2 61 = hbB15_c61 := by rw [eh1]; exact zg_n (by decide) (by decide) (by decide) g61_0
  have st61_0 : hbB15_c61.1 = 12 := rfl
  have ln61_0 : hbB15_c61.2.1 = 114 := rfl
  have v65_1_0 : zcv haB6_c65 1 = 4294967364 := by decide +kernel
  have g65_0 : zget 8 hbB16.2.2 65 = haB6_c65 := rfl
  have g65_1 : zget 8 h1.2.2 65 = haB6_c65 := by rw [eh1]; exact zg_n (by decide) (by decide) (by decide) g65_0
  have st65_0 : haB6_c65.1 = 102 := rfl
  have ln65_0 : haB6_c65.2.1 = 2 := rfl
  have lL4_2 : zlane L4 2 = w + 1 := by rw [eL4]; exact zlane_same (Nat.lt_of_le_of_lt (Nat.succ_le_of_lt hw) (by decide))
  have lL5_2 : zlane L5 2 = w + 1 := by rw [eL5]; exact (zlane_ne (by decide) (by decide)).trans lL4_2
  have lL6_2 : zlane L6 2 = w + 1 := by rw [eL6]; exact (zlane_ne (by decide) (by decide)).trans lL5_2
  have g67_0 : zget 8 hbB16.2.2 67 = haA0_c3 := rfl
  have g67_1 : zget 8 h1.2.2 67 = haA0_c3 := by rw [eh1]; exact zg_n (by decide) (by decide) (by decide) g67_0
  have st67_0 : haA0_c3.1 = 100 := rfl
  have ln67_0 : haA0_c3.2.1 = 8 := rfl
  obtain ⟨h2, eh2⟩ : ∃ x : zH, x = (h1.1, h1.2.1, zst 8 h1.2.2 67 (fun c => zcst c 4 (w % 65536))) := ⟨_, rfl⟩
  have hs2 : h2.1 = 129 := by rw [eh2]; exact hs1
  have sl2 : h2.2.1 = 650610 := by rw [eh2]; exact sl1
  have MS : (zget 8 h1.2.2 61).1 = 12 := by rw [g61_1]; exact st61_0
  have A1 : zrunX zXt 9 ztc (n + 60) 1679 167 L3 [] hbB16 = some ([1], h1) := by
    refine (ca_167 (n := n + 59)).trans ?_
    refine (e_iload lL3_1 (by decide)).trans ?_
    refine (e_push).trans ?_
    refine (f_cmp_t (f := z_ne) (by decide) (by decide) (by decide +kernel)).trans ?_
    refine (e_iload lL3_1 (by decide)).trans ?_
    refine (f_if_f (f := fun a => z_lt a 0) (by decide) (by decide +kernel)).trans ?_
    refine (e_iload lL3_1 (by decide)).trans ?_
    refine (e_push).trans ?_
    refine (f_cmp_t (f := z_le) (by decide) (by decide) (by decide +kernel)).trans ?_
    refine (e_aload lL3_0 (by decide)).trans ?_
    refine (f_getf (k := 0) (by rw [hs0]; decide) g0_0 st0_0 (by rw [ln0_0]; decide) v0_2_0).trans ?_
    refine (f_getf (k := 2) (by rw [hs0]; decide) g2_0 st2_0 (by rw [ln2_0]; decide) v2_1_0).trans ?_
    refine (e_iload lL3_1 (by decide)).trans ?_
    refine (e_iload lL3_2 hw).trans ?_
    refine (e_push).trans ?_
    refine (f_bin (f := z_and) (v := (w % 65536)) hw (by decide) (z_and_m (k := 16) (by decide))).trans ?_
    refine (f_iast (k := 3) (show (w % 65536) < 4294967296 from (Nat.lt_trans (Nat.mod_lt _ (by decide)) (by decide))) (by decide) (by rw [hs0]; decide) g3_0 st3_0 (by rw [ln3_0]; decide) eh1.symm).trans ?_
    refine (e_push).trans ?_
    exact e_zret (R := zrunX zXt 9 ztc (n + 59)) (d := 1679) (L := L3) (h := h1) (v := 1) (by decide)
  have A2 : zrunX zXt 9 ztc (n + 60) 1679 269 L6 [] h1 = some ([1], h2) := by
    refine (ca_269 (n := n + 59)).trans ?_
    refine (e_iload lL6_1 (by decide)).trans ?_
    refine (e_push).trans ?_
    refine (e_push).trans ?_
    have m10 : zrunX zXt 9 ztc (n + 59) 1678 217 L9 [] h1 = some ([1], h1) := by
      refine (ca_217 (n := n + 58)).trans ?_
      refine (e_iload lL9_0 (by decide)).trans ?_
      refine (e_iload lL9_1 (by decide)).trans ?_
      refine (f_cmp_f (f := z_lt) (by decide) (by decide) (by decide +kernel)).trans ?_
      refine (e_iload lL9_0 (by decide)).trans ?_
      refine (e_iload lL9_2 (by decide)).trans ?_
      refine (f_cmp_f (f := z_gt) (by decide) (by decide) (by decide +kernel)).trans ?_
      refine (e_push).trans ?_
      show q_X12_in_15 _ _ _ _ _ = _
      exact e_zret (R := zrunX zXt 9 ztc (n + 58)) (d := 1678) (L := L9) (h := h1) (v := 1) (by decide)
    refine (f_callS (d' := 1678) (S0 := [8, 0, 4]) (S' := []) (S2 := [1]) (fun q => by rw [zargs_s q (by decide), ← eL7, zargs_s q (by decide), ← eL8, zargs_s q (by decide), ← eL9]; rfl) (Nat.le_of_ble_eq_true rfl) m10 (hs1.trans hs1.symm) rfl).trans ?_
    refine (f_if_t (f := fun a => z_ne a 0) (by decide) (by decide +kernel)).trans ?_
    refine (e_iload lL6_1 (by decide)).trans ?_
    refine (e_push).trans ?_
    refine (f_cmp_f (f := z_ge) (by decide) (by decide) (by decide +kernel)).trans ?_
    refine (e_aload lL6_0 (by decide)).trans ?_
    refine (f_getf (k := 61) (by rw [hs1]; decide) g61_1 st61_0 (by rw [ln61_0]; decide) v61_1_0).trans ?_
    refine (e_push).trans ?_
    refine (e_aald (k := 65) (by decide) (by rw [hs1]; decide) g65_1 st65_0 (by rw [ln65_0]; decide) v65_1_0 (by decide)).trans ?_
    refine (e_iload lL6_1 (by decide)).trans ?_
    refine (e_iload lL6_2 hw).trans ?_
    refine (e_push).trans ?_
    refine (f_bin (f := z_and) (v := (w % 65536)) hw (by decide) (z_and_m (k := 16) (by decide))).trans ?_
    refine (f_iast (k := 67) (show (w % 65536) < 4294967296 from (Nat.lt_trans (Nat.mod_lt _ (by decide)) (by decide))) (by decide) (by rw [hs1]; decide) g67_1 st67_0 (by rw [ln67_0]; decide) eh2.symm).trans ?_
    show q_X12_set_61 _ _ _ _ _ = _
    refine (e_push).trans ?_
    exact e_zret (R := zrunX zXt 9 ztc (n + 59)) (d := 1679) (L := L6) (h := h2) (v := 1) (by decide)
  rw [eL3, eL2, eL1] at A1
  rw [eL6, eL5, eL4] at A2
  exact ⟨_, _, _, (by decide), A1, hs1, MS, A2, hs2, sl2⟩
theorem fs_set_5 (w : Nat) (hw : w < 4294967296) (n : Nat) : zFst n 167 (zput (zput (zput 0 2 (w + 1)) 1 (5 + 1)) 0 (4294967297 + 1)) 269 (zput (zput (zput 0 2 (w + 1)) 1 (5 + 1)) 0 (4294967358 + 1)) := by
  have hs0 : hbB16.1 = 129 := rfl
  have sl0 : hbB16.2.1 = 650610 := rfl
  obtain ⟨L1, eL1⟩ : ∃ x : Nat, x = zput 0 2 (w + 1) := ⟨_, rfl⟩
  obtain ⟨L2, eL2⟩ : ∃ x : Nat, x = zput L1 1 (5 + 1) := ⟨_, rfl⟩
  obtain ⟨L3, eL3⟩ : ∃ x : Nat, x = zput L2 0 (4294967297 + 1) := ⟨_, rfl⟩
  have lL2_1 : zlane L2 1 = 5 + 1 := by rw [eL2]; exact zlane_same (by decide)
  have lL3_1 : zlane L3 1 = 5 + 1 := by rw [eL3]; exact (zlane_ne (by decide) (by decide)).trans lL2_1
  have lL3_0 : zlane L3 0 = 4294967297 + 1 := by rw [eL3]; exact zlane_same (by decide)
  have v0_2_0 : zcv haA0_c0 2 = 4294967299 := by decide +kernel
  have g0_0 : zget 8 hbB16.2.2 0 = haA0_c0 := rfl
  have st0_0 : haA0_c0.1 = 11 := rfl
  have ln0_0 : haA0_c0.2.1 = 18 := rfl
  have v2_1_0 : zcv haA0_c2 1 = 4294967300 := by decide +kernel
  have g2_0 : zget 8 hbB16.2.2 2 = haA0_c2 := rfl
  have st2_0 : haA0_c2.1 = 3 := rfl
  have ln2_0 : haA0_c2.2.1 = 7 := rfl
  have lL1_2 : zlane L1 2 = w + 1 := by rw [eL1]; exact zlane_same (Nat.lt_of_le_of_lt (Nat.succ_le_of_lt hw) (by decide))
  have lL2_2 : zlane L2 2 = w + 1 := by rw [eL2]; exact (zlane_ne (by decide) (by decide)).trans lL1_2
  have lL3_2 : zlane L3 2 = w + 1 := by rw [eL3]; exact (zlane_ne (by decide) (by decide)).trans lL2_2
  have g3_0 : zget 8 hbB16.2.2 3 = haA0_c3 := rfl
  have st3_0 : haA0_c3.1 = 100 := rfl
  have ln3_0 : haA0_c3.2.1 = 8 := rfl
  obtain ⟨h1, eh1⟩ : ∃ x : zH, x = (hbB16.1, hbB16.2.1, zst 8 hbB16.2.2 3 (fun c => zcst c 5 (w % 65536))) := ⟨_, rfl⟩
  have hs1 : h1.1 = 129 := by rw [eh1]; exact hs0
  have sl1 : h1.2.1 = 650610 := by rw [eh1]; exact sl0
  obtain ⟨L4, eL4⟩ : ∃ x : Nat, x = zput 0 2 (w + 1) := ⟨_, rfl⟩
  obtain ⟨L5, eL5⟩ : ∃ x : Nat, x = zput L4 1 (5 + 1) := ⟨_, rfl⟩
  obtain ⟨L6, eL6⟩ : ∃ x : Nat, x = zput L5 0 (4294967358 + 1) := ⟨_, rfl⟩
  have lL5_1 : zlane L5 1 = 5 + 1 := by rw [eL5]; exact zlane_same (by decide)
  have lL6_1 : zlane L6 1 = 5 + 1 := by rw [eL6]; exact (zlane_ne (by decide) (by decide)).trans lL5_1
  obtain ⟨L7, eL7⟩ : ∃ x : Nat, x = zput 0 2 (8 + 1) := ⟨_, rfl⟩
  obtain ⟨L8, eL8⟩ : ∃ x : Nat, x = zput L7 1 (0 + 1) := ⟨_, rfl⟩
  obtain ⟨L9, eL9⟩ : ∃ x : Nat, x = zput L8 0 (5 + 1) := ⟨_, rfl⟩
  have lL9_0 : zlane L9 0 = 5 + 1 := by rw [eL9]; exact zlane_same (by decide)
  have lL8_1 : zlane L8 1 = 0 + 1 := by rw [eL8]; exact zlane_same (by decide)
  have lL9_1 : zlane L9 1 = 0 + 1 := by rw [eL9]; exact (zlane_ne (by decide) (by decide)).trans lL8_1
  have lL7_2 : zlane L7 2 = 8 + 1 := by rw [eL7]; exact zlane_same (by decide)
  have lL8_2 : zlane L8 2 = 8 + 1 := by rw [eL8]; exact (zlane_ne (by decide) (by decide)).trans lL7_2
  have lL9_2 : zlane L9 2 = 8 + 1 := by rw [eL9]; exact (zlane_ne (by decide) (by decide)).trans lL8_2
  have lL6_0 : zlane L6 0 = 4294967358 + 1 := by rw [eL6]; exact zlane_same (by decide)
  have v61_1_0 : zcv hbB15_c61 1 = 4294967362 := by decide +kernel
  have g61_0 : zget 8 hbB16.2.2 61 = hbB15_c61 := rfl
  have g61_1 : zget 8 h1.2.2 61 = hbB15_c61 := by rw [eh1]; exact zg_n (by decide) (by decide) (by decide) g61_0
  have st61_0 : hbB15_c61.1 = 12 := rfl
  have ln61_0 : hbB15_c61.2.1 = 114 := rfl
  have v65_1_0 : zcv haB6_c65 1 = 4294967364 := by decide +kernel
  have g65_0 : zget 8 hbB16.2.2 65 = haB6_c65 := rfl
  have g65_1 : zget 8 h1.2.2 65 = haB6_c65 := by rw [eh1]; exact zg_n (by decide) (by decide) (by decide) g65_0
  have st65_0 : haB6_c65.1 = 102 := rfl
  have ln65_0 : haB6_c65.2.1 = 2 := rfl
  have lL4_2 : zlane L4 2 = w + 1 := by rw [eL4]; exact zlane_same (Nat.lt_of_le_of_lt (Nat.succ_le_of_lt hw) (by decide))
  have lL5_2 : zlane L5 2 = w + 1 := by rw [eL5]; exact (zlane_ne (by decide) (by decide)).trans lL4_2
  have lL6_2 : zlane L6 2 = w + 1 := by rw [eL6]; exact (zlane_ne (by decide) (by decide)).trans lL5_2
  have g67_0 : zget 8 hbB16.2.2 67 = haA0_c3 := rfl
  have g67_1 : zget 8 h1.2.2 67 = haA0_c3 := by rw [eh1]; exact zg_n (by decide) (by decide) (by decide) g67_0
  have st67_0 : haA0_c3.1 = 100 := rfl
  have ln67_0 : haA0_c3.2.1 = 8 := rfl
  obtain ⟨h2, eh2⟩ : ∃ x : zH, x = (h1.1, h1.2.1, zst 8 h1.2.2 67 (fun c => zcst c 5 (w % 65536))) := ⟨_, rfl⟩
  have hs2 : h2.1 = 129 := by rw [eh2]; exact hs1
  have sl2 : h2.2.1 = 650610 := by rw [eh2]; exact sl1
  have MS : (zget 8 h1.2.2 61).1 = 12 := by rw [g61_1]; exact st61_0
  have A1 : zrunX zXt 9 ztc (n + 60) 1679 167 L3 [] hbB16 = some ([1], h1) := by
    refine (ca_167 (n := n + 59)).trans ?_
    refine (e_iload lL3_1 (by decide)).trans ?_
    refine (e_push).trans ?_
    refine (f_cmp_t (f := z_ne) (by decide) (by decide) (by decide +kernel)).trans ?_
    refine (e_iload lL3_1 (by decide)).trans ?_
    refine (f_if_f (f := fun a => z_lt a 0) (by decide) (by decide +kernel)).trans ?_
    refine (e_iload lL3_1 (by decide)).trans ?_
    refine (e_push).trans ?_
    refine (f_cmp_t (f := z_le) (by decide) (by decide) (by decide +kernel)).trans ?_
    refine (e_aload lL3_0 (by decide)).trans ?_
    refine (f_getf (k := 0) (by rw [hs0]; decide) g0_0 st0_0 (by rw [ln0_0]; decide) v0_2_0).trans ?_
    refine (f_getf (k := 2) (by rw [hs0]; decide) g2_0 st2_0 (by rw [ln2_0]; decide) v2_1_0).trans ?_
    refine (e_iload lL3_1 (by decide)).trans ?_
    refine (e_iload lL3_2 hw).trans ?_
    refine (e_push).trans ?_
    refine (f_bin (f := z_and) (v := (w % 65536)) hw (by decide) (z_and_m (k := 16) (by decide))).trans ?_
    refine (f_iast (k := 3) (show (w % 65536) < 4294967296 from (Nat.lt_trans (Nat.mod_lt _ (by decide)) (by decide))) (by decide) (by rw [hs0]; decide) g3_0 st3_0 (by rw [ln3_0]; decide) eh1.symm).trans ?_
    refine (e_push).trans ?_
    exact e_zret (R := zrunX zXt 9 ztc (n + 59)) (d := 1679) (L := L3) (h := h1) (v := 1) (by decide)
  have A2 : zrunX zXt 9 ztc (n + 60) 1679 269 L6 [] h1 = some ([1], h2) := by
    refine (ca_269 (n := n + 59)).trans ?_
    refine (e_iload lL6_1 (by decide)).trans ?_
    refine (e_push).trans ?_
    refine (e_push).trans ?_
    have m10 : zrunX zXt 9 ztc (n + 59) 1678 217 L9 [] h1 = some ([1], h1) := by
      refine (ca_217 (n := n + 58)).trans ?_
      refine (e_iload lL9_0 (by decide)).trans ?_
      refine (e_iload lL9_1 (by decide)).trans ?_
      refine (f_cmp_f (f := z_lt) (by decide) (by decide) (by decide +kernel)).trans ?_
      refine (e_iload lL9_0 (by decide)).trans ?_
      refine (e_iload lL9_2 (by decide)).trans ?_
      refine (f_cmp_f (f := z_gt) (by decide) (by decide) (by decide +kernel)).trans ?_
      refine (e_push).trans ?_
      show q_X12_in_15 _ _ _ _ _ = _
      exact e_zret (R := zrunX zXt 9 ztc (n + 58)) (d := 1678) (L := L9) (h := h1) (v := 1) (by decide)
    refine (f_callS (d' := 1678) (S0 := [8, 0, 5]) (S' := []) (S2 := [1]) (fun q => by rw [zargs_s q (by decide), ← eL7, zargs_s q (by decide), ← eL8, zargs_s q (by decide), ← eL9]; rfl) (Nat.le_of_ble_eq_true rfl) m10 (hs1.trans hs1.symm) rfl).trans ?_
    refine (f_if_t (f := fun a => z_ne a 0) (by decide) (by decide +kernel)).trans ?_
    refine (e_iload lL6_1 (by decide)).trans ?_
    refine (e_push).trans ?_
    refine (f_cmp_f (f := z_ge) (by decide) (by decide) (by decide +kernel)).trans ?_
    refine (e_aload lL6_0 (by decide)).trans ?_
    refine (f_getf (k := 61) (by rw [hs1]; decide) g61_1 st61_0 (by rw [ln61_0]; decide) v61_1_0).trans ?_
    refine (e_push).trans ?_
    refine (e_aald (k := 65) (by decide) (by rw [hs1]; decide) g65_1 st65_0 (by rw [ln65_0]; decide) v65_1_0 (by decide)).trans ?_
    refine (e_iload lL6_1 (by decide)).trans ?_
    refine (e_iload lL6_2 hw).trans ?_
    refine (e_push).trans ?_
    refine (f_bin (f := z_and) (v := (w % 65536)) hw (by decide) (z_and_m (k := 16) (by decide))).trans ?_
    refine (f_iast (k := 67) (show (w % 65536) < 4294967296 from (Nat.lt_trans (Nat.mod_lt _ (by decide)) (by decide))) (by decide) (by rw [hs1]; decide) g67_1 st67_0 (by rw [ln67_0]; decide) eh2.symm).trans ?_
    show q_X12_set_61 _ _ _ _ _ = _
    refine (e_push).trans ?_
    exact e_zret (R := zrunX zXt 9 ztc (n + 59)) (d := 1679) (L := L6) (h := h2) (v := 1) (by decide)
  rw [eL3, eL2, eL1] at A1
  rw [eL6, eL5, eL4] at A2
  exact ⟨_, _, _, (by decide), A1, hs1, MS, A2, hs2, sl2⟩
