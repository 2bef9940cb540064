theorem fs_word_even_o0 (v : Nat) (hv : v < 4294967296) (i1 : v < 65536) (i2 : v % 2 = 0) : (0 + 2147483648) % 4294967296 ≤ (v + 2147483648) % 4294967296 := by omega
theorem fs_word_even_o1 (v : Nat) (hv : v < 4294967296) (i1 : v < 65536) (i2 : v % 2 = 0) : v < 2147483648 := by omega
theorem fs_word_even_o2 (v : Nat) (hv : v < 4294967296) (i1 : v < 65536) (i2 : v % 2 = 0) : ((v / 2) + 2147483648) % 4294967296 < (32768 + 2147483648) % 4294967296 := by omega
theorem fs_word_even_o3 (v : Nat) (hv : v < 4294967296) (i1 : v < 65536) (i2 : v % 2 = 0) : (0 + 2147483648) % 4294967296 ≤ ((v / 2) + 2147483648) % 4294967296 := by omega
theorem fs_word_even_o4 (v : Nat) (hv : v < 4294967296) (i1 : v < 65536) (i2 : v % 2 = 0) : (v / 2) < 32768 := by omega
theorem fs_word_even_o5 (v : Nat) (hv : v < 4294967296) (i1 : v < 65536) (i2 : v % 2 = 0) : (v + 2147483648) % 4294967296 ≤ (65535 + 2147483648) % 4294967296 := by omega
theorem fs_word_even_o6 (v : Nat) (hv : v < 4294967296) (i1 : v < 65536) (i2 : v % 2 = 0) : v + 1 < 4294967296 := by omega
theorem fs_word_even_o7 (v : Nat) (hv : v < 4294967296) (i1 : v < 65536) (i2 : v % 2 = 0) : (v + 1) < 4294967296 := by omega
theorem fs_word_even_o8 (v : Nat) (hv : v < 4294967296) (i1 : v < 65536) (i2 : v % 2 = 0) : (v + 1) < 65536 := by omega
theorem fs_word_even (v : Nat) (hv : v < 4294967296) (i1 : v < 65536) (i2 : v % 2 = 0) (n : Nat) : zFst n 174 (zput (zput 0 1 (v + 1)) 0 (4294967297 + 1)) 295 (zput (zput 0 1 (v + 1)) 0 (4294967358 + 1)) := by
  have hs0 : hbB16.1 = 129 := rfl
  have sl0 : hbB16.2.1 = 650610 := rfl
  obtain ⟨L1, eL1⟩ : ∃ x : Nat, x = zput 0 1 (v + 1) := ⟨_, rfl⟩
  obtain ⟨L2, eL2⟩ : ∃ x : Nat, x = zput L1 0 (4294967297 + 1) := ⟨_, rfl⟩
  have lL2_0 : zlane L2 0 = 4294967297 + 1 := by rw [eL2]; exact zlane_same (by decide)
  have v0_4_0 : zcv haA0_c0 4 = 4294967302 := by decide +kernel
  have g0_0 : zget 8 hbB16.2.2 0 = haA0_c0 := rfl
  have st0_0 : haA0_c0.1 = 11 := rfl
  have ln0_0 : haA0_c0.2.1 = 18 := rfl
  have lL1_1 : zlane L1 1 = v + 1 := by rw [eL1]; exact zlane_same (Nat.lt_of_le_of_lt (Nat.succ_le_of_lt hv) (by decide))
  have lL2_1 : zlane L2 1 = v + 1 := by rw [eL2]; exact (zlane_ne (by decide) (by decide)).trans lL1_1
  obtain ⟨L3, eL3⟩ : ∃ x : Nat, x = zput 0 1 (v + 1) := ⟨_, rfl⟩
  obtain ⟨L4, eL4⟩ : ∃ x : Nat, x = zput L3 0 (4294967302 + 1) := ⟨_, rfl⟩
  have lL3_1 : zlane L3 1 = v + 1 := by rw [eL3]; exact zlane_same (Nat.lt_of_le_of_lt (Nat.succ_le_of_lt hv) (by decide))
  have lL4_1 : zlane L4 1 = v + 1 := by rw [eL4]; exact (zlane_ne (by decide) (by decide)).trans lL3_1
  have lL4_0 : zlane L4 0 = 4294967302 + 1 := by rw [eL4]; exact zlane_same (by decide)
  have v5_0_0 : zcv haA0_c5 0 = 4294967304 := by decide +kernel
  have g5_0 : zget 8 hbB16.2.2 5 = haA0_c5 := rfl
  have st5_0 : haA0_c5.1 = 3 := rfl
  have ln5_0 : haA0_c5.2.1 = 7 := rfl
  have g7_0 : zget 8 hbB16.2.2 7 = hbA3_c7 := rfl
  have st7_0 : hbA3_c7.1 = 100 := rfl
  have ln7_0 : hbA3_c7.2.1 = 32768 := rfl
  obtain ⟨L6, eL6⟩ : ∃ x : Nat, x = zput 0 1 (v + 1) := ⟨_, rfl⟩
  obtain ⟨L7, eL7⟩ : ∃ x : Nat, x = zput L6 0 (4294967302 + 1) := ⟨_, rfl⟩
  have lL6_1 : zlane L6 1 = v + 1 := by rw [eL6]; exact zlane_same (Nat.lt_of_le_of_lt (Nat.succ_le_of_lt hv) (by decide))
  have lL7_1 : zlane L7 1 = v + 1 := by rw [eL7]; exact (zlane_ne (by decide) (by decide)).trans lL6_1
  obtain ⟨L9, eL9⟩ : ∃ x : Nat, x = zput L7 2 ((v / 2) + 1) := ⟨_, rfl⟩
  have lL9_1 : zlane L9 1 = v + 1 := by rw [eL9]; exact (zlane_ne (Nat.lt_of_le_of_lt (Nat.succ_le_of_lt (show (v / 2) < 4294967296 from (Nat.lt_of_le_of_lt (Nat.div_le_self _ _) hv))) (by decide)) (by decide)).trans lL7_1
  have lL9_2 : zlane L9 2 = (v / 2) + 1 := by rw [eL9]; exact zlane_same (Nat.lt_of_le_of_lt (Nat.succ_le_of_lt (show (v / 2) < 4294967296 from (Nat.lt_of_le_of_lt (Nat.div_le_self _ _) hv))) (by decide))
  have lL7_0 : zlane L7 0 = 4294967302 + 1 := by rw [eL7]; exact zlane_same (by decide)
  have lL9_0 : zlane L9 0 = 4294967302 + 1 := by rw [eL9]; exact (zlane_ne (Nat.lt_of_le_of_lt (Nat.succ_le_of_lt (show (v / 2) < 4294967296 from (Nat.lt_of_le_of_lt (Nat.div_le_self _ _) hv))) (by decide)) (by decide)).trans lL7_0
  obtain ⟨L10, eL10⟩ : ∃ x : Nat, x = zput 0 1 (v + 1) := ⟨_, rfl⟩
  obtain ⟨L11, eL11⟩ : ∃ x : Nat, x = zput L10 0 (4294967358 + 1) := ⟨_, rfl⟩
  have lL10_1 : zlane L10 1 = v + 1 := by rw [eL10]; exact zlane_same (Nat.lt_of_le_of_lt (Nat.succ_le_of_lt hv) (by decide))
  have lL11_1 : zlane L11 1 = v + 1 := by rw [eL11]; exact (zlane_ne (by decide) (by decide)).trans lL10_1
  obtain ⟨L12, eL12⟩ : ∃ x : Nat, x = zput 0 2 (65535 + 1) := ⟨_, rfl⟩
  obtain ⟨L13, eL13⟩ : ∃ x : Nat, x = zput L12 1 (0 + 1) := ⟨_, rfl⟩
  obtain ⟨L14, eL14⟩ : ∃ x : Nat, x = zput L13 0 (v + 1) := ⟨_, rfl⟩
  have lL14_0 : zlane L14 0 = v + 1 := by rw [eL14]; exact zlane_same (Nat.lt_of_le_of_lt (Nat.succ_le_of_lt hv) (by decide))
  have lL13_1 : zlane L13 1 = 0 + 1 := by rw [eL13]; exact zlane_same (by decide)
  have lL14_1 : zlane L14 1 = 0 + 1 := by rw [eL14]; exact (zlane_ne (Nat.lt_of_le_of_lt (Nat.succ_le_of_lt hv) (by decide)) (by decide)).trans lL13_1
  have lL12_2 : zlane L12 2 = 65535 + 1 := by rw [eL12]; exact zlane_same (by decide)
  have lL13_2 : zlane L13 2 = 65535 + 1 := by rw [eL13]; exact (zlane_ne (by decide) (by decide)).trans lL12_2
  have lL14_2 : zlane L14 2 = 65535 + 1 := by rw [eL14]; exact (zlane_ne (Nat.lt_of_le_of_lt (Nat.succ_le_of_lt hv) (by decide)) (by decide)).trans lL13_2
  have lL11_0 : zlane L11 0 = 4294967358 + 1 := by rw [eL11]; exact zlane_same (by decide)
  obtain ⟨L16, eL16⟩ : ∃ x : Nat, x = zput 0 1 (v + 1) := ⟨_, rfl⟩
  obtain ⟨L17, eL17⟩ : ∃ x : Nat, x = zput L16 0 (4294967358 + 1) := ⟨_, rfl⟩
  have lL17_0 : zlane L17 0 = 4294967358 + 1 := by rw [eL17]; exact zlane_same (by decide)
  have v61_0_0 : zcv hbB15_c61 0 = 4294967359 := by decide +kernel
  have g61_0 : zget 8 hbB16.2.2 61 = hbB15_c61 := rfl
  have st61_0 : hbB15_c61.1 = 12 := rfl
  have ln61_0 : hbB15_c61.2.1 = 114 := rfl
  have v62_0_0 : zcv haB6_c62 0 = 4294967360 := by decide +kernel
  have g62_0 : zget 8 hbB16.2.2 62 = haB6_c62 := rfl
  have st62_0 : haB6_c62.1 = 102 := rfl
  have ln62_0 : haB6_c62.2.1 = 2 := rfl
  have lL16_1 : zlane L16 1 = v + 1 := by rw [eL16]; exact zlane_same (Nat.lt_of_le_of_lt (Nat.succ_le_of_lt hv) (by decide))
  have lL17_1 : zlane L17 1 = v + 1 := by rw [eL17]; exact (zlane_ne (by decide) (by decide)).trans lL16_1
  have ln63_0 : hbB12_c63.2.1 = 65536 := rfl
  have g63_0 : zget 8 hbB16.2.2 63 = hbB12_c63 := rfl
  have st63_0 : hbB12_c63.1 = 100 := rfl
  have MS : (zget 8 hbB16.2.2 61).1 = 12 := by rw [g61_0]; exact st61_0
  have A1 : zrunX zXt 9 ztc (n + 60) 1679 174 L2 [] hbB16 = some ([(zcv hbA3_c7 (v / 2))], hbB16) := by
    refine (ca_174 (n := n + 59)).trans ?_
    refine (e_aload lL2_0 (by decide)).trans ?_
    refine (f_getf (k := 0) (by rw [hs0]; decide) g0_0 st0_0 (by rw [ln0_0]; decide) v0_4_0).trans ?_
    refine (e_iload lL2_1 hv).trans ?_
    have m5 : zrunX zXt 9 ztc (n + 59) 1678 46 L4 [] hbB16 = some ([1], hbB16) := by
      refine (ca_46 (n := n + 58)).trans ?_
      refine (e_iload lL4_1 hv).trans ?_
      refine (f_if_f (f := fun a => z_lt a 0) hv (zlt_f (a := v) (b := 0) (fs_word_even_o0 v hv i1 i2))).trans ?_
      refine (e_iload lL4_1 hv).trans ?_
      refine (e_push).trans ?_
      refine (f_bin (f := z_and) (v := (v % 2)) hv (by decide) (z_and_m (k := 1) (by decide))).trans ?_
      refine (f_if_f (f := fun a => z_ne a 0) (show (v % 2) < 4294967296 from (Nat.lt_trans (Nat.mod_lt _ (by decide)) (by decide))) (zne_f (a := (v % 2)) (b := 0) i2)).trans ?_
      refine (e_iload lL4_1 hv).trans ?_
      refine (e_push).trans ?_
      refine (f_bin (f := z_shr) (v := (v / 2)) hv (by decide) (z_shr_p (k := 1) (fs_word_even_o1 v hv i1 i2) (by decide))).trans ?_
      refine (e_aload lL4_0 (by decide)).trans ?_
      refine (f_getf (k := 5) (by rw [hs0]; decide) g5_0 st5_0 (by rw [ln5_0]; decide) v5_0_0).trans ?_
      refine (f_len (k := 7) (by rw [hs0]; decide) g7_0 st7_0 ln7_0).trans ?_
      refine (f_cmp_f (f := z_ge) (show (v / 2) < 4294967296 from (Nat.lt_of_le_of_lt (Nat.div_le_self _ _) hv)) (by decide) (zge_f (a := (v / 2)) (b := 32768) (fs_word_even_o2 v hv i1 i2))).trans ?_
      refine (e_push).trans ?_
      show q_X3_holds_26 _ _ _ _ _ = _
      exact e_zret (R := zrunX zXt 9 ztc (n + 58)) (d := 1678) (L := L4) (h := hbB16) (v := 1) (by decide)
    refine (f_callV (k := 5) (d' := 1678) (S0 := [v, 4294967302]) (S' := []) (S2 := [1]) (fun q => by rw [zargs_s q (Nat.le_of_lt (Nat.lt_trans hv (by decide))), ← eL3, zargs_s q (by decide), ← eL4]; rfl) lL4_0 (by rw [hs0]; decide) g5_0 st5_0 (Nat.le_of_ble_eq_true rfl) m5 (hs0.trans hs0.symm) rfl).trans ?_
    refine (f_if_f (f := fun a => Nat.beq a 0) (by decide) (by decide +kernel)).trans ?_
    refine (e_aload lL2_0 (by decide)).trans ?_
    refine (f_getf (k := 0) (by rw [hs0]; decide) g0_0 st0_0 (by rw [ln0_0]; decide) v0_4_0).trans ?_
    refine (e_iload lL2_1 hv).trans ?_
    have m8 : zrunX zXt 9 ztc (n + 59) 1678 44 L7 [] hbB16 = some ([(zcv hbA3_c7 (v / 2))], hbB16) := by
      refine (ca_44 (n := n + 58)).trans ?_
      refine (e_iload lL7_1 hv).trans ?_
      refine (e_push).trans ?_
      refine (f_bin (f := z_shr) (v := (v / 2)) hv (by decide) (z_shr_p (k := 1) (fs_word_even_o1 v hv i1 i2) (by decide))).trans ?_
      refine (f_istore (show (v / 2) < 4294967296 from (Nat.lt_of_le_of_lt (Nat.div_le_self _ _) hv)) eL9.symm).trans ?_
      refine (e_iload lL9_1 hv).trans ?_
      refine (e_push).trans ?_
      refine (f_bin (f := z_and) (v := (v % 2)) hv (by decide) (z_and_m (k := 1) (by decide))).trans ?_
      refine (f_if_f (f := fun a => z_ne a 0) (show (v % 2) < 4294967296 from (Nat.lt_trans (Nat.mod_lt _ (by decide)) (by decide))) (zne_f (a := (v % 2)) (b := 0) i2)).trans ?_
      refine (e_iload lL9_2 (show (v / 2) < 4294967296 from (Nat.lt_of_le_of_lt (Nat.div_le_self _ _) hv))).trans ?_
      refine (f_if_f (f := fun a => z_lt a 0) (show (v / 2) < 4294967296 from (Nat.lt_of_le_of_lt (Nat.div_le_self _ _) hv)) (zlt_f (a := (v / 2)) (b := 0) (fs_word_even_o3 v hv i1 i2))).trans ?_
      refine (e_iload lL9_2 (show (v / 2) < 4294967296 from (Nat.lt_of_le_of_lt (Nat.div_le_self _ _) hv))).trans ?_
      refine (e_aload lL9_0 (by decide)).trans ?_
      refine (f_getf (k := 5) (by rw [hs0]; decide) g5_0 st5_0 (by rw [ln5_0]; decide) v5_0_0).trans ?_
      refine (f_len (k := 7) (by rw [hs0]; decide) g7_0 st7_0 ln7_0).trans ?_
      refine (f_cmp_f (f := z_ge) (show (v / 2) < 4294967296 from (Nat.lt_of_le_of_lt (Nat.div_le_self _ _) hv)) (by decide) (zge_f (a := (v / 2)) (b := 32768) (fs_word_even_o2 v hv i1 i2))).trans ?_
      refine (e_aload lL9_0 (by decide)).trans ?_
      refine (f_getf (k := 5) (by rw [hs0]; decide) g5_0 st5_0 (by rw [ln5_0]; decide) v5_0_0).trans ?_
      refine (e_iload lL9_2 (show (v / 2) < 4294967296 from (Nat.lt_of_le_of_lt (Nat.div_le_self _ _) hv))).trans ?_
      refine (e_iald (k := 7) (show (v / 2) < 4294967296 from (Nat.lt_of_le_of_lt (Nat.div_le_self _ _) hv)) (by rw [hs0]; decide) g7_0 st7_0 (by rw [ln7_0]; exact (fs_word_even_o4 v hv i1 i2)) rfl (zb_cx (v / 2) (fs_word_even_o4 v hv i1 i2))).trans ?_
      show q_X3_at_33 _ _ _ _ _ = _
      exact e_ret (R := zrunX zXt 9 ztc (n + 58)) (d := 1678) (L := L9) (h := hbB16) (v := (zcv hbA3_c7 (v / 2))) (show (zcv hbA3_c7 (v / 2)) < 4294967296 from (zb_cx (v / 2) (fs_word_even_o4 v hv i1 i2)))
    refine (f_callV (k := 5) (d' := 1678) (S0 := [v, 4294967302]) (S' := []) (S2 := [(zcv hbA3_c7 (v / 2))]) (fun q => by rw [zargs_s q (Nat.le_of_lt (Nat.lt_trans hv (by decide))), ← eL6, zargs_s q (by decide), ← eL7]; rfl) lL7_0 (by rw [hs0]; decide) g5_0 st5_0 (Nat.le_of_ble_eq_true rfl) m8 (hs0.trans hs0.symm) rfl).trans ?_
    show q_X11_word_23 _ _ _ _ _ = _
    exact e_ret (R := zrunX zXt 9 ztc (n + 59)) (d := 1679) (L := L2) (h := hbB16) (v := (zcv hbA3_c7 (v / 2))) (show (zcv hbA3_c7 (v / 2)) < 4294967296 from (zb_cx (v / 2) (fs_word_even_o4 v hv i1 i2)))
  have A2 : zrunX zXt 9 ztc (n + 60) 1679 295 L11 [] hbB16 = some ([(z_or (zcv hbB12_c63 v) (z_shl (zcv hbB12_c63 (v + 1)) 8))], hbB16) := by
    refine (ca_295 (n := n + 59)).trans ?_
    refine (e_iload lL11_1 hv).trans ?_
    refine (e_push).trans ?_
    refine (e_push).trans ?_
    have m15 : zrunX zXt 9 ztc (n + 59) 1678 217 L14 [] hbB16 = some ([1], hbB16) := by
      refine (ca_217 (n := n + 58)).trans ?_
      refine (e_iload lL14_0 hv).trans ?_
      refine (e_iload lL14_1 (by decide)).trans ?_
      refine (f_cmp_f (f := z_lt) hv (by decide) (zlt_f (a := v) (b := 0) (fs_word_even_o0 v hv i1 i2))).trans ?_
      refine (e_iload lL14_0 hv).trans ?_
      refine (e_iload lL14_2 (by decide)).trans ?_
      refine (f_cmp_f (f := z_gt) hv (by decide) (zgt_f (a := v) (b := 65535) (fs_word_even_o5 v hv i1 i2))).trans ?_
      refine (e_push).trans ?_
      show q_X12_in_15 _ _ _ _ _ = _
      exact e_zret (R := zrunX zXt 9 ztc (n + 58)) (d := 1678) (L := L14) (h := hbB16) (v := 1) (by decide)
    refine (f_callS (d' := 1678) (S0 := [65535, 0, v]) (S' := []) (S2 := [1]) (fun q => by rw [zargs_s q (by decide), ← eL12, zargs_s q (by decide), ← eL13, zargs_s q (Nat.le_of_lt (Nat.lt_trans hv (by decide))), ← eL14]; rfl) (Nat.le_of_ble_eq_true rfl) m15 (hs0.trans hs0.symm) rfl).trans ?_
    refine (f_if_f (f := fun a => Nat.beq a 0) (by decide) (by decide +kernel)).trans ?_
    refine (e_iload lL11_1 hv).trans ?_
    refine (e_push).trans ?_
    refine (f_bin (f := z_and) (v := (v % 2)) hv (by decide) (z_and_m (k := 1) (by decide))).trans ?_
    refine (f_if_f (f := fun a => z_ne a 0) (show (v % 2) < 4294967296 from (Nat.lt_trans (Nat.mod_lt _ (by decide)) (by decide))) (zne_f (a := (v % 2)) (b := 0) i2)).trans ?_
    refine (e_aload lL11_0 (by decide)).trans ?_
    refine (e_iload lL11_1 hv).trans ?_
    have m18 : zrunX zXt 9 ztc (n + 59) 1678 188 L17 [] hbB16 = some ([(z_or (zcv hbB12_c63 v) (z_shl (zcv hbB12_c63 (v + 1)) 8))], hbB16) := by
      refine (ca_188 (n := n + 58)).trans ?_
      refine (e_aload lL17_0 (by decide)).trans ?_
      refine (f_getf (k := 61) (by rw [hs0]; decide) g61_0 st61_0 (by rw [ln61_0]; decide) v61_0_0).trans ?_
      refine (e_push).trans ?_
      refine (e_aald (k := 62) (by decide) (by rw [hs0]; decide) g62_0 st62_0 (by rw [ln62_0]; decide) v62_0_0 (by decide)).trans ?_
      refine (e_iload lL17_1 hv).trans ?_
      refine (e_iald (k := 63) hv (by rw [hs0]; decide) g63_0 st63_0 (by rw [ln63_0]; exact i1) rfl (zb_cm v i1)).trans ?_
      refine (e_aload lL17_0 (by decide)).trans ?_
      refine (f_getf (k := 61) (by rw [hs0]; decide) g61_0 st61_0 (by rw [ln61_0]; decide) v61_0_0).trans ?_
      refine (e_push).trans ?_
      refine (e_aald (k := 62) (by decide) (by rw [hs0]; decide) g62_0 st62_0 (by rw [ln62_0]; decide) v62_0_0 (by decide)).trans ?_
      refine (e_iload lL17_1 hv).trans ?_
      refine (e_push).trans ?_
      refine (f_bin (f := z_add) (v := (v + 1)) hv (by decide) (z_add_l (fs_word_even_o6 v hv i1 i2))).trans ?_
      refine (e_iald (k := 63) (show (v + 1) < 4294967296 from (fs_word_even_o7 v hv i1 i2)) (by rw [hs0]; decide) g63_0 st63_0 (by rw [ln63_0]; exact (fs_word_even_o8 v hv i1 i2)) rfl (zb_cm (v + 1) (fs_word_even_o8 v hv i1 i2))).trans ?_
      refine (e_push).trans ?_
      refine (f_bin (f := z_shl) (v := (z_shl (zcv hbB12_c63 (v + 1)) 8)) (show (zcv hbB12_c63 (v + 1)) < 4294967296 from (zb_cm (v + 1) (fs_word_even_o8 v hv i1 i2))) (by decide) rfl).trans ?_
      refine (f_bin (f := z_or) (v := (z_or (zcv hbB12_c63 v) (z_shl (zcv hbB12_c63 (v + 1)) 8))) (show (zcv hbB12_c63 v) < 4294967296 from (zb_cm v i1)) (show (z_shl (zcv hbB12_c63 (v + 1)) 8) < 4294967296 from (z_shl_ok _ _ (show (zcv hbB12_c63 (v + 1)) < 4294967296 from (zb_cm (v + 1) (fs_word_even_o8 v hv i1 i2))) (by decide)).1) rfl).trans ?_
      exact e_ret (R := zrunX zXt 9 ztc (n + 58)) (d := 1678) (L := L17) (h := hbB16) (v := (z_or (zcv hbB12_c63 v) (z_shl (zcv hbB12_c63 (v + 1)) 8))) (show (z_or (zcv hbB12_c63 v) (z_shl (zcv hbB12_c63 (v + 1)) 8)) < 4294967296 from (z_or_ok _ _ (show (zcv hbB12_c63 v) < 4294967296 from (zb_cm v i1)) (show (z_shl (zcv hbB12_c63 (v + 1)) 8) < 4294967296 from (z_shl_ok _ _ (show (zcv hbB12_c63 (v + 1)) < 4294967296 from (zb_cm (v + 1) (fs_word_even_o8 v hv i1 i2))) (by decide)).1)).1)
    refine (f_callV (k := 61) (d' := 1678) (S0 := [v, 4294967358]) (S' := []) (S2 := [(z_or (zcv hbB12_c63 v) (z_shl (zcv hbB12_c63 (v + 1)) 8))]) (fun q => by rw [zargs_s q (Nat.le_of_lt (Nat.lt_trans hv (by decide))), ← eL16, zargs_s q (by decide), ← eL17]; rfl) lL17_0 (by rw [hs0]; decide) g61_0 st61_0 (Nat.le_of_ble_eq_true rfl) m18 (hs0.trans hs0.symm) rfl).trans ?_
    show q_X12_word__25 _ _ _ _ _ = _
    exact e_ret (R := zrunX zXt 9 ztc (n + 59)) (d := 1679) (L := L11) (h := hbB16) (v := (z_or (zcv hbB12_c63 v) (z_shl (zcv hbB12_c63 (v + 1)) 8))) (show (z_or (zcv hbB12_c63 v) (z_shl (zcv hbB12_c63 (v + 1)) 8)) < 4294967296 from (z_or_ok _ _ (show (zcv hbB12_c63 v) < 4294967296 from (zb_cm v i1)) (show (z_shl (zcv hbB12_c63 (v + 1)) 8) < 4294967296 from (z_shl_ok _ _ (show (zcv hbB12_c63 (v + 1)) < 4294967296 from (zb_cm (v + 1) (fs_word_even_o8 v hv i1 i2))) (by decide)).1)).1)
  rw [zeq_word v i1 i2] at A2
  rw [eL2, eL1] at A1
  rw [eL11, eL10] at A2
  exact ⟨_, _, _, (show (zcv hbA3_c7 (v / 2)) < 4294967296 from (zb_cx (v / 2) (fs_word_even_o4 v hv i1 i2))), A1, hs0, MS, A2, hs0, sl0⟩
theorem fs_word_hodd_o0 (v : Nat) (hv : v < 4294967296) (i1 : 65536 ≤ v) (i2 : v < 2147483648) (i3 : v % 2 = 1) : (0 + 2147483648) % 4294967296 ≤ (v + 2147483648) % 4294967296 := by omega
theorem fs_word_hodd_o1 (v : Nat) (hv : v < 4294967296) (i1 : 65536 ≤ v) (i2 : v < 2147483648) (i3 : v % 2 = 1) : v % 2 ≠ 0 := by omega
theorem fs_word_hodd_o2 (v : Nat) (hv : v < 4294967296) (i1 : 65536 ≤ v) (i2 : v < 2147483648) (i3 : v % 2 = 1) : (65535 + 2147483648) % 4294967296 < (v + 2147483648) % 4294967296 := by omega
theorem fs_word_hodd (v : Nat) (hv : v < 4294967296) (i1 : 65536 ≤ v) (i2 : v < 2147483648) (i3 : v % 2 = 1) (n : Nat) : zFst n 174 (zput (zput 0 1 (v + 1)) 0 (4294967297 + 1)) 295 (zput (zput 0 1 (v + 1)) 0 (4294967358 + 1)) := by
  have hs0 : hbB16.1 = 129 := rfl
  have sl0 : hbB16.2.1 = 650610 := rfl
  obtain ⟨L1, eL1⟩ : ∃ x : Nat, x = zput 0 1 (v + 1) := ⟨_, rfl⟩
  obtain ⟨L2, eL2⟩ : ∃ x : Nat, x = zput L1 0 (4294967297 + 1) := ⟨_, rfl⟩
  have lL2_0 : zlane L2 0 = 4294967297 + 1 := by rw [eL2]; exact zlane_same (by decide)
  have v0_4_0 : zcv haA0_c0 4 = 4294967302 := by decide +kernel
  have g0_0 : zget 8 hbB16.2.2 0 = haA0_c0 := rfl
  have st0_0 : haA0_c0.1 = 11 := rfl
  have ln0_0 : haA0_c0.2.1 = 18 := rfl
  have lL1_1 : zlane L1 1 = v + 1 := by rw [eL1]; exact zlane_same (Nat.lt_of_le_of_lt (Nat.succ_le_of_lt hv) (by decide))
  have lL2_1 : zlane L2 1 = v + 1 := by rw [eL2]; exact (zlane_ne (by decide) (by decide)).trans lL1_1
  obtain ⟨L3, eL3⟩ : ∃ x : Nat, x = zput 0 1 (v + 1) := ⟨_, rfl⟩
  obtain ⟨L4, eL4⟩ : ∃ x : Nat, x = zput L3 0 (4294967302 + 1) := ⟨_, rfl⟩
  have lL3_1 : zlane L3 1 = v + 1 := by rw [eL3]; exact zlane_same (Nat.lt_of_le_of_lt (Nat.succ_le_of_lt hv) (by decide))
  have lL4_1 : zlane L4 1 = v + 1 := by rw [eL4]; exact (zlane_ne (by decide) (by decide)).trans lL3_1
  have lL4_0 : zlane L4 0 = 4294967302 + 1 := by rw [eL4]; exact zlane_same (by decide)
  have g5_0 : zget 8 hbB16.2.2 5 = haA0_c5 := rfl
  have st5_0 : haA0_c5.1 = 3 := rfl
  obtain ⟨L6, eL6⟩ : ∃ x : Nat, x = zput 0 1 (v + 1) := ⟨_, rfl⟩
  obtain ⟨L7, eL7⟩ : ∃ x : Nat, x = zput L6 0 (4294967358 + 1) := ⟨_, rfl⟩
  have lL6_1 : zlane L6 1 = v + 1 := by rw [eL6]; exact zlane_same (Nat.lt_of_le_of_lt (Nat.succ_le_of_lt hv) (by decide))
  have lL7_1 : zlane L7 1 = v + 1 := by rw [eL7]; exact (zlane_ne (by decide) (by decide)).trans lL6_1
  obtain ⟨L8, eL8⟩ : ∃ x : Nat, x = zput 0 2 (65535 + 1) := ⟨_, rfl⟩
  obtain ⟨L9, eL9⟩ : ∃ x : Nat, x = zput L8 1 (0 + 1) := ⟨_, rfl⟩
  obtain ⟨L10, eL10⟩ : ∃ x : Nat, x = zput L9 0 (v + 1) := ⟨_, rfl⟩
  have lL10_0 : zlane L10 0 = v + 1 := by rw [eL10]; exact zlane_same (Nat.lt_of_le_of_lt (Nat.succ_le_of_lt hv) (by decide))
  have lL9_1 : zlane L9 1 = 0 + 1 := by rw [eL9]; exact zlane_same (by decide)
  have lL10_1 : zlane L10 1 = 0 + 1 := by rw [eL10]; exact (zlane_ne (Nat.lt_of_le_of_lt (Nat.succ_le_of_lt hv) (by decide)) (by decide)).trans lL9_1
  have lL8_2 : zlane L8 2 = 65535 + 1 := by rw [eL8]; exact zlane_same (by decide)
  have lL9_2 : zlane L9 2 = 65535 + 1 := by rw [eL9]; exact (zlane_ne (by decide) (by decide)).trans lL8_2
  have lL10_2 : zlane L10 2 = 65535 + 1 := by rw [eL10]; exact (zlane_ne (Nat.lt_of_le_of_lt (Nat.succ_le_of_lt hv) (by decide)) (by decide)).trans lL9_2
  have g61_0 : zget 8 hbB16.2.2 61 = hbB15_c61 := rfl
  have st61_0 : hbB15_c61.1 = 12 := rfl
  have MS : (zget 8 hbB16.2.2 61).1 = 12 := by rw [g61_0]; exact st61_0
  have A1 : zrunX zXt 9 ztc (n + 60) 1679 174 L2 [] hbB16 = some ([4294967295], hbB16) := by
    refine (ca_174 (n := n + 59)).trans ?_
    refine (e_aload lL2_0 (by decide)).trans ?_
    refine (f_getf (k := 0) (by rw [hs0]; decide) g0_0 st0_0 (by rw [ln0_0]; decide) v0_4_0).trans ?_
    refine (e_iload lL2_1 hv).trans ?_
    have m5 : zrunX zXt 9 ztc (n + 59) 1678 46 L4 [] hbB16 = some ([0], hbB16) := by
      refine (ca_46 (n := n + 58)).trans ?_
      refine (e_iload lL4_1 hv).trans ?_
      refine (f_if_f (f := fun a => z_lt a 0) hv (zlt_f (a := v) (b := 0) (fs_word_hodd_o0 v hv i1 i2 i3))).trans ?_
      refine (e_iload lL4_1 hv).trans ?_
      refine (e_push).trans ?_
      refine (f_bin (f := z_and) (v := (v % 2)) hv (by decide) (z_and_m (k := 1) (by decide))).trans ?_
      refine (f_if_t (f := fun a => z_ne a 0) (show (v % 2) < 4294967296 from (Nat.lt_trans (Nat.mod_lt _ (by decide)) (by decide))) (zne_t (a := (v % 2)) (b := 0) (fs_word_hodd_o1 v hv i1 i2 i3))).trans ?_
      refine (e_push).trans ?_
      exact e_zret (R := zrunX zXt 9 ztc (n + 58)) (d := 1678) (L := L4) (h := hbB16) (v := 0) (by decide)
    refine (f_callV (k := 5) (d' := 1678) (S0 := [v, 4294967302]) (S' := []) (S2 := [0]) (fun q => by rw [zargs_s q (Nat.le_of_lt (Nat.lt_trans hv (by decide))), ← eL3, zargs_s q (by decide), ← eL4]; rfl) lL4_0 (by rw [hs0]; decide) g5_0 st5_0 (Nat.le_of_ble_eq_true rfl) m5 (hs0.trans hs0.symm) rfl).trans ?_
    refine (f_if_t (f := fun a => Nat.beq a 0) (by decide) (by decide +kernel)).trans ?_
    refine (e_push).trans ?_
    exact e_ret (R := zrunX zXt 9 ztc (n + 59)) (d := 1679) (L := L2) (h := hbB16) (v := 4294967295) (by decide)
  have A2 : zrunX zXt 9 ztc (n + 60) 1679 295 L7 [] hbB16 = some ([4294967295], hbB16) := by
    refine (ca_295 (n := n + 59)).trans ?_
    refine (e_iload lL7_1 hv).trans ?_
    refine (e_push).trans ?_
    refine (e_push).trans ?_
    have m11 : zrunX zXt 9 ztc (n + 59) 1678 217 L10 [] hbB16 = some ([0], hbB16) := by
      refine (ca_217 (n := n + 58)).trans ?_
      refine (e_iload lL10_0 hv).trans ?_
      refine (e_iload lL10_1 (by decide)).trans ?_
      refine (f_cmp_f (f := z_lt) hv (by decide) (zlt_f (a := v) (b := 0) (fs_word_hodd_o0 v hv i1 i2 i3))).trans ?_
      refine (e_iload lL10_0 hv).trans ?_
      refine (e_iload lL10_2 (by decide)).trans ?_
      refine (f_cmp_t (f := z_gt) hv (by decide) (zgt_t (a := v) (b := 65535) (fs_word_hodd_o2 v hv i1 i2 i3))).trans ?_
      refine (e_push).trans ?_
      exact e_zret (R := zrunX zXt 9 ztc (n + 58)) (d := 1678) (L := L10) (h := hbB16) (v := 0) (by decide)
    refine (f_callS (d' := 1678) (S0 := [65535, 0, v]) (S' := []) (S2 := [0]) (fun q => by rw [zargs_s q (by decide), ← eL8, zargs_s q (by decide), ← eL9, zargs_s q (Nat.le_of_lt (Nat.lt_trans hv (by decide))), ← eL10]; rfl) (Nat.le_of_ble_eq_true rfl) m11 (hs0.trans hs0.symm) rfl).trans ?_
    refine (f_if_t (f := fun a => Nat.beq a 0) (by decide) (by decide +kernel)).trans ?_
    refine (e_push).trans ?_
    exact e_ret (R := zrunX zXt 9 ztc (n + 59)) (d := 1679) (L := L7) (h := hbB16) (v := 4294967295) (by decide)
  rw [eL2, eL1] at A1
  rw [eL7, eL6] at A2
  exact ⟨_, _, _, (by decide), A1, hs0, MS, A2, hs0, sl0⟩
theorem fs_word_heven_o0 (v : Nat) (hv : v < 4294967296) (i1 : 65536 ≤ v) (i2 : v < 2147483648) (i3 : v % 2 = 0) : (0 + 2147483648) % 4294967296 ≤ (v + 2147483648) % 4294967296 := by omega
theorem fs_word_heven_o1 (v : Nat) (hv : v < 4294967296) (i1 : 65536 ≤ v) (i2 : v < 2147483648) (i3 : v % 2 = 0) : (32768 + 2147483648) % 4294967296 ≤ ((v / 2) + 2147483648) % 4294967296 := by omega
theorem fs_word_heven_o2 (v : Nat) (hv : v < 4294967296) (i1 : 65536 ≤ v) (i2 : v < 2147483648) (i3 : v % 2 = 0) : (65535 + 2147483648) % 4294967296 < (v + 2147483648) % 4294967296 := by omega
theorem fs_word_heven (v : Nat) (hv : v < 4294967296) (i1 : 65536 ≤ v) (i2 : v < 2147483648) (i3 : v % 2 = 0) (n : Nat) : zFst n 174 (zput (zput 0 1 (v + 1)) 0 (4294967297 + 1)) 295 (zput (zput 0 1 (v + 1)) 0 (4294967358 + 1)) := by
  have hs0 : hbB16.1 = 129 := rfl
  have sl0 : hbB16.2.1 = 650610 := rfl
  obtain ⟨L1, eL1⟩ : ∃ x : Nat, x = zput 0 1 (v + 1) := ⟨_, rfl⟩
  obtain ⟨L2, eL2⟩ : ∃ x : Nat, x = zput L1 0 (4294967297 + 1) := ⟨_, rfl⟩
  have lL2_0 : zlane L2 0 = 4294967297 + 1 := by rw [eL2]; exact zlane_same (by decide)
  have v0_4_0 : zcv haA0_c0 4 = 4294967302 := by decide +kernel
  have g0_0 : zget 8 hbB16.2.2 0 = haA0_c0 := rfl
  have st0_0 : haA0_c0.1 = 11 := rfl
  have ln0_0 : haA0_c0.2.1 = 18 := rfl
  have lL1_1 : zlane L1 1 = v + 1 := by rw [eL1]; exact zlane_same (Nat.lt_of_le_of_lt (Nat.succ_le_of_lt hv) (by decide))
  have lL2_1 : zlane L2 1 = v + 1 := by rw [eL2]; exact (zlane_ne (by decide) (by decide)).trans lL1_1
  obtain ⟨L3, eL3⟩ : ∃ x : Nat, x = zput 0 1 (v + 1) := ⟨_, rfl⟩
  obtain ⟨L4, eL4⟩ : ∃ x : Nat, x = zput L3 0 (4294967302 + 1) := ⟨_, rfl⟩
  have lL3_1 : zlane L3 1 = v + 1 := by rw [eL3]; exact zlane_same (Nat.lt_of_le_of_lt (Nat.succ_le_of_lt hv) (by decide))
  have lL4_1 : zlane L4 1 = v + 1 := by rw [eL4]; exact (zlane_ne (by decide) (by decide)).trans lL3_1
  have lL4_0 : zlane L4 0 = 4294967302 + 1 := by rw [eL4]; exact zlane_same (by decide)
  have v5_0_0 : zcv haA0_c5 0 = 4294967304 := by decide +kernel
  have g5_0 : zget 8 hbB16.2.2 5 = haA0_c5 := rfl
  have st5_0 : haA0_c5.1 = 3 := rfl
  have ln5_0 : haA0_c5.2.1 = 7 := rfl
  have g7_0 : zget 8 hbB16.2.2 7 = hbA3_c7 := rfl
  have st7_0 : hbA3_c7.1 = 100 := rfl
  have ln7_0 : hbA3_c7.2.1 = 32768 := rfl
  obtain ⟨L6, eL6⟩ : ∃ x : Nat, x = zput 0 1 (v + 1) := ⟨_, rfl⟩
  obtain ⟨L7, eL7⟩ : ∃ x : Nat, x = zput L6 0 (4294967358 + 1) := ⟨_, rfl⟩
  have lL6_1 : zlane L6 1 = v + 1 := by rw [eL6]; exact zlane_same (Nat.lt_of_le_of_lt (Nat.succ_le_of_lt hv) (by decide))
  have lL7_1 : zlane L7 1 = v + 1 := by rw [eL7]; exact (zlane_ne (by decide) (by decide)).trans lL6_1
  obtain ⟨L8, eL8⟩ : ∃ x : Nat, x = zput 0 2 (65535 + 1) := ⟨_, rfl⟩
  obtain ⟨L9, eL9⟩ : ∃ x : Nat, x = zput L8 1 (0 + 1) := ⟨_, rfl⟩
  obtain ⟨L10, eL10⟩ : ∃ x : Nat, x = zput L9 0 (v + 1) := ⟨_, rfl⟩
  have lL10_0 : zlane L10 0 = v + 1 := by rw [eL10]; exact zlane_same (Nat.lt_of_le_of_lt (Nat.succ_le_of_lt hv) (by decide))
  have lL9_1 : zlane L9 1 = 0 + 1 := by rw [eL9]; exact zlane_same (by decide)
  have lL10_1 : zlane L10 1 = 0 + 1 := by rw [eL10]; exact (zlane_ne (Nat.lt_of_le_of_lt (Nat.succ_le_of_lt hv) (by decide)) (by decide)).trans lL9_1
  have lL8_2 : zlane L8 2 = 65535 + 1 := by rw [eL8]; exact zlane_same (by decide)
  have lL9_2 : zlane L9 2 = 65535 + 1 := by rw [eL9]; exact (zlane_ne (by decide) (by decide)).trans lL8_2
  have lL10_2 : zlane L10 2 = 65535 + 1 := by rw [eL10]; exact (zlane_ne (Nat.lt_of_le_of_lt (Nat.succ_le_of_lt hv) (by decide)) (by decide)).trans lL9_2
  have g61_0 : zget 8 hbB16.2.2 61 = hbB15_c61 := rfl
  have st61_0 : hbB15_c61.1 = 12 := rfl
  have MS : (zget 8 hbB16.2.2 61).1 = 12 := by rw [g61_0]; exact st61_0
  have A1 : zrunX zXt 9 ztc (n + 60) 1679 174 L2 [] hbB16 = some ([4294967295], hbB16) := by
    refine (ca_174 (n := n + 59)).trans ?_
    refine (e_aload lL2_0 (by decide)).trans ?_
    refine (f_getf (k := 0) (by rw [hs0]; decide) g0_0 st0_0 (by rw [ln0_0]; decide) v0_4_0).trans ?_
    refine (e_iload lL2_1 hv).trans ?_
    have m5 : zrunX zXt 9 ztc (n + 59) 1678 46 L4 [] hbB16 = some ([0], hbB16) := by
      refine (ca_46 (n := n + 58)).trans ?_
      refine (e_iload lL4_1 hv).trans ?_
      refine (f_if_f (f := fun a => z_lt a 0) hv (zlt_f (a := v) (b := 0) (fs_word_heven_o0 v hv i1 i2 i3))).trans ?_
      refine (e_iload lL4_1 hv).trans ?_
      refine (e_push).trans ?_
      refine (f_bin (f := z_and) (v := (v % 2)) hv (by decide) (z_and_m (k := 1) (by decide))).trans ?_
      refine (f_if_f (f := fun a => z_ne a 0) (show (v % 2) < 4294967296 from (Nat.lt_trans (Nat.mod_lt _ (by decide)) (by decide))) (zne_f (a := (v % 2)) (b := 0) i3)).trans ?_
      refine (e_iload lL4_1 hv).trans ?_
      refine (e_push).trans ?_
      refine (f_bin (f := z_shr) (v := (v / 2)) hv (by decide) (z_shr_p (k := 1) i2 (by decide))).trans ?_
      refine (e_aload lL4_0 (by decide)).trans ?_
      refine (f_getf (k := 5) (by rw [hs0]; decide) g5_0 st5_0 (by rw [ln5_0]; decide) v5_0_0).trans ?_
      refine (f_len (k := 7) (by rw [hs0]; decide) g7_0 st7_0 ln7_0).trans ?_
      refine (f_cmp_t (f := z_ge) (show (v / 2) < 4294967296 from (Nat.lt_of_le_of_lt (Nat.div_le_self _ _) hv)) (by decide) (zge_t (a := (v / 2)) (b := 32768) (fs_word_heven_o1 v hv i1 i2 i3))).trans ?_
      refine (e_push).trans ?_
      exact e_zret (R := zrunX zXt 9 ztc (n + 58)) (d := 1678) (L := L4) (h := hbB16) (v := 0) (by decide)
    refine (f_callV (k := 5) (d' := 1678) (S0 := [v, 4294967302]) (S' := []) (S2 := [0]) (fun q => by rw [zargs_s q (Nat.le_of_lt (Nat.lt_trans hv (by decide))), ← eL3, zargs_s q (by decide), ← eL4]; rfl) lL4_0 (by rw [hs0]; decide) g5_0 st5_0 (Nat.le_of_ble_eq_true rfl) m5 (hs0.trans hs0.symm) rfl).trans ?_
    refine (f_if_t (f := fun a => Nat.beq a 0) (by decide) (by decide +kernel)).trans ?_
    refine (e_push).trans ?_
    exact e_ret (R := zrunX zXt 9 ztc (n + 59)) (d := 1679) (L := L2) (h := hbB16) (v := 4294967295) (by decide)
  have A2 : zrunX zXt 9 ztc (n + 60) 1679 295 L7 [] hbB16 = some ([4294967295], hbB16) := by
    refine (ca_295 (n := n + 59)).trans ?_
    refine (e_iload lL7_1 hv).trans ?_
    refine (e_push).trans ?_
    refine (e_push).trans ?_
    have m11 : zrunX zXt 9 ztc (n + 59) 1678 217 L10 [] hbB16 = some ([0], hbB16) := by
      refine (ca_217 (n := n + 58)).trans ?_
      refine (e_iload lL10_0 hv).trans ?_
      refine (e_iload lL10_1 (by decide)).trans ?_
      refine (f_cmp_f (f := z_lt) hv (by decide) (zlt_f (a := v) (b := 0) (fs_word_heven_o0 v hv i1 i2 i3))).trans ?_
      refine (e_iload lL10_0 hv).trans ?_
      refine (e_iload lL10_2 (by decide)).trans ?_
      refine (f_cmp_t (f := z_gt) hv (by decide) (zgt_t (a := v) (b := 65535) (fs_word_heven_o2 v hv i1 i2 i3))).trans ?_
      refine (e_push).trans ?_
      exact e_zret (R := zrunX zXt 9 ztc (n + 58)) (d := 1678) (L := L10) (h := hbB16) (v := 0) (by decide)
    refine (f_callS (d' := 1678) (S0 := [65535, 0, v]) (S' := []) (S2 := [0]) (fun q => by rw [zargs_s q (by decide), ← eL8, zargs_s q (by decide), ← eL9, zargs_s q (Nat.le_of_lt (Nat.lt_trans hv (by decide))), ← eL10]; rfl) (Nat.le_of_ble_eq_true rfl) m11 (hs0.trans hs0.symm) rfl).trans ?_
    refine (f_if_t (f := fun a => Nat.beq a 0) (by decide) (by decide +kernel)).trans ?_
    refine (e_push).trans ?_
    exact e_ret (R := zrunX zXt 9 ztc (n + 59)) (d := 1679) (L := L7) (h := hbB16) (v := 4294967295) (by decide)
  rw [eL2, eL1] at A1
  rw [eL7, eL6] at A2
  exact ⟨_, _, _, (by decide), A1, hs0, MS, A2, hs0, sl0⟩
theorem fs_peek_neg_o0 (v : Nat) (hv : v < 4294967296) (i1 : 2147483648 ≤ v) : (v + 2147483648) % 4294967296 < (0 + 2147483648) % 4294967296 := by omega
theorem fs_peek_neg (v : Nat) (hv : v < 4294967296) (i1 : 2147483648 ≤ v) (n : Nat) : zFst n 160 (zput (zput 0 1 (v + 1)) 0 (4294967297 + 1)) 252 (zput (zput 0 1 (v + 1)) 0 (4294967358 + 1)) := by
  have hs0 : hbB16.1 = 129 := rfl
  have sl0 : hbB16.2.1 = 650610 := rfl
  obtain ⟨L1, eL1⟩ : ∃ x : Nat, x = zput 0 1 (v + 1) := ⟨_, rfl⟩
  obtain ⟨L2, eL2⟩ : ∃ x : Nat, x = zput L1 0 (4294967297 + 1) := ⟨_, rfl⟩
  have lL2_0 : zlane L2 0 = 4294967297 + 1 := by rw [eL2]; exact zlane_same (by decide)
  have v0_2_0 : zcv haA0_c0 2 = 4294967299 := by decide +kernel
  have g0_0 : zget 8 hbB16.2.2 0 = haA0_c0 := rfl
  have st0_0 : haA0_c0.1 = 11 := rfl
  have ln0_0 : haA0_c0.2.1 = 18 := rfl
  have lL1_1 : zlane L1 1 = v + 1 := by rw [eL1]; exact zlane_same (Nat.lt_of_le_of_lt (Nat.succ_le_of_lt hv) (by decide))
  have lL2_1 : zlane L2 1 = v + 1 := by rw [eL2]; exact (zlane_ne (by decide) (by decide)).trans lL1_1
  obtain ⟨L3, eL3⟩ : ∃ x : Nat, x = zput 0 1 (v + 1) := ⟨_, rfl⟩
  obtain ⟨L4, eL4⟩ : ∃ x : Nat, x = zput L3 0 (4294967299 + 1) := ⟨_, rfl⟩
  have lL3_1 : zlane L3 1 = v + 1 := by rw [eL3]; exact zlane_same (Nat.lt_of_le_of_lt (Nat.succ_le_of_lt hv) (by decide))
  have lL4_1 : zlane L4 1 = v + 1 := by rw [eL4]; exact (zlane_ne (by decide) (by decide)).trans lL3_1
  have lL4_0 : zlane L4 0 = 4294967299 + 1 := by rw [eL4]; exact zlane_same (by decide)
  have g2_0 : zget 8 hbB16.2.2 2 = haA0_c2 := rfl
  have st2_0 : haA0_c2.1 = 3 := rfl
  obtain ⟨L6, eL6⟩ : ∃ x : Nat, x = zput 0 1 (v + 1) := ⟨_, rfl⟩
  obtain ⟨L7, eL7⟩ : ∃ x : Nat, x = zput L6 0 (4294967358 + 1) := ⟨_, rfl⟩
  have lL6_1 : zlane L6 1 = v + 1 := by rw [eL6]; exact zlane_same (Nat.lt_of_le_of_lt (Nat.succ_le_of_lt hv) (by decide))
  have lL7_1 : zlane L7 1 = v + 1 := by rw [eL7]; exact (zlane_ne (by decide) (by decide)).trans lL6_1
  obtain ⟨L8, eL8⟩ : ∃ x : Nat, x = zput 0 0 (v + 1) := ⟨_, rfl⟩
  have lL8_0 : zlane L8 0 = v + 1 := by rw [eL8]; exact zlane_same (Nat.lt_of_le_of_lt (Nat.succ_le_of_lt hv) (by decide))
  obtain ⟨L10, eL10⟩ : ∃ x : Nat, x = zput 0 2 (8191 + 1) := ⟨_, rfl⟩
  obtain ⟨L11, eL11⟩ : ∃ x : Nat, x = zput L10 1 (0 + 1) := ⟨_, rfl⟩
  obtain ⟨L12, eL12⟩ : ∃ x : Nat, x = zput L11 0 (v + 1) := ⟨_, rfl⟩
  have lL12_0 : zlane L12 0 = v + 1 := by rw [eL12]; exact zlane_same (Nat.lt_of_le_of_lt (Nat.succ_le_of_lt hv) (by decide))
  have lL11_1 : zlane L11 1 = 0 + 1 := by rw [eL11]; exact zlane_same (by decide)
  have lL12_1 : zlane L12 1 = 0 + 1 := by rw [eL12]; exact (zlane_ne (Nat.lt_of_le_of_lt (Nat.succ_le_of_lt hv) (by decide)) (by decide)).trans lL11_1
  have g61_0 : zget 8 hbB16.2.2 61 = hbB15_c61 := rfl
  have st61_0 : hbB15_c61.1 = 12 := rfl
  have MS : (zget 8 hbB16.2.2 61).1 = 12 := by rw [g61_0]; exact st61_0
  have A1 : zrunX zXt 9 ztc (n + 60) 1679 160 L2 [] hbB16 = some ([4294967295], hbB16) := by
    refine (ca_160 (n := n + 59)).trans ?_
    refine (e_aload lL2_0 (by decide)).trans ?_
    refine (f_getf (k := 0) (by rw [hs0]; decide) g0_0 st0_0 (by rw [ln0_0]; decide) v0_2_0).trans ?_
    refine (e_iload lL2_1 hv).trans ?_
    have m5 : zrunX zXt 9 ztc (n + 59) 1678 46 L4 [] hbB16 = some ([0], hbB16) := by
      refine (ca_46 (n := n + 58)).trans ?_
      refine (e_iload lL4_1 hv).trans ?_
      refine (f_if_t (f := fun a => z_lt a 0) hv (zlt_t (a := v) (b := 0) (fs_peek_neg_o0 v hv i1))).trans ?_
      refine (e_push).trans ?_
      exact e_zret (R := zrunX zXt 9 ztc (n + 58)) (d := 1678) (L := L4) (h := hbB16) (v := 0) (by decide)
    refine (f_callV (k := 2) (d' := 1678) (S0 := [v, 4294967299]) (S' := []) (S2 := [0]) (fun q => by rw [zargs_s q (Nat.le_of_lt (Nat.lt_trans hv (by decide))), ← eL3, zargs_s q (by decide), ← eL4]; rfl) lL4_0 (by rw [hs0]; decide) g2_0 st2_0 (Nat.le_of_ble_eq_true rfl) m5 (hs0.trans hs0.symm) rfl).trans ?_
    refine (f_if_t (f := fun a => Nat.beq a 0) (by decide) (by decide +kernel)).trans ?_
    refine (e_push).trans ?_
    exact e_ret (R := zrunX zXt 9 ztc (n + 59)) (d := 1679) (L := L2) (h := hbB16) (v := 4294967295) (by decide)
  have A2 : zrunX zXt 9 ztc (n + 60) 1679 252 L7 [] hbB16 = some ([4294967295], hbB16) := by
    refine (ca_252 (n := n + 59)).trans ?_
    refine (e_iload lL7_1 hv).trans ?_
    have m9 : zrunX zXt 9 ztc (n + 59) 1678 220 L8 [] hbB16 = some ([0], hbB16) := by
      refine (ca_220 (n := n + 58)).trans ?_
      refine (e_iload lL8_0 hv).trans ?_
      refine (e_push).trans ?_
      refine (e_push).trans ?_
      have m13 : zrunX zXt 9 ztc (n + 58) 1677 217 L12 [] hbB16 = some ([0], hbB16) := by
        refine (ca_217 (n := n + 57)).trans ?_
        refine (e_iload lL12_0 hv).trans ?_
        refine (e_iload lL12_1 (by decide)).trans ?_
        refine (f_cmp_t (f := z_lt) hv (by decide) (zlt_t (a := v) (b := 0) (fs_peek_neg_o0 v hv i1))).trans ?_
        refine (e_push).trans ?_
        exact e_zret (R := zrunX zXt 9 ztc (n + 57)) (d := 1677) (L := L12) (h := hbB16) (v := 0) (by decide)
      refine (f_callS (d' := 1677) (S0 := [8191, 0, v]) (S' := []) (S2 := [0]) (fun q => by rw [zargs_s q (by decide), ← eL10, zargs_s q (by decide), ← eL11, zargs_s q (Nat.le_of_lt (Nat.lt_trans hv (by decide))), ← eL12]; rfl) (Nat.le_of_ble_eq_true rfl) m13 (hs0.trans hs0.symm) rfl).trans ?_
      refine (f_if_t (f := fun a => Nat.beq a 0) (by decide) (by decide +kernel)).trans ?_
      refine (e_push).trans ?_
      exact e_zret (R := zrunX zXt 9 ztc (n + 58)) (d := 1678) (L := L8) (h := hbB16) (v := 0) (by decide)
    refine (f_callS (d' := 1678) (S0 := [v]) (S' := []) (S2 := [0]) (fun q => by rw [zargs_s q (Nat.le_of_lt (Nat.lt_trans hv (by decide))), ← eL8]; rfl) (Nat.le_of_ble_eq_true rfl) m9 (hs0.trans hs0.symm) rfl).trans ?_
    refine (f_if_t (f := fun a => Nat.beq a 0) (by decide) (by decide +kernel)).trans ?_
    refine (e_push).trans ?_
    exact e_ret (R := zrunX zXt 9 ztc (n + 59)) (d := 1679) (L := L7) (h := hbB16) (v := 4294967295) (by decide)
  rw [eL2, eL1] at A1
  rw [eL7, eL6] at A2
  exact ⟨_, _, _, (by decide), A1, hs0, MS, A2, hs0, sl0⟩
theorem fs_peek_odd_o0 (v : Nat) (hv : v < 4294967296) (i1 : v < 8192) (i2 : v % 2 = 1) : (0 + 2147483648) % 4294967296 ≤ (v + 2147483648) % 4294967296 := by omega
theorem fs_peek_odd_o1 (v : Nat) (hv : v < 4294967296) (i1 : v < 8192) (i2 : v % 2 = 1) : v % 2 ≠ 0 := by omega
theorem fs_peek_odd_o2 (v : Nat) (hv : v < 4294967296) (i1 : v < 8192) (i2 : v % 2 = 1) : (v + 2147483648) % 4294967296 ≤ (8191 + 2147483648) % 4294967296 := by omega
theorem fs_peek_odd (v : Nat) (hv : v < 4294967296) (i1 : v < 8192) (i2 : v % 2 = 1) (n : Nat) : zFst n 160 (zput (zput 0 1 (v + 1)) 0 (4294967297 + 1)) 252 (zput (zput 0 1 (v + 1)) 0 (4294967358 + 1)) := by
  have hs0 : hbB16.1 = 129 := rfl
  have sl0 : hbB16.2.1 = 650610 := rfl
  obtain ⟨L1, eL1⟩ : ∃ x : Nat, x = zput 0 1 (v + 1) := ⟨_, rfl⟩
  obtain ⟨L2, eL2⟩ : ∃ x : Nat, x = zput L1 0 (4294967297 + 1) := ⟨_, rfl⟩
  have lL2_0 : zlane L2 0 = 4294967297 + 1 := by rw [eL2]; exact zlane_same (by decide)
  have v0_2_0 : zcv haA0_c0 2 = 4294967299 := by decide +kernel
  have g0_0 : zget 8 hbB16.2.2 0 = haA0_c0 := rfl
  have st0_0 : haA0_c0.1 = 11 := rfl
  have ln0_0 : haA0_c0.2.1 = 18 := rfl
  have lL1_1 : zlane L1 1 = v + 1 := by rw [eL1]; exact zlane_same (Nat.lt_of_le_of_lt (Nat.succ_le_of_lt hv) (by decide))
  have lL2_1 : zlane L2 1 = v + 1 := by rw [eL2]; exact (zlane_ne (by decide) (by decide)).trans lL1_1
  obtain ⟨L3, eL3⟩ : ∃ x : Nat, x = zput 0 1 (v + 1) := ⟨_, rfl⟩
  obtain ⟨L4, eL4⟩ : ∃ x : Nat, x = zput L3 0 (4294967299 + 1) := ⟨_, rfl⟩
  have lL3_1 : zlane L3 1 = v + 1 := by rw [eL3]; exact zlane_same (Nat.lt_of_le_of_lt (Nat.succ_le_of_lt hv) (by decide))
  have lL4_1 : zlane L4 1 = v + 1 := by rw [eL4]; exact (zlane_ne (by decide) (by decide)).trans lL3_1
  have lL4_0 : zlane L4 0 = 4294967299 + 1 := by rw [eL4]; exact zlane_same (by decide)
  have g2_0 : zget 8 hbB16.2.2 2 = haA0_c2 := rfl
  have st2_0 : haA0_c2.1 = 3 := rfl
  obtain ⟨L6, eL6⟩ : ∃ x : Nat, x = zput 0 1 (v + 1) := ⟨_, rfl⟩
  obtain ⟨L7, eL7⟩ : ∃ x : Nat, x = zput L6 0 (4294967358 + 1) := ⟨_, rfl⟩
  have lL6_1 : zlane L6 1 = v + 1 := by rw [eL6]; exact zlane_same (Nat.lt_of_le_of_lt (Nat.succ_le_of_lt hv) (by decide))
  have lL7_1 : zlane L7 1 = v + 1 := by rw [eL7]; exact (zlane_ne (by decide) (by decide)).trans lL6_1
  obtain ⟨L8, eL8⟩ : ∃ x : Nat, x = zput 0 0 (v + 1) := ⟨_, rfl⟩
  have lL8_0 : zlane L8 0 = v + 1 := by rw [eL8]; exact zlane_same (Nat.lt_of_le_of_lt (Nat.succ_le_of_lt hv) (by decide))
  obtain ⟨L10, eL10⟩ : ∃ x : Nat, x = zput 0 2 (8191 + 1) := ⟨_, rfl⟩
  obtain ⟨L11, eL11⟩ : ∃ x : Nat, x = zput L10 1 (0 + 1) := ⟨_, rfl⟩
  obtain ⟨L12, eL12⟩ : ∃ x : Nat, x = zput L11 0 (v + 1) := ⟨_, rfl⟩
  have lL12_0 : zlane L12 0 = v + 1 := by rw [eL12]; exact zlane_same (Nat.lt_of_le_of_lt (Nat.succ_le_of_lt hv) (by decide))
  have lL11_1 : zlane L11 1 = 0 + 1 := by rw [eL11]; exact zlane_same (by decide)
  have lL12_1 : zlane L12 1 = 0 + 1 := by rw [eL12]; exact (zlane_ne (Nat.lt_of_le_of_lt (Nat.succ_le_of_lt hv) (by decide)) (by decide)).trans lL11_1
  have lL10_2 : zlane L10 2 = 8191 + 1 := by rw [eL10]; exact zlane_same (by decide)
  have lL11_2 : zlane L11 2 = 8191 + 1 := by rw [eL11]; exact (zlane_ne (by decide) (by decide)).trans lL10_2
  have lL12_2 : zlane L12 2 = 8191 + 1 := by rw [eL12]; exact (zlane_ne (Nat.lt_of_le_of_lt (Nat.succ_le_of_lt hv) (by decide)) (by decide)).trans lL11_2
  have g61_0 : zget 8 hbB16.2.2 61 = hbB15_c61 := rfl
  have st61_0 : hbB15_c61.1 = 12 := rfl
  have MS : (zget 8 hbB16.2.2 61).1 = 12 := by rw [g61_0]; exact st61_0
  have A1 : zrunX zXt 9 ztc (n + 60) 1679 160 L2 [] hbB16 = some ([4294967295], hbB16) := by
    refine (ca_160 (n := n + 59)).trans ?_
    refine (e_aload lL2_0 (by decide)).trans ?_
    refine (f_getf (k := 0) (by rw [hs0]; decide) g0_0 st0_0 (by rw [ln0_0]; decide) v0_2_0).trans ?_
    refine (e_iload lL2_1 hv).trans ?_
    have m5 : zrunX zXt 9 ztc (n + 59) 1678 46 L4 [] hbB16 = some ([0], hbB16) := by
      refine (ca_46 (n := n + 58)).trans ?_
      refine (e_iload lL4_1 hv).trans ?_
      refine (f_if_f (f := fun a => z_lt a 0) hv (zlt_f (a := v) (b := 0) (fs_peek_odd_o0 v hv i1 i2))).trans ?_
      refine (e_iload lL4_1 hv).trans ?_
      refine (e_push).trans ?_
      refine (f_bin (f := z_and) (v := (v % 2)) hv (by decide) (z_and_m (k := 1) (by decide))).trans ?_
      refine (f_if_t (f := fun a => z_ne a 0) (show (v % 2) < 4294967296 from (Nat.lt_trans (Nat.mod_lt _ (by decide)) (by decide))) (zne_t (a := (v % 2)) (b := 0) (fs_peek_odd_o1 v hv i1 i2))).trans ?_
      refine (e_push).trans ?_
      exact e_zret (R := zrunX zXt 9 ztc (n + 58)) (d := 1678) (L := L4) (h := hbB16) (v := 0) (by decide)
    refine (f_callV (k := 2) (d' := 1678) (S0 := [v, 4294967299]) (S' := []) (S2 := [0]) (fun q => by rw [zargs_s q (Nat.le_of_lt (Nat.lt_trans hv (by decide))), ← eL3, zargs_s q (by decide), ← eL4]; rfl) lL4_0 (by rw [hs0]; decide) g2_0 st2_0 (Nat.le_of_ble_eq_true rfl) m5 (hs0.trans hs0.symm) rfl).trans ?_
    refine (f_if_t (f := fun a => Nat.beq a 0) (by decide) (by decide +kernel)).trans ?_
    refine (e_push).trans ?_
    exact e_ret (R := zrunX zXt 9 ztc (n + 59)) (d := 1679) (L := L2) (h := hbB16) (v := 4294967295) (by decide)
  have A2 : zrunX zXt 9 ztc (n + 60) 1679 252 L7 [] hbB16 = some ([4294967295], hbB16) := by
    refine (ca_252 (n := n + 59)).trans ?_
    refine (e_iload lL7_1 hv).trans ?_
    have m9 : zrunX zXt 9 ztc (n + 59) 1678 220 L8 [] hbB16 = some ([0], hbB16) := by
      refine (ca_220 (n := n + 58)).trans ?_
      refine (e_iload lL8_0 hv).trans ?_
      refine (e_push).trans ?_
      refine (e_push).trans ?_
      have m13 : zrunX zXt 9 ztc (n + 58) 1677 217 L12 [] hbB16 = some ([1], hbB16) := by
        refine (ca_217 (n := n + 57)).trans ?_
        refine (e_iload lL12_0 hv).trans ?_
        refine (e_iload lL12_1 (by decide)).trans ?_
        refine (f_cmp_f (f := z_lt) hv (by decide) (zlt_f (a := v) (b := 0) (fs_peek_odd_o0 v hv i1 i2))).trans ?_
        refine (e_iload lL12_0 hv).trans ?_
        refine (e_iload lL12_2 (by decide)).trans ?_
        refine (f_cmp_f (f := z_gt) hv (by decide) (zgt_f (a := v) (b := 8191) (fs_peek_odd_o2 v hv i1 i2))).trans ?_
        refine (e_push).trans ?_
        show q_X12_in_15 _ _ _ _ _ = _
        exact e_zret (R := zrunX zXt 9 ztc (n + 57)) (d := 1677) (L := L12) (h := hbB16) (v := 1) (by decide)
      refine (f_callS (d' := 1677) (S0 := [8191, 0, v]) (S' := []) (S2 := [1]) (fun q => by rw [zargs_s q (by decide), ← eL10, zargs_s q (by decide), ← eL11, zargs_s q (Nat.le_of_lt (Nat.lt_trans hv (by decide))), ← eL12]; rfl) (Nat.le_of_ble_eq_true rfl) m13 (hs0.trans hs0.symm) rfl).trans ?_
      refine (f_if_f (f := fun a => Nat.beq a 0) (by decide) (by decide +kernel)).trans ?_
      refine (e_iload lL8_0 hv).trans ?_
      refine (e_push).trans ?_
      refine (f_bin (f := z_and) (v := (v % 2)) hv (by decide) (z_and_m (k := 1) (by decide))).trans ?_
      refine (f_if_t (f := fun a => z_ne a 0) (show (v % 2) < 4294967296 from (Nat.lt_trans (Nat.mod_lt _ (by decide)) (by decide))) (zne_t (a := (v % 2)) (b := 0) (fs_peek_odd_o1 v hv i1 i2))).trans ?_
      refine (e_push).trans ?_
      exact e_zret (R := zrunX zXt 9 ztc (n + 58)) (d := 1678) (L := L8) (h := hbB16) (v := 0) (by decide)
    refine (f_callS (d' := 1678) (S0 := [v]) (S' := []) (S2 := [0]) (fun q => by rw [zargs_s q (Nat.le_of_lt (Nat.lt_trans hv (by decide))), ← eL8]; rfl) (Nat.le_of_ble_eq_true rfl) m9 (hs0.trans hs0.symm) rfl).trans ?_
    refine (f_if_t (f := fun a => Nat.beq a 0) (by decide) (by decide +kernel)).trans ?_
    refine (e_push).trans ?_
    exact e_ret (R := zrunX zXt 9 ztc (n + 59)) (d := 1679) (L := L7) (h := hbB16) (v := 4294967295) (by decide)
  rw [eL2, eL1] at A1
  rw [eL7, eL6] at A2
  exact ⟨_, _, _, (by decide), A1, hs0, MS, A2, hs0, sl0⟩
theorem fs_peek_even_o0 (v : Nat) (hv : v < 4294967296) (i1 : v < 8192) (i2 : v % 2 = 0) : (0 + 2147483648) % 4294967296 ≤ (v + 2147483648) % 4294967296 := by omega
theorem fs_peek_even_o1 (v : Nat) (hv : v < 4294967296) (i1 : v < 8192) (i2 : v % 2 = 0) : v < 2147483648 := by omega
theorem fs_peek_even_o2 (v : Nat) (hv : v < 4294967296) (i1 : v < 8192) (i2 : v % 2 = 0) : ((v / 2) + 2147483648) % 4294967296 < (4096 + 2147483648) % 4294967296 := by omega
theorem fs_peek_even_o3 (v : Nat) (hv : v < 4294967296) (i1 : v < 8192) (i2 : v % 2 = 0) : (0 + 2147483648) % 4294967296 ≤ ((v / 2) + 2147483648) % 4294967296 := by omega
theorem fs_peek_even_o4 (v : Nat) (hv : v < 4294967296) (i1 : v < 8192) (i2 : v % 2 = 0) : (v / 2) < 4096 := by omega
theorem fs_peek_even_o5 (v : Nat) (hv : v < 4294967296) (i1 : v < 8192) (i2 : v % 2 = 0) : (v + 2147483648) % 4294967296 ≤ (8191 + 2147483648) % 4294967296 := by omega
theorem fs_peek_even_o6 (v : Nat) (hv : v < 4294967296) (i1 : v < 8192) (i2 : v % 2 = 0) : v + 1 < 4294967296 := by omega
theorem fs_peek_even_o7 (v : Nat) (hv : v < 4294967296) (i1 : v < 8192) (i2 : v % 2 = 0) : (v + 1) < 4294967296 := by omega
theorem fs_peek_even_o8 (v : Nat) (hv : v < 4294967296) (i1 : v < 8192) (i2 : v % 2 = 0) : (v + 1) < 8192 := by omega
theorem fs_peek_even (v : Nat) (hv : v < 4294967296) (i1 : v < 8192) (i2 : v % 2 = 0) (n : Nat) : zFst n 160 (zput (zput 0 1 (v + 1)) 0 (4294967297 + 1)) 252 (zput (zput 0 1 (v + 1)) 0 (4294967358 + 1)) := by
  have hs0 : hbB16.1 = 129 := rfl
  have sl0 : hbB16.2.1 = 650610 := rfl
  obtain ⟨L1, eL1⟩ : ∃ x : Nat, x = zput 0 1 (v + 1) := ⟨_, rfl⟩
  obtain ⟨L2, eL2⟩ : ∃ x : Nat, x = zput L1 0 (4294967297 + 1) := ⟨_, rfl⟩
  have lL2_0 : zlane L2 0 = 4294967297 + 1 := by rw [eL2]; exact zlane_same (by decide)
  have v0_2_0 : zcv haA0_c0 2 = 4294967299 := by decide +kernel
  have g0_0 : zget 8 hbB16.2.2 0 = haA0_c0 := rfl
  have st0_0 : haA0_c0.1 = 11 := rfl
  have ln0_0 : haA0_c0.2.1 = 18 := rfl
  have lL1_1 : zlane L1 1 = v + 1 := by rw [eL1]; exact zlane_same (Nat.lt_of_le_of_lt (Nat.succ_le_of_lt hv) (by decide))
  have lL2_1 : zlane L2 1 = v + 1 := by rw [eL2]; exact (zlane_ne (by decide) (by decide)).trans lL1_1
  obtain ⟨L3, eL3⟩ : ∃ x : Nat, x = zput 0 1 (v + 1) := ⟨_, rfl⟩
  obtain ⟨L4, eL4⟩ : ∃ x : Nat, x = zput L3 0 (4294967299 + 1) := ⟨_, rfl⟩
  have lL3_1 : zlane L3 1 = v + 1 := by rw [eL3]; exact zlane_same (Nat.lt_of_le_of_lt (Nat.succ_le_of_lt hv) (by decide))
  have lL4_1 : zlane L4 1 = v + 1 := by rw [eL4]; exact (zlane_ne (by decide) (by decide)).trans lL3_1
  have lL4_0 : zlane L4 0 = 4294967299 + 1 := by rw [eL4]; exact zlane_same (by decide)
  have v2_0_0 : zcv haA0_c2 0 = 4294967301 := by decide +kernel
  have g2_0 : zget 8 hbB16.2.2 2 = haA0_c2 := rfl
  have st2_0 : haA0_c2.1 = 3 := rfl
  have ln2_0 : haA0_c2.2.1 = 7 := rfl
  have g4_0 : zget 8 hbB16.2.2 4 = haA0_c4 := rfl
  have st4_0 : haA0_c4.1 = 100 := rfl
  have ln4_0 : haA0_c4.2.1 = 4096 := rfl
  obtain ⟨L6, eL6⟩ : ∃ x : Nat, x = zput 0 1 (v + 1) := ⟨_, rfl⟩
  obtain ⟨L7, eL7⟩ : ∃ x : Nat, x = zput L6 0 (4294967299 + 1) := ⟨_, rfl⟩
  have lL6_1 : zlane L6 1 = v + 1 := by rw [eL6]; exact zlane_same (Nat.lt_of_le_of_lt (Nat.succ_le_of_lt hv) (by decide))
  have lL7_1 : zlane L7 1 = v + 1 := by rw [eL7]; exact (zlane_ne (by decide) (by decide)).trans lL6_1
  obtain ⟨L9, eL9⟩ : ∃ x : Nat, x = zput L7 2 ((v / 2) + 1) := ⟨_, rfl⟩
  have lL9_1 : zlane L9 1 = v + 1 := by rw [eL9]; exact (zlane_ne (Nat.lt_of_le_of_lt (Nat.succ_le_of_lt (show (v / 2) < 4294967296 from (Nat.lt_of_le_of_lt (Nat.div_le_self _ _) hv))) (by decide)) (by decide)).trans lL7_1
  have lL9_2 : zlane L9 2 = (v / 2) + 1 := by rw [eL9]; exact zlane_same (Nat.lt_of_le_of_lt (Nat.succ_le_of_lt (show (v / 2) < 4294967296 from (Nat.lt_of_le_of_lt (Nat.div_le_self _ _) hv))) (by decide))
  have lL7_0 : zlane L7 0 = 4294967299 + 1 := by rw [eL7]; exact zlane_same (by decide)
  have lL9_0 : zlane L9 0 = 4294967299 + 1 := by rw [eL9]; exact (zlane_ne (Nat.lt_of_le_of_lt (Nat.succ_le_of_lt (show (v / 2) < 4294967296 from (Nat.lt_of_le_of_lt (Nat.div_le_self _ _) hv))) (by decide)) (by decide)).trans lL7_0
  obtain ⟨L10, eL10⟩ : ∃ x : Nat, x = zput 0 1 (v + 1) := ⟨_, rfl⟩
  obtain ⟨L11, eL11⟩ : ∃ x : Nat, x = zput L10 0 (4294967358 + 1) := ⟨_, rfl⟩
  have lL10_1 : zlane L10 1 = v + 1 := by rw [eL10]; exact zlane_same (Nat.lt_of_le_of_lt (Nat.succ_le_of_lt hv) (by decide))
  have lL11_1 : zlane L11 1 = v + 1 := by rw [eL11]; exact (zlane_ne (by decide) (by decide)).trans lL10_1
  obtain ⟨L12, eL12⟩ : ∃ x : Nat, x = zput 0 0 (v + 1) := ⟨_, rfl⟩
  have lL12_0 : zlane L12 0 = v + 1 := by rw [eL12]; exact zlane_same (Nat.lt_of_le_of_lt (Nat.succ_le_of_lt hv) (by decide))
  obtain ⟨L14, eL14⟩ : ∃ x : Nat, x = zput 0 2 (8191 + 1) := ⟨_, rfl⟩
  obtain ⟨L15, eL15⟩ : ∃ x : Nat, x = zput L14 1 (0 + 1) := ⟨_, rfl⟩
  obtain ⟨L16, eL16⟩ : ∃ x : Nat, x = zput L15 0 (v + 1) := ⟨_, rfl⟩
  have lL16_0 : zlane L16 0 = v + 1 := by rw [eL16]; exact zlane_same (Nat.lt_of_le_of_lt (Nat.succ_le_of_lt hv) (by decide))
  have lL15_1 : zlane L15 1 = 0 + 1 := by rw [eL15]; exact zlane_same (by decide)
  have lL16_1 : zlane L16 1 = 0 + 1 := by rw [eL16]; exact (zlane_ne (Nat.lt_of_le_of_lt (Nat.succ_le_of_lt hv) (by decide)) (by decide)).trans lL15_1
  have lL14_2 : zlane L14 2 = 8191 + 1 := by rw [eL14]; exact zlane_same (by decide)
  have lL15_2 : zlane L15 2 = 8191 + 1 := by rw [eL15]; exact (zlane_ne (by decide) (by decide)).trans lL14_2
  have lL16_2 : zlane L16 2 = 8191 + 1 := by rw [eL16]; exact (zlane_ne (Nat.lt_of_le_of_lt (Nat.succ_le_of_lt hv) (by decide)) (by decide)).trans lL15_2
  have lL11_0 : zlane L11 0 = 4294967358 + 1 := by rw [eL11]; exact zlane_same (by decide)
  have v61_0_0 : zcv hbB15_c61 0 = 4294967359 := by decide +kernel
  have g61_0 : zget 8 hbB16.2.2 61 = hbB15_c61 := rfl
  have st61_0 : hbB15_c61.1 = 12 := rfl
  have ln61_0 : hbB15_c61.2.1 = 114 := rfl
  have v62_1_0 : zcv haB6_c62 1 = 4294967361 := by decide +kernel
  have g62_0 : zget 8 hbB16.2.2 62 = haB6_c62 := rfl
  have st62_0 : haB6_c62.1 = 102 := rfl
  have ln62_0 : haB6_c62.2.1 = 2 := rfl
  have ln64_0 : haA0_c13.2.1 = 8192 := rfl
  have g64_0 : zget 8 hbB16.2.2 64 = haA0_c13 := rfl
  have st64_0 : haA0_c13.1 = 100 := rfl
  have MS : (zget 8 hbB16.2.2 61).1 = 12 := by rw [g61_0]; exact st61_0
  have A1 : zrunX zXt 9 ztc (n + 60) 1679 160 L2 [] hbB16 = some ([(zcv haA0_c4 (v / 2))], hbB16) := by
    refine (ca_160 (n := n + 59)).trans ?_
    refine (e_aload lL2_0 (by decide)).trans ?_
    refine (f_getf (k := 0) (by rw [hs0]; decide) g0_0 st0_0 (by rw [ln0_0]; decide) v0_2_0).trans ?_
    refine (e_iload lL2_1 hv).trans ?_
    have m5 : zrunX zXt 9 ztc (n + 59) 1678 46 L4 [] hbB16 = some ([1], hbB16) := by
      refine (ca_46 (n := n + 58)).trans ?_
      refine (e_iload lL4_1 hv).trans ?_
      refine (f_if_f (f := fun a => z_lt a 0) hv (zlt_f (a := v) (b := 0) (fs_peek_even_o0 v hv i1 i2))).trans ?_
      refine (e_iload lL4_1 hv).trans ?_
      refine (e_push).trans ?_
      refine (f_bin (f := z_and) (v := (v % 2)) hv (by decide) (z_and_m (k := 1) (by decide))).trans ?_
      refine (f_if_f (f := fun a => z_ne a 0) (show (v % 2) < 4294967296 from (Nat.lt_trans (Nat.mod_lt _ (by decide)) (by decide))) (zne_f (a := (v % 2)) (b := 0) i2)).trans ?_
      refine (e_iload lL4_1 hv).trans ?_
      refine (e_push).trans ?_
      refine (f_bin (f := z_shr) (v := (v / 2)) hv (by decide) (z_shr_p (k := 1) (fs_peek_even_o1 v hv i1 i2) (by decide))).trans ?_
      refine (e_aload lL4_0 (by decide)).trans ?_
      refine (f_getf (k := 2) (by rw [hs0]; decide) g2_0 st2_0 (by rw [ln2_0]; decide) v2_0_0).trans ?_
      refine (f_len (k := 4) (by rw [hs0]; decide) g4_0 st4_0 ln4_0).trans ?_
      refine (f_cmp_f (f := z_ge) (show (v / 2) < 4294967296 from (Nat.lt_of_le_of_lt (Nat.div_le_self _ _) hv)) (by decide) (zge_f (a := (v / 2)) (b := 4096) (fs_peek_even_o2 v hv i1 i2))).trans ?_
      refine (e_push).trans ?_
      show q_X3_holds_26 _ _ _ _ _ = _
      exact e_zret (R := zrunX zXt 9 ztc (n + 58)) (d := 1678) (L := L4) (h := hbB16) (v := 1) (by decide)
    refine (f_callV (k := 2) (d' := 1678) (S0 := [v, 4294967299]) (S' := []) (S2 := [1]) (fun q => by rw [zargs_s q (Nat.le_of_lt (Nat.lt_trans hv (by decide))), ← eL3, zargs_s q (by decide), ← eL4]; rfl) lL4_0 (by rw [hs0]; decide) g2_0 st2_0 (Nat.le_of_ble_eq_true rfl) m5 (hs0.trans hs0.symm) rfl).trans ?_
    refine (f_if_f (f := fun a => Nat.beq a 0) (by decide) (by decide +kernel)).trans ?_
    refine (e_aload lL2_0 (by decide)).trans ?_
    refine (f_getf (k := 0) (by rw [hs0]; decide) g0_0 st0_0 (by rw [ln0_0]; decide) v0_2_0).trans ?_
    refine (e_iload lL2_1 hv).trans ?_
    have m8 : zrunX zXt 9 ztc (n + 59) 1678 44 L7 [] hbB16 = some ([(zcv haA0_c4 (v / 2))], hbB16) := by
      refine (ca_44 (n := n + 58)).trans ?_
      refine (e_iload lL7_1 hv).trans ?_
      refine (e_push).trans ?_
      refine (f_bin (f := z_shr) (v := (v / 2)) hv (by decide) (z_shr_p (k := 1) (fs_peek_even_o1 v hv i1 i2) (by decide))).trans ?_
      refine (f_istore (show (v / 2) < 4294967296 from (Nat.lt_of_le_of_lt (Nat.div_le_self _ _) hv)) eL9.symm).trans ?_
      refine (e_iload lL9_1 hv).trans ?_
      refine (e_push).trans ?_
      refine (f_bin (f := z_and) (v := (v % 2)) hv (by decide) (z_and_m (k := 1) (by decide))).trans ?_
      refine (f_if_f (f := fun a => z_ne a 0) (show (v % 2) < 4294967296 from (Nat.lt_trans (Nat.mod_lt _ (by decide)) (by decide))) (zne_f (a := (v % 2)) (b := 0) i2)).trans ?_
      refine (e_iload lL9_2 (show (v / 2) < 4294967296 from (Nat.lt_of_le_of_lt (Nat.div_le_self _ _) hv))).trans ?_
      refine (f_if_f (f := fun a => z_lt a 0) (show (v / 2) < 4294967296 from (Nat.lt_of_le_of_lt (Nat.div_le_self _ _) hv)) (zlt_f (a := (v / 2)) (b := 0) (fs_peek_even_o3 v hv i1 i2))).trans ?_
      refine (e_iload lL9_2 (show (v / 2) < 4294967296 from (Nat.lt_of_le_of_lt (Nat.div_le_self _ _) hv))).trans ?_
      refine (e_aload lL9_0 (by decide)).trans ?_
      refine (f_getf (k := 2) (by rw [hs0]; decide) g2_0 st2_0 (by rw [ln2_0]; decide) v2_0_0).trans ?_
      refine (f_len (k := 4) (by rw [hs0]; decide) g4_0 st4_0 ln4_0).trans ?_
      refine (f_cmp_f (f := z_ge) (show (v / 2) < 4294967296 from (Nat.lt_of_le_of_lt (Nat.div_le_self _ _) hv)) (by decide) (zge_f (a := (v / 2)) (b := 4096) (fs_peek_even_o2 v hv i1 i2))).trans ?_
      refine (e_aload lL9_0 (by decide)).trans ?_
      refine (f_getf (k := 2) (by rw [hs0]; decide) g2_0 st2_0 (by rw [ln2_0]; decide) v2_0_0).trans ?_
      refine (e_iload lL9_2 (show (v / 2) < 4294967296 from (Nat.lt_of_le_of_lt (Nat.div_le_self _ _) hv))).trans ?_
      refine (e_iald (k := 4) (show (v / 2) < 4294967296 from (Nat.lt_of_le_of_lt (Nat.div_le_self _ _) hv)) (by rw [hs0]; decide) g4_0 st4_0 (by rw [ln4_0]; exact (fs_peek_even_o4 v hv i1 i2)) rfl (zb_bx (v / 2) (fs_peek_even_o4 v hv i1 i2))).trans ?_
      show q_X3_at_33 _ _ _ _ _ = _
      exact e_ret (R := zrunX zXt 9 ztc (n + 58)) (d := 1678) (L := L9) (h := hbB16) (v := (zcv haA0_c4 (v / 2))) (show (zcv haA0_c4 (v / 2)) < 4294967296 from (zb_bx (v / 2) (fs_peek_even_o4 v hv i1 i2)))
    refine (f_callV (k := 2) (d' := 1678) (S0 := [v, 4294967299]) (S' := []) (S2 := [(zcv haA0_c4 (v / 2))]) (fun q => by rw [zargs_s q (Nat.le_of_lt (Nat.lt_trans hv (by decide))), ← eL6, zargs_s q (by decide), ← eL7]; rfl) lL7_0 (by rw [hs0]; decide) g2_0 st2_0 (Nat.le_of_ble_eq_true rfl) m8 (hs0.trans hs0.symm) rfl).trans ?_
    show q_X11_peek_23 _ _ _ _ _ = _
    exact e_ret (R := zrunX zXt 9 ztc (n + 59)) (d := 1679) (L := L2) (h := hbB16) (v := (zcv haA0_c4 (v / 2))) (show (zcv haA0_c4 (v / 2)) < 4294967296 from (zb_bx (v / 2) (fs_peek_even_o4 v hv i1 i2)))
  have A2 : zrunX zXt 9 ztc (n + 60) 1679 252 L11 [] hbB16 = some ([(z_or (zcv haA0_c13 v) (z_shl (zcv haA0_c13 (v + 1)) 8))], hbB16) := by
    refine (ca_252 (n := n + 59)).trans ?_
    refine (e_iload lL11_1 hv).trans ?_
    have m13 : zrunX zXt 9 ztc (n + 59) 1678 220 L12 [] hbB16 = some ([1], hbB16) := by
      refine (ca_220 (n := n + 58)).trans ?_
      refine (e_iload lL12_0 hv).trans ?_
      refine (e_push).trans ?_
      refine (e_push).trans ?_
      have m17 : zrunX zXt 9 ztc (n + 58) 1677 217 L16 [] hbB16 = some ([1], hbB16) := by
        refine (ca_217 (n := n + 57)).trans ?_
        refine (e_iload lL16_0 hv).trans ?_
        refine (e_iload lL16_1 (by decide)).trans ?_
        refine (f_cmp_f (f := z_lt) hv (by decide) (zlt_f (a := v) (b := 0) (fs_peek_even_o0 v hv i1 i2))).trans ?_
        refine (e_iload lL16_0 hv).trans ?_
        refine (e_iload lL16_2 (by decide)).trans ?_
        refine (f_cmp_f (f := z_gt) hv (by decide) (zgt_f (a := v) (b := 8191) (fs_peek_even_o5 v hv i1 i2))).trans ?_
        refine (e_push).trans ?_
        show q_X12_in_15 _ _ _ _ _ = _
        exact e_zret (R := zrunX zXt 9 ztc (n + 57)) (d := 1677) (L := L16) (h := hbB16) (v := 1) (by decide)
      refine (f_callS (d' := 1677) (S0 := [8191, 0, v]) (S' := []) (S2 := [1]) (fun q => by rw [zargs_s q (by decide), ← eL14, zargs_s q (by decide), ← eL15, zargs_s q (Nat.le_of_lt (Nat.lt_trans hv (by decide))), ← eL16]; rfl) (Nat.le_of_ble_eq_true rfl) m17 (hs0.trans hs0.symm) rfl).trans ?_
      refine (f_if_f (f := fun a => Nat.beq a 0) (by decide) (by decide +kernel)).trans ?_
      refine (e_iload lL12_0 hv).trans ?_
      refine (e_push).trans ?_
      refine (f_bin (f := z_and) (v := (v % 2)) hv (by decide) (z_and_m (k := 1) (by decide))).trans ?_
      refine (f_if_f (f := fun a => z_ne a 0) (show (v % 2) < 4294967296 from (Nat.lt_trans (Nat.mod_lt _ (by decide)) (by decide))) (zne_f (a := (v % 2)) (b := 0) i2)).trans ?_
      refine (e_push).trans ?_
      show q_X12_isBenchPlace_22 _ _ _ _ _ = _
      exact e_zret (R := zrunX zXt 9 ztc (n + 58)) (d := 1678) (L := L12) (h := hbB16) (v := 1) (by decide)
    refine (f_callS (d' := 1678) (S0 := [v]) (S' := []) (S2 := [1]) (fun q => by rw [zargs_s q (Nat.le_of_lt (Nat.lt_trans hv (by decide))), ← eL12]; rfl) (Nat.le_of_ble_eq_true rfl) m13 (hs0.trans hs0.symm) rfl).trans ?_
    refine (f_if_f (f := fun a => Nat.beq a 0) (by decide) (by decide +kernel)).trans ?_
    refine (e_aload lL11_0 (by decide)).trans ?_
    refine (f_getf (k := 61) (by rw [hs0]; decide) g61_0 st61_0 (by rw [ln61_0]; decide) v61_0_0).trans ?_
    refine (e_push).trans ?_
    refine (e_aald (k := 62) (by decide) (by rw [hs0]; decide) g62_0 st62_0 (by rw [ln62_0]; decide) v62_1_0 (by decide)).trans ?_
    refine (e_iload lL11_1 hv).trans ?_
    refine (e_iald (k := 64) hv (by rw [hs0]; decide) g64_0 st64_0 (by rw [ln64_0]; exact i1) rfl (zb_bm v i1)).trans ?_
    refine (e_aload lL11_0 (by decide)).trans ?_
    refine (f_getf (k := 61) (by rw [hs0]; decide) g61_0 st61_0 (by rw [ln61_0]; decide) v61_0_0).trans ?_
    refine (e_push).trans ?_
    refine (e_aald (k := 62) (by decide) (by rw [hs0]; decide) g62_0 st62_0 (by rw [ln62_0]; decide) v62_1_0 (by decide)).trans ?_
    refine (e_iload lL11_1 hv).trans ?_
    refine (e_push).trans ?_
    refine (f_bin (f := z_add) (v := (v + 1)) hv (by decide) (z_add_l (fs_peek_even_o6 v hv i1 i2))).trans ?_
    refine (e_iald (k := 64) (show (v + 1) < 4294967296 from (fs_peek_even_o7 v hv i1 i2)) (by rw [hs0]; decide) g64_0 st64_0 (by rw [ln64_0]; exact (fs_peek_even_o8 v hv i1 i2)) rfl (zb_bm (v + 1) (fs_peek_even_o8 v hv i1 i2))).trans ?_
    refine (e_push).trans ?_
    refine (f_bin (f := z_shl) (v := (z_shl (zcv haA0_c13 (v + 1)) 8)) (show (zcv haA0_c13 (v + 1)) < 4294967296 from (zb_bm (v + 1) (fs_peek_even_o8 v hv i1 i2))) (by decide) rfl).trans ?_
    refine (f_bin (f := z_or) (v := (z_or (zcv haA0_c13 v) (z_shl (zcv haA0_c13 (v + 1)) 8))) (show (zcv haA0_c13 v) < 4294967296 from (zb_bm v i1)) (show (z_shl (zcv haA0_c13 (v + 1)) 8) < 4294967296 from (z_shl_ok _ _ (show (zcv haA0_c13 (v + 1)) < 4294967296 from (zb_bm (v + 1) (fs_peek_even_o8 v hv i1 i2))) (by decide)).1) rfl).trans ?_
    show q_X12_peek_33 _ _ _ _ _ = _
    exact e_ret (R := zrunX zXt 9 ztc (n + 59)) (d := 1679) (L := L11) (h := hbB16) (v := (z_or (zcv haA0_c13 v) (z_shl (zcv haA0_c13 (v + 1)) 8))) (show (z_or (zcv haA0_c13 v) (z_shl (zcv haA0_c13 (v + 1)) 8)) < 4294967296 from (z_or_ok _ _ (show (zcv haA0_c13 v) < 4294967296 from (zb_bm v i1)) (show (z_shl (zcv haA0_c13 (v + 1)) 8) < 4294967296 from (z_shl_ok _ _ (show (zcv haA0_c13 (v + 1)) < 4294967296 from (zb_bm (v + 1) (fs_peek_even_o8 v hv i1 i2))) (by decide)).1)).1)
  rw [zeq_peek v i1 i2] at A2
  rw [eL2, eL1] at A1
  rw [eL11, eL10] at A2
  exact ⟨_, _, _, (show (zcv haA0_c4 (v / 2)) < 4294967296 from (zb_bx (v / 2) (fs_peek_even_o4 v hv i1 i2))), A1, hs0, MS, A2, hs0, sl0⟩
