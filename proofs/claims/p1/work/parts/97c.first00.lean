theorem fs_end_neg_o0 (v : Nat) (hv : v < 4294967296) (i1 : 2147483648 ≤ v) : (v + 2147483648) % 4294967296 < (0 + 2147483648) % 4294967296 := by omega
theorem fs_end_neg (v : Nat) (hv : v < 4294967296) (i1 : 2147483648 ≤ v) (n : Nat) : zFst n 146 (zput (zput 0 1 (v + 1)) 0 (4294967297 + 1)) 200 (zput (zput 0 1 (v + 1)) 0 (4294967358 + 1)) := by
  have hs0 : hbB16.1 = 129 := rfl
  have sl0 : hbB16.2.1 = 650610 := rfl
  obtain ⟨L1, eL1⟩ : ∃ x : Nat, x = zput 0 1 (v + 1) := ⟨_, rfl⟩
  obtain ⟨L2, eL2⟩ : ∃ x : Nat, x = zput L1 0 (4294967297 + 1) := ⟨_, rfl⟩
  have lL1_1 : zlane L1 1 = v + 1 := by rw [eL1]; exact zlane_same (Nat.lt_of_le_of_lt (Nat.succ_le_of_lt hv) (by decide))
  have lL2_1 : zlane L2 1 = v + 1 := by rw [eL2]; exact (zlane_ne (by decide) (by decide)).trans lL1_1
  obtain ⟨L3, eL3⟩ : ∃ x : Nat, x = zput 0 1 (v + 1) := ⟨_, rfl⟩
  obtain ⟨L4, eL4⟩ : ∃ x : Nat, x = zput L3 0 (4294967358 + 1) := ⟨_, rfl⟩
  have lL3_1 : zlane L3 1 = v + 1 := by rw [eL3]; exact zlane_same (Nat.lt_of_le_of_lt (Nat.succ_le_of_lt hv) (by decide))
  have lL4_1 : zlane L4 1 = v + 1 := by rw [eL4]; exact (zlane_ne (by decide) (by decide)).trans lL3_1
  have lL4_0 : zlane L4 0 = 4294967358 + 1 := by rw [eL4]; exact zlane_same (by decide)
  have v61_32_0 : zcv hbB15_c61 32 = 0 := by decide +kernel
  have g61_0 : zget 8 hbB16.2.2 61 = hbB15_c61 := rfl
  have st61_0 : hbB15_c61.1 = 12 := rfl
  have ln61_0 : hbB15_c61.2.1 = 114 := rfl
  obtain ⟨L5, eL5⟩ : ∃ x : Nat, x = zput 0 2 (0 + 1) := ⟨_, rfl⟩
  obtain ⟨L6, eL6⟩ : ∃ x : Nat, x = zput L5 1 (0 + 1) := ⟨_, rfl⟩
  obtain ⟨L7, eL7⟩ : ∃ x : Nat, x = zput L6 0 (v + 1) := ⟨_, rfl⟩
  have lL7_0 : zlane L7 0 = v + 1 := by rw [eL7]; exact zlane_same (Nat.lt_of_le_of_lt (Nat.succ_le_of_lt hv) (by decide))
  have lL6_1 : zlane L6 1 = 0 + 1 := by rw [eL6]; exact zlane_same (by decide)
  have lL7_1 : zlane L7 1 = 0 + 1 := by rw [eL7]; exact (zlane_ne (Nat.lt_of_le_of_lt (Nat.succ_le_of_lt hv) (by decide)) (by decide)).trans lL6_1
  have MS : (zget 8 hbB16.2.2 61).1 = 12 := by rw [g61_0]; exact st61_0
  have A1 : zrunX zXt 9 ztc (n + 60) 1679 146 L2 [] hbB16 = some ([0], hbB16) := by
    refine (ca_146 (n := n + 59)).trans ?_
    refine (e_iload lL2_1 hv).trans ?_
    refine (f_if_t (f := fun a => z_lt a 0) hv (zlt_t (a := v) (b := 0) (fs_end_neg_o0 v hv i1))).trans ?_
    refine (e_push).trans ?_
    exact e_zret (R := zrunX zXt 9 ztc (n + 59)) (d := 1679) (L := L2) (h := hbB16) (v := 0) (by decide)
  have A2 : zrunX zXt 9 ztc (n + 60) 1679 200 L4 [] hbB16 = some ([0], hbB16) := by
    refine (ca_200 (n := n + 59)).trans ?_
    refine (e_iload lL4_1 hv).trans ?_
    refine (e_push).trans ?_
    refine (e_aload lL4_0 (by decide)).trans ?_
    refine (f_getf (k := 61) (by rw [hs0]; decide) g61_0 st61_0 (by rw [ln61_0]; decide) v61_32_0).trans ?_
    have m8 : zrunX zXt 9 ztc (n + 59) 1678 217 L7 [] hbB16 = some ([0], hbB16) := by
      refine (ca_217 (n := n + 58)).trans ?_
      refine (e_iload lL7_0 hv).trans ?_
      refine (e_iload lL7_1 (by decide)).trans ?_
      refine (f_cmp_t (f := z_lt) hv (by decide) (zlt_t (a := v) (b := 0) (fs_end_neg_o0 v hv i1))).trans ?_
      refine (e_push).trans ?_
      exact e_zret (R := zrunX zXt 9 ztc (n + 58)) (d := 1678) (L := L7) (h := hbB16) (v := 0) (by decide)
    refine (f_callS (d' := 1678) (S0 := [0, 0, v]) (S' := []) (S2 := [0]) (fun q => by rw [zargs_s q (by decide), ← eL5, zargs_s q (by decide), ← eL6, zargs_s q (Nat.le_of_lt (Nat.lt_trans hv (by decide))), ← eL7]; rfl) (Nat.le_of_ble_eq_true rfl) m8 (hs0.trans hs0.symm) rfl).trans ?_
    refine (f_if_f (f := fun a => z_ne a 0) (by decide) (by decide +kernel)).trans ?_
    refine (e_push).trans ?_
    exact e_zret (R := zrunX zXt 9 ztc (n + 59)) (d := 1679) (L := L4) (h := hbB16) (v := 0) (by decide)
  rw [eL2, eL1] at A1
  rw [eL4, eL3] at A2
  exact ⟨_, _, _, (by decide), A1, hs0, MS, A2, hs0, sl0⟩
theorem fs_end_pos_o0 (v : Nat) (hv : v < 4294967296) (i1 : 1 ≤ v) (i2 : v < 2147483648) : (0 + 2147483648) % 4294967296 ≤ (v + 2147483648) % 4294967296 := by omega
theorem fs_end_pos_o1 (v : Nat) (hv : v < 4294967296) (i1 : 1 ≤ v) (i2 : v < 2147483648) : (0 + 2147483648) % 4294967296 < (v + 2147483648) % 4294967296 := by omega
theorem fs_end_pos (v : Nat) (hv : v < 4294967296) (i1 : 1 ≤ v) (i2 : v < 2147483648) (n : Nat) : zFst n 146 (zput (zput 0 1 (v + 1)) 0 (4294967297 + 1)) 200 (zput (zput 0 1 (v + 1)) 0 (4294967358 + 1)) := by
  have hs0 : hbB16.1 = 129 := rfl
  have sl0 : hbB16.2.1 = 650610 := rfl
  obtain ⟨L1, eL1⟩ : ∃ x : Nat, x = zput 0 1 (v + 1) := ⟨_, rfl⟩
  obtain ⟨L2, eL2⟩ : ∃ x : Nat, x = zput L1 0 (4294967297 + 1) := ⟨_, rfl⟩
  have lL1_1 : zlane L1 1 = v + 1 := by rw [eL1]; exact zlane_same (Nat.lt_of_le_of_lt (Nat.succ_le_of_lt hv) (by decide))
  have lL2_1 : zlane L2 1 = v + 1 := by rw [eL2]; exact (zlane_ne (by decide) (by decide)).trans lL1_1
  have lL2_0 : zlane L2 0 = 4294967297 + 1 := by rw [eL2]; exact zlane_same (by decide)
  have v0_1_0 : zcv haA0_c0 1 = 0 := by decide +kernel
  have g0_0 : zget 8 hbB16.2.2 0 = haA0_c0 := rfl
  have st0_0 : haA0_c0.1 = 11 := rfl
  have ln0_0 : haA0_c0.2.1 = 18 := rfl
  obtain ⟨L3, eL3⟩ : ∃ x : Nat, x = zput 0 1 (v + 1) := ⟨_, rfl⟩
  obtain ⟨L4, eL4⟩ : ∃ x : Nat, x = zput L3 0 (4294967358 + 1) := ⟨_, rfl⟩
  have lL3_1 : zlane L3 1 = v + 1 := by rw [eL3]; exact zlane_same (Nat.lt_of_le_of_lt (Nat.succ_le_of_lt hv) (by decide))
  have lL4_1 : zlane L4 1 = v + 1 := by rw [eL4]; exact (zlane_ne (by decide) (by decide)).trans lL3_1
  have lL4_0 : zlane L4 0 = 4294967358 + 1 := by rw [eL4]; exact zlane_same (by decide)
  have v61_32_0 : zcv hbB15_c61 32 = 0 := by decide +kernel
  have g61_0 : zget 8 hbB16.2.2 61 = hbB15_c61 := rfl
  have st61_0 : hbB15_c61.1 = 12 := rfl
  have ln61_0 : hbB15_c61.2.1 = 114 := rfl
  obtain ⟨L5, eL5⟩ : ∃ x : Nat, x = zput 0 2 (0 + 1) := ⟨_, rfl⟩
  obtain ⟨L6, eL6⟩ : ∃ x : Nat, x = zput L5 1 (0 + 1) := ⟨_, rfl⟩
  obtain ⟨L7, eL7⟩ : ∃ x : Nat, x = zput L6 0 (v + 1) := ⟨_, rfl⟩
  have lL7_0 : zlane L7 0 = v + 1 := by rw [eL7]; exact zlane_same (Nat.lt_of_le_of_lt (Nat.succ_le_of_lt hv) (by decide))
  have lL6_1 : zlane L6 1 = 0 + 1 := by rw [eL6]; exact zlane_same (by decide)
  have lL7_1 : zlane L7 1 = 0 + 1 := by rw [eL7]; exact (zlane_ne (Nat.lt_of_le_of_lt (Nat.succ_le_of_lt hv) (by decide)) (by decide)).trans lL6_1
  have lL5_2 : zlane L5 2 = 0 + 1 := by rw [eL5]; exact zlane_same (by decide)
  have lL6_2 : zlane L6 2 = 0 + 1 := by rw [eL6]; exact (zlane_ne (by decide) (by decide)).trans lL5_2
  have lL7_2 : zlane L7 2 = 0 + 1 := by rw [eL7]; exact (zlane_ne (Nat.lt_of_le_of_lt (Nat.succ_le_of_lt hv) (by decide)) (by decide)).trans lL6_2
  have MS : (zget 8 hbB16.2.2 61).1 = 12 := by rw [g61_0]; exact st61_0
  have A1 : zrunX zXt 9 ztc (n + 60) 1679 146 L2 [] hbB16 = some ([0], hbB16) := by
    refine (ca_146 (n := n + 59)).trans ?_
    refine (e_iload lL2_1 hv).trans ?_
    refine (f_if_f (f := fun a => z_lt a 0) hv (zlt_f (a := v) (b := 0) (fs_end_pos_o0 v hv i1 i2))).trans ?_
    refine (e_iload lL2_1 hv).trans ?_
    refine (e_aload lL2_0 (by decide)).trans ?_
    refine (f_getf (k := 0) (by rw [hs0]; decide) g0_0 st0_0 (by rw [ln0_0]; decide) v0_1_0).trans ?_
    refine (f_cmp_f (f := z_le) hv (by decide) (zle_f (a := v) (b := 0) (fs_end_pos_o1 v hv i1 i2))).trans ?_
    refine (e_push).trans ?_
    exact e_zret (R := zrunX zXt 9 ztc (n + 59)) (d := 1679) (L := L2) (h := hbB16) (v := 0) (by decide)
  have A2 : zrunX zXt 9 ztc (n + 60) 1679 200 L4 [] hbB16 = some ([0], hbB16) := by
    refine (ca_200 (n := n + 59)).trans ?_
    refine (e_iload lL4_1 hv).trans ?_
    refine (e_push).trans ?_
    refine (e_aload lL4_0 (by decide)).trans ?_
    refine (f_getf (k := 61) (by rw [hs0]; decide) g61_0 st61_0 (by rw [ln61_0]; decide) v61_32_0).trans ?_
    have m8 : zrunX zXt 9 ztc (n + 59) 1678 217 L7 [] hbB16 = some ([0], hbB16) := by
      refine (ca_217 (n := n + 58)).trans ?_
      refine (e_iload lL7_0 hv).trans ?_
      refine (e_iload lL7_1 (by decide)).trans ?_
      refine (f_cmp_f (f := z_lt) hv (by decide) (zlt_f (a := v) (b := 0) (fs_end_pos_o0 v hv i1 i2))).trans ?_
      refine (e_iload lL7_0 hv).trans ?_
      refine (e_iload lL7_2 (by decide)).trans ?_
      refine (f_cmp_t (f := z_gt) hv (by decide) (zgt_t (a := v) (b := 0) (fs_end_pos_o1 v hv i1 i2))).trans ?_
      refine (e_push).trans ?_
      exact e_zret (R := zrunX zXt 9 ztc (n + 58)) (d := 1678) (L := L7) (h := hbB16) (v := 0) (by decide)
    refine (f_callS (d' := 1678) (S0 := [0, 0, v]) (S' := []) (S2 := [0]) (fun q => by rw [zargs_s q (by decide), ← eL5, zargs_s q (by decide), ← eL6, zargs_s q (Nat.le_of_lt (Nat.lt_trans hv (by decide))), ← eL7]; rfl) (Nat.le_of_ble_eq_true rfl) m8 (hs0.trans hs0.symm) rfl).trans ?_
    refine (f_if_f (f := fun a => z_ne a 0) (by decide) (by decide +kernel)).trans ?_
    refine (e_push).trans ?_
    exact e_zret (R := zrunX zXt 9 ztc (n + 59)) (d := 1679) (L := L4) (h := hbB16) (v := 0) (by decide)
  rw [eL2, eL1] at A1
  rw [eL4, eL3] at A2
  exact ⟨_, _, _, (by decide), A1, hs0, MS, A2, hs0, sl0⟩
theorem fs_fault_o0 (v : Nat) (hv : v < 4294967296) (i1 : 2 ≤ v) : v ≠ 0 := by omega
theorem fs_fault_o1 (v : Nat) (hv : v < 4294967296) (i1 : 2 ≤ v) : v ≠ 1 := by omega
theorem fs_fault (v : Nat) (hv : v < 4294967296) (i1 : 2 ≤ v) (n : Nat) : zFst n 147 (zput (zput 0 1 (v + 1)) 0 (4294967297 + 1)) 201 (zput (zput 0 1 (v + 1)) 0 (4294967358 + 1)) := by
  have hs0 : hbB16.1 = 129 := rfl
  have sl0 : hbB16.2.1 = 650610 := rfl
  obtain ⟨L1, eL1⟩ : ∃ x : Nat, x = zput 0 1 (v + 1) := ⟨_, rfl⟩
  obtain ⟨L2, eL2⟩ : ∃ x : Nat, x = zput L1 0 (4294967297 + 1) := ⟨_, rfl⟩
  have lL1_1 : zlane L1 1 = v + 1 := by rw [eL1]; exact zlane_same (Nat.lt_of_le_of_lt (Nat.succ_le_of_lt hv) (by decide))
  have lL2_1 : zlane L2 1 = v + 1 := by rw [eL2]; exact (zlane_ne (by decide) (by decide)).trans lL1_1
  obtain ⟨L3, eL3⟩ : ∃ x : Nat, x = zput 0 1 (v + 1) := ⟨_, rfl⟩
  obtain ⟨L4, eL4⟩ : ∃ x : Nat, x = zput L3 0 (4294967358 + 1) := ⟨_, rfl⟩
  have lL3_1 : zlane L3 1 = v + 1 := by rw [eL3]; exact zlane_same (Nat.lt_of_le_of_lt (Nat.succ_le_of_lt hv) (by decide))
  have lL4_1 : zlane L4 1 = v + 1 := by rw [eL4]; exact (zlane_ne (by decide) (by decide)).trans lL3_1
  have g61_0 : zget 8 hbB16.2.2 61 = hbB15_c61 := rfl
  have st61_0 : hbB15_c61.1 = 12 := rfl
  have MS : (zget 8 hbB16.2.2 61).1 = 12 := by rw [g61_0]; exact st61_0
  have A1 : zrunX zXt 9 ztc (n + 60) 1679 147 L2 [] hbB16 = some ([4294967295], hbB16) := by
    refine (ca_147 (n := n + 59)).trans ?_
    refine (e_iload lL2_1 hv).trans ?_
    refine (f_if_t (f := fun a => z_ne a 0) hv (zne_t (a := v) (b := 0) (fs_fault_o0 v hv i1))).trans ?_
    refine (e_iload lL2_1 hv).trans ?_
    refine (e_push).trans ?_
    refine (f_cmp_t (f := z_ne) hv (by decide) (zne_t (a := v) (b := 1) (fs_fault_o1 v hv i1))).trans ?_
    refine (e_push).trans ?_
    exact e_ret (R := zrunX zXt 9 ztc (n + 59)) (d := 1679) (L := L2) (h := hbB16) (v := 4294967295) (by decide)
  have A2 : zrunX zXt 9 ztc (n + 60) 1679 201 L4 [] hbB16 = some ([4294967295], hbB16) := by
    refine (ca_201 (n := n + 59)).trans ?_
    refine (e_iload lL4_1 hv).trans ?_
    refine (f_if_t (f := fun a => z_ne a 0) hv (zne_t (a := v) (b := 0) (fs_fault_o0 v hv i1))).trans ?_
    refine (e_iload lL4_1 hv).trans ?_
    refine (e_push).trans ?_
    refine (f_cmp_t (f := z_ne) hv (by decide) (zne_t (a := v) (b := 1) (fs_fault_o1 v hv i1))).trans ?_
    refine (e_push).trans ?_
    exact e_ret (R := zrunX zXt 9 ztc (n + 59)) (d := 1679) (L := L4) (h := hbB16) (v := 4294967295) (by decide)
  rw [eL2, eL1] at A1
  rw [eL4, eL3] at A2
  exact ⟨_, _, _, (by decide), A1, hs0, MS, A2, hs0, sl0⟩
theorem fs_run_neg_o0 (v : Nat) (hv : v < 4294967296) (i1 : 2147483648 ≤ v) : (v + 2147483648) % 4294967296 < (1 + 2147483648) % 4294967296 := by omega
theorem fs_run_neg (v : Nat) (hv : v < 4294967296) (i1 : 2147483648 ≤ v) (n : Nat) : zFst n 166 (zput (zput 0 1 (v + 1)) 0 (4294967297 + 1)) 266 (zput (zput 0 1 (v + 1)) 0 (4294967358 + 1)) := by
  have hs0 : hbB16.1 = 129 := rfl
  have sl0 : hbB16.2.1 = 650610 := rfl
  obtain ⟨L1, eL1⟩ : ∃ x : Nat, x = zput 0 1 (v + 1) := ⟨_, rfl⟩
  obtain ⟨L2, eL2⟩ : ∃ x : Nat, x = zput L1 0 (4294967297 + 1) := ⟨_, rfl⟩
  have lL1_1 : zlane L1 1 = v + 1 := by rw [eL1]; exact zlane_same (Nat.lt_of_le_of_lt (Nat.succ_le_of_lt hv) (by decide))
  have lL2_1 : zlane L2 1 = v + 1 := by rw [eL2]; exact (zlane_ne (by decide) (by decide)).trans lL1_1
  obtain ⟨L3, eL3⟩ : ∃ x : Nat, x = zput 0 1 (v + 1) := ⟨_, rfl⟩
  obtain ⟨L4, eL4⟩ : ∃ x : Nat, x = zput L3 0 (4294967358 + 1) := ⟨_, rfl⟩
  have lL3_1 : zlane L3 1 = v + 1 := by rw [eL3]; exact zlane_same (Nat.lt_of_le_of_lt (Nat.succ_le_of_lt hv) (by decide))
  have lL4_1 : zlane L4 1 = v + 1 := by rw [eL4]; exact (zlane_ne (by decide) (by decide)).trans lL3_1
  obtain ⟨L5, eL5⟩ : ∃ x : Nat, x = zput 0 2 (20000 + 1) := ⟨_, rfl⟩
  obtain ⟨L6, eL6⟩ : ∃ x : Nat, x = zput L5 1 (1 + 1) := ⟨_, rfl⟩
  obtain ⟨L7, eL7⟩ : ∃ x : Nat, x = zput L6 0 (v + 1) := ⟨_, rfl⟩
  have lL7_0 : zlane L7 0 = v + 1 := by rw [eL7]; exact zlane_same (Nat.lt_of_le_of_lt (Nat.succ_le_of_lt hv) (by decide))
  have lL6_1 : zlane L6 1 = 1 + 1 := by rw [eL6]; exact zlane_same (by decide)
  have lL7_1 : zlane L7 1 = 1 + 1 := by rw [eL7]; exact (zlane_ne (Nat.lt_of_le_of_lt (Nat.succ_le_of_lt hv) (by decide)) (by decide)).trans lL6_1
  have g61_0 : zget 8 hbB16.2.2 61 = hbB15_c61 := rfl
  have st61_0 : hbB15_c61.1 = 12 := rfl
  have MS : (zget 8 hbB16.2.2 61).1 = 12 := by rw [g61_0]; exact st61_0
  have A1 : zrunX zXt 9 ztc (n + 60) 1679 166 L2 [] hbB16 = some ([4294967295], hbB16) := by
    refine (ca_166 (n := n + 59)).trans ?_
    refine (e_iload lL2_1 hv).trans ?_
    refine (e_push).trans ?_
    refine (f_cmp_t (f := z_lt) hv (by decide) (zlt_t (a := v) (b := 1) (fs_run_neg_o0 v hv i1))).trans ?_
    refine (e_push).trans ?_
    exact e_ret (R := zrunX zXt 9 ztc (n + 59)) (d := 1679) (L := L2) (h := hbB16) (v := 4294967295) (by decide)
  have A2 : zrunX zXt 9 ztc (n + 60) 1679 266 L4 [] hbB16 = some ([4294967295], hbB16) := by
    refine (ca_266 (n := n + 59)).trans ?_
    refine (e_iload lL4_1 hv).trans ?_
    refine (e_push).trans ?_
    refine (e_push).trans ?_
    have m8 : zrunX zXt 9 ztc (n + 59) 1678 217 L7 [] hbB16 = some ([0], hbB16) := by
      refine (ca_217 (n := n + 58)).trans ?_
      refine (e_iload lL7_0 hv).trans ?_
      refine (e_iload lL7_1 (by decide)).trans ?_
      refine (f_cmp_t (f := z_lt) hv (by decide) (zlt_t (a := v) (b := 1) (fs_run_neg_o0 v hv i1))).trans ?_
      refine (e_push).trans ?_
      exact e_zret (R := zrunX zXt 9 ztc (n + 58)) (d := 1678) (L := L7) (h := hbB16) (v := 0) (by decide)
    refine (f_callS (d' := 1678) (S0 := [20000, 1, v]) (S' := []) (S2 := [0]) (fun q => by rw [zargs_s q (by decide), ← eL5, zargs_s q (by decide), ← eL6, zargs_s q (Nat.le_of_lt (Nat.lt_trans hv (by decide))), ← eL7]; rfl) (Nat.le_of_ble_eq_true rfl) m8 (hs0.trans hs0.symm) rfl).trans ?_
    refine (f_if_f (f := fun a => z_ne a 0) (by decide) (by decide +kernel)).trans ?_
    refine (e_push).trans ?_
    exact e_ret (R := zrunX zXt 9 ztc (n + 59)) (d := 1679) (L := L4) (h := hbB16) (v := 4294967295) (by decide)
  rw [eL2, eL1] at A1
  rw [eL4, eL3] at A2
  exact ⟨_, _, _, (by decide), A1, hs0, MS, A2, hs0, sl0⟩
theorem fs_run_in_o0 (v : Nat) (hv : v < 4294967296) (i1 : 1 ≤ v) (i2 : v ≤ 20000) : (1 + 2147483648) % 4294967296 ≤ (v + 2147483648) % 4294967296 := by omega
theorem fs_run_in_o1 (v : Nat) (hv : v < 4294967296) (i1 : 1 ≤ v) (i2 : v ≤ 20000) : (v + 2147483648) % 4294967296 ≤ (20000 + 2147483648) % 4294967296 := by omega
theorem fs_run_in (v : Nat) (hv : v < 4294967296) (i1 : 1 ≤ v) (i2 : v ≤ 20000) (n : Nat) : zFst n 166 (zput (zput 0 1 (v + 1)) 0 (4294967297 + 1)) 266 (zput (zput 0 1 (v + 1)) 0 (4294967358 + 1)) := by
  have hs0 : hbB16.1 = 129 := rfl
  have sl0 : hbB16.2.1 = 650610 := rfl
  obtain ⟨L1, eL1⟩ : ∃ x : Nat, x = zput 0 1 (v + 1) := ⟨_, rfl⟩
  obtain ⟨L2, eL2⟩ : ∃ x : Nat, x = zput L1 0 (4294967297 + 1) := ⟨_, rfl⟩
  have lL1_1 : zlane L1 1 = v + 1 := by rw [eL1]; exact zlane_same (Nat.lt_of_le_of_lt (Nat.succ_le_of_lt hv) (by decide))
  have lL2_1 : zlane L2 1 = v + 1 := by rw [eL2]; exact (zlane_ne (by decide) (by decide)).trans lL1_1
  have lL2_0 : zlane L2 0 = 4294967297 + 1 := by rw [eL2]; exact zlane_same (by decide)
  have v0_8_0 : zcv haA0_c0 8 = 4294967315 := by decide +kernel
  have g0_0 : zget 8 hbB16.2.2 0 = haA0_c0 := rfl
  have st0_0 : haA0_c0.1 = 11 := rfl
  have ln0_0 : haA0_c0.2.1 = 18 := rfl
  obtain ⟨L3, eL3⟩ : ∃ x : Nat, x = zput 0 1 (v + 1) := ⟨_, rfl⟩
  obtain ⟨L4, eL4⟩ : ∃ x : Nat, x = zput L3 0 (4294967315 + 1) := ⟨_, rfl⟩
  have lL4_0 : zlane L4 0 = 4294967315 + 1 := by rw [eL4]; exact zlane_same (by decide)
  have v18_6_0 : zcv haA0_c18 6 = 0 := by decide +kernel
  have g18_0 : zget 8 hbB16.2.2 18 = haA0_c18 := rfl
  have st18_0 : haA0_c18.1 = 6 := rfl
  have ln18_0 : haA0_c18.2.1 = 15 := rfl
  obtain ⟨L6, eL6⟩ : ∃ x : Nat, x = zput 0 1 (v + 1) := ⟨_, rfl⟩
  obtain ⟨L7, eL7⟩ : ∃ x : Nat, x = zput L6 0 (4294967358 + 1) := ⟨_, rfl⟩
  have lL6_1 : zlane L6 1 = v + 1 := by rw [eL6]; exact zlane_same (Nat.lt_of_le_of_lt (Nat.succ_le_of_lt hv) (by decide))
  have lL7_1 : zlane L7 1 = v + 1 := by rw [eL7]; exact (zlane_ne (by decide) (by decide)).trans lL6_1
  obtain ⟨L8, eL8⟩ : ∃ x : Nat, x = zput 0 2 (20000 + 1) := ⟨_, rfl⟩
  obtain ⟨L9, eL9⟩ : ∃ x : Nat, x = zput L8 1 (1 + 1) := ⟨_, rfl⟩
  obtain ⟨L10, eL10⟩ : ∃ x : Nat, x = zput L9 0 (v + 1) := ⟨_, rfl⟩
  have lL10_0 : zlane L10 0 = v + 1 := by rw [eL10]; exact zlane_same (Nat.lt_of_le_of_lt (Nat.succ_le_of_lt hv) (by decide))
  have lL9_1 : zlane L9 1 = 1 + 1 := by rw [eL9]; exact zlane_same (by decide)
  have lL10_1 : zlane L10 1 = 1 + 1 := by rw [eL10]; exact (zlane_ne (Nat.lt_of_le_of_lt (Nat.succ_le_of_lt hv) (by decide)) (by decide)).trans lL9_1
  have lL8_2 : zlane L8 2 = 20000 + 1 := by rw [eL8]; exact zlane_same (by decide)
  have lL9_2 : zlane L9 2 = 20000 + 1 := by rw [eL9]; exact (zlane_ne (by decide) (by decide)).trans lL8_2
  have lL10_2 : zlane L10 2 = 20000 + 1 := by rw [eL10]; exact (zlane_ne (Nat.lt_of_le_of_lt (Nat.succ_le_of_lt hv) (by decide)) (by decide)).trans lL9_2
  have lL7_0 : zlane L7 0 = 4294967358 + 1 := by rw [eL7]; exact zlane_same (by decide)
  have v61_101_0 : zcv hbB15_c61 101 = 0 := by decide +kernel
  have g61_0 : zget 8 hbB16.2.2 61 = hbB15_c61 := rfl
  have st61_0 : hbB15_c61.1 = 12 := rfl
  have ln61_0 : hbB15_c61.2.1 = 114 := rfl
  have v61_100_0 : zcv hbB15_c61 100 = 0 := by decide +kernel
  have MS : (zget 8 hbB16.2.2 61).1 = 12 := by rw [g61_0]; exact st61_0
  have A1 : zrunX zXt 9 ztc (n + 60) 1679 166 L2 [] hbB16 = some ([0], hbB16) := by
    refine (ca_166 (n := n + 59)).trans ?_
    refine (e_iload lL2_1 hv).trans ?_
    refine (e_push).trans ?_
    refine (f_cmp_f (f := z_lt) hv (by decide) (zlt_f (a := v) (b := 1) (fs_run_in_o0 v hv i1 i2))).trans ?_
    refine (e_iload lL2_1 hv).trans ?_
    refine (e_push).trans ?_
    refine (f_cmp_t (f := z_le) hv (by decide) (zle_t (a := v) (b := 20000) (fs_run_in_o1 v hv i1 i2))).trans ?_
    refine (e_aload lL2_0 (by decide)).trans ?_
    refine (f_getf (k := 0) (by rw [hs0]; decide) g0_0 st0_0 (by rw [ln0_0]; decide) v0_8_0).trans ?_
    refine (e_iload lL2_1 hv).trans ?_
    have m5 : zrunX zXt 9 ztc (n + 59) 1678 90 L4 [] hbB16 = some ([0], hbB16) := by
      refine (ca_90 (n := n + 58)).trans ?_
      refine (e_aload lL4_0 (by decide)).trans ?_
      refine (f_getf (k := 18) (by rw [hs0]; decide) g18_0 st18_0 (by rw [ln18_0]; decide) v18_6_0).trans ?_
      refine (f_if_f (f := fun a => z_ne a 0) (by decide) (by decide +kernel)).trans ?_
      refine (e_push).trans ?_
      exact e_ret (R := zrunX zXt 9 ztc (n + 58)) (d := 1678) (L := L4) (h := hbB16) (v := 0) (by decide)
    refine (f_callV (k := 18) (d' := 1678) (S0 := [v, 4294967315]) (S' := []) (S2 := [0]) (fun q => by rw [zargs_s q (Nat.le_of_lt (Nat.lt_trans hv (by decide))), ← eL3, zargs_s q (by decide), ← eL4]; rfl) lL4_0 (by rw [hs0]; decide) g18_0 st18_0 (Nat.le_of_ble_eq_true rfl) m5 (hs0.trans hs0.symm) rfl).trans ?_
    exact e_ret (R := zrunX zXt 9 ztc (n + 59)) (d := 1679) (L := L2) (h := hbB16) (v := 0) (by decide)
  have A2 : zrunX zXt 9 ztc (n + 60) 1679 266 L7 [] hbB16 = some ([0], hbB16) := by
    refine (ca_266 (n := n + 59)).trans ?_
    refine (e_iload lL7_1 hv).trans ?_
    refine (e_push).trans ?_
    refine (e_push).trans ?_
    have m11 : zrunX zXt 9 ztc (n + 59) 1678 217 L10 [] hbB16 = some ([1], hbB16) := by
      refine (ca_217 (n := n + 58)).trans ?_
      refine (e_iload lL10_0 hv).trans ?_
      refine (e_iload lL10_1 (by decide)).trans ?_
      refine (f_cmp_f (f := z_lt) hv (by decide) (zlt_f (a := v) (b := 1) (fs_run_in_o0 v hv i1 i2))).trans ?_
      refine (e_iload lL10_0 hv).trans ?_
      refine (e_iload lL10_2 (by decide)).trans ?_
      refine (f_cmp_f (f := z_gt) hv (by decide) (zgt_f (a := v) (b := 20000) (fs_run_in_o1 v hv i1 i2))).trans ?_
      refine (e_push).trans ?_
      show q_X12_in_15 _ _ _ _ _ = _
      exact e_zret (R := zrunX zXt 9 ztc (n + 58)) (d := 1678) (L := L10) (h := hbB16) (v := 1) (by decide)
    refine (f_callS (d' := 1678) (S0 := [20000, 1, v]) (S' := []) (S2 := [1]) (fun q => by rw [zargs_s q (by decide), ← eL8, zargs_s q (by decide), ← eL9, zargs_s q (Nat.le_of_lt (Nat.lt_trans hv (by decide))), ← eL10]; rfl) (Nat.le_of_ble_eq_true rfl) m11 (hs0.trans hs0.symm) rfl).trans ?_
    refine (f_if_t (f := fun a => z_ne a 0) (by decide) (by decide +kernel)).trans ?_
    refine (e_aload lL7_0 (by decide)).trans ?_
    refine (f_getf (k := 61) (by rw [hs0]; decide) g61_0 st61_0 (by rw [ln61_0]; decide) v61_101_0).trans ?_
    refine (e_aload lL7_0 (by decide)).trans ?_
    refine (f_getf (k := 61) (by rw [hs0]; decide) g61_0 st61_0 (by rw [ln61_0]; decide) v61_100_0).trans ?_
    refine (f_cmp_f (f := z_ne) (by decide) (by decide) (by decide +kernel)).trans ?_
    refine (e_push).trans ?_
    exact e_ret (R := zrunX zXt 9 ztc (n + 59)) (d := 1679) (L := L7) (h := hbB16) (v := 0) (by decide)
  rw [eL2, eL1] at A1
  rw [eL7, eL6] at A2
  exact ⟨_, _, _, (by decide), A1, hs0, MS, A2, hs0, sl0⟩
theorem fs_run_big_o0 (v : Nat) (hv : v < 4294967296) (i1 : 20001 ≤ v) (i2 : v < 2147483648) : (1 + 2147483648) % 4294967296 ≤ (v + 2147483648) % 4294967296 := by omega
theorem fs_run_big_o1 (v : Nat) (hv : v < 4294967296) (i1 : 20001 ≤ v) (i2 : v < 2147483648) : (20000 + 2147483648) % 4294967296 < (v + 2147483648) % 4294967296 := by omega
theorem fs_run_big (v : Nat) (hv : v < 4294967296) (i1 : 20001 ≤ v) (i2 : v < 2147483648) (n : Nat) : zFst n 166 (zput (zput 0 1 (v + 1)) 0 (4294967297 + 1)) 266 (zput (zput 0 1 (v + 1)) 0 (4294967358 + 1)) := by
  have hs0 : hbB16.1 = 129 := rfl
  have sl0 : hbB16.2.1 = 650610 := rfl
  obtain ⟨L1, eL1⟩ : ∃ x : Nat, x = zput 0 1 (v + 1) := ⟨_, rfl⟩
  obtain ⟨L2, eL2⟩ : ∃ x : Nat, x = zput L1 0 (4294967297 + 1) := ⟨_, rfl⟩
  have lL1_1 : zlane L1 1 = v + 1 := by rw [eL1]; exact zlane_same (Nat.lt_of_le_of_lt (Nat.succ_le_of_lt hv) (by decide))
  have lL2_1 : zlane L2 1 = v + 1 := by rw [eL2]; exact (zlane_ne (by decide) (by decide)).trans lL1_1
  obtain ⟨L3, eL3⟩ : ∃ x : Nat, x = zput 0 1 (v + 1) := ⟨_, rfl⟩
  obtain ⟨L4, eL4⟩ : ∃ x : Nat, x = zput L3 0 (4294967358 + 1) := ⟨_, rfl⟩
  have lL3_1 : zlane L3 1 = v + 1 := by rw [eL3]; exact zlane_same (Nat.lt_of_le_of_lt (Nat.succ_le_of_lt hv) (by decide))
  have lL4_1 : zlane L4 1 = v + 1 := by rw [eL4]; exact (zlane_ne (by decide) (by decide)).trans lL3_1
  obtain ⟨L5, eL5⟩ : ∃ x : Nat, x = zput 0 2 (20000 + 1) := ⟨_, rfl⟩
  obtain ⟨L6, eL6⟩ : ∃ x : Nat, x = zput L5 1 (1 + 1) := ⟨_, rfl⟩
  obtain ⟨L7, eL7⟩ : ∃ x : Nat, x = zput L6 0 (v + 1) := ⟨_, rfl⟩
  have lL7_0 : zlane L7 0 = v + 1 := by rw [eL7]; exact zlane_same (Nat.lt_of_le_of_lt (Nat.succ_le_of_lt hv) (by decide))
  have lL6_1 : zlane L6 1 = 1 + 1 := by rw [eL6]; exact zlane_same (by decide)
  have lL7_1 : zlane L7 1 = 1 + 1 := by rw [eL7]; exact (zlane_ne (Nat.lt_of_le_of_lt (Nat.succ_le_of_lt hv) (by decide)) (by decide)).trans lL6_1
  have lL5_2 : zlane L5 2 = 20000 + 1 := by rw [eL5]; exact zlane_same (by decide)
  have lL6_2 : zlane L6 2 = 20000 + 1 := by rw [eL6]; exact (zlane_ne (by decide) (by decide)).trans lL5_2
  have lL7_2 : zlane L7 2 = 20000 + 1 := by rw [eL7]; exact (zlane_ne (Nat.lt_of_le_of_lt (Nat.succ_le_of_lt hv) (by decide)) (by decide)).trans lL6_2
  have g61_0 : zget 8 hbB16.2.2 61 = hbB15_c61 := rfl
  have st61_0 : hbB15_c61.1 = 12 := rfl
  have MS : (zget 8 hbB16.2.2 61).1 = 12 := by rw [g61_0]; exact st61_0
  have A1 : zrunX zXt 9 ztc (n + 60) 1679 166 L2 [] hbB16 = some ([4294967295], hbB16) := by
    refine (ca_166 (n := n + 59)).trans ?_
    refine (e_iload lL2_1 hv).trans ?_
    refine (e_push).trans ?_
    refine (f_cmp_f (f := z_lt) hv (by decide) (zlt_f (a := v) (b := 1) (fs_run_big_o0 v hv i1 i2))).trans ?_
    refine (e_iload lL2_1 hv).trans ?_
    refine (e_push).trans ?_
    refine (f_cmp_f (f := z_le) hv (by decide) (zle_f (a := v) (b := 20000) (fs_run_big_o1 v hv i1 i2))).trans ?_
    refine (e_push).trans ?_
    exact e_ret (R := zrunX zXt 9 ztc (n + 59)) (d := 1679) (L := L2) (h := hbB16) (v := 4294967295) (by decide)
  have A2 : zrunX zXt 9 ztc (n + 60) 1679 266 L4 [] hbB16 = some ([4294967295], hbB16) := by
    refine (ca_266 (n := n + 59)).trans ?_
    refine (e_iload lL4_1 hv).trans ?_
    refine (e_push).trans ?_
    refine (e_push).trans ?_
    have m8 : zrunX zXt 9 ztc (n + 59) 1678 217 L7 [] hbB16 = some ([0], hbB16) := by
      refine (ca_217 (n := n + 58)).trans ?_
      refine (e_iload lL7_0 hv).trans ?_
      refine (e_iload lL7_1 (by decide)).trans ?_
      refine (f_cmp_f (f := z_lt) hv (by decide) (zlt_f (a := v) (b := 1) (fs_run_big_o0 v hv i1 i2))).trans ?_
      refine (e_iload lL7_0 hv).trans ?_
      refine (e_iload lL7_2 (by decide)).trans ?_
      refine (f_cmp_t (f := z_gt) hv (by decide) (zgt_t (a := v) (b := 20000) (fs_run_big_o1 v hv i1 i2))).trans ?_
      refine (e_push).trans ?_
      exact e_zret (R := zrunX zXt 9 ztc (n + 58)) (d := 1678) (L := L7) (h := hbB16) (v := 0) (by decide)
    refine (f_callS (d' := 1678) (S0 := [20000, 1, v]) (S' := []) (S2 := [0]) (fun q => by rw [zargs_s q (by decide), ← eL5, zargs_s q (by decide), ← eL6, zargs_s q (Nat.le_of_lt (Nat.lt_trans hv (by decide))), ← eL7]; rfl) (Nat.le_of_ble_eq_true rfl) m8 (hs0.trans hs0.symm) rfl).trans ?_
    refine (f_if_f (f := fun a => z_ne a 0) (by decide) (by decide +kernel)).trans ?_
    refine (e_push).trans ?_
    exact e_ret (R := zrunX zXt 9 ztc (n + 59)) (d := 1679) (L := L4) (h := hbB16) (v := 4294967295) (by decide)
  rw [eL2, eL1] at A1
  rw [eL4, eL3] at A2
  exact ⟨_, _, _, (by decide), A1, hs0, MS, A2, hs0, sl0⟩
theorem fs_look (v : Nat) (hv : v < 4294967296) (i1 : 11 ≤ v) (n : Nat) : zFst n 158 (zput (zput 0 1 (v + 1)) 0 (4294967297 + 1)) 242 (zput (zput 0 1 (v + 1)) 0 (4294967358 + 1)) := by
  have hs0 : hbB16.1 = 129 := rfl
  have sl0 : hbB16.2.1 = 650610 := rfl
  obtain ⟨L1, eL1⟩ : ∃ x : Nat, x = zput 0 1 (v + 1) := ⟨_, rfl⟩
  obtain ⟨L2, eL2⟩ : ∃ x : Nat, x = zput L1 0 (4294967297 + 1) := ⟨_, rfl⟩
  have lL1_1 : zlane L1 1 = v + 1 := by rw [eL1]; exact zlane_same (Nat.lt_of_le_of_lt (Nat.succ_le_of_lt hv) (by decide))
  have lL2_1 : zlane L2 1 = v + 1 := by rw [eL2]; exact (zlane_ne (by decide) (by decide)).trans lL1_1
  obtain ⟨L3, eL3⟩ : ∃ x : Nat, x = zput 0 1 (v + 1) := ⟨_, rfl⟩
  obtain ⟨L4, eL4⟩ : ∃ x : Nat, x = zput L3 0 (4294967358 + 1) := ⟨_, rfl⟩
  have lL3_1 : zlane L3 1 = v + 1 := by rw [eL3]; exact zlane_same (Nat.lt_of_le_of_lt (Nat.succ_le_of_lt hv) (by decide))
  have lL4_1 : zlane L4 1 = v + 1 := by rw [eL4]; exact (zlane_ne (by decide) (by decide)).trans lL3_1
  have g61_0 : zget 8 hbB16.2.2 61 = hbB15_c61 := rfl
  have st61_0 : hbB15_c61.1 = 12 := rfl
  have MS : (zget 8 hbB16.2.2 61).1 = 12 := by rw [g61_0]; exact st61_0
  have A1 : zrunX zXt 9 ztc (n + 60) 1679 158 L2 [] hbB16 = some ([4294967295], hbB16) := by
    refine (ca_158 (n := n + 59)).trans ?_
    refine (e_iload lL2_1 hv).trans ?_
    refine (f_tsw_out hv (by show 11 ≤ _; exact i1)).trans ?_
    refine (e_push).trans ?_
    exact e_ret (R := zrunX zXt 9 ztc (n + 59)) (d := 1679) (L := L2) (h := hbB16) (v := 4294967295) (by decide)
  have A2 : zrunX zXt 9 ztc (n + 60) 1679 242 L4 [] hbB16 = some ([4294967295], hbB16) := by
    refine (ca_242 (n := n + 59)).trans ?_
    refine (e_iload lL4_1 hv).trans ?_
    refine (f_tsw_out hv (by show 11 ≤ _; exact i1)).trans ?_
    refine (e_push).trans ?_
    exact e_ret (R := zrunX zXt 9 ztc (n + 59)) (d := 1679) (L := L4) (h := hbB16) (v := 4294967295) (by decide)
  rw [eL2, eL1] at A1
  rw [eL4, eL3] at A2
  exact ⟨_, _, _, (by decide), A1, hs0, MS, A2, hs0, sl0⟩
theorem fs_word_neg_o0 (v : Nat) (hv : v < 4294967296) (i1 : 2147483648 ≤ v) : (v + 2147483648) % 4294967296 < (0 + 2147483648) % 4294967296 := by omega
theorem fs_word_neg (v : Nat) (hv : v < 4294967296) (i1 : 2147483648 ≤ v) (n : Nat) : zFst n 174 (zput (zput 0 1 (v + 1)) 0 (4294967297 + 1)) 295 (zput (zput 0 1 (v + 1)) 0 (4294967358 + 1)) := by
  have hs0 : hbB16.1 = 129 := rfl
  have sl0 : hbB16.2.1 = 650610 := rfl
  obtain ⟨L1, eL1⟩ : ∃ x : Nat, x = zput 0 1 (v + 1) := ⟨_, rfl⟩
  obtain ⟨L2, eL2⟩ : ∃ x : Nat, x = zput L1 0 (4294967297 + 1) := ⟨_, rfl⟩
  have lL2_0 : zlane L2 0 = 4294967297 + 1 := by rw [eL2]; exact zlane_same (by decide)
  have v0_4_0 : zcv haA0_c0 4 = 4294967302 := by decide +kernel
  have g0_0 : zget 8 hbB16.2.2 0 = haA0_c0 := rfl
  have st0_0 : haA0_c0.1 = 11 := rfl
  have ln0_0 : haA0_c0.2.1 = 18 := rfl
  have lL1_1 : zlane L1 1 = v + 1 := by rw [eL1]; exact zlane_same (Nat.lt_of_le_of_lt (Nat.succ_le_of_lt hv) (by decide))
  have lL2_1 : zlane L2 1 = v + 1 := by rw [eL2]; exact (zlane_ne (by decide) (by decide)).trans lL1_1
  obtain ⟨L3, eL3⟩ : ∃ x : Nat, x = zput 0 1 (v + 1) := ⟨_, rfl⟩
  obtain ⟨L4, eL4⟩ : ∃ x : Nat, x = zput L3 0 (4294967302 + 1) := ⟨_, rfl⟩
  have lL3_1 : zlane L3 1 = v + 1 := by rw [eL3]; exact zlane_same (Nat.lt_of_le_of_lt (Nat.succ_le_of_lt hv) (by decide))
  have lL4_1 : zlane L4 1 = v + 1 := by rw [eL4]; exact (zlane_ne (by decide) (by decide)).trans lL3_1
  have lL4_0 : zlane L4 0 = 4294967302 + 1 := by rw [eL4]; exact zlane_same (by decide)
  have g5_0 : zget 8 hbB16.2.2 5 = haA0_c5 := rfl
  have st5_0 : haA0_c5.1 = 3 := rfl
  obtain ⟨L6, eL6⟩ : ∃ x : Nat, x = zput 0 1 (v + 1) := ⟨_, rfl⟩
  obtain ⟨L7, eL7⟩ : ∃ x : Nat, x = zput L6 0 (4294967358 + 1) := ⟨_, rfl⟩
  have lL6_1 : zlane L6 1 = v + 1 := by rw [eL6]; exact zlane_same (Nat.lt_of_le_of_lt (Nat.succ_le_of_lt hv) (by decide))
  have lL7_1 : zlane L7 1 = v + 1 := by rw [eL7]; exact (zlane_ne (by decide) (by decide)).trans lL6_1
  obtain ⟨L8, eL8⟩ : ∃ x : Nat, x = zput 0 2 (65535 + 1) := ⟨_, rfl⟩
  obtain ⟨L9, eL9⟩ : ∃ x : Nat, x = zput L8 1 (0 + 1) := ⟨_, rfl⟩
  obtain ⟨L10, eL10⟩ : ∃ x : Nat, x = zput L9 0 (v + 1) := ⟨_, rfl⟩
  have lL10_0 : zlane L10 0 = v + 1 := by rw [eL10]; exact zlane_same (Nat.lt_of_le_of_lt (Nat.succ_le_of_lt hv) (by decide))
  have lL9_1 : zlane L9 1 = 0 + 1 := by rw [eL9]; exact zlane_same (by decide)
  have lL10_1 : zlane L10 1 = 0 + 1 := by rw [eL10]; exact (zlane_ne (Nat.lt_of_le_of_lt (Nat.succ_le_of_lt hv) (by decide)) (by decide)).trans lL9_1
  have g61_0 : zget 8 hbB16.2.2 61 = hbB15_c61 := rfl
  have st61_0 : hbB15_c61.1 = 12 := rfl
  have MS : (zget 8 hbB16.2.2 61).1 = 12 := by rw [g61_0]; exact st61_0
  have A1 : zrunX zXt 9 ztc (n + 60) 1679 174 L2 [] hbB16 = some ([4294967295], hbB16) := by
    refine (ca_174 (n := n + 59)).trans ?_
    refine (e_aload lL2_0 (by decide)).trans ?_
    refine (f_getf (k := 0) (by rw [hs0]; decide) g0_0 st0_0 (by rw [ln0_0]; decide) v0_4_0).trans ?_
    refine (e_iload lL2_1 hv).trans ?_
    have m5 : zrunX zXt 9 ztc (n + 59) 1678 46 L4 [] hbB16 = some ([0], hbB16) := by
      refine (ca_46 (n := n + 58)).trans ?_
      refine (e_iload lL4_1 hv).trans ?_
      refine (f_if_t (f := fun a => z_lt a 0) hv (zlt_t (a := v) (b := 0) (fs_word_neg_o0 v hv i1))).trans ?_
      refine (e_push).trans ?_
      exact e_zret (R := zrunX zXt 9 ztc (n + 58)) (d := 1678) (L := L4) (h := hbB16) (v := 0) (by decide)
    refine (f_callV (k := 5) (d' := 1678) (S0 := [v, 4294967302]) (S' := []) (S2 := [0]) (fun q => by rw [zargs_s q (Nat.le_of_lt (Nat.lt_trans hv (by decide))), ← eL3, zargs_s q (by decide), ← eL4]; rfl) lL4_0 (by rw [hs0]; decide) g5_0 st5_0 (Nat.le_of_ble_eq_true rfl) m5 (hs0.trans hs0.symm) rfl).trans ?_
    refine (f_if_t (f := fun a => Nat.beq a 0) (by decide) (by decide +kernel)).trans ?_
    refine (e_push).trans ?_
    exact e_ret (R := zrunX zXt 9 ztc (n + 59)) (d := 1679) (L := L2) (h := hbB16) (v := 4294967295) (by decide)
  have A2 : zrunX zXt 9 ztc (n + 60) 1679 295 L7 [] hbB16 = some ([4294967295], hbB16) := by
    refine (ca_295 (n := n + 59)).trans ?_
    refine (e_iload lL7_1 hv).trans ?_
    refine (e_push).trans ?_
    refine (e_push).trans ?_
    have m11 : zrunX zXt 9 ztc (n + 59) 1678 217 L10 [] hbB16 = some ([0], hbB16) := by
      refine (ca_217 (n := n + 58)).trans ?_
      refine (e_iload lL10_0 hv).trans ?_
      refine (e_iload lL10_1 (by decide)).trans ?_
      refine (f_cmp_t (f := z_lt) hv (by decide) (zlt_t (a := v) (b := 0) (fs_word_neg_o0 v hv i1))).trans ?_
      refine (e_push).trans ?_
      exact e_zret (R := zrunX zXt 9 ztc (n + 58)) (d := 1678) (L := L10) (h := hbB16) (v := 0) (by decide)
    refine (f_callS (d' := 1678) (S0 := [65535, 0, v]) (S' := []) (S2 := [0]) (fun q => by rw [zargs_s q (by decide), ← eL8, zargs_s q (by decide), ← eL9, zargs_s q (Nat.le_of_lt (Nat.lt_trans hv (by decide))), ← eL10]; rfl) (Nat.le_of_ble_eq_true rfl) m11 (hs0.trans hs0.symm) rfl).trans ?_
    refine (f_if_t (f := fun a => Nat.beq a 0) (by decide) (by decide +kernel)).trans ?_
    refine (e_push).trans ?_
    exact e_ret (R := zrunX zXt 9 ztc (n + 59)) (d := 1679) (L := L7) (h := hbB16) (v := 4294967295) (by decide)
  rw [eL2, eL1] at A1
  rw [eL7, eL6] at A2
  exact ⟨_, _, _, (by decide), A1, hs0, MS, A2, hs0, sl0⟩
theorem fs_word_odd_o0 (v : Nat) (hv : v < 4294967296) (i1 : v < 65536) (i2 : v % 2 = 1) : (0 + 2147483648) % 4294967296 ≤ (v + 2147483648) % 4294967296 := by omega
theorem fs_word_odd_o1 (v : Nat) (hv : v < 4294967296) (i1 : v < 65536) (i2 : v % 2 = 1) : v % 2 ≠ 0 := by omega
theorem fs_word_odd_o2 (v : Nat) (hv : v < 4294967296) (i1 : v < 65536) (i2 : v % 2 = 1) : (v + 2147483648) % 4294967296 ≤ (65535 + 2147483648) % 4294967296 := by omega
theorem fs_word_odd (v : Nat) (hv : v < 4294967296) (i1 : v < 65536) (i2 : v % 2 = 1) (n : Nat) : zFst n 174 (zput (zput 0 1 (v + 1)) 0 (4294967297 + 1)) 295 (zput (zput 0 1 (v + 1)) 0 (4294967358 + 1)) := by
  have hs0 : hbB16.1 = 129 := rfl
  have sl0 : hbB16.2.1 = 650610 := rfl
  obtain ⟨L1, eL1⟩ : ∃ x : Nat, x = zput 0 1 (v + 1) := ⟨_, rfl⟩
  obtain ⟨L2, eL2⟩ : ∃ x : Nat, x = zput L1 0 (4294967297 + 1) := ⟨_, rfl⟩
  have lL2_0 : zlane L2 0 = 4294967297 + 1 := by rw [eL2]; exact zlane_same (by decide)
  have v0_4_0 : zcv haA0_c0 4 = 4294967302 := by decide +kernel
  have g0_0 : zget 8 hbB16.2.2 0 = haA0_c0 := rfl
  have st0_0 : haA0_c0.1 = 11 := rfl
  have ln0_0 : haA0_c0.2.1 = 18 := rfl
  have lL1_1 : zlane L1 1 = v + 1 := by rw [eL1]; exact zlane_same (Nat.lt_of_le_of_lt (Nat.succ_le_of_lt hv) (by decide))
  have lL2_1 : zlane L2 1 = v + 1 := by rw [eL2]; exact (zlane_ne (by decide) (by decide)).trans lL1_1
  obtain ⟨L3, eL3⟩ : ∃ x : Nat, x = zput 0 1 (v + 1) := ⟨_, rfl⟩
  obtain ⟨L4, eL4⟩ : ∃ x : Nat, x = zput L3 0 (4294967302 + 1) := ⟨_, rfl⟩
  have lL3_1 : zlane L3 1 = v + 1 := by rw [eL3]; exact zlane_same (Nat.lt_of_le_of_lt (Nat.succ_le_of_lt hv) (by decide))
  have lL4_1 : zlane L4 1 = v + 1 := by rw [eL4]; exact (zlane_ne (by decide) (by decide)).trans lL3_1
  have lL4_0 : zlane L4 0 = 4294967302 + 1 := by rw [eL4]; exact zlane_same (by decide)
  have g5_0 : zget 8 hbB16.2.2 5 = haA0_c5 := rfl
  have st5_0 : haA0_c5.1 = 3 := rfl
  obtain ⟨L6, eL6⟩ : ∃ x : Nat, x = zput 0 1 (v + 1) := ⟨_, rfl⟩
  obtain ⟨L7, eL7⟩ : ∃ x : Nat, x = zput L6 0 (4294967358 + 1) := ⟨_, rfl⟩
  have lL6_1 : zlane L6 1 = v + 1 := by rw [eL6]; exact zlane_same (Nat.lt_of_le_of_lt (Nat.succ_le_of_lt hv) (by decide))
  have lL7_1 : zlane L7 1 = v + 1 := by rw [eL7]; exact (zlane_ne (by decide) (by decide)).trans lL6_1
  obtain ⟨L8, eL8⟩ : ∃ x : Nat, x = zput 0 2 (65535 + 1) := ⟨_, rfl⟩
  obtain ⟨L9, eL9⟩ : ∃ x : Nat, x = zput L8 1 (0 + 1) := ⟨_, rfl⟩
  obtain ⟨L10, eL10⟩ : ∃ x : Nat, x = zput L9 0 (v + 1) := ⟨_, rfl⟩
  have lL10_0 : zlane L10 0 = v + 1 := by rw [eL10]; exact zlane_same (Nat.lt_of_le_of_lt (Nat.succ_le_of_lt hv) (by decide))
  have lL9_1 : zlane L9 1 = 0 + 1 := by rw [eL9]; exact zlane_same (by decide)
  have lL10_1 : zlane L10 1 = 0 + 1 := by rw [eL10]; exact (zlane_ne (Nat.lt_of_le_of_lt (Nat.succ_le_of_lt hv) (by decide)) (by decide)).trans lL9_1
  have lL8_2 : zlane L8 2 = 65535 + 1 := by rw [eL8]; exact zlane_same (by decide)
  have lL9_2 : zlane L9 2 = 65535 + 1 := by rw [eL9]; exact (zlane_ne (by decide) (by decide)).trans lL8_2
  have lL10_2 : zlane L10 2 = 65535 + 1 := by rw [eL10]; exact (zlane_ne (Nat.lt_of_le_of_lt (Nat.succ_le_of_lt hv) (by decide)) (by decide)).trans lL9_2
  have g61_0 : zget 8 hbB16.2.2 61 = hbB15_c61 := rfl
  have st61_0 : hbB15_c61.1 = 12 := rfl
  have MS : (zget 8 hbB16.2.2 61).1 = 12 := by rw [g61_0]; exact st61_0
  have A1 : zrunX zXt 9 ztc (n + 60) 1679 174 L2 [] hbB16 = some ([4294967295], hbB16) := by
    refine (ca_174 (n := n + 59)).trans ?_
    refine (e_aload lL2_0 (by decide)).trans ?_
    refine (f_getf (k := 0) (by rw [hs0]; decide) g0_0 st0_0 (by rw [ln0_0]; decide) v0_4_0).trans ?_
    refine (e_iload lL2_1 hv).trans ?_
    have m5 : zrunX zXt 9 ztc (n + 59) 1678 46 L4 [] hbB16 = some ([0], hbB16) := by
      refine (ca_46 (n := n + 58)).trans ?_
      refine (e_iload lL4_1 hv).trans ?_
      refine (f_if_f (f := fun a => z_lt a 0) hv (zlt_f (a := v) (b := 0) (fs_word_odd_o0 v hv i1 i2))).trans ?_
      refine (e_iload lL4_1 hv).trans ?_
      refine (e_push).trans ?_
      refine (f_bin (f := z_and) (v := (v % 2)) hv (by decide) (z_and_m (k := 1) (by decide))).trans ?_
      refine (f_if_t (f := fun a => z_ne a 0) (show (v % 2) < 4294967296 from (Nat.lt_trans (Nat.mod_lt _ (by decide)) (by decide))) (zne_t (a := (v % 2)) (b := 0) (fs_word_odd_o1 v hv i1 i2))).trans ?_
      refine (e_push).trans ?_
      exact e_zret (R := zrunX zXt 9 ztc (n + 58)) (d := 1678) (L := L4) (h := hbB16) (v := 0) (by decide)
    refine (f_callV (k := 5) (d' := 1678) (S0 := [v, 4294967302]) (S' := []) (S2 := [0]) (fun q => by rw [zargs_s q (Nat.le_of_lt (Nat.lt_trans hv (by decide))), ← eL3, zargs_s q (by decide), ← eL4]; rfl) lL4_0 (by rw [hs0]; decide) g5_0 st5_0 (Nat.le_of_ble_eq_true rfl) m5 (hs0.trans hs0.symm) rfl).trans ?_
    refine (f_if_t (f := fun a => Nat.beq a 0) (by decide) (by decide +kernel)).trans ?_
    refine (e_push).trans ?_
    exact e_ret (R := zrunX zXt 9 ztc (n + 59)) (d := 1679) (L := L2) (h := hbB16) (v := 4294967295) (by decide)
  have A2 : zrunX zXt 9 ztc (n + 60) 1679 295 L7 [] hbB16 = some ([4294967295], hbB16) := by
    refine (ca_295 (n := n + 59)).trans ?_
    refine (e_iload lL7_1 hv).trans ?_
    refine (e_push).trans ?_
    refine (e_push).trans ?_
    have m11 : zrunX zXt 9 ztc (n + 59) 1678 217 L10 [] hbB16 = some ([1], hbB16) := by
      refine (ca_217 (n := n + 58)).trans ?_
      refine (e_iload lL10_0 hv).trans ?_
      refine (e_iload lL10_1 (by decide)).trans ?_
      refine (f_cmp_f (f := z_lt) hv (by decide) (zlt_f (a := v) (b := 0) (fs_word_odd_o0 v hv i1 i2))).trans ?_
      refine (e_iload lL10_0 hv).trans ?_
      refine (e_iload lL10_2 (by decide)).trans ?_
      refine (f_cmp_f (f := z_gt) hv (by decide) (zgt_f (a := v) (b := 65535) (fs_word_odd_o2 v hv i1 i2))).trans ?_
      refine (e_push).trans ?_
      show q_X12_in_15 _ _ _ _ _ = _
      exact e_zret (R := zrunX zXt 9 ztc (n + 58)) (d := 1678) (L := L10) (h := hbB16) (v := 1) (by decide)
    refine (f_callS (d' := 1678) (S0 := [65535, 0, v]) (S' := []) (S2 := [1]) (fun q => by rw [zargs_s q (by decide), ← eL8, zargs_s q (by decide), ← eL9, zargs_s q (Nat.le_of_lt (Nat.lt_trans hv (by decide))), ← eL10]; rfl) (Nat.le_of_ble_eq_true rfl) m11 (hs0.trans hs0.symm) rfl).trans ?_
    refine (f_if_f (f := fun a => Nat.beq a 0) (by decide) (by decide +kernel)).trans ?_
    refine (e_iload lL7_1 hv).trans ?_
    refine (e_push).trans ?_
    refine (f_bin (f := z_and) (v := (v % 2)) hv (by decide) (z_and_m (k := 1) (by decide))).trans ?_
    refine (f_if_t (f := fun a => z_ne a 0) (show (v % 2) < 4294967296 from (Nat.lt_trans (Nat.mod_lt _ (by decide)) (by decide))) (zne_t (a := (v % 2)) (b := 0) (fs_word_odd_o1 v hv i1 i2))).trans ?_
    refine (e_push).trans ?_
    exact e_ret (R := zrunX zXt 9 ztc (n + 59)) (d := 1679) (L := L7) (h := hbB16) (v := 4294967295) (by decide)
  rw [eL2, eL1] at A1
  rw [eL7, eL6] at A2
  exact ⟨_, _, _, (by decide), A1, hs0, MS, A2, hs0, sl0⟩
