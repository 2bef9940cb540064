theorem fs_letter_ineg_o0 (z : Nat) (hz : 1 ≤ z ∧ z ≤ 13) (v : Nat) (hv : v < 4294967296) (w : Nat) (hw : w < 4294967296) (i1 : v < 55) (i2 : 2147483648 ≤ w) : (0 + 2147483648) % 4294967296 ≤ (v + 2147483648) % 4294967296 := by omega
theorem fs_letter_ineg_o1 (z : Nat) (hz : 1 ≤ z ∧ z ≤ 13) (v : Nat) (hv : v < 4294967296) (w : Nat) (hw : w < 4294967296) (i1 : v < 55) (i2 : 2147483648 ≤ w) : (v + 2147483648) % 4294967296 < (55 + 2147483648) % 4294967296 := by omega
theorem fs_letter_ineg_o2 (z : Nat) (hz : 1 ≤ z ∧ z ≤ 13) (v : Nat) (hv : v < 4294967296) (w : Nat) (hw : w < 4294967296) (i1 : v < 55) (i2 : 2147483648 ≤ w) : (w + 2147483648) % 4294967296 < (0 + 2147483648) % 4294967296 := by omega
theorem fs_letter_ineg_o3 (z : Nat) (hz : 1 ≤ z ∧ z ≤ 13) (v : Nat) (hv : v < 4294967296) (w : Nat) (hw : w < 4294967296) (i1 : v < 55) (i2 : 2147483648 ≤ w) : (v + 2147483648) % 4294967296 ≤ (54 + 2147483648) % 4294967296 := by omega
theorem fs_letter_ineg_o4 (z : Nat) (hz : 1 ≤ z ∧ z ≤ 13) (v : Nat) (hv : v < 4294967296) (w : Nat) (hw : w < 4294967296) (i1 : v < 55) (i2 : 2147483648 ≤ w) : v < 300 := by omega
theorem fs_letter_ineg_o5 (z : Nat) (hz : 1 ≤ z ∧ z ≤ 13) (v : Nat) (hv : v < 4294967296) (w : Nat) (hw : w < 4294967296) (i1 : v < 55) (i2 : 2147483648 ≤ w) : 1 ≤ z := by omega
theorem fs_letter_ineg_o6 (z : Nat) (hz : 1 ≤ z ∧ z ≤ 13) (v : Nat) (hv : v < 4294967296) (w : Nat) (hw : w < 4294967296) (i1 : v < 55) (i2 : 2147483648 ≤ w) : z < 4294967296 := by omega
theorem fs_letter_ineg_o7 (z : Nat) (hz : 1 ≤ z ∧ z ≤ 13) (v : Nat) (hv : v < 4294967296) (w : Nat) (hw : w < 4294967296) (i1 : v < 55) (i2 : 2147483648 ≤ w) : (z - 1) < 4294967296 := by omega
theorem fs_letter_ineg (v : Nat) (hv : v < 4294967296) (w : Nat) (hw : w < 4294967296) (i1 : v < 55) (i2 : 2147483648 ≤ w) (n : Nat) : zFst n 155 (zput (zput (zput 0 2 (w + 1)) 1 (v + 1)) 0 (4294967297 + 1)) 239 (zput (zput (zput 0 2 (w + 1)) 1 (v + 1)) 0 (4294967358 + 1)) := by
  have hs0 : hbB16.1 = 129 := rfl
  have sl0 : hbB16.2.1 = 650610 := rfl
  have hq1 := zf_nx v i1
  have hq2 := zf_nm v i1
  obtain ⟨L1, eL1⟩ : ∃ x : Nat, x = zput 0 2 (w + 1) := ⟨_, rfl⟩
  obtain ⟨L2, eL2⟩ : ∃ x : Nat, x = zput L1 1 (v + 1) := ⟨_, rfl⟩
  obtain ⟨L3, eL3⟩ : ∃ x : Nat, x = zput L2 0 (4294967297 + 1) := ⟨_, rfl⟩
  have lL3_0 : zlane L3 0 = 4294967297 + 1 := by rw [eL3]; exact zlane_same (by decide)
  have v0_5_0 : zcv haA0_c0 5 = 4294967305 := by decide +kernel
  have g0_0 : zget 8 hbB16.2.2 0 = haA0_c0 := rfl
  have st0_0 : haA0_c0.1 = 11 := rfl
  have ln0_0 : haA0_c0.2.1 = 18 := rfl
  have lL2_1 : zlane L2 1 = v + 1 := by rw [eL2]; exact zlane_same (Nat.lt_of_le_of_lt (Nat.succ_le_of_lt hv) (by decide))
  have lL3_1 : zlane L3 1 = v + 1 := by rw [eL3]; exact (zlane_ne (by decide) (by decide)).trans lL2_1
  have lL1_2 : zlane L1 2 = w + 1 := by rw [eL1]; exact zlane_same (Nat.lt_of_le_of_lt (Nat.succ_le_of_lt hw) (by decide))
  have lL2_2 : zlane L2 2 = w + 1 := by rw [eL2]; exact (zlane_ne (Nat.lt_of_le_of_lt (Nat.succ_le_of_lt hv) (by decide)) (by decide)).trans lL1_2
  have lL3_2 : zlane L3 2 = w + 1 := by rw [eL3]; exact (zlane_ne (by decide) (by decide)).trans lL2_2
  obtain ⟨L4, eL4⟩ : ∃ x : Nat, x = zput 0 2 (w + 1) := ⟨_, rfl⟩
  obtain ⟨L5, eL5⟩ : ∃ x : Nat, x = zput L4 1 (v + 1) := ⟨_, rfl⟩
  obtain ⟨L6, eL6⟩ : ∃ x : Nat, x = zput L5 0 (4294967305 + 1) := ⟨_, rfl⟩
  have lL5_1 : zlane L5 1 = v + 1 := by rw [eL5]; exact zlane_same (Nat.lt_of_le_of_lt (Nat.succ_le_of_lt hv) (by decide))
  have lL6_1 : zlane L6 1 = v + 1 := by rw [eL6]; exact (zlane_ne (by decide) (by decide)).trans lL5_1
  have lL6_0 : zlane L6 0 = 4294967305 + 1 := by rw [eL6]; exact zlane_same (by decide)
  have v8_4_0 : zcv hbA3_c8 4 = 55 := by decide +kernel
  have g8_0 : zget 8 hbB16.2.2 8 = hbA3_c8 := rfl
  have st8_0 : hbA3_c8.1 = 2 := rfl
  have ln8_0 : hbA3_c8.2.1 = 10 := rfl
  have lL4_2 : zlane L4 2 = w + 1 := by rw [eL4]; exact zlane_same (Nat.lt_of_le_of_lt (Nat.succ_le_of_lt hw) (by decide))
  have lL5_2 : zlane L5 2 = w + 1 := by rw [eL5]; exact (zlane_ne (Nat.lt_of_le_of_lt (Nat.succ_le_of_lt hv) (by decide)) (by decide)).trans lL4_2
  have lL6_2 : zlane L6 2 = w + 1 := by rw [eL6]; exact (zlane_ne (by decide) (by decide)).trans lL5_2
  obtain ⟨L8, eL8⟩ : ∃ x : Nat, x = zput 0 2 (w + 1) := ⟨_, rfl⟩
  obtain ⟨L9, eL9⟩ : ∃ x : Nat, x = zput L8 1 (v + 1) := ⟨_, rfl⟩
  obtain ⟨L10, eL10⟩ : ∃ x : Nat, x = zput L9 0 (4294967358 + 1) := ⟨_, rfl⟩
  have lL9_1 : zlane L9 1 = v + 1 := by rw [eL9]; exact zlane_same (Nat.lt_of_le_of_lt (Nat.succ_le_of_lt hv) (by decide))
  have lL10_1 : zlane L10 1 = v + 1 := by rw [eL10]; exact (zlane_ne (by decide) (by decide)).trans lL9_1
  have lL10_0 : zlane L10 0 = 4294967358 + 1 := by rw [eL10]; exact zlane_same (by decide)
  have v61_45_0 : zcv hbB15_c61 45 = 55 := by decide +kernel
  have g61_0 : zget 8 hbB16.2.2 61 = hbB15_c61 := rfl
  have st61_0 : hbB15_c61.1 = 12 := rfl
  have ln61_0 : hbB15_c61.2.1 = 114 := rfl
  obtain ⟨L11, eL11⟩ : ∃ x : Nat, x = zput 0 2 (54 + 1) := ⟨_, rfl⟩
  obtain ⟨L12, eL12⟩ : ∃ x : Nat, x = zput L11 1 (0 + 1) := ⟨_, rfl⟩
  obtain ⟨L13, eL13⟩ : ∃ x : Nat, x = zput L12 0 (v + 1) := ⟨_, rfl⟩
  have lL13_0 : zlane L13 0 = v + 1 := by rw [eL13]; exact zlane_same (Nat.lt_of_le_of_lt (Nat.succ_le_of_lt hv) (by decide))
  have lL12_1 : zlane L12 1 = 0 + 1 := by rw [eL12]; exact zlane_same (by decide)
  have lL13_1 : zlane L13 1 = 0 + 1 := by rw [eL13]; exact (zlane_ne (Nat.lt_of_le_of_lt (Nat.succ_le_of_lt hv) (by decide)) (by decide)).trans lL12_1
  have lL11_2 : zlane L11 2 = 54 + 1 := by rw [eL11]; exact zlane_same (by decide)
  have lL12_2 : zlane L12 2 = 54 + 1 := by rw [eL12]; exact (zlane_ne (by decide) (by decide)).trans lL11_2
  have lL13_2 : zlane L13 2 = 54 + 1 := by rw [eL13]; exact (zlane_ne (Nat.lt_of_le_of_lt (Nat.succ_le_of_lt hv) (by decide)) (by decide)).trans lL12_2
  have lL8_2 : zlane L8 2 = w + 1 := by rw [eL8]; exact zlane_same (Nat.lt_of_le_of_lt (Nat.succ_le_of_lt hw) (by decide))
  have lL9_2 : zlane L9 2 = w + 1 := by rw [eL9]; exact (zlane_ne (Nat.lt_of_le_of_lt (Nat.succ_le_of_lt hv) (by decide)) (by decide)).trans lL8_2
  have lL10_2 : zlane L10 2 = w + 1 := by rw [eL10]; exact (zlane_ne (by decide) (by decide)).trans lL9_2
  have v61_43_0 : zcv hbB15_c61 43 = 4294967384 := by decide +kernel
  have ln87_0 : hbA0_c10.2.1 = 300 := rfl
  have g87_0 : zget 8 hbB16.2.2 87 = hbA0_c10 := rfl
  have st87_0 : hbA0_c10.1 = 100 := rfl
  obtain ⟨L15, eL15⟩ : ∃ x : Nat, x = zput 0 2 (((zcv hbA0_c10 v) - 1) + 1) := ⟨_, rfl⟩
  obtain ⟨L16, eL16⟩ : ∃ x : Nat, x = zput L15 1 (0 + 1) := ⟨_, rfl⟩
  obtain ⟨L17, eL17⟩ : ∃ x : Nat, x = zput L16 0 (w + 1) := ⟨_, rfl⟩
  have lL17_0 : zlane L17 0 = w + 1 := by rw [eL17]; exact zlane_same (Nat.lt_of_le_of_lt (Nat.succ_le_of_lt hw) (by decide))
  have lL16_1 : zlane L16 1 = 0 + 1 := by rw [eL16]; exact zlane_same (by decide)
  have lL17_1 : zlane L17 1 = 0 + 1 := by rw [eL17]; exact (zlane_ne (Nat.lt_of_le_of_lt (Nat.succ_le_of_lt hw) (by decide)) (by decide)).trans lL16_1
  have MS : (zget 8 hbB16.2.2 61).1 = 12 := by rw [g61_0]; exact st61_0
  have A1 : zrunX zXt 9 ztc (n + 60) 1679 155 L3 [] hbB16 = some ([4294967295], hbB16) := by
    refine (ca_155 (n := n + 59)).trans ?_
    refine (e_aload lL3_0 (by decide)).trans ?_
    refine (f_getf (k := 0) (by rw [hs0]; decide) g0_0 st0_0 (by rw [ln0_0]; decide) v0_5_0).trans ?_
    refine (e_iload lL3_1 hv).trans ?_
    refine (e_iload lL3_2 hw).trans ?_
    have m7 : zrunX zXt 9 ztc (n + 59) 1678 39 L6 [] hbB16 = some ([4294967295], hbB16) := by
      refine (ca_39 (n := n + 58)).trans ?_
      refine (e_iload lL6_1 hv).trans ?_
      refine (f_if_f (f := fun a => z_lt a 0) hv (zlt_f (a := v) (b := 0) (fs_letter_ineg_o0 (zcv hbA0_c10 v) hq1 v hv w hw i1 i2))).trans ?_
      refine (e_iload lL6_1 hv).trans ?_
      refine (e_aload lL6_0 (by decide)).trans ?_
      refine (f_getf (k := 8) (by rw [hs0]; decide) g8_0 st8_0 (by rw [ln8_0]; decide) v8_4_0).trans ?_
      refine (f_cmp_f (f := z_ge) hv (by decide) (zge_f (a := v) (b := 55) (fs_letter_ineg_o1 (zcv hbA0_c10 v) hq1 v hv w hw i1 i2))).trans ?_
      refine (e_iload lL6_2 hw).trans ?_
      refine (f_if_t (f := fun a => z_lt a 0) hw (zlt_t (a := w) (b := 0) (fs_letter_ineg_o2 (zcv hbA0_c10 v) hq1 v hv w hw i1 i2))).trans ?_
      refine (e_push).trans ?_
      exact e_ret (R := zrunX zXt 9 ztc (n + 58)) (d := 1678) (L := L6) (h := hbB16) (v := 4294967295) (by decide)
    refine (f_callV (k := 8) (d' := 1678) (S0 := [w, v, 4294967305]) (S' := []) (S2 := [4294967295]) (fun q => by rw [zargs_s q (Nat.le_of_lt (Nat.lt_trans hw (by decide))), ← eL4, zargs_s q (Nat.le_of_lt (Nat.lt_trans hv (by decide))), ← eL5, zargs_s q (by decide), ← eL6]; rfl) lL6_0 (by rw [hs0]; decide) g8_0 st8_0 (Nat.le_of_ble_eq_true rfl) m7 (hs0.trans hs0.symm) rfl).trans ?_
    exact e_ret (R := zrunX zXt 9 ztc (n + 59)) (d := 1679) (L := L3) (h := hbB16) (v := 4294967295) (by decide)
  have A2 : zrunX zXt 9 ztc (n + 60) 1679 239 L10 [] hbB16 = some ([4294967295], hbB16) := by
    refine (ca_239 (n := n + 59)).trans ?_
    refine (e_iload lL10_1 hv).trans ?_
    refine (e_push).trans ?_
    refine (e_aload lL10_0 (by decide)).trans ?_
    refine (f_getf (k := 61) (by rw [hs0]; decide) g61_0 st61_0 (by rw [ln61_0]; decide) v61_45_0).trans ?_
    refine (e_push).trans ?_
    refine (f_bin (f := z_sub) (v := 54) (by decide) (by decide) (by decide +kernel)).trans ?_
    have m14 : zrunX zXt 9 ztc (n + 59) 1678 217 L13 [] hbB16 = some ([1], hbB16) := by
      refine (ca_217 (n := n + 58)).trans ?_
      refine (e_iload lL13_0 hv).trans ?_
      refine (e_iload lL13_1 (by decide)).trans ?_
      refine (f_cmp_f (f := z_lt) hv (by decide) (zlt_f (a := v) (b := 0) (fs_letter_ineg_o0 (zcv hbA0_c10 v) hq1 v hv w hw i1 i2))).trans ?_
      refine (e_iload lL13_0 hv).trans ?_
      refine (e_iload lL13_2 (by decide)).trans ?_
      refine (f_cmp_f (f := z_gt) hv (by decide) (zgt_f (a := v) (b := 54) (fs_letter_ineg_o3 (zcv hbA0_c10 v) hq1 v hv w hw i1 i2))).trans ?_
      refine (e_push).trans ?_
      show q_X12_in_15 _ _ _ _ _ = _
      exact e_zret (R := zrunX zXt 9 ztc (n + 58)) (d := 1678) (L := L13) (h := hbB16) (v := 1) (by decide)
    refine (f_callS (d' := 1678) (S0 := [54, 0, v]) (S' := []) (S2 := [1]) (fun q => by rw [zargs_s q (by decide), ← eL11, zargs_s q (by decide), ← eL12, zargs_s q (Nat.le_of_lt (Nat.lt_trans hv (by decide))), ← eL13]; rfl) (Nat.le_of_ble_eq_true rfl) m14 (hs0.trans hs0.symm) rfl).trans ?_
    refine (f_if_f (f := fun a => Nat.beq a 0) (by decide) (by decide +kernel)).trans ?_
    refine (e_iload lL10_2 hw).trans ?_
    refine (e_push).trans ?_
    refine (e_aload lL10_0 (by decide)).trans ?_
    refine (f_getf (k := 61) (by rw [hs0]; decide) g61_0 st61_0 (by rw [ln61_0]; decide) v61_43_0).trans ?_
    refine (e_iload lL10_1 hv).trans ?_
    refine (e_iald (k := 87) hv (by rw [hs0]; decide) g87_0 st87_0 (by rw [ln87_0]; exact (fs_letter_ineg_o4 (zcv hbA0_c10 v) hq1 v hv w hw i1 i2)) rfl (zb_nm v (fs_letter_ineg_o4 (zcv hbA0_c10 v) hq1 v hv w hw i1 i2))).trans ?_
    refine (e_push).trans ?_
    refine (f_bin (f := z_sub) (v := ((zcv hbA0_c10 v) - 1)) (show (zcv hbA0_c10 v) < 4294967296 from (zb_nm v (fs_letter_ineg_o4 (zcv hbA0_c10 v) hq1 v hv w hw i1 i2))) (by decide) (z_sub_l (fs_letter_ineg_o5 (zcv hbA0_c10 v) hq1 v hv w hw i1 i2) (fs_letter_ineg_o6 (zcv hbA0_c10 v) hq1 v hv w hw i1 i2))).trans ?_
    have m18 : zrunX zXt 9 ztc (n + 59) 1678 217 L17 [] hbB16 = some ([0], hbB16) := by
      refine (ca_217 (n := n + 58)).trans ?_
      refine (e_iload lL17_0 hw).trans ?_
      refine (e_iload lL17_1 (by decide)).trans ?_
      refine (f_cmp_t (f := z_lt) hw (by decide) (zlt_t (a := w) (b := 0) (fs_letter_ineg_o2 (zcv hbA0_c10 v) hq1 v hv w hw i1 i2))).trans ?_
      refine (e_push).trans ?_
      exact e_zret (R := zrunX zXt 9 ztc (n + 58)) (d := 1678) (L := L17) (h := hbB16) (v := 0) (by decide)
    refine (f_callS (d' := 1678) (S0 := [((zcv hbA0_c10 v) - 1), 0, w]) (S' := []) (S2 := [0]) (fun q => by rw [zargs_s q (Nat.le_of_lt (Nat.lt_trans (show ((zcv hbA0_c10 v) - 1) < 4294967296 from (fs_letter_ineg_o7 (zcv hbA0_c10 v) hq1 v hv w hw i1 i2)) (by decide))), ← eL15, zargs_s q (by decide), ← eL16, zargs_s q (Nat.le_of_lt (Nat.lt_trans hw (by decide))), ← eL17]; rfl) (Nat.le_of_ble_eq_true rfl) m18 (hs0.trans hs0.symm) rfl).trans ?_
    refine (f_if_t (f := fun a => Nat.beq a 0) (by decide) (by decide +kernel)).trans ?_
    refine (e_push).trans ?_
    exact e_ret (R := zrunX zXt 9 ztc (n + 59)) (d := 1679) (L := L10) (h := hbB16) (v := 4294967295) (by decide)
  rw [eL3, eL2, eL1] at A1
  rw [eL10, eL9, eL8] at A2
  exact ⟨_, _, _, (by decide), A1, hs0, MS, A2, hs0, sl0⟩
theorem fs_letter_ibig_o0 (z : Nat) (hz : 1 ≤ z ∧ z ≤ 13) (v : Nat) (hv : v < 4294967296) (w : Nat) (hw : w < 4294967296) (i1 : v < 55) (i2 : z ≤ w) (i3 : w < 2147483648) : (0 + 2147483648) % 4294967296 ≤ (v + 2147483648) % 4294967296 := by omega
theorem fs_letter_ibig_o1 (z : Nat) (hz : 1 ≤ z ∧ z ≤ 13) (v : Nat) (hv : v < 4294967296) (w : Nat) (hw : w < 4294967296) (i1 : v < 55) (i2 : z ≤ w) (i3 : w < 2147483648) : (v + 2147483648) % 4294967296 < (55 + 2147483648) % 4294967296 := by omega
theorem fs_letter_ibig_o2 (z : Nat) (hz : 1 ≤ z ∧ z ≤ 13) (v : Nat) (hv : v < 4294967296) (w : Nat) (hw : w < 4294967296) (i1 : v < 55) (i2 : z ≤ w) (i3 : w < 2147483648) : (0 + 2147483648) % 4294967296 ≤ (w + 2147483648) % 4294967296 := by omega
theorem fs_letter_ibig_o3 (z : Nat) (hz : 1 ≤ z ∧ z ≤ 13) (v : Nat) (hv : v < 4294967296) (w : Nat) (hw : w < 4294967296) (i1 : v < 55) (i2 : z ≤ w) (i3 : w < 2147483648) : v < 300 := by omega
theorem fs_letter_ibig_o4 (z : Nat) (hz : 1 ≤ z ∧ z ≤ 13) (v : Nat) (hv : v < 4294967296) (w : Nat) (hw : w < 4294967296) (i1 : v < 55) (i2 : z ≤ w) (i3 : w < 2147483648) : (z + 2147483648) % 4294967296 ≤ (w + 2147483648) % 4294967296 := by omega
theorem fs_letter_ibig_o5 (z : Nat) (hz : 1 ≤ z ∧ z ≤ 13) (v : Nat) (hv : v < 4294967296) (w : Nat) (hw : w < 4294967296) (i1 : v < 55) (i2 : z ≤ w) (i3 : w < 2147483648) : (v + 2147483648) % 4294967296 ≤ (54 + 2147483648) % 4294967296 := by omega
theorem fs_letter_ibig_o6 (z : Nat) (hz : 1 ≤ z ∧ z ≤ 13) (v : Nat) (hv : v < 4294967296) (w : Nat) (hw : w < 4294967296) (i1 : v < 55) (i2 : z ≤ w) (i3 : w < 2147483648) : 1 ≤ z := by omega
theorem fs_letter_ibig_o7 (z : Nat) (hz : 1 ≤ z ∧ z ≤ 13) (v : Nat) (hv : v < 4294967296) (w : Nat) (hw : w < 4294967296) (i1 : v < 55) (i2 : z ≤ w) (i3 : w < 2147483648) : z < 4294967296 := by omega
theorem fs_letter_ibig_o8 (z : Nat) (hz : 1 ≤ z ∧ z ≤ 13) (v : Nat) (hv : v < 4294967296) (w : Nat) (hw : w < 4294967296) (i1 : v < 55) (i2 : z ≤ w) (i3 : w < 2147483648) : (z - 1) < 4294967296 := by omega
theorem fs_letter_ibig_o9 (z : Nat) (hz : 1 ≤ z ∧ z ≤ 13) (v : Nat) (hv : v < 4294967296) (w : Nat) (hw : w < 4294967296) (i1 : v < 55) (i2 : z ≤ w) (i3 : w < 2147483648) : ((z - 1) + 2147483648) % 4294967296 < (w + 2147483648) % 4294967296 := by omega
theorem fs_letter_ibig (v : Nat) (hv : v < 4294967296) (w : Nat) (hw : w < 4294967296) (i1 : v < 55) (i2 : zcv hbA0_c10 v ≤ w) (i3 : w < 2147483648) (n : Nat) : zFst n 155 (zput (zput (zput 0 2 (w + 1)) 1 (v + 1)) 0 (4294967297 + 1)) 239 (zput (zput (zput 0 2 (w + 1)) 1 (v + 1)) 0 (4294967358 + 1)) := by
  have hs0 : hbB16.1 = 129 := rfl
  have sl0 : hbB16.2.1 = 650610 := rfl
  have hq1 := zf_nx v i1
  have hq2 := zf_nm v i1
  obtain ⟨L1, eL1⟩ : ∃ x : Nat, x = zput 0 2 (w + 1) := ⟨_, rfl⟩
  obtain ⟨L2, eL2⟩ : ∃ x : Nat, x = zput L1 1 (v + 1) := ⟨_, rfl⟩
  obtain ⟨L3, eL3⟩ : ∃ x : Nat, x = zput L2 0 (4294967297 + 1) := ⟨_, rfl⟩
  have lL3_0 : zlane L3 0 = 4294967297 + 1 := by rw [eL3]; exact zlane_same (by decide)
  have v0_5_0 : zcv haA0_c0 5 = 4294967305 := by decide +kernel
  have g0_0 : zget 8 hbB16.2.2 0 = haA0_c0 := rfl
  have st0_0 : haA0_c0.1 = 11 := rfl
  have ln0_0 : haA0_c0.2.1 = 18 := rfl
  have lL2_1 : zlane L2 1 = v + 1 := by rw [eL2]; exact zlane_same (Nat.lt_of_le_of_lt (Nat.succ_le_of_lt hv) (by decide))
  have lL3_1 : zlane L3 1 = v + 1 := by rw [eL3]; exact (zlane_ne (by decide) (by decide)).trans lL2_1
  have lL1_2 : zlane L1 2 = w + 1 := by rw [eL1]; exact zlane_same (Nat.lt_of_le_of_lt (Nat.succ_le_of_lt hw) (by decide))
  have lL2_2 : zlane L2 2 = w + 1 := by rw [eL2]; exact (zlane_ne (Nat.lt_of_le_of_lt (Nat.succ_le_of_lt hv) (by decide)) (by decide)).trans lL1_2
  have lL3_2 : zlane L3 2 = w + 1 := by rw [eL3]; exact (zlane_ne (by decide) (by decide)).trans lL2_2
  obtain ⟨L4, eL4⟩ : ∃ x : Nat, x = zput 0 2 (w + 1) := ⟨_, rfl⟩
  obtain ⟨L5, eL5⟩ : ∃ x : Nat, x = zput L4 1 (v + 1) := ⟨_, rfl⟩
  obtain ⟨L6, eL6⟩ : ∃ x : Nat, x = zput L5 0 (4294967305 + 1) := ⟨_, rfl⟩
  have lL5_1 : zlane L5 1 = v + 1 := by rw [eL5]; exact zlane_same (Nat.lt_of_le_of_lt (Nat.succ_le_of_lt hv) (by decide))
  have lL6_1 : zlane L6 1 = v + 1 := by rw [eL6]; exact (zlane_ne (by decide) (by decide)).trans lL5_1
  have lL6_0 : zlane L6 0 = 4294967305 + 1 := by rw [eL6]; exact zlane_same (by decide)
  have v8_4_0 : zcv hbA3_c8 4 = 55 := by decide +kernel
  have g8_0 : zget 8 hbB16.2.2 8 = hbA3_c8 := rfl
  have st8_0 : hbA3_c8.1 = 2 := rfl
  have ln8_0 : hbA3_c8.2.1 = 10 := rfl
  have lL4_2 : zlane L4 2 = w + 1 := by rw [eL4]; exact zlane_same (Nat.lt_of_le_of_lt (Nat.succ_le_of_lt hw) (by decide))
  have lL5_2 : zlane L5 2 = w + 1 := by rw [eL5]; exact (zlane_ne (Nat.lt_of_le_of_lt (Nat.succ_le_of_lt hv) (by decide)) (by decide)).trans lL4_2
  have lL6_2 : zlane L6 2 = w + 1 := by rw [eL6]; exact (zlane_ne (by decide) (by decide)).trans lL5_2
  have v8_2_0 : zcv hbA3_c8 2 = 4294967307 := by decide +kernel
  have ln10_0 : hbA0_c10.2.1 = 300 := rfl
  have g10_0 : zget 8 hbB16.2.2 10 = hbA0_c10 := rfl
  have st10_0 : hbA0_c10.1 = 100 := rfl
  obtain ⟨L8, eL8⟩ : ∃ x : Nat, x = zput 0 2 (w + 1) := ⟨_, rfl⟩
  obtain ⟨L9, eL9⟩ : ∃ x : Nat, x = zput L8 1 (v + 1) := ⟨_, rfl⟩
  obtain ⟨L10, eL10⟩ : ∃ x : Nat, x = zput L9 0 (4294967358 + 1) := ⟨_, rfl⟩
  have lL9_1 : zlane L9 1 = v + 1 := by rw [eL9]; exact zlane_same (Nat.lt_of_le_of_lt (Nat.succ_le_of_lt hv) (by decide))
  have lL10_1 : zlane L10 1 = v + 1 := by rw [eL10]; exact (zlane_ne (by decide) (by decide)).trans lL9_1
  have lL10_0 : zlane L10 0 = 4294967358 + 1 := by rw [eL10]; exact zlane_same (by decide)
  have v61_45_0 : zcv hbB15_c61 45 = 55 := by decide +kernel
  have g61_0 : zget 8 hbB16.2.2 61 = hbB15_c61 := rfl
  have st61_0 : hbB15_c61.1 = 12 := rfl
  have ln61_0 : hbB15_c61.2.1 = 114 := rfl
  obtain ⟨L11, eL11⟩ : ∃ x : Nat, x = zput 0 2 (54 + 1) := ⟨_, rfl⟩
  obtain ⟨L12, eL12⟩ : ∃ x : Nat, x = zput L11 1 (0 + 1) := ⟨_, rfl⟩
  obtain ⟨L13, eL13⟩ : ∃ x : Nat, x = zput L12 0 (v + 1) := ⟨_, rfl⟩
  have lL13_0 : zlane L13 0 = v + 1 := by rw [eL13]; exact zlane_same (Nat.lt_of_le_of_lt (Nat.succ_le_of_lt hv) (by decide))
  have lL12_1 : zlane L12 1 = 0 + 1 := by rw [eL12]; exact zlane_same (by decide)
  have lL13_1 : zlane L13 1 = 0 + 1 := by rw [eL13]; exact (zlane_ne (Nat.lt_of_le_of_lt (Nat.succ_le_of_lt hv) (by decide)) (by decide)).trans lL12_1
  have lL11_2 : zlane L11 2 = 54 + 1 := by rw [eL11]; exact zlane_same (by decide)
  have lL12_2 : zlane L12 2 = 54 + 1 := by rw [eL12]; exact (zlane_ne (by decide) (by decide)).trans lL11_2
  have lL13_2 : zlane L13 2 = 54 + 1 := by rw [eL13]; exact (zlane_ne (Nat.lt_of_le_of_lt (Nat.succ_le_of_lt hv) (by decide)) (by decide)).trans lL12_2
  have lL8_2 : zlane L8 2 = w + 1 := by rw [eL8]; exact zlane_same (Nat.lt_of_le_of_lt (Nat.succ_le_of_lt hw) (by decide))
  have lL9_2 : zlane L9 2 = w + 1 := by rw [eL9]; exact (zlane_ne (Nat.lt_of_le_of_lt (Nat.succ_le_of_lt hv) (by decide)) (by decide)).trans lL8_2
  have lL10_2 : zlane L10 2 = w + 1 := by rw [eL10]; exact (zlane_ne (by decide) (by decide)).trans lL9_2
  have v61_43_0 : zcv hbB15_c61 43 = 4294967384 := by decide +kernel
  have ln87_0 : hbA0_c10.2.1 = 300 := rfl
  have g87_0 : zget 8 hbB16.2.2 87 = hbA0_c10 := rfl
  have st87_0 : hbA0_c10.1 = 100 := rfl
  obtain ⟨L15, eL15⟩ : ∃ x : Nat, x = zput 0 2 (((zcv hbA0_c10 v) - 1) + 1) := ⟨_, rfl⟩
  obtain ⟨L16, eL16⟩ : ∃ x : Nat, x = zput L15 1 (0 + 1) := ⟨_, rfl⟩
  obtain ⟨L17, eL17⟩ : ∃ x : Nat, x = zput L16 0 (w + 1) := ⟨_, rfl⟩
  have lL17_0 : zlane L17 0 = w + 1 := by rw [eL17]; exact zlane_same (Nat.lt_of_le_of_lt (Nat.succ_le_of_lt hw) (by decide))
  have lL16_1 : zlane L16 1 = 0 + 1 := by rw [eL16]; exact zlane_same (by decide)
  have lL17_1 : zlane L17 1 = 0 + 1 := by rw [eL17]; exact (zlane_ne (Nat.lt_of_le_of_lt (Nat.succ_le_of_lt hw) (by decide)) (by decide)).trans lL16_1
  have lL15_2 : zlane L15 2 = ((zcv hbA0_c10 v) - 1) + 1 := by rw [eL15]; exact zlane_same (Nat.lt_of_le_of_lt (Nat.succ_le_of_lt (show ((zcv hbA0_c10 v) - 1) < 4294967296 from (fs_letter_ibig_o8 (zcv hbA0_c10 v) hq1 v hv w hw i1 i2 i3))) (by decide))
  have lL16_2 : zlane L16 2 = ((zcv hbA0_c10 v) - 1) + 1 := by rw [eL16]; exact (zlane_ne (by decide) (by decide)).trans lL15_2
  have lL17_2 : zlane L17 2 = ((zcv hbA0_c10 v) - 1) + 1 := by rw [eL17]; exact (zlane_ne (Nat.lt_of_le_of_lt (Nat.succ_le_of_lt hw) (by decide)) (by decide)).trans lL16_2
  have MS : (zget 8 hbB16.2.2 61).1 = 12 := by rw [g61_0]; exact st61_0
  have A1 : zrunX zXt 9 ztc (n + 60) 1679 155 L3 [] hbB16 = some ([4294967295], hbB16) := by
    refine (ca_155 (n := n + 59)).trans ?_
    refine (e_aload lL3_0 (by decide)).trans ?_
    refine (f_getf (k := 0) (by rw [hs0]; decide) g0_0 st0_0 (by rw [ln0_0]; decide) v0_5_0).trans ?_
    refine (e_iload lL3_1 hv).trans ?_
    refine (e_iload lL3_2 hw).trans ?_
    have m7 : zrunX zXt 9 ztc (n + 59) 1678 39 L6 [] hbB16 = some ([4294967295], hbB16) := by
      refine (ca_39 (n := n + 58)).trans ?_
      refine (e_iload lL6_1 hv).trans ?_
      refine (f_if_f (f := fun a => z_lt a 0) hv (zlt_f (a := v) (b := 0) (fs_letter_ibig_o0 (zcv hbA0_c10 v) hq1 v hv w hw i1 i2 i3))).trans ?_
      refine (e_iload lL6_1 hv).trans ?_
      refine (e_aload lL6_0 (by decide)).trans ?_
      refine (f_getf (k := 8) (by rw [hs0]; decide) g8_0 st8_0 (by rw [ln8_0]; decide) v8_4_0).trans ?_
      refine (f_cmp_f (f := z_ge) hv (by decide) (zge_f (a := v) (b := 55) (fs_letter_ibig_o1 (zcv hbA0_c10 v) hq1 v hv w hw i1 i2 i3))).trans ?_
      refine (e_iload lL6_2 hw).trans ?_
      refine (f_if_f (f := fun a => z_lt a 0) hw (zlt_f (a := w) (b := 0) (fs_letter_ibig_o2 (zcv hbA0_c10 v) hq1 v hv w hw i1 i2 i3))).trans ?_
      refine (e_iload lL6_2 hw).trans ?_
      refine (e_aload lL6_0 (by decide)).trans ?_
      refine (f_getf (k := 8) (by rw [hs0]; decide) g8_0 st8_0 (by rw [ln8_0]; decide) v8_2_0).trans ?_
      refine (e_iload lL6_1 hv).trans ?_
      refine (e_iald (k := 10) hv (by rw [hs0]; decide) g10_0 st10_0 (by rw [ln10_0]; exact (fs_letter_ibig_o3 (zcv hbA0_c10 v) hq1 v hv w hw i1 i2 i3)) rfl (zb_nx v (fs_letter_ibig_o3 (zcv hbA0_c10 v) hq1 v hv w hw i1 i2 i3))).trans ?_
      refine (f_cmp_f (f := z_lt) hw (show (zcv hbA0_c10 v) < 4294967296 from (zb_nx v (fs_letter_ibig_o3 (zcv hbA0_c10 v) hq1 v hv w hw i1 i2 i3))) (zlt_f (a := w) (b := (zcv hbA0_c10 v)) (fs_letter_ibig_o4 (zcv hbA0_c10 v) hq1 v hv w hw i1 i2 i3))).trans ?_
      refine (e_push).trans ?_
      exact e_ret (R := zrunX zXt 9 ztc (n + 58)) (d := 1678) (L := L6) (h := hbB16) (v := 4294967295) (by decide)
    refine (f_callV (k := 8) (d' := 1678) (S0 := [w, v, 4294967305]) (S' := []) (S2 := [4294967295]) (fun q => by rw [zargs_s q (Nat.le_of_lt (Nat.lt_trans hw (by decide))), ← eL4, zargs_s q (Nat.le_of_lt (Nat.lt_trans hv (by decide))), ← eL5, zargs_s q (by decide), ← eL6]; rfl) lL6_0 (by rw [hs0]; decide) g8_0 st8_0 (Nat.le_of_ble_eq_true rfl) m7 (hs0.trans hs0.symm) rfl).trans ?_
    exact e_ret (R := zrunX zXt 9 ztc (n + 59)) (d := 1679) (L := L3) (h := hbB16) (v := 4294967295) (by decide)
  have A2 : zrunX zXt 9 ztc (n + 60) 1679 239 L10 [] hbB16 = some ([4294967295], hbB16) := by
    refine (ca_239 (n := n + 59)).trans ?_
    refine (e_iload lL10_1 hv).trans ?_
    refine (e_push).trans ?_
    refine (e_aload lL10_0 (by decide)).trans ?_
    refine (f_getf (k := 61) (by rw [hs0]; decide) g61_0 st61_0 (by rw [ln61_0]; decide) v61_45_0).trans ?_
    refine (e_push).trans ?_
    refine (f_bin (f := z_sub) (v := 54) (by decide) (by decide) (by decide +kernel)).trans ?_
    have m14 : zrunX zXt 9 ztc (n + 59) 1678 217 L13 [] hbB16 = some ([1], hbB16) := by
      refine (ca_217 (n := n + 58)).trans ?_
      refine (e_iload lL13_0 hv).trans ?_
      refine (e_iload lL13_1 (by decide)).trans ?_
      refine (f_cmp_f (f := z_lt) hv (by decide) (zlt_f (a := v) (b := 0) (fs_letter_ibig_o0 (zcv hbA0_c10 v) hq1 v hv w hw i1 i2 i3))).trans ?_
      refine (e_iload lL13_0 hv).trans ?_
      refine (e_iload lL13_2 (by decide)).trans ?_
      refine (f_cmp_f (f := z_gt) hv (by decide) (zgt_f (a := v) (b := 54) (fs_letter_ibig_o5 (zcv hbA0_c10 v) hq1 v hv w hw i1 i2 i3))).trans ?_
      refine (e_push).trans ?_
      show q_X12_in_15 _ _ _ _ _ = _
      exact e_zret (R := zrunX zXt 9 ztc (n + 58)) (d := 1678) (L := L13) (h := hbB16) (v := 1) (by decide)
    refine (f_callS (d' := 1678) (S0 := [54, 0, v]) (S' := []) (S2 := [1]) (fun q => by rw [zargs_s q (by decide), ← eL11, zargs_s q (by decide), ← eL12, zargs_s q (Nat.le_of_lt (Nat.lt_trans hv (by decide))), ← eL13]; rfl) (Nat.le_of_ble_eq_true rfl) m14 (hs0.trans hs0.symm) rfl).trans ?_
    refine (f_if_f (f := fun a => Nat.beq a 0) (by decide) (by decide +kernel)).trans ?_
    refine (e_iload lL10_2 hw).trans ?_
    refine (e_push).trans ?_
    refine (e_aload lL10_0 (by decide)).trans ?_
    refine (f_getf (k := 61) (by rw [hs0]; decide) g61_0 st61_0 (by rw [ln61_0]; decide) v61_43_0).trans ?_
    refine (e_iload lL10_1 hv).trans ?_
    refine (e_iald (k := 87) hv (by rw [hs0]; decide) g87_0 st87_0 (by rw [ln87_0]; exact (fs_letter_ibig_o3 (zcv hbA0_c10 v) hq1 v hv w hw i1 i2 i3)) rfl (zb_nm v (fs_letter_ibig_o3 (zcv hbA0_c10 v) hq1 v hv w hw i1 i2 i3))).trans ?_
    refine (e_push).trans ?_
    refine (f_bin (f := z_sub) (v := ((zcv hbA0_c10 v) - 1)) (show (zcv hbA0_c10 v) < 4294967296 from (zb_nm v (fs_letter_ibig_o3 (zcv hbA0_c10 v) hq1 v hv w hw i1 i2 i3))) (by decide) (z_sub_l (fs_letter_ibig_o6 (zcv hbA0_c10 v) hq1 v hv w hw i1 i2 i3) (fs_letter_ibig_o7 (zcv hbA0_c10 v) hq1 v hv w hw i1 i2 i3))).trans ?_
    have m18 : zrunX zXt 9 ztc (n + 59) 1678 217 L17 [] hbB16 = some ([0], hbB16) := by
      refine (ca_217 (n := n + 58)).trans ?_
      refine (e_iload lL17_0 hw).trans ?_
      refine (e_iload lL17_1 (by decide)).trans ?_
      refine (f_cmp_f (f := z_lt) hw (by decide) (zlt_f (a := w) (b := 0) (fs_letter_ibig_o2 (zcv hbA0_c10 v) hq1 v hv w hw i1 i2 i3))).trans ?_
      refine (e_iload lL17_0 hw).trans ?_
      refine (e_iload lL17_2 (show ((zcv hbA0_c10 v) - 1) < 4294967296 from (fs_letter_ibig_o8 (zcv hbA0_c10 v) hq1 v hv w hw i1 i2 i3))).trans ?_
      refine (f_cmp_t (f := z_gt) hw (show ((zcv hbA0_c10 v) - 1) < 4294967296 from (fs_letter_ibig_o8 (zcv hbA0_c10 v) hq1 v hv w hw i1 i2 i3)) (zgt_t (a := w) (b := ((zcv hbA0_c10 v) - 1)) (fs_letter_ibig_o9 (zcv hbA0_c10 v) hq1 v hv w hw i1 i2 i3))).trans ?_
      refine (e_push).trans ?_
      exact e_zret (R := zrunX zXt 9 ztc (n + 58)) (d := 1678) (L := L17) (h := hbB16) (v := 0) (by decide)
    refine (f_callS (d' := 1678) (S0 := [((zcv hbA0_c10 v) - 1), 0, w]) (S' := []) (S2 := [0]) (fun q => by rw [zargs_s q (Nat.le_of_lt (Nat.lt_trans (show ((zcv hbA0_c10 v) - 1) < 4294967296 from (fs_letter_ibig_o8 (zcv hbA0_c10 v) hq1 v hv w hw i1 i2 i3)) (by decide))), ← eL15, zargs_s q (by decide), ← eL16, zargs_s q (Nat.le_of_lt (Nat.lt_trans hw (by decide))), ← eL17]; rfl) (Nat.le_of_ble_eq_true rfl) m18 (hs0.trans hs0.symm) rfl).trans ?_
    refine (f_if_t (f := fun a => Nat.beq a 0) (by decide) (by decide +kernel)).trans ?_
    refine (e_push).trans ?_
    exact e_ret (R := zrunX zXt 9 ztc (n + 59)) (d := 1679) (L := L10) (h := hbB16) (v := 4294967295) (by decide)
  rw [eL3, eL2, eL1] at A1
  rw [eL10, eL9, eL8] at A2
  exact ⟨_, _, _, (by decide), A1, hs0, MS, A2, hs0, sl0⟩
theorem fs_letter_in_o0 (z : Nat) (hz : 1 ≤ z ∧ z ≤ 13) (v : Nat) (hv : v < 4294967296) (w : Nat) (hw : w < 4294967296) (i1 : v < 55) (i2 : w < z) : (0 + 2147483648) % 4294967296 ≤ (v + 2147483648) % 4294967296 := by omega
theorem fs_letter_in_o1 (z : Nat) (hz : 1 ≤ z ∧ z ≤ 13) (v : Nat) (hv : v < 4294967296) (w : Nat) (hw : w < 4294967296) (i1 : v < 55) (i2 : w < z) : (v + 2147483648) % 4294967296 < (55 + 2147483648) % 4294967296 := by omega
theorem fs_letter_in_o2 (z : Nat) (hz : 1 ≤ z ∧ z ≤ 13) (v : Nat) (hv : v < 4294967296) (w : Nat) (hw : w < 4294967296) (i1 : v < 55) (i2 : w < z) : (0 + 2147483648) % 4294967296 ≤ (w + 2147483648) % 4294967296 := by omega
theorem fs_letter_in_o3 (z : Nat) (hz : 1 ≤ z ∧ z ≤ 13) (v : Nat) (hv : v < 4294967296) (w : Nat) (hw : w < 4294967296) (i1 : v < 55) (i2 : w < z) : v < 300 := by omega
theorem fs_letter_in_o4 (z : Nat) (hz : 1 ≤ z ∧ z ≤ 13) (v : Nat) (hv : v < 4294967296) (w : Nat) (hw : w < 4294967296) (i1 : v < 55) (i2 : w < z) : (w + 2147483648) % 4294967296 < (z + 2147483648) % 4294967296 := by omega
theorem fs_letter_in_o5 (z : Nat) (hz : 1 ≤ z ∧ z ≤ 13) (v : Nat) (hv : v < 4294967296) (w : Nat) (hw : w < 4294967296) (i1 : v < 55) (i2 : w < z) : v * 13 < 4294967296 := by omega
theorem fs_letter_in_o6 (z : Nat) (hz : 1 ≤ z ∧ z ≤ 13) (v : Nat) (hv : v < 4294967296) (w : Nat) (hw : w < 4294967296) (i1 : v < 55) (i2 : w < z) : (v * 13) < 4294967296 := by omega
theorem fs_letter_in_o7 (z : Nat) (hz : 1 ≤ z ∧ z ≤ 13) (v : Nat) (hv : v < 4294967296) (w : Nat) (hw : w < 4294967296) (i1 : v < 55) (i2 : w < z) : (v * 13) + w < 4294967296 := by omega
theorem fs_letter_in_o8 (z : Nat) (hz : 1 ≤ z ∧ z ≤ 13) (v : Nat) (hv : v < 4294967296) (w : Nat) (hw : w < 4294967296) (i1 : v < 55) (i2 : w < z) : ((v * 13) + w) < 4294967296 := by omega
theorem fs_letter_in_o9 (z : Nat) (hz : 1 ≤ z ∧ z ≤ 13) (v : Nat) (hv : v < 4294967296) (w : Nat) (hw : w < 4294967296) (i1 : v < 55) (i2 : w < z) : ((v * 13) + w) < 3900 := by omega
theorem fs_letter_in_o10 (z : Nat) (hz : 1 ≤ z ∧ z ≤ 13) (v : Nat) (hv : v < 4294967296) (w : Nat) (hw : w < 4294967296) (i1 : v < 55) (i2 : w < z) : (v + 2147483648) % 4294967296 ≤ (54 + 2147483648) % 4294967296 := by omega
theorem fs_letter_in_o11 (z : Nat) (hz : 1 ≤ z ∧ z ≤ 13) (v : Nat) (hv : v < 4294967296) (w : Nat) (hw : w < 4294967296) (i1 : v < 55) (i2 : w < z) : 1 ≤ z := by omega
theorem fs_letter_in_o12 (z : Nat) (hz : 1 ≤ z ∧ z ≤ 13) (v : Nat) (hv : v < 4294967296) (w : Nat) (hw : w < 4294967296) (i1 : v < 55) (i2 : w < z) : z < 4294967296 := by omega
theorem fs_letter_in_o13 (z : Nat) (hz : 1 ≤ z ∧ z ≤ 13) (v : Nat) (hv : v < 4294967296) (w : Nat) (hw : w < 4294967296) (i1 : v < 55) (i2 : w < z) : (z - 1) < 4294967296 := by omega
theorem fs_letter_in_o14 (z : Nat) (hz : 1 ≤ z ∧ z ≤ 13) (v : Nat) (hv : v < 4294967296) (w : Nat) (hw : w < 4294967296) (i1 : v < 55) (i2 : w < z) : (w + 2147483648) % 4294967296 ≤ ((z - 1) + 2147483648) % 4294967296 := by omega
theorem fs_letter_in_o15 (z : Nat) (hz : 1 ≤ z ∧ z ≤ 13) (v : Nat) (hv : v < 4294967296) (w : Nat) (hw : w < 4294967296) (i1 : v < 55) (i2 : w < z) : 13 * v < 4294967296 := by omega
theorem fs_letter_in_o16 (z : Nat) (hz : 1 ≤ z ∧ z ≤ 13) (v : Nat) (hv : v < 4294967296) (w : Nat) (hw : w < 4294967296) (i1 : v < 55) (i2 : w < z) : (13 * v) < 4294967296 := by omega
theorem fs_letter_in_o17 (z : Nat) (hz : 1 ≤ z ∧ z ≤ 13) (v : Nat) (hv : v < 4294967296) (w : Nat) (hw : w < 4294967296) (i1 : v < 55) (i2 : w < z) : (13 * v) + w < 4294967296 := by omega
theorem fs_letter_in_o18 (z : Nat) (hz : 1 ≤ z ∧ z ≤ 13) (v : Nat) (hv : v < 4294967296) (w : Nat) (hw : w < 4294967296) (i1 : v < 55) (i2 : w < z) : ((13 * v) + w) < 4294967296 := by omega
theorem fs_letter_in_o19 (z : Nat) (hz : 1 ≤ z ∧ z ≤ 13) (v : Nat) (hv : v < 4294967296) (w : Nat) (hw : w < 4294967296) (i1 : v < 55) (i2 : w < z) : ((13 * v) + w) < 3900 := by omega
theorem fs_letter_in (v : Nat) (hv : v < 4294967296) (w : Nat) (hw : w < 4294967296) (i1 : v < 55) (i2 : w < zcv hbA0_c10 v) (n : Nat) : zFst n 155 (zput (zput (zput 0 2 (w + 1)) 1 (v + 1)) 0 (4294967297 + 1)) 239 (zput (zput (zput 0 2 (w + 1)) 1 (v + 1)) 0 (4294967358 + 1)) := by
  have hs0 : hbB16.1 = 129 := rfl
  have sl0 : hbB16.2.1 = 650610 := rfl
  have hq1 := zf_nx v i1
  have hq2 := zf_nm v i1
  obtain ⟨L1, eL1⟩ : ∃ x : Nat, x = zput 0 2 (w + 1) := ⟨_, rfl⟩
  obtain ⟨L2, eL2⟩ : ∃ x : Nat, x = zput L1 1 (v + 1) := ⟨_, rfl⟩
  obtain ⟨L3, eL3⟩ : ∃ x : Nat, x = zput L2 0 (4294967297 + 1) := ⟨_, rfl⟩
  have lL3_0 : zlane L3 0 = 4294967297 + 1 := by rw [eL3]; exact zlane_same (by decide)
  have v0_5_0 : zcv haA0_c0 5 = 4294967305 := by decide +kernel
  have g0_0 : zget 8 hbB16.2.2 0 = haA0_c0 := rfl
  have st0_0 : haA0_c0.1 = 11 := rfl
  have ln0_0 : haA0_c0.2.1 = 18 := rfl
  have lL2_1 : zlane L2 1 = v + 1 := by rw [eL2]; exact zlane_same (Nat.lt_of_le_of_lt (Nat.succ_le_of_lt hv) (by decide))
  have lL3_1 : zlane L3 1 = v + 1 := by rw [eL3]; exact (zlane_ne (by decide) (by decide)).trans lL2_1
  have lL1_2 : zlane L1 2 = w + 1 := by rw [eL1]; exact zlane_same (Nat.lt_of_le_of_lt (Nat.succ_le_of_lt hw) (by decide))
  have lL2_2 : zlane L2 2 = w + 1 := by rw [eL2]; exact (zlane_ne (Nat.lt_of_le_of_lt (Nat.succ_le_of_lt hv) (by decide)) (by decide)).trans lL1_2
  have lL3_2 : zlane L3 2 = w + 1 := by rw [eL3]; exact (zlane_ne (by decide) (by decide)).trans lL2_2
  obtain ⟨L4, eL4⟩ : ∃ x : Nat, x = zput 0 2 (w + 1) := ⟨_, rfl⟩
  obtain ⟨L5, eL5⟩ : ∃ x : Nat, x = zput L4 1 (v + 1) := ⟨_, rfl⟩
  obtain ⟨L6, eL6⟩ : ∃ x : Nat, x = zput L5 0 (4294967305 + 1) := ⟨_, rfl⟩
  have lL5_1 : zlane L5 1 = v + 1 := by rw [eL5]; exact zlane_same (Nat.lt_of_le_of_lt (Nat.succ_le_of_lt hv) (by decide))
  have lL6_1 : zlane L6 1 = v + 1 := by rw [eL6]; exact (zlane_ne (by decide) (by decide)).trans lL5_1
  have lL6_0 : zlane L6 0 = 4294967305 + 1 := by rw [eL6]; exact zlane_same (by decide)
  have v8_4_0 : zcv hbA3_c8 4 = 55 := by decide +kernel
  have g8_0 : zget 8 hbB16.2.2 8 = hbA3_c8 := rfl
  have st8_0 : hbA3_c8.1 = 2 := rfl
  have ln8_0 : hbA3_c8.2.1 = 10 := rfl
  have lL4_2 : zlane L4 2 = w + 1 := by rw [eL4]; exact zlane_same (Nat.lt_of_le_of_lt (Nat.succ_le_of_lt hw) (by decide))
  have lL5_2 : zlane L5 2 = w + 1 := by rw [eL5]; exact (zlane_ne (Nat.lt_of_le_of_lt (Nat.succ_le_of_lt hv) (by decide)) (by decide)).trans lL4_2
  have lL6_2 : zlane L6 2 = w + 1 := by rw [eL6]; exact (zlane_ne (by decide) (by decide)).trans lL5_2
  have v8_2_0 : zcv hbA3_c8 2 = 4294967307 := by decide +kernel
  have ln10_0 : hbA0_c10.2.1 = 300 := rfl
  have g10_0 : zget 8 hbB16.2.2 10 = hbA0_c10 := rfl
  have st10_0 : hbA0_c10.1 = 100 := rfl
  have v8_1_0 : zcv hbA3_c8 1 = 4294967306 := by decide +kernel
  have ln9_0 : hbA0_c9.2.1 = 3900 := rfl
  have g9_0 : zget 8 hbB16.2.2 9 = hbA0_c9 := rfl
  have st9_0 : hbA0_c9.1 = 100 := rfl
  obtain ⟨L8, eL8⟩ : ∃ x : Nat, x = zput 0 2 (w + 1) := ⟨_, rfl⟩
  obtain ⟨L9, eL9⟩ : ∃ x : Nat, x = zput L8 1 (v + 1) := ⟨_, rfl⟩
  obtain ⟨L10, eL10⟩ : ∃ x : Nat, x = zput L9 0 (4294967358 + 1) := ⟨_, rfl⟩
  have lL9_1 : zlane L9 1 = v + 1 := by rw [eL9]; exact zlane_same (Nat.lt_of_le_of_lt (Nat.succ_le_of_lt hv) (by decide))
  have lL10_1 : zlane L10 1 = v + 1 := by rw [eL10]; exact (zlane_ne (by decide) (by decide)).trans lL9_1
  have lL10_0 : zlane L10 0 = 4294967358 + 1 := by rw [eL10]; exact zlane_same (by decide)
  have v61_45_0 : zcv hbB15_c61 45 = 55 := by decide +kernel
  have g61_0 : zget 8 hbB16.2.2 61 = hbB15_c61 := rfl
  have st61_0 : hbB15_c61.1 = 12 := rfl
  have ln61_0 : hbB15_c61.2.1 = 114 := rfl
  obtain ⟨L11, eL11⟩ : ∃ x : Nat, x = zput 0 2 (54 + 1) := ⟨_, rfl⟩
  obtain ⟨L12, eL12⟩ : ∃ x : Nat, x = zput L11 1 (0 + 1) := ⟨_, rfl⟩
  obtain ⟨L13, eL13⟩ : ∃ x : Nat, x = zput L12 0 (v + 1) := ⟨_, rfl⟩
  have lL13_0 : zlane L13 0 = v + 1 := by rw [eL13]; exact zlane_same (Nat.lt_of_le_of_lt (Nat.succ_le_of_lt hv) (by decide))
  have lL12_1 : zlane L12 1 = 0 + 1 := by rw [eL12]; exact zlane_same (by decide)
  have lL13_1 : zlane L13 1 = 0 + 1 := by rw [eL13]; exact (zlane_ne (Nat.lt_of_le_of_lt (Nat.succ_le_of_lt hv) (by decide)) (by decide)).trans lL12_1
  have lL11_2 : zlane L11 2 = 54 + 1 := by rw [eL11]; exact zlane_same (by decide)
  have lL12_2 : zlane L12 2 = 54 + 1 := by rw [eL12]; exact (zlane_ne (by decide) (by decide)).trans lL11_2
  have lL13_2 : zlane L13 2 = 54 + 1 := by rw [eL13]; exact (zlane_ne (Nat.lt_of_le_of_lt (Nat.succ_le_of_lt hv) (by decide)) (by decide)).trans lL12_2
  have lL8_2 : zlane L8 2 = w + 1 := by rw [eL8]; exact zlane_same (Nat.lt_of_le_of_lt (Nat.succ_le_of_lt hw) (by decide))
  have lL9_2 : zlane L9 2 = w + 1 := by rw [eL9]; exact (zlane_ne (Nat.lt_of_le_of_lt (Nat.succ_le_of_lt hv) (by decide)) (by decide)).trans lL8_2
  have lL10_2 : zlane L10 2 = w + 1 := by rw [eL10]; exact (zlane_ne (by decide) (by decide)).trans lL9_2
  have v61_43_0 : zcv hbB15_c61 43 = 4294967384 := by decide +kernel
  have ln87_0 : hbA0_c10.2.1 = 300 := rfl
  have g87_0 : zget 8 hbB16.2.2 87 = hbA0_c10 := rfl
  have st87_0 : hbA0_c10.1 = 100 := rfl
  obtain ⟨L15, eL15⟩ : ∃ x : Nat, x = zput 0 2 (((zcv hbA0_c10 v) - 1) + 1) := ⟨_, rfl⟩
  obtain ⟨L16, eL16⟩ : ∃ x : Nat, x = zput L15 1 (0 + 1) := ⟨_, rfl⟩
  obtain ⟨L17, eL17⟩ : ∃ x : Nat, x = zput L16 0 (w + 1) := ⟨_, rfl⟩
  have lL17_0 : zlane L17 0 = w + 1 := by rw [eL17]; exact zlane_same (Nat.lt_of_le_of_lt (Nat.succ_le_of_lt hw) (by decide))
  have lL16_1 : zlane L16 1 = 0 + 1 := by rw [eL16]; exact zlane_same (by decide)
  have lL17_1 : zlane L17 1 = 0 + 1 := by rw [eL17]; exact (zlane_ne (Nat.lt_of_le_of_lt (Nat.succ_le_of_lt hw) (by decide)) (by decide)).trans lL16_1
  have lL15_2 : zlane L15 2 = ((zcv hbA0_c10 v) - 1) + 1 := by rw [eL15]; exact zlane_same (Nat.lt_of_le_of_lt (Nat.succ_le_of_lt (show ((zcv hbA0_c10 v) - 1) < 4294967296 from (fs_letter_in_o13 (zcv hbA0_c10 v) hq1 v hv w hw i1 i2))) (by decide))
  have lL16_2 : zlane L16 2 = ((zcv hbA0_c10 v) - 1) + 1 := by rw [eL16]; exact (zlane_ne (by decide) (by decide)).trans lL15_2
  have lL17_2 : zlane L17 2 = ((zcv hbA0_c10 v) - 1) + 1 := by rw [eL17]; exact (zlane_ne (Nat.lt_of_le_of_lt (Nat.succ_le_of_lt hw) (by decide)) (by decide)).trans lL16_2
  have v61_42_0 : zcv hbB15_c61 42 = 4294967383 := by decide +kernel
  have ln86_0 : hbA0_c9.2.1 = 3900 := rfl
  have g86_0 : zget 8 hbB16.2.2 86 = hbA0_c9 := rfl
  have st86_0 : hbA0_c9.1 = 100 := rfl
  have MS : (zget 8 hbB16.2.2 61).1 = 12 := by rw [g61_0]; exact st61_0
  have A1 : zrunX zXt 9 ztc (n + 60) 1679 155 L3 [] hbB16 = some ([(zcv hbA0_c9 ((v * 13) + w))], hbB16) := by
    refine (ca_155 (n := n + 59)).trans ?_
    refine (e_aload lL3_0 (by decide)).trans ?_
    refine (f_getf (k := 0) (by rw [hs0]; decide) g0_0 st0_0 (by rw [ln0_0]; decide) v0_5_0).trans ?_
    refine (e_iload lL3_1 hv).trans ?_
    refine (e_iload lL3_2 hw).trans ?_
    have m7 : zrunX zXt 9 ztc (n + 59) 1678 39 L6 [] hbB16 = some ([(zcv hbA0_c9 ((v * 13) + w))], hbB16) := by
      refine (ca_39 (n := n + 58)).trans ?_
      refine (e_iload lL6_1 hv).trans ?_
      refine (f_if_f (f := fun a => z_lt a 0) hv (zlt_f (a := v) (b := 0) (fs_letter_in_o0 (zcv hbA0_c10 v) hq1 v hv w hw i1 i2))).trans ?_
      refine (e_iload lL6_1 hv).trans ?_
      refine (e_aload lL6_0 (by decide)).trans ?_
      refine (f_getf (k := 8) (by rw [hs0]; decide) g8_0 st8_0 (by rw [ln8_0]; decide) v8_4_0).trans ?_
      refine (f_cmp_f (f := z_ge) hv (by decide) (zge_f (a := v) (b := 55) (fs_letter_in_o1 (zcv hbA0_c10 v) hq1 v hv w hw i1 i2))).trans ?_
      refine (e_iload lL6_2 hw).trans ?_
      refine (f_if_f (f := fun a => z_lt a 0) hw (zlt_f (a := w) (b := 0) (fs_letter_in_o2 (zcv hbA0_c10 v) hq1 v hv w hw i1 i2))).trans ?_
      refine (e_iload lL6_2 hw).trans ?_
      refine (e_aload lL6_0 (by decide)).trans ?_
      refine (f_getf (k := 8) (by rw [hs0]; decide) g8_0 st8_0 (by rw [ln8_0]; decide) v8_2_0).trans ?_
      refine (e_iload lL6_1 hv).trans ?_
      refine (e_iald (k := 10) hv (by rw [hs0]; decide) g10_0 st10_0 (by rw [ln10_0]; exact (fs_letter_in_o3 (zcv hbA0_c10 v) hq1 v hv w hw i1 i2)) rfl (zb_nx v (fs_letter_in_o3 (zcv hbA0_c10 v) hq1 v hv w hw i1 i2))).trans ?_
      refine (f_cmp_t (f := z_lt) hw (show (zcv hbA0_c10 v) < 4294967296 from (zb_nx v (fs_letter_in_o3 (zcv hbA0_c10 v) hq1 v hv w hw i1 i2))) (zlt_t (a := w) (b := (zcv hbA0_c10 v)) (fs_letter_in_o4 (zcv hbA0_c10 v) hq1 v hv w hw i1 i2))).trans ?_
      refine (e_aload lL6_0 (by decide)).trans ?_
      refine (f_getf (k := 8) (by rw [hs0]; decide) g8_0 st8_0 (by rw [ln8_0]; decide) v8_1_0).trans ?_
      refine (e_iload lL6_1 hv).trans ?_
      refine (e_push).trans ?_
      refine (f_bin (f := z_mul) (v := (v * 13)) hv (by decide) (z_mul_l (fs_letter_in_o5 (zcv hbA0_c10 v) hq1 v hv w hw i1 i2))).trans ?_
      refine (e_iload lL6_2 hw).trans ?_
      refine (f_bin (f := z_add) (v := ((v * 13) + w)) (show (v * 13) < 4294967296 from (fs_letter_in_o6 (zcv hbA0_c10 v) hq1 v hv w hw i1 i2)) hw (z_add_l (fs_letter_in_o7 (zcv hbA0_c10 v) hq1 v hv w hw i1 i2))).trans ?_
      refine (e_iald (k := 9) (show ((v * 13) + w) < 4294967296 from (fs_letter_in_o8 (zcv hbA0_c10 v) hq1 v hv w hw i1 i2)) (by rw [hs0]; decide) g9_0 st9_0 (by rw [ln9_0]; exact (fs_letter_in_o9 (zcv hbA0_c10 v) hq1 v hv w hw i1 i2)) rfl (zb_lx ((v * 13) + w) (fs_letter_in_o9 (zcv hbA0_c10 v) hq1 v hv w hw i1 i2))).trans ?_
      exact e_ret (R := zrunX zXt 9 ztc (n + 58)) (d := 1678) (L := L6) (h := hbB16) (v := (zcv hbA0_c9 ((v * 13) + w))) (show (zcv hbA0_c9 ((v * 13) + w)) < 4294967296 from (zb_lx ((v * 13) + w) (fs_letter_in_o9 (zcv hbA0_c10 v) hq1 v hv w hw i1 i2)))
    refine (f_callV (k := 8) (d' := 1678) (S0 := [w, v, 4294967305]) (S' := []) (S2 := [(zcv hbA0_c9 ((v * 13) + w))]) (fun q => by rw [zargs_s q (Nat.le_of_lt (Nat.lt_trans hw (by decide))), ← eL4, zargs_s q (Nat.le_of_lt (Nat.lt_trans hv (by decide))), ← eL5, zargs_s q (by decide), ← eL6]; rfl) lL6_0 (by rw [hs0]; decide) g8_0 st8_0 (Nat.le_of_ble_eq_true rfl) m7 (hs0.trans hs0.symm) rfl).trans ?_
    exact e_ret (R := zrunX zXt 9 ztc (n + 59)) (d := 1679) (L := L3) (h := hbB16) (v := (zcv hbA0_c9 ((v * 13) + w))) (show (zcv hbA0_c9 ((v * 13) + w)) < 4294967296 from (zb_lx ((v * 13) + w) (fs_letter_in_o9 (zcv hbA0_c10 v) hq1 v hv w hw i1 i2)))
  have A2 : zrunX zXt 9 ztc (n + 60) 1679 239 L10 [] hbB16 = some ([(zcv hbA0_c9 ((13 * v) + w))], hbB16) := by
    refine (ca_239 (n := n + 59)).trans ?_
    refine (e_iload lL10_1 hv).trans ?_
    refine (e_push).trans ?_
    refine (e_aload lL10_0 (by decide)).trans ?_
    refine (f_getf (k := 61) (by rw [hs0]; decide) g61_0 st61_0 (by rw [ln61_0]; decide) v61_45_0).trans ?_
    refine (e_push).trans ?_
    refine (f_bin (f := z_sub) (v := 54) (by decide) (by decide) (by decide +kernel)).trans ?_
    have m14 : zrunX zXt 9 ztc (n + 59) 1678 217 L13 [] hbB16 = some ([1], hbB16) := by
      refine (ca_217 (n := n + 58)).trans ?_
      refine (e_iload lL13_0 hv).trans ?_
      refine (e_iload lL13_1 (by decide)).trans ?_
      refine (f_cmp_f (f := z_lt) hv (by decide) (zlt_f (a := v) (b := 0) (fs_letter_in_o0 (zcv hbA0_c10 v) hq1 v hv w hw i1 i2))).trans ?_
      refine (e_iload lL13_0 hv).trans ?_
      refine (e_iload lL13_2 (by decide)).trans ?_
      refine (f_cmp_f (f := z_gt) hv (by decide) (zgt_f (a := v) (b := 54) (fs_letter_in_o10 (zcv hbA0_c10 v) hq1 v hv w hw i1 i2))).trans ?_
      refine (e_push).trans ?_
      show q_X12_in_15 _ _ _ _ _ = _
      exact e_zret (R := zrunX zXt 9 ztc (n + 58)) (d := 1678) (L := L13) (h := hbB16) (v := 1) (by decide)
    refine (f_callS (d' := 1678) (S0 := [54, 0, v]) (S' := []) (S2 := [1]) (fun q => by rw [zargs_s q (by decide), ← eL11, zargs_s q (by decide), ← eL12, zargs_s q (Nat.le_of_lt (Nat.lt_trans hv (by decide))), ← eL13]; rfl) (Nat.le_of_ble_eq_true rfl) m14 (hs0.trans hs0.symm) rfl).trans ?_
    refine (f_if_f (f := fun a => Nat.beq a 0) (by decide) (by decide +kernel)).trans ?_
    refine (e_iload lL10_2 hw).trans ?_
    refine (e_push).trans ?_
    refine (e_aload lL10_0 (by decide)).trans ?_
    refine (f_getf (k := 61) (by rw [hs0]; decide) g61_0 st61_0 (by rw [ln61_0]; decide) v61_43_0).trans ?_
    refine (e_iload lL10_1 hv).trans ?_
    refine (e_iald (k := 87) hv (by rw [hs0]; decide) g87_0 st87_0 (by rw [ln87_0]; exact (fs_letter_in_o3 (zcv hbA0_c10 v) hq1 v hv w hw i1 i2)) rfl (zb_nm v (fs_letter_in_o3 (zcv hbA0_c10 v) hq1 v hv w hw i1 i2))).trans ?_
    refine (e_push).trans ?_
    refine (f_bin (f := z_sub) (v := ((zcv hbA0_c10 v) - 1)) (show (zcv hbA0_c10 v) < 4294967296 from (zb_nm v (fs_letter_in_o3 (zcv hbA0_c10 v) hq1 v hv w hw i1 i2))) (by decide) (z_sub_l (fs_letter_in_o11 (zcv hbA0_c10 v) hq1 v hv w hw i1 i2) (fs_letter_in_o12 (zcv hbA0_c10 v) hq1 v hv w hw i1 i2))).trans ?_
    have m18 : zrunX zXt 9 ztc (n + 59) 1678 217 L17 [] hbB16 = some ([1], hbB16) := by
      refine (ca_217 (n := n + 58)).trans ?_
      refine (e_iload lL17_0 hw).trans ?_
      refine (e_iload lL17_1 (by decide)).trans ?_
      refine (f_cmp_f (f := z_lt) hw (by decide) (zlt_f (a := w) (b := 0) (fs_letter_in_o2 (zcv hbA0_c10 v) hq1 v hv w hw i1 i2))).trans ?_
      refine (e_iload lL17_0 hw).trans ?_
      refine (e_iload lL17_2 (show ((zcv hbA0_c10 v) - 1) < 4294967296 from (fs_letter_in_o13 (zcv hbA0_c10 v) hq1 v hv w hw i1 i2))).trans ?_
      refine (f_cmp_f (f := z_gt) hw (show ((zcv hbA0_c10 v) - 1) < 4294967296 from (fs_letter_in_o13 (zcv hbA0_c10 v) hq1 v hv w hw i1 i2)) (zgt_f (a := w) (b := ((zcv hbA0_c10 v) - 1)) (fs_letter_in_o14 (zcv hbA0_c10 v) hq1 v hv w hw i1 i2))).trans ?_
      refine (e_push).trans ?_
      show q_X12_in_15 _ _ _ _ _ = _
      exact e_zret (R := zrunX zXt 9 ztc (n + 58)) (d := 1678) (L := L17) (h := hbB16) (v := 1) (by decide)
    refine (f_callS (d' := 1678) (S0 := [((zcv hbA0_c10 v) - 1), 0, w]) (S' := []) (S2 := [1]) (fun q => by rw [zargs_s q (Nat.le_of_lt (Nat.lt_trans (show ((zcv hbA0_c10 v) - 1) < 4294967296 from (fs_letter_in_o13 (zcv hbA0_c10 v) hq1 v hv w hw i1 i2)) (by decide))), ← eL15, zargs_s q (by decide), ← eL16, zargs_s q (Nat.le_of_lt (Nat.lt_trans hw (by decide))), ← eL17]; rfl) (Nat.le_of_ble_eq_true rfl) m18 (hs0.trans hs0.symm) rfl).trans ?_
    refine (f_if_f (f := fun a => Nat.beq a 0) (by decide) (by decide +kernel)).trans ?_
    refine (e_aload lL10_0 (by decide)).trans ?_
    refine (f_getf (k := 61) (by rw [hs0]; decide) g61_0 st61_0 (by rw [ln61_0]; decide) v61_42_0).trans ?_
    refine (e_push).trans ?_
    refine (e_iload lL10_1 hv).trans ?_
    refine (f_bin (f := z_mul) (v := (13 * v)) (by decide) hv (z_mul_l (fs_letter_in_o15 (zcv hbA0_c10 v) hq1 v hv w hw i1 i2))).trans ?_
    refine (e_iload lL10_2 hw).trans ?_
    refine (f_bin (f := z_add) (v := ((13 * v) + w)) (show (13 * v) < 4294967296 from (fs_letter_in_o16 (zcv hbA0_c10 v) hq1 v hv w hw i1 i2)) hw (z_add_l (fs_letter_in_o17 (zcv hbA0_c10 v) hq1 v hv w hw i1 i2))).trans ?_
    refine (e_iald (k := 86) (show ((13 * v) + w) < 4294967296 from (fs_letter_in_o18 (zcv hbA0_c10 v) hq1 v hv w hw i1 i2)) (by rw [hs0]; decide) g86_0 st86_0 (by rw [ln86_0]; exact (fs_letter_in_o19 (zcv hbA0_c10 v) hq1 v hv w hw i1 i2)) rfl (zb_lm ((13 * v) + w) (fs_letter_in_o19 (zcv hbA0_c10 v) hq1 v hv w hw i1 i2))).trans ?_
    show q_X12_letter_45 _ _ _ _ _ = _
    exact e_ret (R := zrunX zXt 9 ztc (n + 59)) (d := 1679) (L := L10) (h := hbB16) (v := (zcv hbA0_c9 ((13 * v) + w))) (show (zcv hbA0_c9 ((13 * v) + w)) < 4294967296 from (zb_lm ((13 * v) + w) (fs_letter_in_o19 (zcv hbA0_c10 v) hq1 v hv w hw i1 i2)))
  rw [zeq_letter v w i1 i2] at A2
  rw [eL3, eL2, eL1] at A1
  rw [eL10, eL9, eL8] at A2
  exact ⟨_, _, _, (show (zcv hbA0_c9 ((v * 13) + w)) < 4294967296 from (zb_lx ((v * 13) + w) (fs_letter_in_o9 (zcv hbA0_c10 v) hq1 v hv w hw i1 i2))), A1, hs0, MS, A2, hs0, sl0⟩
theorem fs_poke_neg_o0 (v : Nat) (hv : v < 4294967296) (w : Nat) (hw : w < 4294967296) (i1 : 2147483648 ≤ v) : (v + 2147483648) % 4294967296 < (0 + 2147483648) % 4294967296 := by omega
theorem fs_poke_neg (v : Nat) (hv : v < 4294967296) (w : Nat) (hw : w < 4294967296) (i1 : 2147483648 ≤ v) (n : Nat) : zFst n 161 (zput (zput (zput 0 2 (w + 1)) 1 (v + 1)) 0 (4294967297 + 1)) 253 (zput (zput (zput 0 2 (w + 1)) 1 (v + 1)) 0 (4294967358 + 1)) := by
  have hs0 : hbB16.1 = 129 := rfl
  have sl0 : hbB16.2.1 = 650610 := rfl
  obtain ⟨L1, eL1⟩ : ∃ x : Nat, x = zput 0 2 (w + 1) := ⟨_, rfl⟩
  obtain ⟨L2, eL2⟩ : ∃ x : Nat, x = zput L1 1 (v + 1) := ⟨_, rfl⟩
  obtain ⟨L3, eL3⟩ : ∃ x : Nat, x = zput L2 0 (4294967297 + 1) := ⟨_, rfl⟩
  have lL3_0 : zlane L3 0 = 4294967297 + 1 := by rw [eL3]; exact zlane_same (by decide)
  have v0_2_0 : zcv haA0_c0 2 = 4294967299 := by decide +kernel
  have g0_0 : zget 8 hbB16.2.2 0 = haA0_c0 := rfl
  have st0_0 : haA0_c0.1 = 11 := rfl
  have ln0_0 : haA0_c0.2.1 = 18 := rfl
  have lL2_1 : zlane L2 1 = v + 1 := by rw [eL2]; exact zlane_same (Nat.lt_of_le_of_lt (Nat.succ_le_of_lt hv) (by decide))
  have lL3_1 : zlane L3 1 = v + 1 := by rw [eL3]; exact (zlane_ne (by decide) (by decide)).trans lL2_1
  obtain ⟨L4, eL4⟩ : ∃ x : Nat, x = zput 0 1 (v + 1) := ⟨_, rfl⟩
  obtain ⟨L5, eL5⟩ : ∃ x : Nat, x = zput L4 0 (4294967299 + 1) := ⟨_, rfl⟩
  have lL4_1 : zlane L4 1 = v + 1 := by rw [eL4]; exact zlane_same (Nat.lt_of_le_of_lt (Nat.succ_le_of_lt hv) (by decide))
  have lL5_1 : zlane L5 1 = v + 1 := by rw [eL5]; exact (zlane_ne (by decide) (by decide)).trans lL4_1
  have lL5_0 : zlane L5 0 = 4294967299 + 1 := by rw [eL5]; exact zlane_same (by decide)
  have g2_0 : zget 8 hbB16.2.2 2 = haA0_c2 := rfl
  have st2_0 : haA0_c2.1 = 3 := rfl
  obtain ⟨L7, eL7⟩ : ∃ x : Nat, x = zput 0 2 (w + 1) := ⟨_, rfl⟩
  obtain ⟨L8, eL8⟩ : ∃ x : Nat, x = zput L7 1 (v + 1) := ⟨_, rfl⟩
  obtain ⟨L9, eL9⟩ : ∃ x : Nat, x = zput L8 0 (4294967358 + 1) := ⟨_, rfl⟩
  have lL8_1 : zlane L8 1 = v + 1 := by rw [eL8]; exact zlane_same (Nat.lt_of_le_of_lt (Nat.succ_le_of_lt hv) (by decide))
  have lL9_1 : zlane L9 1 = v + 1 := by rw [eL9]; exact (zlane_ne (by decide) (by decide)).trans lL8_1
  obtain ⟨L10, eL10⟩ : ∃ x : Nat, x = zput 0 0 (v + 1) := ⟨_, rfl⟩
  have lL10_0 : zlane L10 0 = v + 1 := by rw [eL10]; exact zlane_same (Nat.lt_of_le_of_lt (Nat.succ_le_of_lt hv) (by decide))
  obtain ⟨L12, eL12⟩ : ∃ x : Nat, x = zput 0 2 (8191 + 1) := ⟨_, rfl⟩
  obtain ⟨L13, eL13⟩ : ∃ x : Nat, x = zput L12 1 (0 + 1) := ⟨_, rfl⟩
  obtain ⟨L14, eL14⟩ : ∃ x : Nat, x = zput L13 0 (v + 1) := ⟨_, rfl⟩
  have lL14_0 : zlane L14 0 = v + 1 := by rw [eL14]; exact zlane_same (Nat.lt_of_le_of_lt (Nat.succ_le_of_lt hv) (by decide))
  have lL13_1 : zlane L13 1 = 0 + 1 := by rw [eL13]; exact zlane_same (by decide)
  have lL14_1 : zlane L14 1 = 0 + 1 := by rw [eL14]; exact (zlane_ne (Nat.lt_of_le_of_lt (Nat.succ_le_of_lt hv) (by decide)) (by decide)).trans lL13_1
  have g61_0 : zget 8 hbB16.2.2 61 = hbB15_c61 := rfl
  have st61_0 : hbB15_c61.1 = 12 := rfl
  have MS : (zget 8 hbB16.2.2 61).1 = 12 := by rw [g61_0]; exact st61_0
  have A1 : zrunX zXt 9 ztc (n + 60) 1679 161 L3 [] hbB16 = some ([0], hbB16) := by
    refine (ca_161 (n := n + 59)).trans ?_
    refine (e_aload lL3_0 (by decide)).trans ?_
    refine (f_getf (k := 0) (by rw [hs0]; decide) g0_0 st0_0 (by rw [ln0_0]; decide) v0_2_0).trans ?_
    refine (e_iload lL3_1 hv).trans ?_
    have m6 : zrunX zXt 9 ztc (n + 59) 1678 46 L5 [] hbB16 = some ([0], hbB16) := by
      refine (ca_46 (n := n + 58)).trans ?_
      refine (e_iload lL5_1 hv).trans ?_
      refine (f_if_t (f := fun a => z_lt a 0) hv (zlt_t (a := v) (b := 0) (fs_poke_neg_o0 v hv w hw i1))).trans ?_
      refine (e_push).trans ?_
      exact e_zret (R := zrunX zXt 9 ztc (n + 58)) (d := 1678) (L := L5) (h := hbB16) (v := 0) (by decide)
    refine (f_callV (k := 2) (d' := 1678) (S0 := [v, 4294967299]) (S' := []) (S2 := [0]) (fun q => by rw [zargs_s q (Nat.le_of_lt (Nat.lt_trans hv (by decide))), ← eL4, zargs_s q (by decide), ← eL5]; rfl) lL5_0 (by rw [hs0]; decide) g2_0 st2_0 (Nat.le_of_ble_eq_true rfl) m6 (hs0.trans hs0.symm) rfl).trans ?_
    refine (f_if_f (f := fun a => z_ne a 0) (by decide) (by decide +kernel)).trans ?_
    refine (e_push).trans ?_
    exact e_zret (R := zrunX zXt 9 ztc (n + 59)) (d := 1679) (L := L3) (h := hbB16) (v := 0) (by decide)
  have A2 : zrunX zXt 9 ztc (n + 60) 1679 253 L9 [] hbB16 = some ([0], hbB16) := by
    refine (ca_253 (n := n + 59)).trans ?_
    refine (e_iload lL9_1 hv).trans ?_
    have m11 : zrunX zXt 9 ztc (n + 59) 1678 220 L10 [] hbB16 = some ([0], hbB16) := by
      refine (ca_220 (n := n + 58)).trans ?_
      refine (e_iload lL10_0 hv).trans ?_
      refine (e_push).trans ?_
      refine (e_push).trans ?_
      have m15 : zrunX zXt 9 ztc (n + 58) 1677 217 L14 [] hbB16 = some ([0], hbB16) := by
        refine (ca_217 (n := n + 57)).trans ?_
        refine (e_iload lL14_0 hv).trans ?_
        refine (e_iload lL14_1 (by decide)).trans ?_
        refine (f_cmp_t (f := z_lt) hv (by decide) (zlt_t (a := v) (b := 0) (fs_poke_neg_o0 v hv w hw i1))).trans ?_
        refine (e_push).trans ?_
        exact e_zret (R := zrunX zXt 9 ztc (n + 57)) (d := 1677) (L := L14) (h := hbB16) (v := 0) (by decide)
      refine (f_callS (d' := 1677) (S0 := [8191, 0, v]) (S' := []) (S2 := [0]) (fun q => by rw [zargs_s q (by decide), ← eL12, zargs_s q (by decide), ← eL13, zargs_s q (Nat.le_of_lt (Nat.lt_trans hv (by decide))), ← eL14]; rfl) (Nat.le_of_ble_eq_true rfl) m15 (hs0.trans hs0.symm) rfl).trans ?_
      refine (f_if_t (f := fun a => Nat.beq a 0) (by decide) (by decide +kernel)).trans ?_
      refine (e_push).trans ?_
      exact e_zret (R := zrunX zXt 9 ztc (n + 58)) (d := 1678) (L := L10) (h := hbB16) (v := 0) (by decide)
    refine (f_callS (d' := 1678) (S0 := [v]) (S' := []) (S2 := [0]) (fun q => by rw [zargs_s q (Nat.le_of_lt (Nat.lt_trans hv (by decide))), ← eL10]; rfl) (Nat.le_of_ble_eq_true rfl) m11 (hs0.trans hs0.symm) rfl).trans ?_
    refine (f_if_f (f := fun a => z_ne a 0) (by decide) (by decide +kernel)).trans ?_
    refine (e_push).trans ?_
    exact e_zret (R := zrunX zXt 9 ztc (n + 59)) (d := 1679) (L := L9) (h := hbB16) (v := 0) (by decide)
  rw [eL3, eL2, eL1] at A1
  rw [eL9, eL8, eL7] at A2
  exact ⟨_, _, _, (by decide), A1, hs0, MS, A2, hs0, sl0⟩
theorem fs_poke_odd_o0 (v : Nat) (hv : v < 4294967296) (w : Nat) (hw : w < 4294967296) (i1 : v < 8192) (i2 : v % 2 = 1) : (0 + 2147483648) % 4294967296 ≤ (v + 2147483648) % 4294967296 := by omega
theorem fs_poke_odd_o1 (v : Nat) (hv : v < 4294967296) (w : Nat) (hw : w < 4294967296) (i1 : v < 8192) (i2 : v % 2 = 1) : v % 2 ≠ 0 := by omega
theorem fs_poke_odd_o2 (v : Nat) (hv : v < 4294967296) (w : Nat) (hw : w < 4294967296) (i1 : v < 8192) (i2 : v % 2 = 1) : (v + 2147483648) % 4294967296 ≤ (8191 + 2147483648) % 4294967296 := by omega
theorem fs_poke_odd (v : Nat) (hv : v < 4294967296) (w : Nat) (hw : w < 4294967296) (i1 : v < 8192) (i2 : v % 2 = 1) (n : Nat) : zFst n 161 (zput (zput (zput 0 2 (w + 1)) 1 (v + 1)) 0 (4294967297 + 1)) 253 (zput (zput (zput 0 2 (w + 1)) 1 (v + 1)) 0 (4294967358 + 1)) := by
  have hs0 : hbB16.1 = 129 := rfl
  have sl0 : hbB16.2.1 = 650610 := rfl
  obtain ⟨L1, eL1⟩ : ∃ x : Nat, x = zput 0 2 (w + 1) := ⟨_, rfl⟩
  obtain ⟨L2, eL2⟩ : ∃ x : Nat, x = zput L1 1 (v + 1) := ⟨_, rfl⟩
  obtain ⟨L3, eL3⟩ : ∃ x : Nat, x = zput L2 0 (4294967297 + 1) := ⟨_, rfl⟩
  have lL3_0 : zlane L3 0 = 4294967297 + 1 := by rw [eL3]; exact zlane_same (by decide)
  have v0_2_0 : zcv haA0_c0 2 = 4294967299 := by decide +kernel
  have g0_0 : zget 8 hbB16.2.2 0 = haA0_c0 := rfl
  have st0_0 : haA0_c0.1 = 11 := rfl
  have ln0_0 : haA0_c0.2.1 = 18 := rfl
  have lL2_1 : zlane L2 1 = v + 1 := by rw [eL2]; exact zlane_same (Nat.lt_of_le_of_lt (Nat.succ_le_of_lt hv) (by decide))
  have lL3_1 : zlane L3 1 = v + 1 := by rw [eL3]; exact (zlane_ne (by decide) (by decide)).trans lL2_1
  obtain ⟨L4, eL4⟩ : ∃ x : Nat, x = zput 0 1 (v + 1) := ⟨_, rfl⟩
  obtain ⟨L5, eL5⟩ : ∃ x : Nat, x = zput L4 0 (4294967299 + 1) := ⟨_, rfl⟩
  have lL4_1 : zlane L4 1 = v + 1 := by rw [eL4]; exact zlane_same (Nat.lt_of_le_of_lt (Nat.succ_le_of_lt hv) (by decide))
  have lL5_1 : zlane L5 1 = v + 1 := by rw [eL5]; exact (zlane_ne (by decide) (by decide)).trans lL4_1
  have lL5_0 : zlane L5 0 = 4294967299 + 1 := by rw [eL5]; exact zlane_same (by decide)
  have g2_0 : zget 8 hbB16.2.2 2 = haA0_c2 := rfl
  have st2_0 : haA0_c2.1 = 3 := rfl
  obtain ⟨L7, eL7⟩ : ∃ x : Nat, x = zput 0 2 (w + 1) := ⟨_, rfl⟩
  obtain ⟨L8, eL8⟩ : ∃ x : Nat, x = zput L7 1 (v + 1) := ⟨_, rfl⟩
  obtain ⟨L9, eL9⟩ : ∃ x : Nat, x = zput L8 0 (4294967358 + 1) := ⟨_, rfl⟩
  have lL8_1 : zlane L8 1 = v + 1 := by rw [eL8]; exact zlane_same (Nat.lt_of_le_of_lt (Nat.succ_le_of_lt hv) (by decide))
  have lL9_1 : zlane L9 1 = v + 1 := by rw [eL9]; exact (zlane_ne (by decide) (by decide)).trans lL8_1
  obtain ⟨L10, eL10⟩ : ∃ x : Nat, x = zput 0 0 (v + 1) := ⟨_, rfl⟩
  have lL10_0 : zlane L10 0 = v + 1 := by rw [eL10]; exact zlane_same (Nat.lt_of_le_of_lt (Nat.succ_le_of_lt hv) (by decide))
  obtain ⟨L12, eL12⟩ : ∃ x : Nat, x = zput 0 2 (8191 + 1) := ⟨_, rfl⟩
  obtain ⟨L13, eL13⟩ : ∃ x : Nat, x = zput L12 1 (0 + 1) := ⟨_, rfl⟩
  obtain ⟨L14, eL14⟩ : ∃ x : Nat, x = zput L13 0 (v + 1) := ⟨_, rfl⟩
  have lL14_0 : zlane L14 0 = v + 1 := by rw [eL14]; exact zlane_same (Nat.lt_of_le_of_lt (Nat.succ_le_of_lt hv) (by decide))
  have lL13_1 : zlane L13 1 = 0 + 1 := by rw [eL13]; exact zlane_same (by decide)
  have lL14_1 : zlane L14 1 = 0 + 1 := by rw [eL14]; exact (zlane_ne (Nat.lt_of_le_of_lt (Nat.succ_le_of_lt hv) (by decide)) (by decide)).trans lL13_1
  have lL12_2 : zlane L12 2 = 8191 + 1 := by rw [eL12]; exact zlane_same (by decide)
  have lL13_2 : zlane L13 2 = 8191 + 1 := by rw [eL13]; exact (zlane_ne (by decide) (by decide)).trans lL12_2
  have lL14_2 : zlane L14 2 = 8191 + 1 := by rw [eL14]; exact (zlane_ne (Nat.lt_of_le_of_lt (Nat.succ_le_of_lt hv) (by decide)) (by decide)).trans lL13_2
  have g61_0 : zget 8 hbB16.2.2 61 = hbB15_c61 := rfl
  have st61_0 : hbB15_c61.1 = 12 := rfl
  have MS : (zget 8 hbB16.2.2 61).1 = 12 := by rw [g61_0]; exact st61_0
  have A1 : zrunX zXt 9 ztc (n + 60) 1679 161 L3 [] hbB16 = some ([0], hbB16) := by
    refine (ca_161 (n := n + 59)).trans ?_
    refine (e_aload lL3_0 (by decide)).trans ?_
    refine (f_getf (k := 0) (by rw [hs0]; decide) g0_0 st0_0 (by rw [ln0_0]; decide) v0_2_0).trans ?_
    refine (e_iload lL3_1 hv).trans ?_
    have m6 : zrunX zXt 9 ztc (n + 59) 1678 46 L5 [] hbB16 = some ([0], hbB16) := by
      refine (ca_46 (n := n + 58)).trans ?_
      refine (e_iload lL5_1 hv).trans ?_
      refine (f_if_f (f := fun a => z_lt a 0) hv (zlt_f (a := v) (b := 0) (fs_poke_odd_o0 v hv w hw i1 i2))).trans ?_
      refine (e_iload lL5_1 hv).trans ?_
      refine (e_push).trans ?_
      refine (f_bin (f := z_and) (v := (v % 2)) hv (by decide) (z_and_m (k := 1) (by decide))).trans ?_
      refine (f_if_t (f := fun a => z_ne a 0) (show (v % 2) < 4294967296 from (Nat.lt_trans (Nat.mod_lt _ (by decide)) (by decide))) (zne_t (a := (v % 2)) (b := 0) (fs_poke_odd_o1 v hv w hw i1 i2))).trans ?_
      refine (e_push).trans ?_
      exact e_zret (R := zrunX zXt 9 ztc (n + 58)) (d := 1678) (L := L5) (h := hbB16) (v := 0) (by decide)
    refine (f_callV (k := 2) (d' := 1678) (S0 := [v, 4294967299]) (S' := []) (S2 := [0]) (fun q => by rw [zargs_s q (Nat.le_of_lt (Nat.lt_trans hv (by decide))), ← eL4, zargs_s q (by decide), ← eL5]; rfl) lL5_0 (by rw [hs0]; decide) g2_0 st2_0 (Nat.le_of_ble_eq_true rfl) m6 (hs0.trans hs0.symm) rfl).trans ?_
    refine (f_if_f (f := fun a => z_ne a 0) (by decide) (by decide +kernel)).trans ?_
    refine (e_push).trans ?_
    exact e_zret (R := zrunX zXt 9 ztc (n + 59)) (d := 1679) (L := L3) (h := hbB16) (v := 0) (by decide)
  have A2 : zrunX zXt 9 ztc (n + 60) 1679 253 L9 [] hbB16 = some ([0], hbB16) := by
    refine (ca_253 (n := n + 59)).trans ?_
    refine (e_iload lL9_1 hv).trans ?_
    have m11 : zrunX zXt 9 ztc (n + 59) 1678 220 L10 [] hbB16 = some ([0], hbB16) := by
      refine (ca_220 (n := n + 58)).trans ?_
      refine (e_iload lL10_0 hv).trans ?_
      refine (e_push).trans ?_
      refine (e_push).trans ?_
      have m15 : zrunX zXt 9 ztc (n + 58) 1677 217 L14 [] hbB16 = some ([1], hbB16) := by
        refine (ca_217 (n := n + 57)).trans ?_
        refine (e_iload lL14_0 hv).trans ?_
        refine (e_iload lL14_1 (by decide)).trans ?_
        refine (f_cmp_f (f := z_lt) hv (by decide) (zlt_f (a := v) (b := 0) (fs_poke_odd_o0 v hv w hw i1 i2))).trans ?_
        refine (e_iload lL14_0 hv).trans ?_
        refine (e_iload lL14_2 (by decide)).trans ?_
        refine (f_cmp_f (f := z_gt) hv (by decide) (zgt_f (a := v) (b := 8191) (fs_poke_odd_o2 v hv w hw i1 i2))).trans ?_
        refine (e_push).trans ?_
        show q_X12_in_15 _ _ _ _ _ = _
        exact e_zret (R := zrunX zXt 9 ztc (n + 57)) (d := 1677) (L := L14) (h := hbB16) (v := 1) (by decide)
      refine (f_callS (d' := 1677) (S0 := [8191, 0, v]) (S' := []) (S2 := [1]) (fun q => by rw [zargs_s q (by decide), ← eL12, zargs_s q (by decide), ← eL13, zargs_s q (Nat.le_of_lt (Nat.lt_trans hv (by decide))), ← eL14]; rfl) (Nat.le_of_ble_eq_true rfl) m15 (hs0.trans hs0.symm) rfl).trans ?_
      refine (f_if_f (f := fun a => Nat.beq a 0) (by decide) (by decide +kernel)).trans ?_
      refine (e_iload lL10_0 hv).trans ?_
      refine (e_push).trans ?_
      refine (f_bin (f := z_and) (v := (v % 2)) hv (by decide) (z_and_m (k := 1) (by decide))).trans ?_
      refine (f_if_t (f := fun a => z_ne a 0) (show (v % 2) < 4294967296 from (Nat.lt_trans (Nat.mod_lt _ (by decide)) (by decide))) (zne_t (a := (v % 2)) (b := 0) (fs_poke_odd_o1 v hv w hw i1 i2))).trans ?_
      refine (e_push).trans ?_
      exact e_zret (R := zrunX zXt 9 ztc (n + 58)) (d := 1678) (L := L10) (h := hbB16) (v := 0) (by decide)
    refine (f_callS (d' := 1678) (S0 := [v]) (S' := []) (S2 := [0]) (fun q => by rw [zargs_s q (Nat.le_of_lt (Nat.lt_trans hv (by decide))), ← eL10]; rfl) (Nat.le_of_ble_eq_true rfl) m11 (hs0.trans hs0.symm) rfl).trans ?_
    refine (f_if_f (f := fun a => z_ne a 0) (by decide) (by decide +kernel)).trans ?_
    refine (e_push).trans ?_
    exact e_zret (R := zrunX zXt 9 ztc (n + 59)) (d := 1679) (L := L9) (h := hbB16) (v := 0) (by decide)
  rw [eL3, eL2, eL1] at A1
  rw [eL9, eL8, eL7] at A2
  exact ⟨_, _, _, (by decide), A1, hs0, MS, A2, hs0, sl0⟩
