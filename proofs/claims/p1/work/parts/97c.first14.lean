theorem fs_set_8_9 (w : Nat) (hw : w < 4294967296) (b8 : z_and w 8 ≠ 0) (b4 : z_and w 4 = 0) (b2 : z_and w 2 = 0) (b1 : w % 2 ≠ 0) (n : Nat) : zFst n 167 (zput (zput (zput 0 2 (w + 1)) 1 (8 + 1)) 0 (4294967297 + 1)) 269 (zput (zput (zput 0 2 (w + 1)) 1 (8 + 1)) 0 (4294967358 + 1)) := by
  have hs0 : hbB16.1 = 129 := rfl
  have sl0 : hbB16.2.1 = 650610 := rfl
  obtain ⟨L1, eL1⟩ : ∃ x : Nat, x = zput 0 2 (w + 1) := ⟨_, rfl⟩
  obtain ⟨L2, eL2⟩ : ∃ x : Nat, x = zput L1 1 (8 + 1) := ⟨_, rfl⟩
  obtain ⟨L3, eL3⟩ : ∃ x : Nat, x = zput L2 0 (4294967297 + 1) := ⟨_, rfl⟩
  have lL2_1 : zlane L2 1 = 8 + 1 := by rw [eL2]; exact zlane_same (by decide)
  have lL3_1 : zlane L3 1 = 8 + 1 := by rw [eL3]; exact (zlane_ne (by decide) (by decide)).trans lL2_1
  have lL3_0 : zlane L3 0 = 4294967297 + 1 := by rw [eL3]; exact zlane_same (by decide)
  have v0_2_0 : zcv haA0_c0 2 = 4294967299 := by decide +kernel
  have g0_0 : zget 8 hbB16.2.2 0 = haA0_c0 := rfl
  have st0_0 : haA0_c0.1 = 11 := rfl
  have ln0_0 : haA0_c0.2.1 = 18 := rfl
  have lL1_2 : zlane L1 2 = w + 1 := by rw [eL1]; exact zlane_same (Nat.lt_of_le_of_lt (Nat.succ_le_of_lt hw) (by decide))
  have lL2_2 : zlane L2 2 = w + 1 := by rw [eL2]; exact (zlane_ne (by decide) (by decide)).trans lL1_2
  have lL3_2 : zlane L3 2 = w + 1 := by rw [eL3]; exact (zlane_ne (by decide) (by decide)).trans lL2_2
  obtain ⟨L4, eL4⟩ : ∃ x : Nat, x = zput 0 1 (w + 1) := ⟨_, rfl⟩
  obtain ⟨L5, eL5⟩ : ∃ x : Nat, x = zput L4 0 (4294967299 + 1) := ⟨_, rfl⟩
  have lL5_0 : zlane L5 0 = 4294967299 + 1 := by rw [eL5]; exact zlane_same (by decide)
  have lL4_1 : zlane L4 1 = w + 1 := by rw [eL4]; exact zlane_same (Nat.lt_of_le_of_lt (Nat.succ_le_of_lt hw) (by decide))
  have lL5_1 : zlane L5 1 = w + 1 := by rw [eL5]; exact (zlane_ne (by decide) (by decide)).trans lL4_1
  have g2_0 : zget 8 hbB16.2.2 2 = haA0_c2 := rfl
  have st2_0 : haA0_c2.1 = 3 := rfl
  have ln2_0 : haA0_c2.2.1 = 7 := rfl
  obtain ⟨h1, eh1⟩ : ∃ x : zH, x = (hbB16.1, hbB16.2.1, zst 8 hbB16.2.2 2 (fun c => zcst c 2 1)) := ⟨_, rfl⟩
  have hs1 : h1.1 = 129 := by rw [eh1]; exact hs0
  have sl1 : h1.2.1 = 650610 := by rw [eh1]; exact sl0
  obtain ⟨c2_1, ec2_1⟩ : ∃ x : zC, x = zcst haA0_c2 2 1 := ⟨_, rfl⟩
  have g2_1 : zget 8 h1.2.2 2 = c2_1 := by rw [eh1, ec2_1]; exact zg_s (by decide) g2_0
  have st2_1 : c2_1.1 = 3 := by rw [ec2_1]; exact (zcst_1 _ _ _).1.trans st2_0
  have ln2_1 : c2_1.2.1 = 7 := by rw [ec2_1]; exact (zcst_1 _ _ _).2.trans ln2_0
  obtain ⟨h2, eh2⟩ : ∃ x : zH, x = (h1.1, h1.2.1, zst 8 h1.2.2 2 (fun c => zcst c 3 0)) := ⟨_, rfl⟩
  have hs2 : h2.1 = 129 := by rw [eh2]; exact hs1
  have sl2 : h2.2.1 = 650610 := by rw [eh2]; exact sl1
  obtain ⟨c2_2, ec2_2⟩ : ∃ x : zC, x = zcst c2_1 3 0 := ⟨_, rfl⟩
  have g2_2 : zget 8 h2.2.2 2 = c2_2 := by rw [eh2, ec2_2]; exact zg_s (by decide) g2_1
  have st2_2 : c2_2.1 = 3 := by rw [ec2_2]; exact (zcst_1 _ _ _).1.trans st2_1
  have ln2_2 : c2_2.2.1 = 7 := by rw [ec2_2]; exact (zcst_1 _ _ _).2.trans ln2_1
  obtain ⟨h3, eh3⟩ : ∃ x : zH, x = (h2.1, h2.2.1, zst 8 h2.2.2 2 (fun c => zcst c 4 0)) := ⟨_, rfl⟩
  have hs3 : h3.1 = 129 := by rw [eh3]; exact hs2
  have sl3 : h3.2.1 = 650610 := by rw [eh3]; exact sl2
  obtain ⟨c2_3, ec2_3⟩ : ∃ x : zC, x = zcst c2_2 4 0 := ⟨_, rfl⟩
  have g2_3 : zget 8 h3.2.2 2 = c2_3 := by rw [eh3, ec2_3]; exact zg_s (by decide) g2_2
  have st2_3 : c2_3.1 = 3 := by rw [ec2_3]; exact (zcst_1 _ _ _).1.trans st2_2
  have ln2_3 : c2_3.2.1 = 7 := by rw [ec2_3]; exact (zcst_1 _ _ _).2.trans ln2_2
  obtain ⟨h4, eh4⟩ : ∃ x : zH, x = (h3.1, h3.2.1, zst 8 h3.2.2 2 (fun c => zcst c 5 1)) := ⟨_, rfl⟩
  have hs4 : h4.1 = 129 := by rw [eh4]; exact hs3
  have sl4 : h4.2.1 = 650610 := by rw [eh4]; exact sl3
  obtain ⟨L7, eL7⟩ : ∃ x : Nat, x = zput 0 2 (w + 1) := ⟨_, rfl⟩
  obtain ⟨L8, eL8⟩ : ∃ x : Nat, x = zput L7 1 (8 + 1) := ⟨_, rfl⟩
  obtain ⟨L9, eL9⟩ : ∃ x : Nat, x = zput L8 0 (4294967358 + 1) := ⟨_, rfl⟩
  have lL8_1 : zlane L8 1 = 8 + 1 := by rw [eL8]; exact zlane_same (by decide)
  have lL9_1 : zlane L9 1 = 8 + 1 := by rw [eL9]; exact (zlane_ne (by decide) (by decide)).trans lL8_1
  obtain ⟨L10, eL10⟩ : ∃ x : Nat, x = zput 0 2 (8 + 1) := ⟨_, rfl⟩
  obtain ⟨L11, eL11⟩ : ∃ x : Nat, x = zput L10 1 (0 + 1) := ⟨_, rfl⟩
  obtain ⟨L12, eL12⟩ : ∃ x : Nat, x = zput L11 0 (8 + 1) := ⟨_, rfl⟩
  have lL12_0 : zlane L12 0 = 8 + 1 := by rw [eL12]; exact zlane_same (by decide)
  have lL11_1 : zlane L11 1 = 0 + 1 := by rw [eL11]; exact zlane_same (by decide)
  have lL12_1 : zlane L12 1 = 0 + 1 := by rw [eL12]; exact (zlane_ne (by decide) (by decide)).trans lL11_1
  have lL10_2 : zlane L10 2 = 8 + 1 := by rw [eL10]; exact zlane_same (by decide)
  have lL11_2 : zlane L11 2 = 8 + 1 := by rw [eL11]; exact (zlane_ne (by decide) (by decide)).trans lL10_2
  have lL12_2 : zlane L12 2 = 8 + 1 := by rw [eL12]; exact (zlane_ne (by decide) (by decide)).trans lL11_2
  obtain ⟨L14, eL14⟩ : ∃ x : Nat, x = zput L9 3 (0 + 1) := ⟨_, rfl⟩
  have lL14_3 : zlane L14 3 = 0 + 1 := by rw [eL14]; exact zlane_same (by decide)
  have lL9_0 : zlane L9 0 = 4294967358 + 1 := by rw [eL9]; exact zlane_same (by decide)
  have lL14_0 : zlane L14 0 = 4294967358 + 1 := by rw [eL14]; exact (zlane_ne (by decide) (by decide)).trans lL9_0
  have v61_2_0 : zcv hbB15_c61 2 = 4294967365 := by decide +kernel
  have g61_0 : zget 8 hbB16.2.2 61 = hbB15_c61 := rfl
  have g61_1 : zget 8 h1.2.2 61 = hbB15_c61 := by rw [eh1]; exact zg_n (by decide) (by decide) (by decide) g61_0
  have g61_2 : zget 8 h2.2.2 61 = hbB15_c61 := by rw [eh2]; exact zg_n (by decide) (by decide) (by decide) g61_1
  have g61_3 : zget 8 h3.2.2 61 = hbB15_c61 := by rw [eh3]; exact zg_n (by decide) (by decide) (by decide) g61_2
  have g61_4 : zget 8 h4.2.2 61 = hbB15_c61 := by rw [eh4]; exact zg_n (by decide) (by decide) (by decide) g61_3
  have st61_0 : hbB15_c61.1 = 12 := rfl
  have ln61_0 : hbB15_c61.2.1 = 114 := rfl
  have v68_1_0 : zcv haB6_c68 1 = 4294967367 := by decide +kernel
  have g68_0 : zget 8 hbB16.2.2 68 = haB6_c68 := rfl
  have g68_1 : zget 8 h1.2.2 68 = haB6_c68 := by rw [eh1]; exact zg_n (by decide) (by decide) (by decide) g68_0
  have g68_2 : zget 8 h2.2.2 68 = haB6_c68 := by rw [eh2]; exact zg_n (by decide) (by decide) (by decide) g68_1
  have g68_3 : zget 8 h3.2.2 68 = haB6_c68 := by rw [eh3]; exact zg_n (by decide) (by decide) (by decide) g68_2
  have g68_4 : zget 8 h4.2.2 68 = haB6_c68 := by rw [eh4]; exact zg_n (by decide) (by decide) (by decide) g68_3
  have st68_0 : haB6_c68.1 = 102 := rfl
  have ln68_0 : haB6_c68.2.1 = 2 := rfl
  have lL7_2 : zlane L7 2 = w + 1 := by rw [eL7]; exact zlane_same (Nat.lt_of_le_of_lt (Nat.succ_le_of_lt hw) (by decide))
  have lL8_2 : zlane L8 2 = w + 1 := by rw [eL8]; exact (zlane_ne (by decide) (by decide)).trans lL7_2
  have lL9_2 : zlane L9 2 = w + 1 := by rw [eL9]; exact (zlane_ne (by decide) (by decide)).trans lL8_2
  have lL14_2 : zlane L14 2 = w + 1 := by rw [eL14]; exact (zlane_ne (by decide) (by decide)).trans lL9_2
  have g70_0 : zget 8 hbB16.2.2 70 = haB6_c69 := rfl
  have g70_1 : zget 8 h1.2.2 70 = haB6_c69 := by rw [eh1]; exact zg_n (by decide) (by decide) (by decide) g70_0
  have g70_2 : zget 8 h2.2.2 70 = haB6_c69 := by rw [eh2]; exact zg_n (by decide) (by decide) (by decide) g70_1
  have g70_3 : zget 8 h3.2.2 70 = haB6_c69 := by rw [eh3]; exact zg_n (by decide) (by decide) (by decide) g70_2
  have g70_4 : zget 8 h4.2.2 70 = haB6_c69 := by rw [eh4]; exact zg_n (by decide) (by decide) (by decide) g70_3
  have st70_0 : haB6_c69.1 = 100 := rfl
  have ln70_0 : haB6_c69.2.1 = 4 := rfl
  obtain ⟨h5, eh5⟩ : ∃ x : zH, x = (h4.1, h4.2.1, zst 8 h4.2.2 70 (fun c => zcst c 0 ((z_shr w 3) % 2))) := ⟨_, rfl⟩
  have hs5 : h5.1 = 129 := by rw [eh5]; exact hs4
  have sl5 : h5.2.1 = 650610 := by rw [eh5]; exact sl4
  obtain ⟨L15, eL15⟩ : ∃ x : Nat, x = zput L14 3 (1 + 1) := ⟨_, rfl⟩
  have lL15_3 : zlane L15 3 = 1 + 1 := by rw [eL15]; exact zlane_same (by decide)
  have lL15_0 : zlane L15 0 = 4294967358 + 1 := by rw [eL15]; exact (zlane_ne (by decide) (by decide)).trans lL14_0
  have g61_5 : zget 8 h5.2.2 61 = hbB15_c61 := by rw [eh5]; exact zg_n (by decide) (by decide) (by decide) g61_4
  have g68_5 : zget 8 h5.2.2 68 = haB6_c68 := by rw [eh5]; exact zg_n (by decide) (by decide) (by decide) g68_4
  have lL15_2 : zlane L15 2 = w + 1 := by rw [eL15]; exact (zlane_ne (by decide) (by decide)).trans lL14_2
  obtain ⟨c70_5, ec70_5⟩ : ∃ x : zC, x = zcst haB6_c69 0 ((z_shr w 3) % 2) := ⟨_, rfl⟩
  have g70_5 : zget 8 h5.2.2 70 = c70_5 := by rw [eh5, ec70_5]; exact zg_s (by decide) g70_4
  have st70_5 : c70_5.1 = 100 := by rw [ec70_5]; exact (zcst_1 _ _ _).1.trans st70_0
  have ln70_5 : c70_5.2.1 = 4 := by rw [ec70_5]; exact (zcst_1 _ _ _).2.trans ln70_0
  obtain ⟨h6, eh6⟩ : ∃ x : zH, x = (h5.1, h5.2.1, zst 8 h5.2.2 70 (fun c => zcst c 1 ((z_shr w 2) % 2))) := ⟨_, rfl⟩
  have hs6 : h6.1 = 129 := by rw [eh6]; exact hs5
  have sl6 : h6.2.1 = 650610 := by rw [eh6]; exact sl5
  obtain ⟨L16, eL16⟩ : ∃ x : Nat, x = zput L15 3 (2 + 1) := ⟨_, rfl⟩
  have lL16_3 : zlane L16 3 = 2 + 1 := by rw [eL16]; exact zlane_same (by decide)
  have lL16_0 : zlane L16 0 = 4294967358 + 1 := by rw [eL16]; exact (zlane_ne (by decide) (by decide)).trans lL15_0
  have g61_6 : zget 8 h6.2.2 61 = hbB15_c61 := by rw [eh6]; exact zg_n (by decide) (by decide) (by decide) g61_5
  have g68_6 : zget 8 h6.2.2 68 = haB6_c68 := by rw [eh6]; exact zg_n (by decide) (by decide) (by decide) g68_5
  have lL16_2 : zlane L16 2 = w + 1 := by rw [eL16]; exact (zlane_ne (by decide) (by decide)).trans lL15_2
  obtain ⟨c70_6, ec70_6⟩ : ∃ x : zC, x = zcst c70_5 1 ((z_shr w 2) % 2) := ⟨_, rfl⟩
  have g70_6 : zget 8 h6.2.2 70 = c70_6 := by rw [eh6, ec70_6]; exact zg_s (by decide) g70_5
  have st70_6 : c70_6.1 = 100 := by rw [ec70_6]; exact (zcst_1 _ _ _).1.trans st70_5
  have ln70_6 : c70_6.2.1 = 4 := by rw [ec70_6]; exact (zcst_1 _ _ _).2.trans ln70_5
  obtain ⟨h7, eh7⟩ : ∃ x : zH, x = (h6.1, h6.2.1, zst 8 h6.2.2 70 (fun c => zcst c 2 ((z_shr w 1) % 2))) := ⟨_, rfl⟩
  have hs7 : h7.1 = 129 := by rw [eh7]; exact hs6
  have sl7 : h7.2.1 = 650610 := by rw [eh7]; exact sl6
  obtain ⟨L17, eL17⟩ : ∃ x : Nat, x = zput L16 3 (3 + 1) := ⟨_, rfl⟩
  have lL17_3 : zlane L17 3 = 3 + 1 := by rw [eL17]; exact zlane_same (by decide)
  have lL17_0 : zlane L17 0 = 4294967358 + 1 := by rw [eL17]; exact (zlane_ne (by decide) (by decide)).trans lL16_0
  have g61_7 : zget 8 h7.2.2 61 = hbB15_c61 := by rw [eh7]; exact zg_n (by decide) (by decide) (by decide) g61_6
  have g68_7 : zget 8 h7.2.2 68 = haB6_c68 := by rw [eh7]; exact zg_n (by decide) (by decide) (by decide) g68_6
  have lL17_2 : zlane L17 2 = w + 1 := by rw [eL17]; exact (zlane_ne (by decide) (by decide)).trans lL16_2
  obtain ⟨c70_7, ec70_7⟩ : ∃ x : zC, x = zcst c70_6 2 ((z_shr w 1) % 2) := ⟨_, rfl⟩
  have g70_7 : zget 8 h7.2.2 70 = c70_7 := by rw [eh7, ec70_7]; exact zg_s (by decide) g70_6
  have st70_7 : c70_7.1 = 100 := by rw [ec70_7]; exact (zcst_1 _ _ _).1.trans st70_6
  have ln70_7 : c70_7.2.1 = 4 := by rw [ec70_7]; exact (zcst_1 _ _ _).2.trans ln70_6
  obtain ⟨h8, eh8⟩ : ∃ x : zH, x = (h7.1, h7.2.1, zst 8 h7.2.2 70 (fun c => zcst c 3 ((z_shr w 0) % 2))) := ⟨_, rfl⟩
  have hs8 : h8.1 = 129 := by rw [eh8]; exact hs7
  have sl8 : h8.2.1 = 650610 := by rw [eh8]; exact sl7
  obtain ⟨L18, eL18⟩ : ∃ x : Nat, x = zput L17 3 (4 + 1) := ⟨_, rfl⟩
  have lL18_3 : zlane L18 3 = 4 + 1 := by rw [eL18]; exact zlane_same (by decide)
  have MS : (zget 8 h4.2.2 61).1 = 12 := by rw [g61_4]; exact st61_0
  have A1 : zrunX zXt 9 ztc (n + 60) 1679 167 L3 [] hbB16 = some ([1], h4) := by
    refine (ca_167 (n := n + 59)).trans ?_
    refine (e_iload lL3_1 (by decide)).trans ?_
    refine (e_push).trans ?_
    refine (f_cmp_f (f := z_ne) (by decide) (by decide) (by decide +kernel)).trans ?_
    refine (e_aload lL3_0 (by decide)).trans ?_
    refine (f_getf (k := 0) (by rw [hs0]; decide) g0_0 st0_0 (by rw [ln0_0]; decide) v0_2_0).trans ?_
    refine (e_iload lL3_2 hw).trans ?_
    have m6 : zrunX zXt 9 ztc (n + 59) 1678 50 L5 [] hbB16 = some ([], h4) := by
      refine (ca_50 (n := n + 58)).trans ?_
      refine (e_aload lL5_0 (by decide)).trans ?_
      refine (e_iload lL5_1 hw).trans ?_
      refine (e_push).trans ?_
      refine (f_bin (f := z_and) (v := (z_and w 8)) hw (by decide) rfl).trans ?_
      refine (f_if_f (f := fun a => Nat.beq a 0) (show (z_and w 8) < 4294967296 from (z_and_ok _ _ hw (by decide)).1) (zbeq_f (a := (z_and w 8)) (b := 0) b8)).trans ?_
      refine (e_push).trans ?_
      show q_X3_putFlags_13 _ _ _ _ _ = _
      refine (f_putf (ck := ck_bool) (k := 2) (by decide +kernel) (by rw [hs0]; decide) g2_0 st2_0 (by rw [ln2_0]; decide) eh1.symm).trans ?_
      refine (e_aload lL5_0 (by decide)).trans ?_
      refine (e_iload lL5_1 hw).trans ?_
      refine (e_push).trans ?_
      refine (f_bin (f := z_and) (v := (z_and w 4)) hw (by decide) rfl).trans ?_
      refine (f_if_t (f := fun a => Nat.beq a 0) (show (z_and w 4) < 4294967296 from (z_and_ok _ _ hw (by decide)).1) (zbeq_t (a := (z_and w 4)) (b := 0) b4)).trans ?_
      refine (e_push).trans ?_
      refine (f_putf (ck := ck_bool) (k := 2) (by decide +kernel) (by rw [hs1]; decide) g2_1 st2_1 (by rw [ln2_1]; decide) eh2.symm).trans ?_
      refine (e_aload lL5_0 (by decide)).trans ?_
      refine (e_iload lL5_1 hw).trans ?_
      refine (e_push).trans ?_
      refine (f_bin (f := z_and) (v := (z_and w 2)) hw (by decide) rfl).trans ?_
      refine (f_if_t (f := fun a => Nat.beq a 0) (show (z_and w 2) < 4294967296 from (z_and_ok _ _ hw (by decide)).1) (zbeq_t (a := (z_and w 2)) (b := 0) b2)).trans ?_
      refine (e_push).trans ?_
      refine (f_putf (ck := ck_bool) (k := 2) (by decide +kernel) (by rw [hs2]; decide) g2_2 st2_2 (by rw [ln2_2]; decide) eh3.symm).trans ?_
      refine (e_aload lL5_0 (by decide)).trans ?_
      refine (e_iload lL5_1 hw).trans ?_
      refine (e_push).trans ?_
      refine (f_bin (f := z_and) (v := (w % 2)) hw (by decide) (z_and_m (k := 1) (by decide))).trans ?_
      refine (f_if_f (f := fun a => Nat.beq a 0) (show (w % 2) < 4294967296 from (Nat.lt_trans (Nat.mod_lt _ (by decide)) (by decide))) (zbeq_f (a := (w % 2)) (b := 0) b1)).trans ?_
      refine (e_push).trans ?_
      show q_X3_putFlags_58 _ _ _ _ _ = _
      refine (f_putf (ck := ck_bool) (k := 2) (by decide +kernel) (by rw [hs3]; decide) g2_3 st2_3 (by rw [ln2_3]; decide) eh4.symm).trans ?_
      exact e_vret (R := zrunX zXt 9 ztc (n + 58)) (d := 1678) (L := L5) (h := h4)
    refine (f_callV (k := 2) (d' := 1678) (S0 := [w, 4294967299]) (S' := []) (S2 := []) (fun q => by rw [zargs_s q (Nat.le_of_lt (Nat.lt_trans hw (by decide))), ← eL4, zargs_s q (by decide), ← eL5]; rfl) lL5_0 (by rw [hs0]; decide) g2_0 st2_0 (Nat.le_of_ble_eq_true rfl) m6 (hs4.trans hs0.symm) rfl).trans ?_
    refine (e_push).trans ?_
    exact e_zret (R := zrunX zXt 9 ztc (n + 59)) (d := 1679) (L := L3) (h := h4) (v := 1) (by decide)
  have A2 : zrunX zXt 9 ztc (n + 60) 1679 269 L9 [] h4 = some ([1], h8) := by
    refine (ca_269 (n := n + 59)).trans ?_
    refine (e_iload lL9_1 (by decide)).trans ?_
    refine (e_push).trans ?_
    refine (e_push).trans ?_
    have m13 : zrunX zXt 9 ztc (n + 59) 1678 217 L12 [] h4 = some ([1], h4) := by
      refine (ca_217 (n := n + 58)).trans ?_
      refine (e_iload lL12_0 (by decide)).trans ?_
      refine (e_iload lL12_1 (by decide)).trans ?_
      refine (f_cmp_f (f := z_lt) (by decide) (by decide) (by decide +kernel)).trans ?_
      refine (e_iload lL12_0 (by decide)).trans ?_
      refine (e_iload lL12_2 (by decide)).trans ?_
      refine (f_cmp_f (f := z_gt) (by decide) (by decide) (by decide +kernel)).trans ?_
      refine (e_push).trans ?_
      show q_X12_in_15 _ _ _ _ _ = _
      exact e_zret (R := zrunX zXt 9 ztc (n + 58)) (d := 1678) (L := L12) (h := h4) (v := 1) (by decide)
    refine (f_callS (d' := 1678) (S0 := [8, 0, 8]) (S' := []) (S2 := [1]) (fun q => by rw [zargs_s q (by decide), ← eL10, zargs_s q (by decide), ← eL11, zargs_s q (by decide), ← eL12]; rfl) (Nat.le_of_ble_eq_true rfl) m13 (hs4.trans hs4.symm) rfl).trans ?_
    refine (f_if_t (f := fun a => z_ne a 0) (by decide) (by decide +kernel)).trans ?_
    refine (e_iload lL9_1 (by decide)).trans ?_
    refine (e_push).trans ?_
    refine (f_cmp_t (f := z_ge) (by decide) (by decide) (by decide +kernel)).trans ?_
    refine (e_push).trans ?_
    refine (f_istore (by decide) eL14.symm).trans ?_
    refine (e_iload lL14_3 (by decide)).trans ?_
    refine (e_push).trans ?_
    refine (f_cmp_f (f := z_ge) (by decide) (by decide) (by decide +kernel)).trans ?_
    refine (e_aload lL14_0 (by decide)).trans ?_
    refine (f_getf (k := 61) (by rw [hs4]; decide) g61_4 st61_0 (by rw [ln61_0]; decide) v61_2_0).trans ?_
    refine (e_push).trans ?_
    refine (e_aald (k := 68) (by decide) (by rw [hs4]; decide) g68_4 st68_0 (by rw [ln68_0]; decide) v68_1_0 (by decide)).trans ?_
    refine (e_iload lL14_3 (by decide)).trans ?_
    refine (e_iload lL14_2 hw).trans ?_
    refine (e_push).trans ?_
    refine (e_iload lL14_3 (by decide)).trans ?_
    refine (f_bin (f := z_sub) (v := 3) (by decide) (by decide) (by decide +kernel)).trans ?_
    refine (f_bin (f := z_shr) (v := (z_shr w 3)) hw (by decide) rfl).trans ?_
    refine (e_push).trans ?_
    refine (f_bin (f := z_and) (v := ((z_shr w 3) % 2)) (show (z_shr w 3) < 4294967296 from (z_shr_ok _ _ hw (by decide)).1) (by decide) (z_and_m (k := 1) (by decide))).trans ?_
    refine (f_iast (k := 70) (show ((z_shr w 3) % 2) < 4294967296 from (Nat.lt_trans (Nat.mod_lt _ (by decide)) (by decide))) (by decide) (by rw [hs4]; decide) g70_4 st70_0 (by rw [ln70_0]; decide) eh5.symm).trans ?_
    refine (f_iinc lL14_3 (by decide) (by decide) eL15.symm).trans ?_
    refine (e_back (lbl := 270)).trans ?_
    refine (ca_270 (n := n + 58)).trans ?_
    refine (e_iload lL15_3 (by decide)).trans ?_
    refine (e_push).trans ?_
    refine (f_cmp_f (f := z_ge) (by decide) (by decide) (by decide +kernel)).trans ?_
    refine (e_aload lL15_0 (by decide)).trans ?_
    refine (f_getf (k := 61) (by rw [hs5]; decide) g61_5 st61_0 (by rw [ln61_0]; decide) v61_2_0).trans ?_
    refine (e_push).trans ?_
    refine (e_aald (k := 68) (by decide) (by rw [hs5]; decide) g68_5 st68_0 (by rw [ln68_0]; decide) v68_1_0 (by decide)).trans ?_
    refine (e_iload lL15_3 (by decide)).trans ?_
    refine (e_iload lL15_2 hw).trans ?_
    refine (e_push).trans ?_
    refine (e_iload lL15_3 (by decide)).trans ?_
    refine (f_bin (f := z_sub) (v := 2) (by decide) (by decide) (by decide +kernel)).trans ?_
    refine (f_bin (f := z_shr) (v := (z_shr w 2)) hw (by decide) rfl).trans ?_
    refine (e_push).trans ?_
    refine (f_bin (f := z_and) (v := ((z_shr w 2) % 2)) (show (z_shr w 2) < 4294967296 from (z_shr_ok _ _ hw (by decide)).1) (by decide) (z_and_m (k := 1) (by decide))).trans ?_
    refine (f_iast (k := 70) (show ((z_shr w 2) % 2) < 4294967296 from (Nat.lt_trans (Nat.mod_lt _ (by decide)) (by decide))) (by decide) (by rw [hs5]; decide) g70_5 st70_5 (by rw [ln70_5]; decide) eh6.symm).trans ?_
    refine (f_iinc lL15_3 (by decide) (by decide) eL16.symm).trans ?_
    refine (e_back (lbl := 270)).trans ?_
    refine (ca_270 (n := n + 57)).trans ?_
    refine (e_iload lL16_3 (by decide)).trans ?_
    refine (e_push).trans ?_
    refine (f_cmp_f (f := z_ge) (by decide) (by decide) (by decide +kernel)).trans ?_
    refine (e_aload lL16_0 (by decide)).trans ?_
    refine (f_getf (k := 61) (by rw [hs6]; decide) g61_6 st61_0 (by rw [ln61_0]; decide) v61_2_0).trans ?_
    refine (e_push).trans ?_
    refine (e_aald (k := 68) (by decide) (by rw [hs6]; decide) g68_6 st68_0 (by rw [ln68_0]; decide) v68_1_0 (by decide)).trans ?_
    refine (e_iload lL16_3 (by decide)).trans ?_
    refine (e_iload lL16_2 hw).trans ?_
    refine (e_push).trans ?_
    refine (e_iload lL16_3 (by decide)).trans ?_
    refine (f_bin (f := z_sub) (v := 1) (by decide) (by decide) (by decide +kernel)).trans ?_
    refine (f_bin (f := z_shr) (v := (z_shr w 1)) hw (by decide) rfl).trans ?_
    refine (e_push).trans ?_
    refine (f_bin (f := z_and) (v := ((z_shr w 1) % 2)) (show (z_shr w 1) < 4294967296 from (z_shr_ok _ _ hw (by decide)).1) (by decide) (z_and_m (k := 1) (by decide))).trans ?_
    refine (f_iast (k := 70) (show ((z_shr w 1) % 2) < 4294967296 from (Nat.lt_trans (Nat.mod_lt _ (by decide)) (by decide))) (by decide) (by rw [hs6]; decide) g70_6 st70_6 (by rw [ln70_6]; decide) eh7.symm).trans ?_
    refine (f_iinc lL16_3 (by decide) (by decide) eL17.symm).trans ?_
    refine (e_back (lbl := 270)).trans ?_
    refine (ca_270 (n := n + 56)).trans ?_
    refine (e_iload lL17_3 (by decide)).trans ?_
    refine (e_push).trans ?_
    refine (f_cmp_f (f := z_ge) (by decide) (by decide) (by decide +kernel)).trans ?_
    refine (e_aload lL17_0 (by decide)).trans ?_
    refine (f_getf (k := 61) (by rw [hs7]; decide) g61_7 st61_0 (by rw [ln61_0]; decide) v61_2_0).trans ?_
    refine (e_push).trans ?_
    refine (e_aald (k := 68) (by decide) (by rw [hs7]; decide) g68_7 st68_0 (by rw [ln68_0]; decide) v68_1_0 (by decide)).trans ?_
    refine (e_iload lL17_3 (by decide)).trans ?_
    refine (e_iload lL17_2 hw).trans ?_
    refine (e_push).trans ?_
    refine (e_iload lL17_3 (by decide)).trans ?_
    refine (f_bin (f := z_sub) (v := 0) (by decide) (by decide) (by decide +kernel)).trans ?_
    refine (f_bin (f := z_shr) (v := (z_shr w 0)) hw (by decide) rfl).trans ?_
    refine (e_push).trans ?_
    refine (f_bin (f := z_and) (v := ((z_shr w 0) % 2)) (show (z_shr w 0) < 4294967296 from (z_shr_ok _ _ hw (by decide)).1) (by decide) (z_and_m (k := 1) (by decide))).trans ?_
    refine (f_iast (k := 70) (show ((z_shr w 0) % 2) < 4294967296 from (Nat.lt_trans (Nat.mod_lt _ (by decide)) (by decide))) (by decide) (by rw [hs7]; decide) g70_7 st70_7 (by rw [ln70_7]; decide) eh8.symm).trans ?_
    refine (f_iinc lL17_3 (by decide) (by decide) eL18.symm).trans ?_
    refine (e_back (lbl := 270)).trans ?_
    refine (ca_270 (n := n + 55)).trans ?_
    refine (e_iload lL18_3 (by decide)).trans ?_
    refine (e_push).trans ?_
    refine (f_cmp_t (f := z_ge) (by decide) (by decide) (by decide +kernel)).trans ?_
    refine (e_push).trans ?_
    exact e_zret (R := zrunX zXt 9 ztc (n + 55)) (d := 1679) (L := L18) (h := h8) (v := 1) (by decide)
  rw [eL3, eL2, eL1] at A1
  rw [eL9, eL8, eL7] at A2
  exact ⟨_, _, _, (by decide), A1, hs4, MS, A2, hs8, sl8⟩
theorem fs_set_8_10 (w : Nat) (hw : w < 4294967296) (b8 : z_and w 8 ≠ 0) (b4 : z_and w 4 = 0) (b2 : z_and w 2 ≠ 0) (b1 : w % 2 = 0) (n : Nat) : zFst n 167 (zput (zput (zput 0 2 (w + 1)) 1 (8 + 1)) 0 (4294967297 + 1)) 269 (zput (zput (zput 0 2 (w + 1)) 1 (8 + 1)) 0 (4294967358 + 1)) := by
  have hs0 : hbB16.1 = 129 := rfl
  have sl0 : hbB16.2.1 = 650610 := rfl
  obtain ⟨L1, eL1⟩ : ∃ x : Nat, x = zput 0 2 (w + 1) := ⟨_, rfl⟩
  obtain ⟨L2, eL2⟩ : ∃ x : Nat, x = zput L1 1 (8 + 1) := ⟨_, rfl⟩
  obtain ⟨L3, eL3⟩ : ∃ x : Nat, x = zput L2 0 (4294967297 + 1) := ⟨_, rfl⟩
  have lL2_1 : zlane L2 1 = 8 + 1 := by rw [eL2]; exact zlane_same (by decide)
  have lL3_1 : zlane L3 1 = 8 + 1 := by rw [eL3]; exact (zlane_ne (by decide) (by decide)).trans lL2_1
  have lL3_0 : zlane L3 0 = 4294967297 + 1 := by rw [eL3]; exact zlane_same (by decide)
  have v0_2_0 : zcv haA0_c0 2 = 4294967299 := by decide +kernel
  have g0_0 : zget 8 hbB16.2.2 0 = haA0_c0 := rfl
  have st0_0 : haA0_c0.1 = 11 := rfl
  have ln0_0 : haA0_c0.2.1 = 18 := rfl
  have lL1_2 : zlane L1 2 = w + 1 := by rw [eL1]; exact zlane_same (Nat.lt_of_le_of_lt (Nat.succ_le_of_lt hw) (by decide))
  have lL2_2 : zlane L2 2 = w + 1 := by rw [eL2]; exact (zlane_ne (by decide) (by decide)).trans lL1_2
  have lL3_2 : zlane L3 2 = w + 1 := by rw [eL3]; exact (zlane_ne (by decide) (by decide)).trans lL2_2
  obtain ⟨L4, eL4⟩ : ∃ x : Nat, x = zput 0 1 (w + 1) := ⟨_, rfl⟩
  obtain ⟨L5, eL5⟩ : ∃ x : Nat, x = zput L4 0 (4294967299 + 1) := ⟨_, rfl⟩
  have lL5_0 : zlane L5 0 = 4294967299 + 1 := by rw [eL5]; exact zlane_same (by decide)
  have lL4_1 : zlane L4 1 = w + 1 := by rw [eL4]; exact zlane_same (Nat.lt_of_le_of_lt (Nat.succ_le_of_lt hw) (by decide))
  have lL5_1 : zlane L5 1 = w + 1 := by rw [eL5]; exact (zlane_ne (by decide) (by decide)).trans lL4_1
  have g2_0 : zget 8 hbB16.2.2 2 = haA0_c2 := rfl
  have st2_0 : haA0_c2.1 = 3 := rfl
  have ln2_0 : haA0_c2.2.1 = 7 := rfl
  obtain ⟨h1, eh1⟩ : ∃ x : zH, x = (hbB16.1, hbB16.2.1, zst 8 hbB16.2.2 2 (fun c => zcst c 2 1)) := ⟨_, rfl⟩
  have hs1 : h1.1 = 129 := by rw [eh1]; exact hs0
  have sl1 : h1.2.1 = 650610 := by rw [eh1]; exact sl0
  obtain ⟨c2_1, ec2_1⟩ : ∃ x : zC, x = zcst haA0_c2 2 1 := ⟨_, rfl⟩
  have g2_1 : zget 8 h1.2.2 2 = c2_1 := by rw [eh1, ec2_1]; exact zg_s (by decide) g2_0
  have st2_1 : c2_1.1 = 3 := by rw [ec2_1]; exact (zcst_1 _ _ _).1.trans st2_0
  have ln2_1 : c2_1.2.1 = 7 := by rw [ec2_1]; exact (zcst_1 _ _ _).2.trans ln2_0
  obtain ⟨h2, eh2⟩ : ∃ x : zH, x = (h1.1, h1.2.1, zst 8 h1.2.2 2 (fun c => zcst c 3 0)) := ⟨_, rfl⟩
  have hs2 : h2.1 = 129 := by rw [eh2]; exact hs1
  have sl2 : h2.2.1 = 650610 := by rw [eh2]; exact sl1
  obtain ⟨c2_2, ec2_2⟩ : ∃ x : zC, x = zcst c2_1 3 0 := ⟨_, rfl⟩
  have g2_2 : zget 8 h2.2.2 2 = c2_2 := by rw [eh2, ec2_2]; exact zg_s (by decide) g2_1
  have st2_2 : c2_2.1 = 3 := by rw [ec2_2]; exact (zcst_1 _ _ _).1.trans st2_1
  have ln2_2 : c2_2.2.1 = 7 := by rw [ec2_2]; exact (zcst_1 _ _ _).2.trans ln2_1
  obtain ⟨h3, eh3⟩ : ∃ x : zH, x = (h2.1, h2.2.1, zst 8 h2.2.2 2 (fun c => zcst c 4 1)) := ⟨_, rfl⟩
  have hs3 : h3.1 = 129 := by rw [eh3]; exact hs2
  have sl3 : h3.2.1 = 650610 := by rw [eh3]; exact sl2
  obtain ⟨c2_3, ec2_3⟩ : ∃ x : zC, x = zcst c2_2 4 1 := ⟨_, rfl⟩
  have g2_3 : zget 8 h3.2.2 2 = c2_3 := by rw [eh3, ec2_3]; exact zg_s (by decide) g2_2
  have st2_3 : c2_3.1 = 3 := by rw [ec2_3]; exact (zcst_1 _ _ _).1.trans st2_2
  have ln2_3 : c2_3.2.1 = 7 := by rw [ec2_3]; exact (zcst_1 _ _ _).2.trans ln2_2
  obtain ⟨h4, eh4⟩ : ∃ x : zH, x = (h3.1, h3.2.1, zst 8 h3.2.2 2 (fun c => zcst c 5 0)) := ⟨_, rfl⟩
  have hs4 : h4.1 = 129 := by rw [eh4]; exact hs3
  have sl4 : h4.2.1 = 650610 := by rw [eh4]; exact sl3
  obtain ⟨L7, eL7⟩ : ∃ x : Nat, x = zput 0 2 (w + 1) := ⟨_, rfl⟩
  obtain ⟨L8, eL8⟩ : ∃ x : Nat, x = zput L7 1 (8 + 1) := ⟨_, rfl⟩
  obtain ⟨L9, eL9⟩ : ∃ x : Nat, x = zput L8 0 (4294967358 + 1) := ⟨_, rfl⟩
  have lL8_1 : zlane L8 1 = 8 + 1 := by rw [eL8]; exact zlane_same (by decide)
  have lL9_1 : zlane L9 1 = 8 + 1 := by rw [eL9]; exact (zlane_ne (by decide) (by decide)).trans lL8_1
  obtain ⟨L10, eL10⟩ : ∃ x : Nat, x = zput 0 2 (8 + 1) := ⟨_, rfl⟩
  obtain ⟨L11, eL11⟩ : ∃ x : Nat, x = zput L10 1 (0 + 1) := ⟨_, rfl⟩
  obtain ⟨L12, eL12⟩ : ∃ x : Nat, x = zput L11 0 (8 + 1) := ⟨_, rfl⟩
  have lL12_0 : zlane L12 0 = 8 + 1 := by rw [eL12]; exact zlane_same (by decide)
  have lL11_1 : zlane L11 1 = 0 + 1 := by rw [eL11]; exact zlane_same (by decide)
  have lL12_1 : zlane L12 1 = 0 + 1 := by rw [eL12]; exact (zlane_ne (by decide) (by decide)).trans lL11_1
  have lL10_2 : zlane L10 2 = 8 + 1 := by rw [eL10]; exact zlane_same (by decide)
  have lL11_2 : zlane L11 2 = 8 + 1 := by rw [eL11]; exact (zlane_ne (by decide) (by decide)).trans lL10_2
  have lL12_2 : zlane L12 2 = 8 + 1 := by rw [eL12]; exact (zlane_ne (by decide) (by decide)).trans lL11_2
  obtain ⟨L14, eL14⟩ : ∃ x : Nat, x = zput L9 3 (0 + 1) := ⟨_, rfl⟩
  have lL14_3 : zlane L14 3 = 0 + 1 := by rw [eL14]; exact zlane_same (by decide)
  have lL9_0 : zlane L9 0 = 4294967358 + 1 := by rw [eL9]; exact zlane_same (by decide)
  have lL14_0 : zlane L14 0 = 4294967358 + 1 := by rw [eL14]; exact (zlane_ne (by decide) (by decide)).trans lL9_0
  have v61_2_0 : zcv hbB15_c61 2 = 4294967365 := by decide +kernel
  have g61_0 : zget 8 hbB16.2.2 61 = hbB15_c61 := rfl
  have g61_1 : zget 8 h1.2.2 61 = hbB15_c61 := by rw [eh1]; exact zg_n (by decide) (by decide) (by decide) g61_0
  have g61_2 : zget 8 h2.2.2 61 = hbB15_c61 := by rw [eh2]; exact zg_n (by decide) (by decide) (by decide) g61_1
  have g61_3 : zget 8 h3.2.2 61 = hbB15_c61 := by rw [eh3]; exact zg_n (by decide) (by decide) (by decide) g61_2
  have g61_4 : zget 8 h4.2.2 61 = hbB15_c61 := by rw [eh4]; exact zg_n (by decide) (by decide) (by decide) g61_3
  have st61_0 : hbB15_c61.1 = 12 := rfl
  have ln61_0 : hbB15_c61.2.1 = 114 := rfl
  have v68_1_0 : zcv haB6_c68 1 = 4294967367 := by decide +kernel
  have g68_0 : zget 8 hbB16.2.2 68 = haB6_c68 := rfl
  have g68_1 : zget 8 h1.2.2 68 = haB6_c68 := by rw [eh1]; exact zg_n (by decide) (by decide) (by decide) g68_0
  have g68_2 : zget 8 h2.2.2 68 = haB6_c68 := by rw [eh2]; exact zg_n (by decide) (by decide) (by decide) g68_1
  have g68_3 : zget 8 h3.2.2 68 = haB6_c68 := by rw [eh3]; exact zg_n (by decide) (by decide) (by decide) g68_2
  have g68_4 : zget 8 h4.2.2 68 = haB6_c68 := by rw [eh4]; exact zg_n (by decide) (by decide) (by decide) g68_3
  have st68_0 : haB6_c68.1 = 102 := rfl
  have ln68_0 : haB6_c68.2.1 = 2 := rfl
  have lL7_2 : zlane L7 2 = w + 1 := by rw [eL7]; exact zlane_same (Nat.lt_of_le_of_lt (Nat.succ_le_of_lt hw) (by decide))
  have lL8_2 : zlane L8 2 = w + 1 := by rw [eL8]; exact (zlane_ne (by decide) (by decide)).trans lL7_2
  have lL9_2 : zlane L9 2 = w + 1 := by rw [eL9]; exact (zlane_ne (by decide) (by decide)).trans lL8_2
  have lL14_2 : zlane L14 2 = w + 1 := by rw [eL14]; exact (zlane_ne (by decide) (by decide)).trans lL9_2
  have g70_0 : zget 8 hbB16.2.2 70 = haB6_c69 := rfl
  have g70_1 : zget 8 h1.2.2 70 = haB6_c69 := by rw [eh1]; exact zg_n (by decide) (by decide) (by decide) g70_0
  have g70_2 : zget 8 h2.2.2 70 = haB6_c69 := by rw [eh2]; exact zg_n (by decide) (by decide) (by decide) g70_1
  have g70_3 : zget 8 h3.2.2 70 = haB6_c69 := by rw [eh3]; exact zg_n (by decide) (by decide) (by decide) g70_2
  have g70_4 : zget 8 h4.2.2 70 = haB6_c69 := by rw [eh4]; exact zg_n (by decide) (by decide) (by decide) g70_3
  have st70_0 : haB6_c69.1 = 100 := rfl
  have ln70_0 : haB6_c69.2.1 = 4 := rfl
  obtain ⟨h5, eh5⟩ : ∃ x : zH, x = (h4.1, h4.2.1, zst 8 h4.2.2 70 (fun c => zcst c 0 ((z_shr w 3) % 2))) := ⟨_, rfl⟩
  have hs5 : h5.1 = 129 := by rw [eh5]; exact hs4
  have sl5 : h5.2.1 = 650610 := by rw [eh5]; exact sl4
  obtain ⟨L15, eL15⟩ : ∃ x : Nat, x = zput L14 3 (1 + 1) := ⟨_, rfl⟩
  have lL15_3 : zlane L15 3 = 1 + 1 := by rw [eL15]; exact zlane_same (by decide)
  have lL15_0 : zlane L15 0 = 4294967358 + 1 := by rw [eL15]; exact (zlane_ne (by decide) (by decide)).trans lL14_0
  have g61_5 : zget 8 h5.2.2 61 = hbB15_c61 := by rw [eh5]; exact zg_n (by decide) (by decide) (by decide) g61_4
  have g68_5 : zget 8 h5.2.2 68 = haB6_c68 := by rw [eh5]; exact zg_n (by decide) (by decide) (by decide) g68_4
  have lL15_2 : zlane L15 2 = w + 1 := by rw [eL15]; exact (zlane_ne (by decide) (by decide)).trans lL14_2
  obtain ⟨c70_5, ec70_5⟩ : ∃ x : zC, x = zcst haB6_c69 0 ((z_shr w 3) % 2) := ⟨_, rfl⟩
  have g70_5 : zget 8 h5.2.2 70 = c70_5 := by rw [eh5, ec70_5]; exact zg_s (by decide) g70_4
  have st70_5 : c70_5.1 = 100 := by rw [ec70_5]; exact (zcst_1 _ _ _).1.trans st70_0
  have ln70_5 : c70_5.2.1 = 4 := by rw [ec70_5]; exact (zcst_1 _ _ _).2.trans ln70_0
  obtain ⟨h6, eh6⟩ : ∃ x : zH, x = (h5.1, h5.2.1, zst 8 h5.2.2 70 (fun c => zcst c 1 ((z_shr w 2) % 2))) := ⟨_, rfl⟩
  have hs6 : h6.1 = 129 := by rw [eh6]; exact hs5
  have sl6 : h6.2.1 = 650610 := by rw [eh6]; exact sl5
  obtain ⟨L16, eL16⟩ : ∃ x : Nat, x = zput L15 3 (2 + 1) := ⟨_, rfl⟩
  have lL16_3 : zlane L16 3 = 2 + 1 := by rw [eL16]; exact zlane_same (by decide)
  have lL16_0 : zlane L16 0 = 4294967358 + 1 := by rw [eL16]; exact (zlane_ne (by decide) (by decide)).trans lL15_0
  have g61_6 : zget 8 h6.2.2 61 = hbB15_c61 := by rw [eh6]; exact zg_n (by decide) (by decide) (by decide) g61_5
  have g68_6 : zget 8 h6.2.2 68 = haB6_c68 := by rw [eh6]; exact zg_n (by decide) (by decide) (by decide) g68_5
  have lL16_2 : zlane L16 2 = w + 1 := by rw [eL16]; exact (zlane_ne (by decide) (by decide)).trans lL15_2
  obtain ⟨c70_6, ec70_6⟩ : ∃ x : zC, x = zcst c70_5 1 ((z_shr w 2) % 2) := ⟨_, rfl⟩
  have g70_6 : zget 8 h6.2.2 70 = c70_6 := by rw [eh6, ec70_6]; exact zg_s (by decide) g70_5
  have st70_6 : c70_6.1 = 100 := by rw [ec70_6]; exact (zcst_1 _ _ _).1.trans st70_5
  have ln70_6 : c70_6.2.1 = 4 := by rw [ec70_6]; exact (zcst_1 _ _ _).2.trans ln70_5
  obtain ⟨h7, eh7⟩ : ∃ x : zH, x = (h6.1, h6.2.1, zst 8 h6.2.2 70 (fun c => zcst c 2 ((z_shr w 1) % 2))) := ⟨_, rfl⟩
  have hs7 : h7.1 = 129 := by rw [eh7]; exact hs6
  have sl7 : h7.2.1 = 650610 := by rw [eh7]; exact sl6
  obtain ⟨L17, eL17⟩ : ∃ x : Nat, x = zput L16 3 (3 + 1) := ⟨_, rfl⟩
  have lL17_3 : zlane L17 3 = 3 + 1 := by rw [eL17]; exact zlane_same (by decide)
  have lL17_0 : zlane L17 0 = 4294967358 + 1 := by rw [eL17]; exact (zlane_ne (by decide) (by decide)).trans lL16_0
  have g61_7 : zget 8 h7.2.2 61 = hbB15_c61 := by rw [eh7]; exact zg_n (by decide) (by decide) (by decide) g61_6
  have g68_7 : zget 8 h7.2.2 68 = haB6_c68 := by rw [eh7]; exact zg_n (by decide) (by decide) (by decide) g68_6
  have lL17_2 : zlane L17 2 = w + 1 := by rw [eL17]; exact (zlane_ne (by decide) (by decide)).trans lL16_2
  obtain ⟨c70_7, ec70_7⟩ : ∃ x : zC, x = zcst c70_6 2 ((z_shr w 1) % 2) := ⟨_, rfl⟩
  have g70_7 : zget 8 h7.2.2 70 = c70_7 := by rw [eh7, ec70_7]; exact zg_s (by decide) g70_6
  have st70_7 : c70_7.1 = 100 := by rw [ec70_7]; exact (zcst_1 _ _ _).1.trans st70_6
  have ln70_7 : c70_7.2.1 = 4 := by rw [ec70_7]; exact (zcst_1 _ _ _).2.trans ln70_6
  obtain ⟨h8, eh8⟩ : ∃ x : zH, x = (h7.1, h7.2.1, zst 8 h7.2.2 70 (fun c => zcst c 3 ((z_shr w 0) % 2))) := ⟨_, rfl⟩
  have hs8 : h8.1 = 129 := by rw [eh8]; exact hs7
  have sl8 : h8.2.1 = 650610 := by rw [eh8]; exact sl7
  obtain ⟨L18, eL18⟩ : ∃ x : Nat, x = zput L17 3 (4 + 1) := ⟨_, rfl⟩
  have lL18_3 : zlane L18 3 = 4 + 1 := by rw [eL18]; exact zlane_same (by decide)
  have MS : (zget 8 h4.2.2 61).1 = 12 := by rw [g61_4]; exact st61_0
  have A1 : zrunX zXt 9 ztc (n + 60) 1679 167 L3 [] hbB16 = some ([1], h4) := by
    refine (ca_167 (n := n + 59)).trans ?_
    refine (e_iload lL3_1 (by decide)).trans ?_
    refine (e_push).trans ?_
    refine (f_cmp_f (f := z_ne) (by decide) (by decide) (by decide +kernel)).trans ?_
    refine (e_aload lL3_0 (by decide)).trans ?_
    refine (f_getf (k := 0) (by rw [hs0]; decide) g0_0 st0_0 (by rw [ln0_0]; decide) v0_2_0).trans ?_
    refine (e_iload lL3_2 hw).trans ?_
    have m6 : zrunX zXt 9 ztc (n + 59) 1678 50 L5 [] hbB16 = some ([], h4) := by
      refine (ca_50 (n := n + 58)).trans ?_
      refine (e_aload lL5_0 (by decide)).trans ?_
      refine (e_iload lL5_1 hw).trans ?_
      refine (e_push).trans ?_
      refine (f_bin (f := z_and) (v := (z_and w 8)) hw (by decide) rfl).trans ?_
      refine (f_if_f (f := fun a => Nat.beq a 0) (show (z_and w 8) < 4294967296 from (z_and_ok _ _ hw (by decide)).1) (zbeq_f (a := (z_and w 8)) (b := 0) b8)).trans ?_
      refine (e_push).trans ?_
      show q_X3_putFlags_13 _ _ _ _ _ = _
      refine (f_putf (ck := ck_bool) (k := 2) (by decide +kernel) (by rw [hs0]; decide) g2_0 st2_0 (by rw [ln2_0]; decide) eh1.symm).trans ?_
      refine (e_aload lL5_0 (by decide)).trans ?_
      refine (e_iload lL5_1 hw).trans ?_
      refine (e_push).trans ?_
      refine (f_bin (f := z_and) (v := (z_and w 4)) hw (by decide) rfl).trans ?_
      refine (f_if_t (f := fun a => Nat.beq a 0) (show (z_and w 4) < 4294967296 from (z_and_ok _ _ hw (by decide)).1) (zbeq_t (a := (z_and w 4)) (b := 0) b4)).trans ?_
      refine (e_push).trans ?_
      refine (f_putf (ck := ck_bool) (k := 2) (by decide +kernel) (by rw [hs1]; decide) g2_1 st2_1 (by rw [ln2_1]; decide) eh2.symm).trans ?_
      refine (e_aload lL5_0 (by decide)).trans ?_
      refine (e_iload lL5_1 hw).trans ?_
      refine (e_push).trans ?_
      refine (f_bin (f := z_and) (v := (z_and w 2)) hw (by decide) rfl).trans ?_
      refine (f_if_f (f := fun a => Nat.beq a 0) (show (z_and w 2) < 4294967296 from (z_and_ok _ _ hw (by decide)).1) (zbeq_f (a := (z_and w 2)) (b := 0) b2)).trans ?_
      refine (e_push).trans ?_
      show q_X3_putFlags_43 _ _ _ _ _ = _
      refine (f_putf (ck := ck_bool) (k := 2) (by decide +kernel) (by rw [hs2]; decide) g2_2 st2_2 (by rw [ln2_2]; decide) eh3.symm).trans ?_
      refine (e_aload lL5_0 (by decide)).trans ?_
      refine (e_iload lL5_1 hw).trans ?_
      refine (e_push).trans ?_
      refine (f_bin (f := z_and) (v := (w % 2)) hw (by decide) (z_and_m (k := 1) (by decide))).trans ?_
      refine (f_if_t (f := fun a => Nat.beq a 0) (show (w % 2) < 4294967296 from (Nat.lt_trans (Nat.mod_lt _ (by decide)) (by decide))) (zbeq_t (a := (w % 2)) (b := 0) b1)).trans ?_
      refine (e_push).trans ?_
      refine (f_putf (ck := ck_bool) (k := 2) (by decide +kernel) (by rw [hs3]; decide) g2_3 st2_3 (by rw [ln2_3]; decide) eh4.symm).trans ?_
      exact e_vret (R := zrunX zXt 9 ztc (n + 58)) (d := 1678) (L := L5) (h := h4)
    refine (f_callV (k := 2) (d' := 1678) (S0 := [w, 4294967299]) (S' := []) (S2 := []) (fun q => by rw [zargs_s q (Nat.le_of_lt (Nat.lt_trans hw (by decide))), ← eL4, zargs_s q (by decide), ← eL5]; rfl) lL5_0 (by rw [hs0]; decide) g2_0 st2_0 (Nat.le_of_ble_eq_true rfl) m6 (hs4.trans hs0.symm) rfl).trans ?_
    refine (e_push).trans ?_
    exact e_zret (R := zrunX zXt 9 ztc (n + 59)) (d := 1679) (L := L3) (h := h4) (v := 1) (by decide)
  have A2 : zrunX zXt 9 ztc (n + 60) 1679 269 L9 [] h4 = some ([1], h8) := by
    refine (ca_269 (n := n + 59)).trans ?_
    refine (e_iload lL9_1 (by decide)).trans ?_
    refine (e_push).trans ?_
    refine (e_push).trans ?_
    have m13 : zrunX zXt 9 ztc (n + 59) 1678 217 L12 [] h4 = some ([1], h4) := by
      refine (ca_217 (n := n + 58)).trans ?_
      refine (e_iload lL12_0 (by decide)).trans ?_
      refine (e_iload lL12_1 (by decide)).trans ?_
      refine (f_cmp_f (f := z_lt) (by decide) (by decide) (by decide +kernel)).trans ?_
      refine (e_iload lL12_0 (by decide)).trans ?_
      refine (e_iload lL12_2 (by decide)).trans ?_
      refine (f_cmp_f (f := z_gt) (by decide) (by decide) (by decide +kernel)).trans ?_
      refine (e_push).trans ?_
      show q_X12_in_15 _ _ _ _ _ = _
      exact e_zret (R := zrunX zXt 9 ztc (n + 58)) (d := 1678) (L := L12) (h := h4) (v := 1) (by decide)
    refine (f_callS (d' := 1678) (S0 := [8, 0, 8]) (S' := []) (S2 := [1]) (fun q => by rw [zargs_s q (by decide), ← eL10, zargs_s q (by decide), ← eL11, zargs_s q (by decide), ← eL12]; rfl) (Nat.le_of_ble_eq_true rfl) m13 (hs4.trans hs4.symm) rfl).trans ?_
    refine (f_if_t (f := fun a => z_ne a 0) (by decide) (by decide +kernel)).trans ?_
    refine (e_iload lL9_1 (by decide)).trans ?_
    refine (e_push).trans ?_
    refine (f_cmp_t (f := z_ge) (by decide) (by decide) (by decide +kernel)).trans ?_
    refine (e_push).trans ?_
    refine (f_istore (by decide) eL14.symm).trans ?_
    refine (e_iload lL14_3 (by decide)).trans ?_
    refine (e_push).trans ?_
    refine (f_cmp_f (f := z_ge) (by decide) (by decide) (by decide +kernel)).trans ?_
    refine (e_aload lL14_0 (by decide)).trans ?_
    refine (f_getf (k := 61) (by rw [hs4]; decide) g61_4 st61_0 (by rw [ln61_0]; decide) v61_2_0).trans ?_
    refine (e_push).trans ?_
    refine (e_aald (k := 68) (by decide) (by rw [hs4]; decide) g68_4 st68_0 (by rw [ln68_0]; decide) v68_1_0 (by decide)).trans ?_
    refine (e_iload lL14_3 (by decide)).trans ?_
    refine (e_iload lL14_2 hw).trans ?_
    refine (e_push).trans ?_
    refine (e_iload lL14_3 (by decide)).trans ?_
    refine (f_bin (f := z_sub) (v := 3) (by decide) (by decide) (by decide +kernel)).trans ?_
    refine (f_bin (f := z_shr) (v := (z_shr w 3)) hw (by decide) rfl).trans ?_
    refine (e_push).trans ?_
    refine (f_bin (f := z_and) (v := ((z_shr w 3) % 2)) (show (z_shr w 3) < 4294967296 from (z_shr_ok _ _ hw (by decide)).1) (by decide) (z_and_m (k := 1) (by decide))).trans ?_
    refine (f_iast (k := 70) (show ((z_shr w 3) % 2) < 4294967296 from (Nat.lt_trans (Nat.mod_lt _ (by decide)) (by decide))) (by decide) (by rw [hs4]; decide) g70_4 st70_0 (by rw [ln70_0]; decide) eh5.symm).trans ?_
    refine (f_iinc lL14_3 (by decide) (by decide) eL15.symm).trans ?_
    refine (e_back (lbl := 270)).trans ?_
    refine (ca_270 (n := n + 58)).trans ?_
    refine (e_iload lL15_3 (by decide)).trans ?_
    refine (e_push).trans ?_
    refine (f_cmp_f (f := z_ge) (by decide) (by decide) (by decide +kernel)).trans ?_
    refine (e_aload lL15_0 (by decide)).trans ?_
    refine (f_getf (k := 61) (by rw [hs5]; decide) g61_5 st61_0 (by rw [ln61_0]; decide) v61_2_0).trans ?_
    refine (e_push).trans ?_
    refine (e_aald (k := 68) (by decide) (by rw [hs5]; decide) g68_5 st68_0 (by rw [ln68_0]; decide) v68_1_0 (by decide)).trans ?_
    refine (e_iload lL15_3 (by decide)).trans ?_
    refine (e_iload lL15_2 hw).trans ?_
    refine (e_push).trans ?_
    refine (e_iload lL15_3 (by decide)).trans ?_
    refine (f_bin (f := z_sub) (v := 2) (by decide) (by decide) (by decide +kernel)).trans ?_
    refine (f_bin (f := z_shr) (v := (z_shr w 2)) hw (by decide) rfl).trans ?_
    refine (e_push).trans ?_
    refine (f_bin (f := z_and) (v := ((z_shr w 2) % 2)) (show (z_shr w 2) < 4294967296 from (z_shr_ok _ _ hw (by decide)).1) (by decide) (z_and_m (k := 1) (by decide))).trans ?_
    refine (f_iast (k := 70) (show ((z_shr w 2) % 2) < 4294967296 from (Nat.lt_trans (Nat.mod_lt _ (by decide)) (by decide))) (by decide) (by rw [hs5]; decide) g70_5 st70_5 (by rw [ln70_5]; decide) eh6.symm).trans ?_
    refine (f_iinc lL15_3 (by decide) (by decide) eL16.symm).trans ?_
    refine (e_back (lbl := 270)).trans ?_
    refine (ca_270 (n := n + 57)).trans ?_
    refine (e_iload lL16_3 (by decide)).trans ?_
    refine (e_push).trans ?_
    refine (f_cmp_f (f := z_ge) (by decide) (by decide) (by decide +kernel)).trans ?_
    refine (e_aload lL16_0 (by decide)).trans ?_
    refine (f_getf (k := 61) (by rw [hs6]; decide) g61_6 st61_0 (by rw [ln61_0]; decide) v61_2_0).trans ?_
    refine (e_push).trans ?_
    refine (e_aald (k := 68) (by decide) (by rw [hs6]; decide) g68_6 st68_0 (by rw [ln68_0]; decide) v68_1_0 (by decide)).trans ?_
    refine (e_iload lL16_3 (by decide)).trans ?_
    refine (e_iload lL16_2 hw).trans ?_
    refine (e_push).trans ?_
    refine (e_iload lL16_3 (by decide)).trans ?_
    refine (f_bin (f := z_sub) (v := 1) (by decide) (by decide) (by decide +kernel)).trans ?_
    refine (f_bin (f := z_shr) (v := (z_shr w 1)) hw (by decide) rfl).trans ?_
    refine (e_push).trans ?_
    refine (f_bin (f := z_and) (v := ((z_shr w 1) % 2)) (show (z_shr w 1) < 4294967296 from (z_shr_ok _ _ hw (by decide)).1) (by decide) (z_and_m (k := 1) (by decide))).trans ?_
    refine (f_iast (k := 70) (show ((z_shr w 1) % 2) < 4294967296 from (Nat.lt_trans (Nat.mod_lt _ (by decide)) (by decide))) (by decide) (by rw [hs6]; decide) g70_6 st70_6 (by rw [ln70_6]; decide) eh7.symm).trans ?_
    refine (f_iinc lL16_3 (by decide) (by decide) eL17.symm).trans ?_
    refine (e_back (lbl := 270)).trans ?_
    refine (ca_270 (n := n + 56)).trans ?_
    refine (e_iload lL17_3 (by decide)).trans ?_
    refine (e_push).trans ?_
    refine (f_cmp_f (f := z_ge) (by decide) (by decide) (by decide +kernel)).trans ?_
    refine (e_aload lL17_0 (by decide)).trans ?_
    refine (f_getf (k := 61) (by rw [hs7]; decide) g61_7 st61_0 (by rw [ln61_0]; decide) v61_2_0).trans ?_
    refine (e_push).trans ?_
    refine (e_aald (k := 68) (by decide) (by rw [hs7]; decide) g68_7 st68_0 (by rw [ln68_0]; decide) v68_1_0 (by decide)).trans ?_
    refine (e_iload lL17_3 (by decide)).trans ?_
    refine (e_iload lL17_2 hw).trans ?_
    refine (e_push).trans ?_
    refine (e_iload lL17_3 (by decide)).trans ?_
    refine (f_bin (f := z_sub) (v := 0) (by decide) (by decide) (by decide +kernel)).trans ?_
    refine (f_bin (f := z_shr) (v := (z_shr w 0)) hw (by decide) rfl).trans ?_
    refine (e_push).trans ?_
    refine (f_bin (f := z_and) (v := ((z_shr w 0) % 2)) (show (z_shr w 0) < 4294967296 from (z_shr_ok _ _ hw (by decide)).1) (by decide) (z_and_m (k := 1) (by decide))).trans ?_
    refine (f_iast (k := 70) (show ((z_shr w 0) % 2) < 4294967296 from (Nat.lt_trans (Nat.mod_lt _ (by decide)) (by decide))) (by decide) (by rw [hs7]; decide) g70_7 st70_7 (by rw [ln70_7]; decide) eh8.symm).trans ?_
    refine (f_iinc lL17_3 (by decide) (by decide) eL18.symm).trans ?_
    refine (e_back (lbl := 270)).trans ?_
    refine (ca_270 (n := n + 55)).trans ?_
    refine (e_iload lL18_3 (by decide)).trans ?_
    refine (e_push).trans ?_
    refine (f_cmp_t (f := z_ge) (by decide) (by decide) (by decide +kernel)).trans ?_
    refine (e_push).trans ?_
    exact e_zret (R := zrunX zXt 9 ztc (n + 55)) (d := 1679) (L := L18) (h := h8) (v := 1) (by decide)
  rw [eL3, eL2, eL1] at A1
  rw [eL9, eL8, eL7] at A2
  exact ⟨_, _, _, (by decide), A1, hs4, MS, A2, hs8, sl8⟩
