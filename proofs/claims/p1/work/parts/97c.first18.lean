theorem fs_go_in_o0 (v : Nat) (hv : v < 4294967296) (i1 : 2 ≤ v) (i2 : v ≤ 5000) : (1 + 2147483648) % 4294967296 ≤ (v + 2147483648) % 4294967296 := by omega
theorem fs_go_in_o1 (v : Nat) (hv : v < 4294967296) (i1 : 2 ≤ v) (i2 : v ≤ 5000) : (v + 2147483648) % 4294967296 ≤ (5000 + 2147483648) % 4294967296 := by omega
theorem fs_go_in_o2 (v : Nat) (hv : v < 4294967296) (i1 : 2 ≤ v) (i2 : v ≤ 5000) : (0 + 2147483648) % 4294967296 < (v + 2147483648) % 4294967296 := by omega
theorem fs_go_in_o3 (v : Nat) (hv : v < 4294967296) (i1 : 2 ≤ v) (i2 : v ≤ 5000) : (1 + 2147483648) % 4294967296 < (v + 2147483648) % 4294967296 := by omega
theorem fs_go_in (v : Nat) (hv : v < 4294967296) (i1 : 2 ≤ v) (i2 : v ≤ 5000) (n : Nat) : zFst n 149 (zput (zput 0 1 (v + 1)) 0 (4294967297 + 1)) 210 (zput (zput 0 1 (v + 1)) 0 (4294967358 + 1)) := by
  have hs0 : hbB16.1 = 129 := rfl
  have sl0 : hbB16.2.1 = 650610 := rfl
  obtain ⟨L1, eL1⟩ : ∃ x : Nat, x = zput 0 1 (v + 1) := ⟨_, rfl⟩
  obtain ⟨L2, eL2⟩ : ∃ x : Nat, x = zput L1 0 (4294967297 + 1) := ⟨_, rfl⟩
  have lL1_1 : zlane L1 1 = v + 1 := by rw [eL1]; exact zlane_same (Nat.lt_of_le_of_lt (Nat.succ_le_of_lt hv) (by decide))
  have lL2_1 : zlane L2 1 = v + 1 := by rw [eL2]; exact (zlane_ne (by decide) (by decide)).trans lL1_1
  have lL2_0 : zlane L2 0 = 4294967297 + 1 := by rw [eL2]; exact zlane_same (by decide)
  have g0_0 : zget 8 hbB16.2.2 0 = haA0_c0 := rfl
  have st0_0 : haA0_c0.1 = 11 := rfl
  have ln0_0 : haA0_c0.2.1 = 18 := rfl
  obtain ⟨h1, eh1⟩ : ∃ x : zH, x = (hbB16.1, hbB16.2.1, zst 8 hbB16.2.2 0 (fun c => zcst c 3 0)) := ⟨_, rfl⟩
  have hs1 : h1.1 = 129 := by rw [eh1]; exact hs0
  have sl1 : h1.2.1 = 650610 := by rw [eh1]; exact sl0
  obtain ⟨L3, eL3⟩ : ∃ x : Nat, x = zput L2 2 (0 + 1) := ⟨_, rfl⟩
  obtain ⟨L4, eL4⟩ : ∃ x : Nat, x = zput L3 3 (0 + 1) := ⟨_, rfl⟩
  have lL4_3 : zlane L4 3 = 0 + 1 := by rw [eL4]; exact zlane_same (by decide)
  have lL3_1 : zlane L3 1 = v + 1 := by rw [eL3]; exact (zlane_ne (by decide) (by decide)).trans lL2_1
  have lL4_1 : zlane L4 1 = v + 1 := by rw [eL4]; exact (zlane_ne (by decide) (by decide)).trans lL3_1
  have lL3_2 : zlane L3 2 = 0 + 1 := by rw [eL3]; exact zlane_same (by decide)
  have lL4_2 : zlane L4 2 = 0 + 1 := by rw [eL4]; exact (zlane_ne (by decide) (by decide)).trans lL3_2
  have lL3_0 : zlane L3 0 = 4294967297 + 1 := by rw [eL3]; exact (zlane_ne (by decide) (by decide)).trans lL2_0
  have lL4_0 : zlane L4 0 = 4294967297 + 1 := by rw [eL4]; exact (zlane_ne (by decide) (by decide)).trans lL3_0
  obtain ⟨c0_1, ec0_1⟩ : ∃ x : zC, x = zcst haA0_c0 3 0 := ⟨_, rfl⟩
  have v0_2_0 : zcv haA0_c0 2 = 4294967299 := by decide +kernel
  have v0_2_1 : zcv c0_1 2 = 4294967299 := by rw [ec0_1]; exact zcv_n (by decide) (by rw [ln0_0]; decide) (by rw [ln0_0]; decide) (by rw [ln0_0]; decide) (by decide) v0_2_0
  have g0_1 : zget 8 h1.2.2 0 = c0_1 := by rw [eh1, ec0_1]; exact zg_s (by decide) g0_0
  have st0_1 : c0_1.1 = 11 := by rw [ec0_1]; exact (zcst_1 _ _ _).1.trans st0_0
  have ln0_1 : c0_1.2.1 = 18 := by rw [ec0_1]; exact (zcst_1 _ _ _).2.trans ln0_0
  obtain ⟨L5, eL5⟩ : ∃ x : Nat, x = zput 0 0 (4294967299 + 1) := ⟨_, rfl⟩
  have lL5_0 : zlane L5 0 = 4294967299 + 1 := by rw [eL5]; exact zlane_same (by decide)
  have v2_1_0 : zcv haA0_c2 1 = 4294967300 := by decide +kernel
  have g2_0 : zget 8 hbB16.2.2 2 = haA0_c2 := rfl
  have g2_1 : zget 8 h1.2.2 2 = haA0_c2 := by rw [eh1]; exact zg_n (by decide) (by decide) (by decide) g2_0
  have st2_0 : haA0_c2.1 = 3 := rfl
  have ln2_0 : haA0_c2.2.1 = 7 := rfl
  have v3_7_0 : zcv haA0_c3 7 = 0 := by decide +kernel
  have g3_0 : zget 8 hbB16.2.2 3 = haA0_c3 := rfl
  have g3_1 : zget 8 h1.2.2 3 = haA0_c3 := by rw [eh1]; exact zg_n (by decide) (by decide) (by decide) g3_0
  have st3_0 : haA0_c3.1 = 100 := rfl
  have ln3_0 : haA0_c3.2.1 = 8 := rfl
  obtain ⟨L7, eL7⟩ : ∃ x : Nat, x = zput 0 1 (0 + 1) := ⟨_, rfl⟩
  obtain ⟨L8, eL8⟩ : ∃ x : Nat, x = zput L7 0 (4294967299 + 1) := ⟨_, rfl⟩
  have lL7_1 : zlane L7 1 = 0 + 1 := by rw [eL7]; exact zlane_same (by decide)
  have lL8_1 : zlane L8 1 = 0 + 1 := by rw [eL8]; exact (zlane_ne (by decide) (by decide)).trans lL7_1
  have lL8_0 : zlane L8 0 = 4294967299 + 1 := by rw [eL8]; exact zlane_same (by decide)
  have v2_0_0 : zcv haA0_c2 0 = 4294967301 := by decide +kernel
  have g4_0 : zget 8 hbB16.2.2 4 = haA0_c4 := rfl
  have g4_1 : zget 8 h1.2.2 4 = haA0_c4 := by rw [eh1]; exact zg_n (by decide) (by decide) (by decide) g4_0
  have st4_0 : haA0_c4.1 = 100 := rfl
  have ln4_0 : haA0_c4.2.1 = 4096 := rfl
  have v4_0_0 : zcv haA0_c4 0 = 0 := by decide +kernel
  obtain ⟨h2, eh2⟩ : ∃ x : zH, x = (h1.1, h1.2.1, zst 8 h1.2.2 2 (fun c => zcst c 6 0)) := ⟨_, rfl⟩
  have hs2 : h2.1 = 129 := by rw [eh2]; exact hs1
  have sl2 : h2.2.1 = 650610 := by rw [eh2]; exact sl1
  obtain ⟨c2_2, ec2_2⟩ : ∃ x : zC, x = zcst haA0_c2 6 0 := ⟨_, rfl⟩
  have v2_1_2 : zcv c2_2 1 = 4294967300 := by rw [ec2_2]; exact zcv_n (by decide) (by rw [ln2_0]; decide) (by rw [ln2_0]; decide) (by rw [ln2_0]; decide) (by decide) v2_1_0
  have g2_2 : zget 8 h2.2.2 2 = c2_2 := by rw [eh2, ec2_2]; exact zg_s (by decide) g2_1
  have st2_2 : c2_2.1 = 3 := by rw [ec2_2]; exact (zcst_1 _ _ _).1.trans st2_0
  have ln2_2 : c2_2.2.1 = 7 := by rw [ec2_2]; exact (zcst_1 _ _ _).2.trans ln2_0
  have g3_2 : zget 8 h2.2.2 3 = haA0_c3 := by rw [eh2]; exact zg_n (by decide) (by decide) (by decide) g3_1
  obtain ⟨h3, eh3⟩ : ∃ x : zH, x = (h2.1, h2.2.1, zst 8 h2.2.2 3 (fun c => zcst c 7 2)) := ⟨_, rfl⟩
  have hs3 : h3.1 = 129 := by rw [eh3]; exact hs2
  have sl3 : h3.2.1 = 650610 := by rw [eh3]; exact sl2
  have v2_6_2 : zcv c2_2 6 = 0 := by rw [ec2_2]; exact zcv_s (by decide) (by rw [ln2_0]; decide) (by rw [ln2_0]; decide)
  have g2_3 : zget 8 h3.2.2 2 = c2_2 := by rw [eh3]; exact zg_n (by decide) (by decide) (by decide) g2_2
  obtain ⟨L10, eL10⟩ : ∃ x : Nat, x = zput 0 1 (0 + 1) := ⟨_, rfl⟩
  obtain ⟨L11, eL11⟩ : ∃ x : Nat, x = zput L10 0 (4294967299 + 1) := ⟨_, rfl⟩
  have lL10_1 : zlane L10 1 = 0 + 1 := by rw [eL10]; exact zlane_same (by decide)
  have lL11_1 : zlane L11 1 = 0 + 1 := by rw [eL11]; exact (zlane_ne (by decide) (by decide)).trans lL10_1
  obtain ⟨L13, eL13⟩ : ∃ x : Nat, x = zput L11 2 (0 + 1) := ⟨_, rfl⟩
  have lL13_2 : zlane L13 2 = 0 + 1 := by rw [eL13]; exact zlane_same (by decide)
  have lL13_1 : zlane L13 1 = 0 + 1 := by rw [eL13]; exact (zlane_ne (by decide) (by decide)).trans lL11_1
  have lL11_0 : zlane L11 0 = 4294967299 + 1 := by rw [eL11]; exact zlane_same (by decide)
  obtain ⟨L14, eL14⟩ : ∃ x : Nat, x = zput L4 2 (1 + 1) := ⟨_, rfl⟩
  have lL14_0 : zlane L14 0 = 4294967297 + 1 := by rw [eL14]; exact (zlane_ne (by decide) (by decide)).trans lL4_0
  have v0_3_1 : zcv c0_1 3 = 0 := by rw [ec0_1]; exact zcv_s (by decide) (by rw [ln0_0]; decide) (by rw [ln0_0]; decide)
  have g0_2 : zget 8 h2.2.2 0 = c0_1 := by rw [eh2]; exact zg_n (by decide) (by decide) (by decide) g0_1
  have g0_3 : zget 8 h3.2.2 0 = c0_1 := by rw [eh3]; exact zg_n (by decide) (by decide) (by decide) g0_2
  obtain ⟨h4, eh4⟩ : ∃ x : zH, x = (h3.1, h3.2.1, zst 8 h3.2.2 0 (fun c => zcst c 3 1)) := ⟨_, rfl⟩
  have hs4 : h4.1 = 129 := by rw [eh4]; exact hs3
  have sl4 : h4.2.1 = 650610 := by rw [eh4]; exact sl3
  have lL14_3 : zlane L14 3 = 0 + 1 := by rw [eL14]; exact (zlane_ne (by decide) (by decide)).trans lL4_3
  obtain ⟨L15, eL15⟩ : ∃ x : Nat, x = zput L14 3 (1 + 1) := ⟨_, rfl⟩
  have lL15_3 : zlane L15 3 = 1 + 1 := by rw [eL15]; exact zlane_same (by decide)
  have lL14_1 : zlane L14 1 = v + 1 := by rw [eL14]; exact (zlane_ne (by decide) (by decide)).trans lL4_1
  have lL15_1 : zlane L15 1 = v + 1 := by rw [eL15]; exact (zlane_ne (by decide) (by decide)).trans lL14_1
  have lL14_2 : zlane L14 2 = 1 + 1 := by rw [eL14]; exact zlane_same (by decide)
  have lL15_2 : zlane L15 2 = 1 + 1 := by rw [eL15]; exact (zlane_ne (by decide) (by decide)).trans lL14_2
  obtain ⟨L16, eL16⟩ : ∃ x : Nat, x = zput 0 1 (v + 1) := ⟨_, rfl⟩
  obtain ⟨L17, eL17⟩ : ∃ x : Nat, x = zput L16 0 (4294967358 + 1) := ⟨_, rfl⟩
  have lL16_1 : zlane L16 1 = v + 1 := by rw [eL16]; exact zlane_same (Nat.lt_of_le_of_lt (Nat.succ_le_of_lt hv) (by decide))
  have lL17_1 : zlane L17 1 = v + 1 := by rw [eL17]; exact (zlane_ne (by decide) (by decide)).trans lL16_1
  obtain ⟨L18, eL18⟩ : ∃ x : Nat, x = zput 0 2 (5000 + 1) := ⟨_, rfl⟩
  obtain ⟨L19, eL19⟩ : ∃ x : Nat, x = zput L18 1 (1 + 1) := ⟨_, rfl⟩
  obtain ⟨L20, eL20⟩ : ∃ x : Nat, x = zput L19 0 (v + 1) := ⟨_, rfl⟩
  have lL20_0 : zlane L20 0 = v + 1 := by rw [eL20]; exact zlane_same (Nat.lt_of_le_of_lt (Nat.succ_le_of_lt hv) (by decide))
  have lL19_1 : zlane L19 1 = 1 + 1 := by rw [eL19]; exact zlane_same (by decide)
  have lL20_1 : zlane L20 1 = 1 + 1 := by rw [eL20]; exact (zlane_ne (Nat.lt_of_le_of_lt (Nat.succ_le_of_lt hv) (by decide)) (by decide)).trans lL19_1
  have lL18_2 : zlane L18 2 = 5000 + 1 := by rw [eL18]; exact zlane_same (by decide)
  have lL19_2 : zlane L19 2 = 5000 + 1 := by rw [eL19]; exact (zlane_ne (by decide) (by decide)).trans lL18_2
  have lL20_2 : zlane L20 2 = 5000 + 1 := by rw [eL20]; exact (zlane_ne (Nat.lt_of_le_of_lt (Nat.succ_le_of_lt hv) (by decide)) (by decide)).trans lL19_2
  have lL17_0 : zlane L17 0 = 4294967358 + 1 := by rw [eL17]; exact zlane_same (by decide)
  have g61_0 : zget 8 hbB16.2.2 61 = hbB15_c61 := rfl
  have g61_1 : zget 8 h1.2.2 61 = hbB15_c61 := by rw [eh1]; exact zg_n (by decide) (by decide) (by decide) g61_0
  have g61_2 : zget 8 h2.2.2 61 = hbB15_c61 := by rw [eh2]; exact zg_n (by decide) (by decide) (by decide) g61_1
  have g61_3 : zget 8 h3.2.2 61 = hbB15_c61 := by rw [eh3]; exact zg_n (by decide) (by decide) (by decide) g61_2
  have g61_4 : zget 8 h4.2.2 61 = hbB15_c61 := by rw [eh4]; exact zg_n (by decide) (by decide) (by decide) g61_3
  have st61_0 : hbB15_c61.1 = 12 := rfl
  have ln61_0 : hbB15_c61.2.1 = 114 := rfl
  obtain ⟨h5, eh5⟩ : ∃ x : zH, x = (h4.1, h4.2.1, zst 8 h4.2.2 61 (fun c => zcst c 3 1)) := ⟨_, rfl⟩
  have hs5 : h5.1 = 129 := by rw [eh5]; exact hs4
  have sl5 : h5.2.1 = 650610 := by rw [eh5]; exact sl4
  obtain ⟨L22, eL22⟩ : ∃ x : Nat, x = zput L17 2 (0 + 1) := ⟨_, rfl⟩
  have lL22_0 : zlane L22 0 = 4294967358 + 1 := by rw [eL22]; exact (zlane_ne (by decide) (by decide)).trans lL17_0
  obtain ⟨c61_5, ec61_5⟩ : ∃ x : zC, x = zcst hbB15_c61 3 1 := ⟨_, rfl⟩
  have g61_5 : zget 8 h5.2.2 61 = c61_5 := by rw [eh5, ec61_5]; exact zg_s (by decide) g61_4
  have st61_5 : c61_5.1 = 12 := by rw [ec61_5]; exact (zcst_1 _ _ _).1.trans st61_0
  have ln61_5 : c61_5.2.1 = 114 := by rw [ec61_5]; exact (zcst_1 _ _ _).2.trans ln61_0
  obtain ⟨h6, eh6⟩ : ∃ x : zH, x = (h5.1, h5.2.1, zst 8 h5.2.2 61 (fun c => zcst c 8 0)) := ⟨_, rfl⟩
  have hs6 : h6.1 = 129 := by rw [eh6]; exact hs5
  have sl6 : h6.2.1 = 650610 := by rw [eh6]; exact sl5
  obtain ⟨c61_6, ec61_6⟩ : ∃ x : zC, x = zcst c61_5 8 0 := ⟨_, rfl⟩
  have v61_8_6 : zcv c61_6 8 = 0 := by rw [ec61_6]; exact zcv_s (by decide) (by rw [ln61_5]; decide) (by rw [ln61_5]; decide)
  have g61_6 : zget 8 h6.2.2 61 = c61_6 := by rw [eh6, ec61_6]; exact zg_s (by decide) g61_5
  have st61_6 : c61_6.1 = 12 := by rw [ec61_6]; exact (zcst_1 _ _ _).1.trans st61_5
  have ln61_6 : c61_6.2.1 = 114 := by rw [ec61_6]; exact (zcst_1 _ _ _).2.trans ln61_5
  have lL22_1 : zlane L22 1 = v + 1 := by rw [eL22]; exact (zlane_ne (by decide) (by decide)).trans lL17_1
  have lL22_2 : zlane L22 2 = 0 + 1 := by rw [eL22]; exact zlane_same (by decide)
  obtain ⟨L23, eL23⟩ : ∃ x : Nat, x = zput 0 0 (4294967358 + 1) := ⟨_, rfl⟩
  have lL23_0 : zlane L23 0 = 4294967358 + 1 := by rw [eL23]; exact zlane_same (by decide)
  obtain ⟨h7, eh7⟩ : ∃ x : zH, x = (h6.1, h6.2.1, zst 8 h6.2.2 61 (fun c => zcst c 4 0)) := ⟨_, rfl⟩
  have hs7 : h7.1 = 129 := by rw [eh7]; exact hs6
  have sl7 : h7.2.1 = 650610 := by rw [eh7]; exact sl6
  obtain ⟨L25, eL25⟩ : ∃ x : Nat, x = zput 0 0 (4294967358 + 1) := ⟨_, rfl⟩
  have lL25_0 : zlane L25 0 = 4294967358 + 1 := by rw [eL25]; exact zlane_same (by decide)
  obtain ⟨L27, eL27⟩ : ∃ x : Nat, x = zput 0 1 (7 + 1) := ⟨_, rfl⟩
  obtain ⟨L28, eL28⟩ : ∃ x : Nat, x = zput L27 0 (4294967358 + 1) := ⟨_, rfl⟩
  have lL28_0 : zlane L28 0 = 4294967358 + 1 := by rw [eL28]; exact zlane_same (by decide)
  obtain ⟨c61_7, ec61_7⟩ : ∃ x : zC, x = zcst c61_6 4 0 := ⟨_, rfl⟩
  have v61_1_0 : zcv hbB15_c61 1 = 4294967362 := by decide +kernel
  have v61_1_5 : zcv c61_5 1 = 4294967362 := by rw [ec61_5]; exact zcv_n (by decide) (by rw [ln61_0]; decide) (by rw [ln61_0]; decide) (by rw [ln61_0]; decide) (by decide) v61_1_0
  have v61_1_6 : zcv c61_6 1 = 4294967362 := by rw [ec61_6]; exact zcv_n (by decide) (by rw [ln61_5]; decide) (by rw [ln61_5]; decide) (by rw [ln61_5]; decide) (by decide) v61_1_5
  have v61_1_7 : zcv c61_7 1 = 4294967362 := by rw [ec61_7]; exact zcv_n (by decide) (by rw [ln61_6]; decide) (by rw [ln61_6]; decide) (by rw [ln61_6]; decide) (by decide) v61_1_6
  have g61_7 : zget 8 h7.2.2 61 = c61_7 := by rw [eh7, ec61_7]; exact zg_s (by decide) g61_6
  have st61_7 : c61_7.1 = 12 := by rw [ec61_7]; exact (zcst_1 _ _ _).1.trans st61_6
  have ln61_7 : c61_7.2.1 = 114 := by rw [ec61_7]; exact (zcst_1 _ _ _).2.trans ln61_6
  have v61_3_5 : zcv c61_5 3 = 1 := by rw [ec61_5]; exact zcv_s (by decide) (by rw [ln61_0]; decide) (by rw [ln61_0]; decide)
  have v61_3_6 : zcv c61_6 3 = 1 := by rw [ec61_6]; exact zcv_n (by decide) (by rw [ln61_5]; decide) (by rw [ln61_5]; decide) (by rw [ln61_5]; decide) (by decide) v61_3_5
  have v61_3_7 : zcv c61_7 3 = 1 := by rw [ec61_7]; exact zcv_n (by decide) (by rw [ln61_6]; decide) (by rw [ln61_6]; decide) (by rw [ln61_6]; decide) (by decide) v61_3_6
  have v65_1_0 : zcv haB6_c65 1 = 4294967364 := by decide +kernel
  have g65_0 : zget 8 hbB16.2.2 65 = haB6_c65 := rfl
  have g65_1 : zget 8 h1.2.2 65 = haB6_c65 := by rw [eh1]; exact zg_n (by decide) (by decide) (by decide) g65_0
  have g65_2 : zget 8 h2.2.2 65 = haB6_c65 := by rw [eh2]; exact zg_n (by decide) (by decide) (by decide) g65_1
  have g65_3 : zget 8 h3.2.2 65 = haB6_c65 := by rw [eh3]; exact zg_n (by decide) (by decide) (by decide) g65_2
  have g65_4 : zget 8 h4.2.2 65 = haB6_c65 := by rw [eh4]; exact zg_n (by decide) (by decide) (by decide) g65_3
  have g65_5 : zget 8 h5.2.2 65 = haB6_c65 := by rw [eh5]; exact zg_n (by decide) (by decide) (by decide) g65_4
  have g65_6 : zget 8 h6.2.2 65 = haB6_c65 := by rw [eh6]; exact zg_n (by decide) (by decide) (by decide) g65_5
  have g65_7 : zget 8 h7.2.2 65 = haB6_c65 := by rw [eh7]; exact zg_n (by decide) (by decide) (by decide) g65_6
  have st65_0 : haB6_c65.1 = 102 := rfl
  have ln65_0 : haB6_c65.2.1 = 2 := rfl
  have lL27_1 : zlane L27 1 = 7 + 1 := by rw [eL27]; exact zlane_same (by decide)
  have lL28_1 : zlane L28 1 = 7 + 1 := by rw [eL28]; exact (zlane_ne (by decide) (by decide)).trans lL27_1
  have v67_7_0 : zcv haA0_c3 7 = 0 := by decide +kernel
  have g67_0 : zget 8 hbB16.2.2 67 = haA0_c3 := rfl
  have g67_1 : zget 8 h1.2.2 67 = haA0_c3 := by rw [eh1]; exact zg_n (by decide) (by decide) (by decide) g67_0
  have g67_2 : zget 8 h2.2.2 67 = haA0_c3 := by rw [eh2]; exact zg_n (by decide) (by decide) (by decide) g67_1
  have g67_3 : zget 8 h3.2.2 67 = haA0_c3 := by rw [eh3]; exact zg_n (by decide) (by decide) (by decide) g67_2
  have g67_4 : zget 8 h4.2.2 67 = haA0_c3 := by rw [eh4]; exact zg_n (by decide) (by decide) (by decide) g67_3
  have g67_5 : zget 8 h5.2.2 67 = haA0_c3 := by rw [eh5]; exact zg_n (by decide) (by decide) (by decide) g67_4
  have g67_6 : zget 8 h6.2.2 67 = haA0_c3 := by rw [eh6]; exact zg_n (by decide) (by decide) (by decide) g67_5
  have g67_7 : zget 8 h7.2.2 67 = haA0_c3 := by rw [eh7]; exact zg_n (by decide) (by decide) (by decide) g67_6
  have st67_0 : haA0_c3.1 = 100 := rfl
  have ln67_0 : haA0_c3.2.1 = 8 := rfl
  obtain ⟨L30, eL30⟩ : ∃ x : Nat, x = zput 0 1 (0 + 1) := ⟨_, rfl⟩
  obtain ⟨L31, eL31⟩ : ∃ x : Nat, x = zput L30 0 (4294967358 + 1) := ⟨_, rfl⟩
  have lL31_0 : zlane L31 0 = 4294967358 + 1 := by rw [eL31]; exact zlane_same (by decide)
  have v61_4_7 : zcv c61_7 4 = 0 := by rw [ec61_7]; exact zcv_s (by decide) (by rw [ln61_6]; decide) (by rw [ln61_6]; decide)
  have lL30_1 : zlane L30 1 = 0 + 1 := by rw [eL30]; exact zlane_same (by decide)
  have lL31_1 : zlane L31 1 = 0 + 1 := by rw [eL31]; exact (zlane_ne (by decide) (by decide)).trans lL30_1
  have v61_0_0 : zcv hbB15_c61 0 = 4294967359 := by decide +kernel
  have v61_0_5 : zcv c61_5 0 = 4294967359 := by rw [ec61_5]; exact zcv_n (by decide) (by rw [ln61_0]; decide) (by rw [ln61_0]; decide) (by rw [ln61_0]; decide) (by decide) v61_0_0
  have v61_0_6 : zcv c61_6 0 = 4294967359 := by rw [ec61_6]; exact zcv_n (by decide) (by rw [ln61_5]; decide) (by rw [ln61_5]; decide) (by rw [ln61_5]; decide) (by decide) v61_0_5
  have v61_0_7 : zcv c61_7 0 = 4294967359 := by rw [ec61_7]; exact zcv_n (by decide) (by rw [ln61_6]; decide) (by rw [ln61_6]; decide) (by rw [ln61_6]; decide) (by decide) v61_0_6
  have v62_1_0 : zcv haB6_c62 1 = 4294967361 := by decide +kernel
  have g62_0 : zget 8 hbB16.2.2 62 = haB6_c62 := rfl
  have g62_1 : zget 8 h1.2.2 62 = haB6_c62 := by rw [eh1]; exact zg_n (by decide) (by decide) (by decide) g62_0
  have g62_2 : zget 8 h2.2.2 62 = haB6_c62 := by rw [eh2]; exact zg_n (by decide) (by decide) (by decide) g62_1
  have g62_3 : zget 8 h3.2.2 62 = haB6_c62 := by rw [eh3]; exact zg_n (by decide) (by decide) (by decide) g62_2
  have g62_4 : zget 8 h4.2.2 62 = haB6_c62 := by rw [eh4]; exact zg_n (by decide) (by decide) (by decide) g62_3
  have g62_5 : zget 8 h5.2.2 62 = haB6_c62 := by rw [eh5]; exact zg_n (by decide) (by decide) (by decide) g62_4
  have g62_6 : zget 8 h6.2.2 62 = haB6_c62 := by rw [eh6]; exact zg_n (by decide) (by decide) (by decide) g62_5
  have g62_7 : zget 8 h7.2.2 62 = haB6_c62 := by rw [eh7]; exact zg_n (by decide) (by decide) (by decide) g62_6
  have st62_0 : haB6_c62.1 = 102 := rfl
  have ln62_0 : haB6_c62.2.1 = 2 := rfl
  have g64_0 : zget 8 hbB16.2.2 64 = haA0_c13 := rfl
  have g64_1 : zget 8 h1.2.2 64 = haA0_c13 := by rw [eh1]; exact zg_n (by decide) (by decide) (by decide) g64_0
  have g64_2 : zget 8 h2.2.2 64 = haA0_c13 := by rw [eh2]; exact zg_n (by decide) (by decide) (by decide) g64_1
  have g64_3 : zget 8 h3.2.2 64 = haA0_c13 := by rw [eh3]; exact zg_n (by decide) (by decide) (by decide) g64_2
  have g64_4 : zget 8 h4.2.2 64 = haA0_c13 := by rw [eh4]; exact zg_n (by decide) (by decide) (by decide) g64_3
  have g64_5 : zget 8 h5.2.2 64 = haA0_c13 := by rw [eh5]; exact zg_n (by decide) (by decide) (by decide) g64_4
  have g64_6 : zget 8 h6.2.2 64 = haA0_c13 := by rw [eh6]; exact zg_n (by decide) (by decide) (by decide) g64_5
  have g64_7 : zget 8 h7.2.2 64 = haA0_c13 := by rw [eh7]; exact zg_n (by decide) (by decide) (by decide) g64_6
  have st64_0 : haA0_c13.1 = 100 := rfl
  have ln64_0 : haA0_c13.2.1 = 8192 := rfl
  have v64_0_0 : zcv haA0_c13 0 = 0 := by decide +kernel
  have v64_1_0 : zcv haA0_c13 1 = 0 := by decide +kernel
  obtain ⟨L33, eL33⟩ : ∃ x : Nat, x = zput L25 1 (0 + 1) := ⟨_, rfl⟩
  have lL33_0 : zlane L33 0 = 4294967358 + 1 := by rw [eL33]; exact (zlane_ne (by decide) (by decide)).trans lL25_0
  obtain ⟨L34, eL34⟩ : ∃ x : Nat, x = zput 0 1 (7 + 1) := ⟨_, rfl⟩
  obtain ⟨L35, eL35⟩ : ∃ x : Nat, x = zput L34 0 (4294967358 + 1) := ⟨_, rfl⟩
  have lL35_0 : zlane L35 0 = 4294967358 + 1 := by rw [eL35]; exact zlane_same (by decide)
  have lL34_1 : zlane L34 1 = 7 + 1 := by rw [eL34]; exact zlane_same (by decide)
  have lL35_1 : zlane L35 1 = 7 + 1 := by rw [eL35]; exact (zlane_ne (by decide) (by decide)).trans lL34_1
  obtain ⟨L37, eL37⟩ : ∃ x : Nat, x = zput 0 2 (2 + 1) := ⟨_, rfl⟩
  obtain ⟨L38, eL38⟩ : ∃ x : Nat, x = zput L37 1 (7 + 1) := ⟨_, rfl⟩
  obtain ⟨L39, eL39⟩ : ∃ x : Nat, x = zput L38 0 (4294967358 + 1) := ⟨_, rfl⟩
  have lL39_0 : zlane L39 0 = 4294967358 + 1 := by rw [eL39]; exact zlane_same (by decide)
  have lL38_1 : zlane L38 1 = 7 + 1 := by rw [eL38]; exact zlane_same (by decide)
  have lL39_1 : zlane L39 1 = 7 + 1 := by rw [eL39]; exact (zlane_ne (by decide) (by decide)).trans lL38_1
  have lL37_2 : zlane L37 2 = 2 + 1 := by rw [eL37]; exact zlane_same (by decide)
  have lL38_2 : zlane L38 2 = 2 + 1 := by rw [eL38]; exact (zlane_ne (by decide) (by decide)).trans lL37_2
  have lL39_2 : zlane L39 2 = 2 + 1 := by rw [eL39]; exact (zlane_ne (by decide) (by decide)).trans lL38_2
  obtain ⟨h8, eh8⟩ : ∃ x : zH, x = (h7.1, h7.2.1, zst 8 h7.2.2 67 (fun c => zcst c 7 2)) := ⟨_, rfl⟩
  have hs8 : h8.1 = 129 := by rw [eh8]; exact hs7
  have sl8 : h8.2.1 = 650610 := by rw [eh8]; exact sl7
  have lL33_1 : zlane L33 1 = 0 + 1 := by rw [eL33]; exact zlane_same (by decide)
  obtain ⟨L41, eL41⟩ : ∃ x : Nat, x = zput L23 1 (0 + 1) := ⟨_, rfl⟩
  have lL41_0 : zlane L41 0 = 4294967358 + 1 := by rw [eL41]; exact (zlane_ne (by decide) (by decide)).trans lL23_0
  have g61_8 : zget 8 h8.2.2 61 = c61_7 := by rw [eh8]; exact zg_n (by decide) (by decide) (by decide) g61_7
  have lL41_1 : zlane L41 1 = 0 + 1 := by rw [eL41]; exact zlane_same (by decide)
  obtain ⟨L42, eL42⟩ : ∃ x : Nat, x = zput L41 2 (0 + 1) := ⟨_, rfl⟩
  have lL42_2 : zlane L42 2 = 0 + 1 := by rw [eL42]; exact zlane_same (by decide)
  have lL42_0 : zlane L42 0 = 4294967358 + 1 := by rw [eL42]; exact (zlane_ne (by decide) (by decide)).trans lL41_0
  have lL42_1 : zlane L42 1 = 0 + 1 := by rw [eL42]; exact (zlane_ne (by decide) (by decide)).trans lL41_1
  obtain ⟨L43, eL43⟩ : ∃ x : Nat, x = zput 0 2 (0 + 1) := ⟨_, rfl⟩
  obtain ⟨L44, eL44⟩ : ∃ x : Nat, x = zput L43 1 (0 + 1) := ⟨_, rfl⟩
  obtain ⟨L45, eL45⟩ : ∃ x : Nat, x = zput L44 0 (4294967358 + 1) := ⟨_, rfl⟩
  have lL44_1 : zlane L44 1 = 0 + 1 := by rw [eL44]; exact zlane_same (by decide)
  have lL45_1 : zlane L45 1 = 0 + 1 := by rw [eL45]; exact (zlane_ne (by decide) (by decide)).trans lL44_1
  obtain ⟨L47, eL47⟩ : ∃ x : Nat, x = zput L45 3 (0 + 1) := ⟨_, rfl⟩
  have lL47_1 : zlane L47 1 = 0 + 1 := by rw [eL47]; exact (zlane_ne (by decide) (by decide)).trans lL45_1
  obtain ⟨L48, eL48⟩ : ∃ x : Nat, x = zput L47 4 (0 + 1) := ⟨_, rfl⟩
  have lL47_3 : zlane L47 3 = 0 + 1 := by rw [eL47]; exact zlane_same (by decide)
  have lL48_3 : zlane L48 3 = 0 + 1 := by rw [eL48]; exact (zlane_ne (by decide) (by decide)).trans lL47_3
  have lL43_2 : zlane L43 2 = 0 + 1 := by rw [eL43]; exact zlane_same (by decide)
  have lL44_2 : zlane L44 2 = 0 + 1 := by rw [eL44]; exact (zlane_ne (by decide) (by decide)).trans lL43_2
  have lL45_2 : zlane L45 2 = 0 + 1 := by rw [eL45]; exact (zlane_ne (by decide) (by decide)).trans lL44_2
  have lL47_2 : zlane L47 2 = 0 + 1 := by rw [eL47]; exact (zlane_ne (by decide) (by decide)).trans lL45_2
  have lL48_2 : zlane L48 2 = 0 + 1 := by rw [eL48]; exact (zlane_ne (by decide) (by decide)).trans lL47_2
  have lL48_4 : zlane L48 4 = 0 + 1 := by rw [eL48]; exact zlane_same (by decide)
  have lL48_1 : zlane L48 1 = 0 + 1 := by rw [eL48]; exact (zlane_ne (by decide) (by decide)).trans lL47_1
  have lL45_0 : zlane L45 0 = 4294967358 + 1 := by rw [eL45]; exact zlane_same (by decide)
  have lL47_0 : zlane L47 0 = 4294967358 + 1 := by rw [eL47]; exact (zlane_ne (by decide) (by decide)).trans lL45_0
  have lL48_0 : zlane L48 0 = 4294967358 + 1 := by rw [eL48]; exact (zlane_ne (by decide) (by decide)).trans lL47_0
  obtain ⟨h9, eh9⟩ : ∃ x : zH, x = (h8.1, h8.2.1, zst 8 h8.2.2 61 (fun c => zcst c 4 1)) := ⟨_, rfl⟩
  have hs9 : h9.1 = 129 := by rw [eh9]; exact hs8
  have sl9 : h9.2.1 = 650610 := by rw [eh9]; exact sl8
  obtain ⟨c61_9, ec61_9⟩ : ∃ x : zC, x = zcst c61_7 4 1 := ⟨_, rfl⟩
  have v61_4_9 : zcv c61_9 4 = 1 := by rw [ec61_9]; exact zcv_s (by decide) (by rw [ln61_7]; decide) (by rw [ln61_7]; decide)
  have g61_9 : zget 8 h9.2.2 61 = c61_9 := by rw [eh9, ec61_9]; exact zg_s (by decide) g61_8
  have st61_9 : c61_9.1 = 12 := by rw [ec61_9]; exact (zcst_1 _ _ _).1.trans st61_7
  have ln61_9 : c61_9.2.1 = 114 := by rw [ec61_9]; exact (zcst_1 _ _ _).2.trans ln61_7
  obtain ⟨L49, eL49⟩ : ∃ x : Nat, x = zput L22 2 (1 + 1) := ⟨_, rfl⟩
  have lL49_0 : zlane L49 0 = 4294967358 + 1 := by rw [eL49]; exact (zlane_ne (by decide) (by decide)).trans lL22_0
  have v61_8_7 : zcv c61_7 8 = 0 := by rw [ec61_7]; exact zcv_n (by decide) (by rw [ln61_6]; decide) (by rw [ln61_6]; decide) (by rw [ln61_6]; decide) (by decide) v61_8_6
  have v61_8_9 : zcv c61_9 8 = 0 := by rw [ec61_9]; exact zcv_n (by decide) (by rw [ln61_7]; decide) (by rw [ln61_7]; decide) (by rw [ln61_7]; decide) (by decide) v61_8_7
  obtain ⟨h10, eh10⟩ : ∃ x : zH, x = (h9.1, h9.2.1, zst 8 h9.2.2 61 (fun c => zcst c 8 1)) := ⟨_, rfl⟩
  have hs10 : h10.1 = 129 := by rw [eh10]; exact hs9
  have sl10 : h10.2.1 = 650610 := by rw [eh10]; exact sl9
  obtain ⟨c61_10, ec61_10⟩ : ∃ x : zC, x = zcst c61_9 8 1 := ⟨_, rfl⟩
  have v61_8_10 : zcv c61_10 8 = 1 := by rw [ec61_10]; exact zcv_s (by decide) (by rw [ln61_9]; decide) (by rw [ln61_9]; decide)
  have g61_10 : zget 8 h10.2.2 61 = c61_10 := by rw [eh10, ec61_10]; exact zg_s (by decide) g61_9
  have st61_10 : c61_10.1 = 12 := by rw [ec61_10]; exact (zcst_1 _ _ _).1.trans st61_9
  have ln61_10 : c61_10.2.1 = 114 := by rw [ec61_10]; exact (zcst_1 _ _ _).2.trans ln61_9
  have lL49_1 : zlane L49 1 = v + 1 := by rw [eL49]; exact (zlane_ne (by decide) (by decide)).trans lL22_1
  have lL49_2 : zlane L49 2 = 1 + 1 := by rw [eL49]; exact zlane_same (by decide)
  have MS : (zget 8 h4.2.2 61).1 = 12 := by rw [g61_4]; exact st61_0
  have A1 : zrunX zXt 9 ztc (n + 60) 1679 149 L2 [] hbB16 = some ([1], h4) := by
    refine (ca_149 (n := n + 59)).trans ?_
    refine (e_iload lL2_1 hv).trans ?_
    refine (e_push).trans ?_
    refine (f_cmp_f (f := z_lt) hv (by decide) (zlt_f (a := v) (b := 1) (fs_go_in_o0 v hv i1 i2))).trans ?_
    refine (e_iload lL2_1 hv).trans ?_
    refine (e_push).trans ?_
    refine (f_cmp_t (f := z_le) hv (by decide) (zle_t (a := v) (b := 5000) (fs_go_in_o1 v hv i1 i2))).trans ?_
    refine (e_aload lL2_0 (by decide)).trans ?_
    refine (e_push).trans ?_
    refine (f_putf (ck := ck_int) (k := 0) (by decide +kernel) (by rw [hs0]; decide) g0_0 st0_0 (by rw [ln0_0]; decide) eh1.symm).trans ?_
    refine (e_push).trans ?_
    refine (f_istore (by decide) eL3.symm).trans ?_
    refine (e_push).trans ?_
    refine (f_istore (by decide) eL4.symm).trans ?_
    refine (e_iload lL4_3 (by decide)).trans ?_
    refine (e_iload lL4_1 hv).trans ?_
    refine (f_cmp_f (f := z_ge) (by decide) hv (zge_f (a := 0) (b := v) (fs_go_in_o2 v hv i1 i2))).trans ?_
    refine (e_iload lL4_2 (by decide)).trans ?_
    refine (f_if_f (f := fun a => z_ne a 0) (by decide) (by decide +kernel)).trans ?_
    refine (e_aload lL4_0 (by decide)).trans ?_
    refine (f_getf (k := 0) (by rw [hs1]; decide) g0_1 st0_1 (by rw [ln0_1]; decide) v0_2_1).trans ?_
    have m6 : zrunX zXt 9 ztc (n + 59) 1678 51 L5 [] h1 = some ([1], h3) := by
      refine (ca_51 (n := n + 58)).trans ?_
      refine (e_aload lL5_0 (by decide)).trans ?_
      refine (e_aload lL5_0 (by decide)).trans ?_
      refine (f_getf (k := 2) (by rw [hs1]; decide) g2_1 st2_0 (by rw [ln2_0]; decide) v2_1_0).trans ?_
      refine (e_push).trans ?_
      refine (e_iald (k := 3) (by decide) (by rw [hs1]; decide) g3_1 st3_0 (by rw [ln3_0]; decide) v3_7_0 (by decide)).trans ?_
      have m9 : zrunX zXt 9 ztc (n + 58) 1677 46 L8 [] h1 = some ([1], h1) := by
        refine (ca_46 (n := n + 57)).trans ?_
        refine (e_iload lL8_1 (by decide)).trans ?_
        refine (f_if_f (f := fun a => z_lt a 0) (by decide) (by decide +kernel)).trans ?_
        refine (e_iload lL8_1 (by decide)).trans ?_
        refine (e_push).trans ?_
        refine (f_bin (f := z_and) (v := 0) (by decide) (by decide) (by decide +kernel)).trans ?_
        refine (f_if_f (f := fun a => z_ne a 0) (by decide) (by decide +kernel)).trans ?_
        refine (e_iload lL8_1 (by decide)).trans ?_
        refine (e_push).trans ?_
        refine (f_bin (f := z_shr) (v := 0) (by decide) (by decide) (by decide +kernel)).trans ?_
        refine (e_aload lL8_0 (by decide)).trans ?_
        refine (f_getf (k := 2) (by rw [hs1]; decide) g2_1 st2_0 (by rw [ln2_0]; decide) v2_0_0).trans ?_
        refine (f_len (k := 4) (by rw [hs1]; decide) g4_1 st4_0 ln4_0).trans ?_
        refine (f_cmp_f (f := z_ge) (by decide) (by decide) (by decide +kernel)).trans ?_
        refine (e_push).trans ?_
        show q_X3_holds_26 _ _ _ _ _ = _
        exact e_zret (R := zrunX zXt 9 ztc (n + 57)) (d := 1677) (L := L8) (h := h1) (v := 1) (by decide)
      refine (f_callV (k := 2) (d' := 1677) (S0 := [0, 4294967299]) (S' := []) (S2 := [1]) (fun q => by rw [zargs_s q (by decide), ← eL7, zargs_s q (by decide), ← eL8]; rfl) lL8_0 (by rw [hs1]; decide) g2_1 st2_0 (Nat.le_of_ble_eq_true rfl) m9 (hs1.trans hs1.symm) rfl).trans ?_
      refine (f_if_t (f := fun a => z_ne a 0) (by decide) (by decide +kernel)).trans ?_
      refine (e_aload lL5_0 (by decide)).trans ?_
      refine (e_aload lL5_0 (by decide)).trans ?_
      refine (f_getf (k := 2) (by rw [hs1]; decide) g2_1 st2_0 (by rw [ln2_0]; decide) v2_0_0).trans ?_
      refine (e_aload lL5_0 (by decide)).trans ?_
      refine (f_getf (k := 2) (by rw [hs1]; decide) g2_1 st2_0 (by rw [ln2_0]; decide) v2_1_0).trans ?_
      refine (e_push).trans ?_
      refine (e_iald (k := 3) (by decide) (by rw [hs1]; decide) g3_1 st3_0 (by rw [ln3_0]; decide) v3_7_0 (by decide)).trans ?_
      refine (e_push).trans ?_
      refine (f_bin (f := z_shr) (v := 0) (by decide) (by decide) (by decide +kernel)).trans ?_
      refine (e_iald (k := 4) (by decide) (by rw [hs1]; decide) g4_1 st4_0 (by rw [ln4_0]; decide) v4_0_0 (by decide)).trans ?_
      refine (f_putf (ck := ck_int) (k := 2) (by decide +kernel) (by rw [hs1]; decide) g2_1 st2_0 (by rw [ln2_0]; decide) eh2.symm).trans ?_
      refine (e_aload lL5_0 (by decide)).trans ?_
      refine (f_getf (k := 2) (by rw [hs2]; decide) g2_2 st2_2 (by rw [ln2_2]; decide) v2_1_2).trans ?_
      refine (e_push).trans ?_
      refine (e_aload lL5_0 (by decide)).trans ?_
      refine (f_getf (k := 2) (by rw [hs2]; decide) g2_2 st2_2 (by rw [ln2_2]; decide) v2_1_2).trans ?_
      refine (e_push).trans ?_
      refine (e_iald (k := 3) (by decide) (by rw [hs2]; decide) g3_2 st3_0 (by rw [ln3_0]; decide) v3_7_0 (by decide)).trans ?_
      refine (e_push).trans ?_
      refine (f_bin (f := z_add) (v := 2) (by decide) (by decide) (by decide +kernel)).trans ?_
      refine (e_push).trans ?_
      refine (f_bin (f := z_and) (v := 2) (by decide) (by decide) (by decide +kernel)).trans ?_
      refine (f_iast (k := 3) (by decide) (by decide) (by rw [hs2]; decide) g3_2 st3_0 (by rw [ln3_0]; decide) eh3.symm).trans ?_
      refine (e_aload lL5_0 (by decide)).trans ?_
      refine (f_getf (k := 2) (by rw [hs3]; decide) g2_3 st2_2 (by rw [ln2_2]; decide) v2_6_2).trans ?_
      refine (e_push).trans ?_
      refine (f_bin (f := z_shr) (v := 0) (by decide) (by decide) (by decide +kernel)).trans ?_
      refine (f_tsw_in (k := q_X3_step_140) (by decide) (by rfl)).trans ?_
      refine (e_aload lL5_0 (by decide)).trans ?_
      refine (e_aload lL5_0 (by decide)).trans ?_
      refine (f_getf (k := 2) (by rw [hs3]; decide) g2_3 st2_2 (by rw [ln2_2]; decide) v2_6_2).trans ?_
      have m12 : zrunX zXt 9 ztc (n + 58) 1677 48 L11 [] h3 = some ([1], h3) := by
        refine (ca_48 (n := n + 57)).trans ?_
        refine (e_iload lL11_1 (by decide)).trans ?_
        refine (e_push).trans ?_
        refine (f_cmp_t (f := z_lt) (by decide) (by decide) (by decide +kernel)).trans ?_
        refine (e_iload lL11_1 (by decide)).trans ?_
        refine (e_push).trans ?_
        refine (f_bin (f := z_shr) (v := 0) (by decide) (by decide) (by decide +kernel)).trans ?_
        refine (f_istore (by decide) eL13.symm).trans ?_
        refine (e_iload lL13_2 (by decide)).trans ?_
        refine (e_push).trans ?_
        refine (f_cmp_t (f := z_lt) (by decide) (by decide) (by decide +kernel)).trans ?_
        refine (e_iload lL13_2 (by decide)).trans ?_
        refine (e_push).trans ?_
        refine (f_cmp_t (f := z_lt) (by decide) (by decide) (by decide +kernel)).trans ?_
        refine (e_iload lL13_2 (by decide)).trans ?_
        refine (f_lsw (k := q_X3_low_148) (by decide) (by rfl)).trans ?_
        refine (e_iload lL13_1 (by decide)).trans ?_
        refine (f_if_f (f := fun a => z_ne a 0) (by decide) (by decide +kernel)).trans ?_
        refine (e_push).trans ?_
        show q_X3_low_157 _ _ _ _ _ = _
        exact e_ret (R := zrunX zXt 9 ztc (n + 57)) (d := 1677) (L := L13) (h := h3) (v := 1) (by decide)
      refine (f_callV (k := 2) (d' := 1677) (S0 := [0, 4294967299]) (S' := []) (S2 := [1]) (fun q => by rw [zargs_s q (by decide), ← eL10, zargs_s q (by decide), ← eL11]; rfl) lL11_0 (by rw [hs3]; decide) g2_3 st2_2 (Nat.le_of_ble_eq_true rfl) m12 (hs3.trans hs3.symm) rfl).trans ?_
      exact e_ret (R := zrunX zXt 9 ztc (n + 58)) (d := 1678) (L := L5) (h := h3) (v := 1) (by decide)
    refine (f_callV (k := 2) (d' := 1678) (S0 := [4294967299]) (S' := []) (S2 := [1]) (fun q => by rw [zargs_s q (by decide), ← eL5]; rfl) lL5_0 (by rw [hs1]; decide) g2_1 st2_0 (Nat.le_of_ble_eq_true rfl) m6 (hs3.trans hs1.symm) rfl).trans ?_
    refine (f_istore (by decide) eL14.symm).trans ?_
    refine (e_aload lL14_0 (by decide)).trans ?_
    refine (e_dup).trans ?_
    refine (f_getf (k := 0) (by rw [hs3]; decide) g0_3 st0_1 (by rw [ln0_1]; decide) v0_3_1).trans ?_
    refine (e_push).trans ?_
    refine (f_bin (f := z_add) (v := 1) (by decide) (by decide) (by decide +kernel)).trans ?_
    refine (f_putf (ck := ck_int) (k := 0) (by decide +kernel) (by rw [hs3]; decide) g0_3 st0_1 (by rw [ln0_1]; decide) eh4.symm).trans ?_
    refine (f_iinc lL14_3 (by decide) (by decide) eL15.symm).trans ?_
    refine (e_back (lbl := 150)).trans ?_
    refine (ca_150 (n := n + 58)).trans ?_
    refine (e_iload lL15_3 (by decide)).trans ?_
    refine (e_iload lL15_1 hv).trans ?_
    refine (f_cmp_f (f := z_ge) (by decide) hv (zge_f (a := 1) (b := v) (fs_go_in_o3 v hv i1 i2))).trans ?_
    refine (e_iload lL15_2 (by decide)).trans ?_
    refine (f_if_t (f := fun a => z_ne a 0) (by decide) (by decide +kernel)).trans ?_
    refine (e_iload lL15_2 (by decide)).trans ?_
    exact e_ret (R := zrunX zXt 9 ztc (n + 58)) (d := 1679) (L := L15) (h := h4) (v := 1) (by decide)
  have A2 : zrunX zXt 9 ztc (n + 60) 1679 210 L17 [] h4 = some ([1], h10) := by
    refine (ca_210 (n := n + 59)).trans ?_
    refine (e_iload lL17_1 hv).trans ?_
    refine (e_push).trans ?_
    refine (e_push).trans ?_
    have m21 : zrunX zXt 9 ztc (n + 59) 1678 217 L20 [] h4 = some ([1], h4) := by
      refine (ca_217 (n := n + 58)).trans ?_
      refine (e_iload lL20_0 hv).trans ?_
      refine (e_iload lL20_1 (by decide)).trans ?_
      refine (f_cmp_f (f := z_lt) hv (by decide) (zlt_f (a := v) (b := 1) (fs_go_in_o0 v hv i1 i2))).trans ?_
      refine (e_iload lL20_0 hv).trans ?_
      refine (e_iload lL20_2 (by decide)).trans ?_
      refine (f_cmp_f (f := z_gt) hv (by decide) (zgt_f (a := v) (b := 5000) (fs_go_in_o1 v hv i1 i2))).trans ?_
      refine (e_push).trans ?_
      show q_X12_in_15 _ _ _ _ _ = _
      exact e_zret (R := zrunX zXt 9 ztc (n + 58)) (d := 1678) (L := L20) (h := h4) (v := 1) (by decide)
    refine (f_callS (d' := 1678) (S0 := [5000, 1, v]) (S' := []) (S2 := [1]) (fun q => by rw [zargs_s q (by decide), ← eL18, zargs_s q (by decide), ← eL19, zargs_s q (Nat.le_of_lt (Nat.lt_trans hv (by decide))), ← eL20]; rfl) (Nat.le_of_ble_eq_true rfl) m21 (hs4.trans hs4.symm) rfl).trans ?_
    refine (f_if_t (f := fun a => z_ne a 0) (by decide) (by decide +kernel)).trans ?_
    refine (e_aload lL17_0 (by decide)).trans ?_
    refine (e_push).trans ?_
    refine (f_putf (ck := ck_int) (k := 61) (by decide +kernel) (by rw [hs4]; decide) g61_4 st61_0 (by rw [ln61_0]; decide) eh5.symm).trans ?_
    refine (e_push).trans ?_
    refine (f_istore (by decide) eL22.symm).trans ?_
    refine (e_aload lL22_0 (by decide)).trans ?_
    refine (e_push).trans ?_
    refine (f_putf (ck := ck_int) (k := 61) (by decide +kernel) (by rw [hs5]; decide) g61_5 st61_5 (by rw [ln61_5]; decide) eh6.symm).trans ?_
    refine (e_aload lL22_0 (by decide)).trans ?_
    refine (f_getf (k := 61) (by rw [hs6]; decide) g61_6 st61_6 (by rw [ln61_6]; decide) v61_8_6).trans ?_
    refine (e_iload lL22_1 hv).trans ?_
    refine (f_cmp_f (f := z_ge) (by decide) hv (zge_f (a := 0) (b := v) (fs_go_in_o2 v hv i1 i2))).trans ?_
    refine (e_iload lL22_2 (by decide)).trans ?_
    refine (f_if_f (f := fun a => z_ne a 0) (by decide) (by decide +kernel)).trans ?_
    refine (e_aload lL22_0 (by decide)).trans ?_
    have m24 : zrunX zXt 9 ztc (n + 59) 1678 278 L23 [] h6 = some ([1], h9) := by
      refine (ca_278 (n := n + 58)).trans ?_
      refine (e_aload lL23_0 (by decide)).trans ?_
      refine (e_push).trans ?_
      refine (f_putf (ck := ck_int) (k := 61) (by decide +kernel) (by rw [hs6]; decide) g61_6 st61_6 (by rw [ln61_6]; decide) eh7.symm).trans ?_
      refine (e_aload lL23_0 (by decide)).trans ?_
      have m26 : zrunX zXt 9 ztc (n + 58) 1677 205 L25 [] h7 = some ([0], h8) := by
        refine (ca_205 (n := n + 57)).trans ?_
        refine (e_aload lL25_0 (by decide)).trans ?_
        refine (e_aload lL25_0 (by decide)).trans ?_
        refine (e_push).trans ?_
        have m29 : zrunX zXt 9 ztc (n + 57) 1676 254 L28 [] h7 = some ([0], h7) := by
          refine (ca_254 (n := n + 56)).trans ?_
          refine (e_aload lL28_0 (by decide)).trans ?_
          refine (f_getf (k := 61) (by rw [hs7]; decide) g61_7 st61_7 (by rw [ln61_7]; decide) v61_1_7).trans ?_
          refine (e_aload lL28_0 (by decide)).trans ?_
          refine (f_getf (k := 61) (by rw [hs7]; decide) g61_7 st61_7 (by rw [ln61_7]; decide) v61_3_7).trans ?_
          refine (e_aald (k := 65) (by decide) (by rw [hs7]; decide) g65_7 st65_0 (by rw [ln65_0]; decide) v65_1_0 (by decide)).trans ?_
          refine (e_iload lL28_1 (by decide)).trans ?_
          refine (e_iald (k := 67) (by decide) (by rw [hs7]; decide) g67_7 st67_0 (by rw [ln67_0]; decide) v67_7_0 (by decide)).trans ?_
          exact e_ret (R := zrunX zXt 9 ztc (n + 56)) (d := 1676) (L := L28) (h := h7) (v := 0) (by decide)
        refine (f_callV (k := 61) (d' := 1676) (S0 := [7, 4294967358, 4294967358]) (S' := [4294967358]) (S2 := [0, 4294967358]) (fun q => by rw [zargs_s q (by decide), ← eL27, zargs_s q (by decide), ← eL28]; rfl) lL28_0 (by rw [hs7]; decide) g61_7 st61_7 (Nat.le_of_ble_eq_true rfl) m29 (hs7.trans hs7.symm) rfl).trans ?_
        have m32 : zrunX zXt 9 ztc (n + 57) 1676 294 L31 [] h7 = some ([0], h7) := by
          refine (ca_294 (n := n + 56)).trans ?_
          refine (e_aload lL31_0 (by decide)).trans ?_
          refine (f_getf (k := 61) (by rw [hs7]; decide) g61_7 st61_7 (by rw [ln61_7]; decide) v61_4_7).trans ?_
          refine (f_if_t (f := fun a => z_le a 0) (by decide) (by decide +kernel)).trans ?_
          refine (e_iload lL31_1 (by decide)).trans ?_
          refine (e_push).trans ?_
          refine (f_bin (f := z_and) (v := 0) (by decide) (by decide) (by decide +kernel)).trans ?_
          refine (e_push).trans ?_
          refine (f_cmp_f (f := Nat.beq) (by decide) (by decide) (by decide +kernel)).trans ?_
          refine (e_iload lL31_1 (by decide)).trans ?_
          refine (e_push).trans ?_
          refine (f_bin (f := z_add) (v := 1) (by decide) (by decide) (by decide +kernel)).trans ?_
          refine (e_aload lL31_0 (by decide)).trans ?_
          refine (f_getf (k := 61) (by rw [hs7]; decide) g61_7 st61_7 (by rw [ln61_7]; decide) v61_0_7).trans ?_
          refine (e_aload lL31_0 (by decide)).trans ?_
          refine (f_getf (k := 61) (by rw [hs7]; decide) g61_7 st61_7 (by rw [ln61_7]; decide) v61_3_7).trans ?_
          refine (e_aald (k := 62) (by decide) (by rw [hs7]; decide) g62_7 st62_0 (by rw [ln62_0]; decide) v62_1_0 (by decide)).trans ?_
          refine (f_len (k := 64) (by rw [hs7]; decide) g64_7 st64_0 ln64_0).trans ?_
          refine (f_cmp_t (f := z_lt) (by decide) (by decide) (by decide +kernel)).trans ?_
          refine (e_aload lL31_0 (by decide)).trans ?_
          refine (f_getf (k := 61) (by rw [hs7]; decide) g61_7 st61_7 (by rw [ln61_7]; decide) v61_0_7).trans ?_
          refine (e_aload lL31_0 (by decide)).trans ?_
          refine (f_getf (k := 61) (by rw [hs7]; decide) g61_7 st61_7 (by rw [ln61_7]; decide) v61_3_7).trans ?_
          refine (e_aald (k := 62) (by decide) (by rw [hs7]; decide) g62_7 st62_0 (by rw [ln62_0]; decide) v62_1_0 (by decide)).trans ?_
          refine (e_iload lL31_1 (by decide)).trans ?_
          refine (e_iald (k := 64) (by decide) (by rw [hs7]; decide) g64_7 st64_0 (by rw [ln64_0]; decide) v64_0_0 (by decide)).trans ?_
          refine (e_aload lL31_0 (by decide)).trans ?_
          refine (f_getf (k := 61) (by rw [hs7]; decide) g61_7 st61_7 (by rw [ln61_7]; decide) v61_0_7).trans ?_
          refine (e_aload lL31_0 (by decide)).trans ?_
          refine (f_getf (k := 61) (by rw [hs7]; decide) g61_7 st61_7 (by rw [ln61_7]; decide) v61_3_7).trans ?_
          refine (e_aald (k := 62) (by decide) (by rw [hs7]; decide) g62_7 st62_0 (by rw [ln62_0]; decide) v62_1_0 (by decide)).trans ?_
          refine (e_iload lL31_1 (by decide)).trans ?_
          refine (e_push).trans ?_
          refine (f_bin (f := z_add) (v := 1) (by decide) (by decide) (by decide +kernel)).trans ?_
          refine (e_iald (k := 64) (by decide) (by rw [hs7]; decide) g64_7 st64_0 (by rw [ln64_0]; decide) v64_1_0 (by decide)).trans ?_
          refine (e_push).trans ?_
          refine (f_bin (f := z_shl) (v := 0) (by decide) (by decide) (by decide +kernel)).trans ?_
          refine (f_bin (f := z_or) (v := 0) (by decide) (by decide) (by decide +kernel)).trans ?_
          exact e_ret (R := zrunX zXt 9 ztc (n + 56)) (d := 1676) (L := L31) (h := h7) (v := 0) (by decide)
        refine (f_callV (k := 61) (d' := 1676) (S0 := [0, 4294967358]) (S' := []) (S2 := [0]) (fun q => by rw [zargs_s q (by decide), ← eL30, zargs_s q (by decide), ← eL31]; rfl) lL31_0 (by rw [hs7]; decide) g61_7 st61_7 (Nat.le_of_ble_eq_true rfl) m32 (hs7.trans hs7.symm) rfl).trans ?_
        refine (f_istore (by decide) eL33.symm).trans ?_
        refine (e_aload lL33_0 (by decide)).trans ?_
        refine (f_getf (k := 61) (by rw [hs7]; decide) g61_7 st61_7 (by rw [ln61_7]; decide) v61_4_7).trans ?_
        refine (f_if_f (f := fun a => z_ne a 0) (by decide) (by decide +kernel)).trans ?_
        refine (e_aload lL33_0 (by decide)).trans ?_
        refine (e_push).trans ?_
        refine (e_aload lL33_0 (by decide)).trans ?_
        refine (e_push).trans ?_
        have m36 : zrunX zXt 9 ztc (n + 57) 1676 254 L35 [] h7 = some ([0], h7) := by
          refine (ca_254 (n := n + 56)).trans ?_
          refine (e_aload lL35_0 (by decide)).trans ?_
          refine (f_getf (k := 61) (by rw [hs7]; decide) g61_7 st61_7 (by rw [ln61_7]; decide) v61_1_7).trans ?_
          refine (e_aload lL35_0 (by decide)).trans ?_
          refine (f_getf (k := 61) (by rw [hs7]; decide) g61_7 st61_7 (by rw [ln61_7]; decide) v61_3_7).trans ?_
          refine (e_aald (k := 65) (by decide) (by rw [hs7]; decide) g65_7 st65_0 (by rw [ln65_0]; decide) v65_1_0 (by decide)).trans ?_
          refine (e_iload lL35_1 (by decide)).trans ?_
          refine (e_iald (k := 67) (by decide) (by rw [hs7]; decide) g67_7 st67_0 (by rw [ln67_0]; decide) v67_7_0 (by decide)).trans ?_
          exact e_ret (R := zrunX zXt 9 ztc (n + 56)) (d := 1676) (L := L35) (h := h7) (v := 0) (by decide)
        refine (f_callV (k := 61) (d' := 1676) (S0 := [7, 4294967358, 7, 4294967358]) (S' := [7, 4294967358]) (S2 := [0, 7, 4294967358]) (fun q => by rw [zargs_s q (by decide), ← eL34, zargs_s q (by decide), ← eL35]; rfl) lL35_0 (by rw [hs7]; decide) g61_7 st61_7 (Nat.le_of_ble_eq_true rfl) m36 (hs7.trans hs7.symm) rfl).trans ?_
        refine (e_push).trans ?_
        refine (f_bin (f := z_add) (v := 2) (by decide) (by decide) (by decide +kernel)).trans ?_
        have m40 : zrunX zXt 9 ztc (n + 57) 1676 272 L39 [] h7 = some ([], h8) := by
          refine (ca_272 (n := n + 56)).trans ?_
          refine (e_aload lL39_0 (by decide)).trans ?_
          refine (f_getf (k := 61) (by rw [hs7]; decide) g61_7 st61_7 (by rw [ln61_7]; decide) v61_1_7).trans ?_
          refine (e_aload lL39_0 (by decide)).trans ?_
          refine (f_getf (k := 61) (by rw [hs7]; decide) g61_7 st61_7 (by rw [ln61_7]; decide) v61_3_7).trans ?_
          refine (e_aald (k := 65) (by decide) (by rw [hs7]; decide) g65_7 st65_0 (by rw [ln65_0]; decide) v65_1_0 (by decide)).trans ?_
          refine (e_iload lL39_1 (by decide)).trans ?_
          refine (e_iload lL39_2 (by decide)).trans ?_
          refine (e_push).trans ?_
          refine (f_bin (f := z_and) (v := 2) (by decide) (by decide) (by decide +kernel)).trans ?_
          refine (f_iast (k := 67) (by decide) (by decide) (by rw [hs7]; decide) g67_7 st67_0 (by rw [ln67_0]; decide) eh8.symm).trans ?_
          exact e_vret (R := zrunX zXt 9 ztc (n + 56)) (d := 1676) (L := L39) (h := h8)
        refine (f_callV (k := 61) (d' := 1676) (S0 := [2, 7, 4294967358]) (S' := []) (S2 := []) (fun q => by rw [zargs_s q (by decide), ← eL37, zargs_s q (by decide), ← eL38, zargs_s q (by decide), ← eL39]; rfl) lL39_0 (by rw [hs7]; decide) g61_7 st61_7 (Nat.le_of_ble_eq_true rfl) m40 (hs8.trans hs7.symm) rfl).trans ?_
        refine (e_iload lL33_1 (by decide)).trans ?_
        exact e_ret (R := zrunX zXt 9 ztc (n + 57)) (d := 1677) (L := L33) (h := h8) (v := 0) (by decide)
      refine (f_callV (k := 61) (d' := 1677) (S0 := [4294967358]) (S' := []) (S2 := [0]) (fun q => by rw [zargs_s q (by decide), ← eL25]; rfl) lL25_0 (by rw [hs7]; decide) g61_7 st61_7 (Nat.le_of_ble_eq_true rfl) m26 (hs8.trans hs7.symm) rfl).trans ?_
      refine (f_istore (by decide) eL41.symm).trans ?_
      refine (e_aload lL41_0 (by decide)).trans ?_
      refine (f_getf (k := 61) (by rw [hs8]; decide) g61_8 st61_7 (by rw [ln61_7]; decide) v61_4_7).trans ?_
      refine (f_if_t (f := fun a => z_le a 0) (by decide) (by decide +kernel)).trans ?_
      refine (e_iload lL41_1 (by decide)).trans ?_
      refine (e_push).trans ?_
      refine (f_bin (f := z_shr) (v := 0) (by decide) (by decide) (by decide +kernel)).trans ?_
      refine (f_istore (by decide) eL42.symm).trans ?_
      refine (e_iload lL42_2 (by decide)).trans ?_
      refine (e_push).trans ?_
      refine (f_cmp_t (f := z_ne) (by decide) (by decide) (by decide +kernel)).trans ?_
      refine (e_iload lL42_2 (by decide)).trans ?_
      refine (e_push).trans ?_
      refine (f_cmp_t (f := z_ne) (by decide) (by decide) (by decide +kernel)).trans ?_
      refine (e_iload lL42_2 (by decide)).trans ?_
      refine (e_push).trans ?_
      refine (f_bin (f := z_and) (v := 0) (by decide) (by decide) (by decide +kernel)).trans ?_
      refine (f_if_f (f := fun a => z_ne a 0) (by decide) (by decide +kernel)).trans ?_
      refine (e_aload lL42_0 (by decide)).trans ?_
      refine (e_iload lL42_1 (by decide)).trans ?_
      refine (e_iload lL42_2 (by decide)).trans ?_
      refine (e_push).trans ?_
      refine (f_cmp_t (f := z_ne) (by decide) (by decide) (by decide +kernel)).trans ?_
      refine (e_push).trans ?_
      have m46 : zrunX zXt 9 ztc (n + 58) 1677 274 L45 [] h8 = some ([], h9) := by
        refine (ca_274 (n := n + 57)).trans ?_
        refine (e_iload lL45_1 (by decide)).trans ?_
        refine (e_push).trans ?_
        refine (f_bin (f := z_shr) (v := 0) (by decide) (by decide) (by decide +kernel)).trans ?_
        refine (e_push).trans ?_
        refine (f_bin (f := z_and) (v := 0) (by decide) (by decide) (by decide +kernel)).trans ?_
        refine (f_istore (by decide) eL47.symm).trans ?_
        refine (e_iload lL47_1 (by decide)).trans ?_
        refine (e_push).trans ?_
        refine (f_bin (f := z_shr) (v := 0) (by decide) (by decide) (by decide +kernel)).trans ?_
        refine (f_istore (by decide) eL48.symm).trans ?_
        refine (e_iload lL48_3 (by decide)).trans ?_
        refine (e_push).trans ?_
        refine (f_cmp_t (f := z_lt) (by decide) (by decide) (by decide +kernel)).trans ?_
        refine (e_iload lL48_2 (by decide)).trans ?_
        refine (f_if_t (f := fun a => Nat.beq a 0) (by decide) (by decide +kernel)).trans ?_
        refine (e_iload lL48_2 (by decide)).trans ?_
        refine (f_if_t (f := fun a => Nat.beq a 0) (by decide) (by decide +kernel)).trans ?_
        refine (e_iload lL48_4 (by decide)).trans ?_
        refine (f_if_t (f := fun a => z_le a 0) (by decide) (by decide +kernel)).trans ?_
        refine (e_iload lL48_2 (by decide)).trans ?_
        refine (f_if_t (f := fun a => Nat.beq a 0) (by decide) (by decide +kernel)).trans ?_
        refine (e_iload lL48_1 (by decide)).trans ?_
        refine (f_if_f (f := fun a => z_ne a 0) (by decide) (by decide +kernel)).trans ?_
        refine (e_aload lL48_0 (by decide)).trans ?_
        refine (e_push).trans ?_
        refine (f_putf (ck := ck_int) (k := 61) (by decide +kernel) (by rw [hs8]; decide) g61_8 st61_7 (by rw [ln61_7]; decide) eh9.symm).trans ?_
        show q_X12_single_318 _ _ _ _ _ = _
        exact e_vret (R := zrunX zXt 9 ztc (n + 57)) (d := 1677) (L := L48) (h := h9)
      refine (f_callV (k := 61) (d' := 1677) (S0 := [0, 0, 4294967358]) (S' := []) (S2 := []) (fun q => by rw [zargs_s q (by decide), ← eL43, zargs_s q (by decide), ← eL44, zargs_s q (by decide), ← eL45]; rfl) lL45_0 (by rw [hs8]; decide) g61_8 st61_7 (Nat.le_of_ble_eq_true rfl) m46 (hs9.trans hs8.symm) rfl).trans ?_
      show q_X12_step_87 _ _ _ _ _ = _
      refine (e_aload lL42_0 (by decide)).trans ?_
      refine (f_getf (k := 61) (by rw [hs9]; decide) g61_9 st61_9 (by rw [ln61_9]; decide) v61_4_9).trans ?_
      exact e_ret (R := zrunX zXt 9 ztc (n + 58)) (d := 1678) (L := L42) (h := h9) (v := 1) (by decide)
    refine (f_callV (k := 61) (d' := 1678) (S0 := [4294967358]) (S' := []) (S2 := [1]) (fun q => by rw [zargs_s q (by decide), ← eL23]; rfl) lL23_0 (by rw [hs6]; decide) g61_6 st61_6 (Nat.le_of_ble_eq_true rfl) m24 (hs9.trans hs6.symm) rfl).trans ?_
    refine (f_istore (by decide) eL49.symm).trans ?_
    refine (e_aload lL49_0 (by decide)).trans ?_
    refine (e_dup).trans ?_
    refine (f_getf (k := 61) (by rw [hs9]; decide) g61_9 st61_9 (by rw [ln61_9]; decide) v61_8_9).trans ?_
    refine (e_push).trans ?_
    refine (f_bin (f := z_add) (v := 1) (by decide) (by decide) (by decide +kernel)).trans ?_
    refine (f_putf (ck := ck_int) (k := 61) (by decide +kernel) (by rw [hs9]; decide) g61_9 st61_9 (by rw [ln61_9]; decide) eh10.symm).trans ?_
    refine (e_back (lbl := 211)).trans ?_
    refine (ca_211 (n := n + 58)).trans ?_
    refine (e_aload lL49_0 (by decide)).trans ?_
    refine (f_getf (k := 61) (by rw [hs10]; decide) g61_10 st61_10 (by rw [ln61_10]; decide) v61_8_10).trans ?_
    refine (e_iload lL49_1 hv).trans ?_
    refine (f_cmp_f (f := z_ge) (by decide) hv (zge_f (a := 1) (b := v) (fs_go_in_o3 v hv i1 i2))).trans ?_
    refine (e_iload lL49_2 (by decide)).trans ?_
    refine (f_if_t (f := fun a => z_ne a 0) (by decide) (by decide +kernel)).trans ?_
    refine (e_iload lL49_2 (by decide)).trans ?_
    exact e_ret (R := zrunX zXt 9 ztc (n + 58)) (d := 1679) (L := L49) (h := h10) (v := 1) (by decide)
  rw [eL2, eL1] at A1
  rw [eL17, eL16] at A2
  exact ⟨_, _, _, (by decide), A1, hs4, MS, A2, hs10, sl10⟩
theorem fs_go_big_o0 (v : Nat) (hv : v < 4294967296) (i1 : 5001 ≤ v) (i2 : v < 2147483648) : (1 + 2147483648) % 4294967296 ≤ (v + 2147483648) % 4294967296 := by omega
theorem fs_go_big_o1 (v : Nat) (hv : v < 4294967296) (i1 : 5001 ≤ v) (i2 : v < 2147483648) : (5000 + 2147483648) % 4294967296 < (v + 2147483648) % 4294967296 := by omega
theorem fs_go_big (v : Nat) (hv : v < 4294967296) (i1 : 5001 ≤ v) (i2 : v < 2147483648) (n : Nat) : zFst n 149 (zput (zput 0 1 (v + 1)) 0 (4294967297 + 1)) 210 (zput (zput 0 1 (v + 1)) 0 (4294967358 + 1)) := by
  have hs0 : hbB16.1 = 129 := rfl
  have sl0 : hbB16.2.1 = 650610 := rfl
  obtain ⟨L1, eL1⟩ : ∃ x : Nat, x = zput 0 1 (v + 1) := ⟨_, rfl⟩
  obtain ⟨L2, eL2⟩ : ∃ x : Nat, x = zput L1 0 (4294967297 + 1) := ⟨_, rfl⟩
  have lL1_1 : zlane L1 1 = v + 1 := by rw [eL1]; exact zlane_same (Nat.lt_of_le_of_lt (Nat.succ_le_of_lt hv) (by decide))
  have lL2_1 : zlane L2 1 = v + 1 := by rw [eL2]; exact (zlane_ne (by decide) (by decide)).trans lL1_1
  obtain ⟨L3, eL3⟩ : ∃ x : Nat, x = zput 0 1 (v + 1) := ⟨_, rfl⟩
  obtain ⟨L4, eL4⟩ : ∃ x : Nat, x = zput L3 0 (4294967358 + 1) := ⟨_, rfl⟩
  have lL3_1 : zlane L3 1 = v + 1 := by rw [eL3]; exact zlane_same (Nat.lt_of_le_of_lt (Nat.succ_le_of_lt hv) (by decide))
  have lL4_1 : zlane L4 1 = v + 1 := by rw [eL4]; exact (zlane_ne (by decide) (by decide)).trans lL3_1
  obtain ⟨L5, eL5⟩ : ∃ x : Nat, x = zput 0 2 (5000 + 1) := ⟨_, rfl⟩
  obtain ⟨L6, eL6⟩ : ∃ x : Nat, x = zput L5 1 (1 + 1) := ⟨_, rfl⟩
  obtain ⟨L7, eL7⟩ : ∃ x : Nat, x = zput L6 0 (v + 1) := ⟨_, rfl⟩
  have lL7_0 : zlane L7 0 = v + 1 := by rw [eL7]; exact zlane_same (Nat.lt_of_le_of_lt (Nat.succ_le_of_lt hv) (by decide))
  have lL6_1 : zlane L6 1 = 1 + 1 := by rw [eL6]; exact zlane_same (by decide)
  have lL7_1 : zlane L7 1 = 1 + 1 := by rw [eL7]; exact (zlane_ne (Nat.lt_of_le_of_lt (Nat.succ_le_of_lt hv) (by decide)) (by decide)).trans lL6_1
  have lL5_2 : zlane L5 2 = 5000 + 1 := by rw [eL5]; exact zlane_same (by decide)
  have lL6_2 : zlane L6 2 = 5000 + 1 := by rw [eL6]; exact (zlane_ne (by decide) (by decide)).trans lL5_2
  have lL7_2 : zlane L7 2 = 5000 + 1 := by rw [eL7]; exact (zlane_ne (Nat.lt_of_le_of_lt (Nat.succ_le_of_lt hv) (by decide)) (by decide)).trans lL6_2
  have g61_0 : zget 8 hbB16.2.2 61 = hbB15_c61 := rfl
  have st61_0 : hbB15_c61.1 = 12 := rfl
  have MS : (zget 8 hbB16.2.2 61).1 = 12 := by rw [g61_0]; exact st61_0
  have A1 : zrunX zXt 9 ztc (n + 60) 1679 149 L2 [] hbB16 = some ([4294967295], hbB16) := by
    refine (ca_149 (n := n + 59)).trans ?_
    refine (e_iload lL2_1 hv).trans ?_
    refine (e_push).trans ?_
    refine (f_cmp_f (f := z_lt) hv (by decide) (zlt_f (a := v) (b := 1) (fs_go_big_o0 v hv i1 i2))).trans ?_
    refine (e_iload lL2_1 hv).trans ?_
    refine (e_push).trans ?_
    refine (f_cmp_f (f := z_le) hv (by decide) (zle_f (a := v) (b := 5000) (fs_go_big_o1 v hv i1 i2))).trans ?_
    refine (e_push).trans ?_
    exact e_ret (R := zrunX zXt 9 ztc (n + 59)) (d := 1679) (L := L2) (h := hbB16) (v := 4294967295) (by decide)
  have A2 : zrunX zXt 9 ztc (n + 60) 1679 210 L4 [] hbB16 = some ([4294967295], hbB16) := by
    refine (ca_210 (n := n + 59)).trans ?_
    refine (e_iload lL4_1 hv).trans ?_
    refine (e_push).trans ?_
    refine (e_push).trans ?_
    have m8 : zrunX zXt 9 ztc (n + 59) 1678 217 L7 [] hbB16 = some ([0], hbB16) := by
      refine (ca_217 (n := n + 58)).trans ?_
      refine (e_iload lL7_0 hv).trans ?_
      refine (e_iload lL7_1 (by decide)).trans ?_
      refine (f_cmp_f (f := z_lt) hv (by decide) (zlt_f (a := v) (b := 1) (fs_go_big_o0 v hv i1 i2))).trans ?_
      refine (e_iload lL7_0 hv).trans ?_
      refine (e_iload lL7_2 (by decide)).trans ?_
      refine (f_cmp_t (f := z_gt) hv (by decide) (zgt_t (a := v) (b := 5000) (fs_go_big_o1 v hv i1 i2))).trans ?_
      refine (e_push).trans ?_
      exact e_zret (R := zrunX zXt 9 ztc (n + 58)) (d := 1678) (L := L7) (h := hbB16) (v := 0) (by decide)
    refine (f_callS (d' := 1678) (S0 := [5000, 1, v]) (S' := []) (S2 := [0]) (fun q => by rw [zargs_s q (by decide), ← eL5, zargs_s q (by decide), ← eL6, zargs_s q (Nat.le_of_lt (Nat.lt_trans hv (by decide))), ← eL7]; rfl) (Nat.le_of_ble_eq_true rfl) m8 (hs0.trans hs0.symm) rfl).trans ?_
    refine (f_if_f (f := fun a => z_ne a 0) (by decide) (by decide +kernel)).trans ?_
    refine (e_push).trans ?_
    exact e_ret (R := zrunX zXt 9 ztc (n + 59)) (d := 1679) (L := L4) (h := hbB16) (v := 4294967295) (by decide)
  rw [eL2, eL1] at A1
  rw [eL4, eL3] at A2
  exact ⟨_, _, _, (by decide), A1, hs0, MS, A2, hs0, sl0⟩
