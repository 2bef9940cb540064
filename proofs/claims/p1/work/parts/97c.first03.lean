theorem fs_shown_neg_o0 (v : Nat) (hv : v < 4294967296) (i1 : 2147483648 ≤ v) : (v + 2147483648) % 4294967296 < (0 + 2147483648) % 4294967296 := by omega
theorem fs_shown_neg (v : Nat) (hv : v < 4294967296) (i1 : 2147483648 ≤ v) (n : Nat) : zFst n 168 (zput (zput 0 1 (v + 1)) 0 (4294967297 + 1)) 273 (zput (zput 0 1 (v + 1)) 0 (4294967358 + 1)) := by
  have hs0 : hbB16.1 = 129 := rfl
  have sl0 : hbB16.2.1 = 650610 := rfl
  obtain ⟨L1, eL1⟩ : ∃ x : Nat, x = zput 0 1 (v + 1) := ⟨_, rfl⟩
  obtain ⟨L2, eL2⟩ : ∃ x : Nat, x = zput L1 0 (4294967297 + 1) := ⟨_, rfl⟩
  have lL2_0 : zlane L2 0 = 4294967297 + 1 := by rw [eL2]; exact zlane_same (by decide)
  have v0_7_0 : zcv haA0_c0 7 = 4294967312 := by decide +kernel
  have g0_0 : zget 8 hbB16.2.2 0 = haA0_c0 := rfl
  have st0_0 : haA0_c0.1 = 11 := rfl
  have ln0_0 : haA0_c0.2.1 = 18 := rfl
  have v0_4_0 : zcv haA0_c0 4 = 4294967302 := by decide +kernel
  have v5_1_0 : zcv haA0_c5 1 = 4294967303 := by decide +kernel
  have g5_0 : zget 8 hbB16.2.2 5 = haA0_c5 := rfl
  have st5_0 : haA0_c5.1 = 3 := rfl
  have ln5_0 : haA0_c5.2.1 = 7 := rfl
  have v6_0_0 : zcv haA0_c3 0 = 0 := by decide +kernel
  have g6_0 : zget 8 hbB16.2.2 6 = haA0_c3 := rfl
  have st6_0 : haA0_c3.1 = 100 := rfl
  have ln6_0 : haA0_c3.2.1 = 8 := rfl
  obtain ⟨L3, eL3⟩ : ∃ x : Nat, x = zput 0 1 (0 + 1) := ⟨_, rfl⟩
  obtain ⟨L4, eL4⟩ : ∃ x : Nat, x = zput L3 0 (4294967312 + 1) := ⟨_, rfl⟩
  have lL4_0 : zlane L4 0 = 4294967312 + 1 := by rw [eL4]; exact zlane_same (by decide)
  obtain ⟨L6, eL6⟩ : ∃ x : Nat, x = zput 0 0 (4294967312 + 1) := ⟨_, rfl⟩
  have lL6_0 : zlane L6 0 = 4294967312 + 1 := by rw [eL6]; exact zlane_same (by decide)
  have g15_0 : zget 8 hbB16.2.2 15 = haA0_c15 := rfl
  have st15_0 : haA0_c15.1 = 8 := rfl
  have ln15_0 : haA0_c15.2.1 = 9 := rfl
  obtain ⟨h1, eh1⟩ : ∃ x : zH, x = (hbB16.1, hbB16.2.1, zst 8 hbB16.2.2 15 (fun c => zcst c 3 0)) := ⟨_, rfl⟩
  have hs1 : h1.1 = 129 := by rw [eh1]; exact hs0
  have sl1 : h1.2.1 = 650610 := by rw [eh1]; exact sl0
  obtain ⟨c15_1, ec15_1⟩ : ∃ x : zC, x = zcst haA0_c15 3 0 := ⟨_, rfl⟩
  have g15_1 : zget 8 h1.2.2 15 = c15_1 := by rw [eh1, ec15_1]; exact zg_s (by decide) g15_0
  have st15_1 : c15_1.1 = 8 := by rw [ec15_1]; exact (zcst_1 _ _ _).1.trans st15_0
  have ln15_1 : c15_1.2.1 = 9 := by rw [ec15_1]; exact (zcst_1 _ _ _).2.trans ln15_0
  obtain ⟨h2, eh2⟩ : ∃ x : zH, x = (h1.1, h1.2.1, zst 8 h1.2.2 15 (fun c => zcst c 4 0)) := ⟨_, rfl⟩
  have hs2 : h2.1 = 129 := by rw [eh2]; exact hs1
  have sl2 : h2.2.1 = 650610 := by rw [eh2]; exact sl1
  obtain ⟨c15_2, ec15_2⟩ : ∃ x : zC, x = zcst c15_1 4 0 := ⟨_, rfl⟩
  have g15_2 : zget 8 h2.2.2 15 = c15_2 := by rw [eh2, ec15_2]; exact zg_s (by decide) g15_1
  have st15_2 : c15_2.1 = 8 := by rw [ec15_2]; exact (zcst_1 _ _ _).1.trans st15_1
  have ln15_2 : c15_2.2.1 = 9 := by rw [ec15_2]; exact (zcst_1 _ _ _).2.trans ln15_1
  obtain ⟨h3, eh3⟩ : ∃ x : zH, x = (h2.1, h2.2.1, zst 8 h2.2.2 15 (fun c => zcst c 5 0)) := ⟨_, rfl⟩
  have hs3 : h3.1 = 129 := by rw [eh3]; exact hs2
  have sl3 : h3.2.1 = 650610 := by rw [eh3]; exact sl2
  have lL3_1 : zlane L3 1 = 0 + 1 := by rw [eL3]; exact zlane_same (by decide)
  have lL4_1 : zlane L4 1 = 0 + 1 := by rw [eL4]; exact (zlane_ne (by decide) (by decide)).trans lL3_1
  obtain ⟨L8, eL8⟩ : ∃ x : Nat, x = zput 0 2 (0 + 1) := ⟨_, rfl⟩
  obtain ⟨L9, eL9⟩ : ∃ x : Nat, x = zput L8 1 (0 + 1) := ⟨_, rfl⟩
  obtain ⟨L10, eL10⟩ : ∃ x : Nat, x = zput L9 0 (4294967312 + 1) := ⟨_, rfl⟩
  have lL10_0 : zlane L10 0 = 4294967312 + 1 := by rw [eL10]; exact zlane_same (by decide)
  obtain ⟨c15_3, ec15_3⟩ : ∃ x : zC, x = zcst c15_2 5 0 := ⟨_, rfl⟩
  have v15_1_0 : zcv haA0_c15 1 = 4294967309 := by decide +kernel
  have v15_1_1 : zcv c15_1 1 = 4294967309 := by rw [ec15_1]; exact zcv_n (by decide) (by rw [ln15_0]; decide) (by rw [ln15_0]; decide) (by rw [ln15_0]; decide) (by decide) v15_1_0
  have v15_1_2 : zcv c15_2 1 = 4294967309 := by rw [ec15_2]; exact zcv_n (by decide) (by rw [ln15_1]; decide) (by rw [ln15_1]; decide) (by rw [ln15_1]; decide) (by decide) v15_1_1
  have v15_1_3 : zcv c15_3 1 = 4294967309 := by rw [ec15_3]; exact zcv_n (by decide) (by rw [ln15_2]; decide) (by rw [ln15_2]; decide) (by rw [ln15_2]; decide) (by decide) v15_1_2
  have g15_3 : zget 8 h3.2.2 15 = c15_3 := by rw [eh3, ec15_3]; exact zg_s (by decide) g15_2
  have st15_3 : c15_3.1 = 8 := by rw [ec15_3]; exact (zcst_1 _ _ _).1.trans st15_2
  have ln15_3 : c15_3.2.1 = 9 := by rw [ec15_3]; exact (zcst_1 _ _ _).2.trans ln15_2
  have lL9_1 : zlane L9 1 = 0 + 1 := by rw [eL9]; exact zlane_same (by decide)
  have lL10_1 : zlane L10 1 = 0 + 1 := by rw [eL10]; exact (zlane_ne (by decide) (by decide)).trans lL9_1
  obtain ⟨L12, eL12⟩ : ∃ x : Nat, x = zput 0 1 (0 + 1) := ⟨_, rfl⟩
  obtain ⟨L13, eL13⟩ : ∃ x : Nat, x = zput L12 0 (4294967309 + 1) := ⟨_, rfl⟩
  have lL12_1 : zlane L12 1 = 0 + 1 := by rw [eL12]; exact zlane_same (by decide)
  have lL13_1 : zlane L13 1 = 0 + 1 := by rw [eL13]; exact (zlane_ne (by decide) (by decide)).trans lL12_1
  obtain ⟨L15, eL15⟩ : ∃ x : Nat, x = zput L13 2 (0 + 1) := ⟨_, rfl⟩
  have lL15_2 : zlane L15 2 = 0 + 1 := by rw [eL15]; exact zlane_same (by decide)
  have lL13_0 : zlane L13 0 = 4294967309 + 1 := by rw [eL13]; exact zlane_same (by decide)
  have g12_0 : zget 8 hbB16.2.2 12 = haA0_c12 := rfl
  have g12_1 : zget 8 h1.2.2 12 = haA0_c12 := by rw [eh1]; exact zg_n (by decide) (by decide) (by decide) g12_0
  have g12_2 : zget 8 h2.2.2 12 = haA0_c12 := by rw [eh2]; exact zg_n (by decide) (by decide) (by decide) g12_1
  have g12_3 : zget 8 h3.2.2 12 = haA0_c12 := by rw [eh3]; exact zg_n (by decide) (by decide) (by decide) g12_2
  have st12_0 : haA0_c12.1 = 1 := rfl
  obtain ⟨L16, eL16⟩ : ∃ x : Nat, x = zput L10 3 (0 + 1) := ⟨_, rfl⟩
  have lL16_0 : zlane L16 0 = 4294967312 + 1 := by rw [eL16]; exact (zlane_ne (by decide) (by decide)).trans lL10_0
  have v15_4_2 : zcv c15_2 4 = 0 := by rw [ec15_2]; exact zcv_s (by decide) (by rw [ln15_1]; decide) (by rw [ln15_1]; decide)
  have v15_4_3 : zcv c15_3 4 = 0 := by rw [ec15_3]; exact zcv_n (by decide) (by rw [ln15_2]; decide) (by rw [ln15_2]; decide) (by rw [ln15_2]; decide) (by decide) v15_4_2
  have lL16_3 : zlane L16 3 = 0 + 1 := by rw [eL16]; exact zlane_same (by decide)
  obtain ⟨h4, eh4⟩ : ∃ x : zH, x = (h3.1, h3.2.1, zst 8 h3.2.2 15 (fun c => zcst c 4 1)) := ⟨_, rfl⟩
  have hs4 : h4.1 = 129 := by rw [eh4]; exact hs3
  have sl4 : h4.2.1 = 650610 := by rw [eh4]; exact sl3
  have lL16_1 : zlane L16 1 = 0 + 1 := by rw [eL16]; exact (zlane_ne (by decide) (by decide)).trans lL10_1
  obtain ⟨L17, eL17⟩ : ∃ x : Nat, x = zput 0 2 (0 + 1) := ⟨_, rfl⟩
  obtain ⟨L18, eL18⟩ : ∃ x : Nat, x = zput L17 1 (0 + 1) := ⟨_, rfl⟩
  obtain ⟨L19, eL19⟩ : ∃ x : Nat, x = zput L18 0 (4294967312 + 1) := ⟨_, rfl⟩
  obtain ⟨L21, eL21⟩ : ∃ x : Nat, x = zput L19 3 (0 + 1) := ⟨_, rfl⟩
  have lL18_1 : zlane L18 1 = 0 + 1 := by rw [eL18]; exact zlane_same (by decide)
  have lL19_1 : zlane L19 1 = 0 + 1 := by rw [eL19]; exact (zlane_ne (by decide) (by decide)).trans lL18_1
  have lL21_1 : zlane L21 1 = 0 + 1 := by rw [eL21]; exact (zlane_ne (by decide) (by decide)).trans lL19_1
  obtain ⟨L22, eL22⟩ : ∃ x : Nat, x = zput 0 0 (0 + 1) := ⟨_, rfl⟩
  have lL22_0 : zlane L22 0 = 0 + 1 := by rw [eL22]; exact zlane_same (by decide)
  have lL17_2 : zlane L17 2 = 0 + 1 := by rw [eL17]; exact zlane_same (by decide)
  have lL18_2 : zlane L18 2 = 0 + 1 := by rw [eL18]; exact (zlane_ne (by decide) (by decide)).trans lL17_2
  have lL19_2 : zlane L19 2 = 0 + 1 := by rw [eL19]; exact (zlane_ne (by decide) (by decide)).trans lL18_2
  have lL21_2 : zlane L21 2 = 0 + 1 := by rw [eL21]; exact (zlane_ne (by decide) (by decide)).trans lL19_2
  have lL21_3 : zlane L21 3 = 0 + 1 := by rw [eL21]; exact zlane_same (by decide)
  have lL19_0 : zlane L19 0 = 4294967312 + 1 := by rw [eL19]; exact zlane_same (by decide)
  obtain ⟨c15_4, ec15_4⟩ : ∃ x : zC, x = zcst c15_3 4 1 := ⟨_, rfl⟩
  have g15_4 : zget 8 h4.2.2 15 = c15_4 := by rw [eh4, ec15_4]; exact zg_s (by decide) g15_3
  have st15_4 : c15_4.1 = 8 := by rw [ec15_4]; exact (zcst_1 _ _ _).1.trans st15_3
  have lL1_1 : zlane L1 1 = v + 1 := by rw [eL1]; exact zlane_same (Nat.lt_of_le_of_lt (Nat.succ_le_of_lt hv) (by decide))
  have lL2_1 : zlane L2 1 = v + 1 := by rw [eL2]; exact (zlane_ne (by decide) (by decide)).trans lL1_1
  obtain ⟨L24, eL24⟩ : ∃ x : Nat, x = zput 0 1 (v + 1) := ⟨_, rfl⟩
  obtain ⟨L25, eL25⟩ : ∃ x : Nat, x = zput L24 0 (4294967358 + 1) := ⟨_, rfl⟩
  have lL25_0 : zlane L25 0 = 4294967358 + 1 := by rw [eL25]; exact zlane_same (by decide)
  have v61_1_0 : zcv hbB15_c61 1 = 4294967362 := by decide +kernel
  have g61_0 : zget 8 hbB16.2.2 61 = hbB15_c61 := rfl
  have g61_1 : zget 8 h1.2.2 61 = hbB15_c61 := by rw [eh1]; exact zg_n (by decide) (by decide) (by decide) g61_0
  have g61_2 : zget 8 h2.2.2 61 = hbB15_c61 := by rw [eh2]; exact zg_n (by decide) (by decide) (by decide) g61_1
  have g61_3 : zget 8 h3.2.2 61 = hbB15_c61 := by rw [eh3]; exact zg_n (by decide) (by decide) (by decide) g61_2
  have g61_4 : zget 8 h4.2.2 61 = hbB15_c61 := by rw [eh4]; exact zg_n (by decide) (by decide) (by decide) g61_3
  have st61_0 : hbB15_c61.1 = 12 := rfl
  have ln61_0 : hbB15_c61.2.1 = 114 := rfl
  have v65_0_0 : zcv haB6_c65 0 = 4294967363 := by decide +kernel
  have g65_0 : zget 8 hbB16.2.2 65 = haB6_c65 := rfl
  have g65_1 : zget 8 h1.2.2 65 = haB6_c65 := by rw [eh1]; exact zg_n (by decide) (by decide) (by decide) g65_0
  have g65_2 : zget 8 h2.2.2 65 = haB6_c65 := by rw [eh2]; exact zg_n (by decide) (by decide) (by decide) g65_1
  have g65_3 : zget 8 h3.2.2 65 = haB6_c65 := by rw [eh3]; exact zg_n (by decide) (by decide) (by decide) g65_2
  have g65_4 : zget 8 h4.2.2 65 = haB6_c65 := by rw [eh4]; exact zg_n (by decide) (by decide) (by decide) g65_3
  have st65_0 : haB6_c65.1 = 102 := rfl
  have ln65_0 : haB6_c65.2.1 = 2 := rfl
  have v66_0_0 : zcv haA0_c3 0 = 0 := by decide +kernel
  have g66_0 : zget 8 hbB16.2.2 66 = haA0_c3 := rfl
  have g66_1 : zget 8 h1.2.2 66 = haA0_c3 := by rw [eh1]; exact zg_n (by decide) (by decide) (by decide) g66_0
  have g66_2 : zget 8 h2.2.2 66 = haA0_c3 := by rw [eh2]; exact zg_n (by decide) (by decide) (by decide) g66_1
  have g66_3 : zget 8 h3.2.2 66 = haA0_c3 := by rw [eh3]; exact zg_n (by decide) (by decide) (by decide) g66_2
  have g66_4 : zget 8 h4.2.2 66 = haA0_c3 := by rw [eh4]; exact zg_n (by decide) (by decide) (by decide) g66_3
  have st66_0 : haA0_c3.1 = 100 := rfl
  have ln66_0 : haA0_c3.2.1 = 8 := rfl
  obtain ⟨L26, eL26⟩ : ∃ x : Nat, x = zput 0 1 (0 + 1) := ⟨_, rfl⟩
  obtain ⟨L27, eL27⟩ : ∃ x : Nat, x = zput L26 0 (4294967358 + 1) := ⟨_, rfl⟩
  have lL27_0 : zlane L27 0 = 4294967358 + 1 := by rw [eL27]; exact zlane_same (by decide)
  obtain ⟨h5, eh5⟩ : ∃ x : zH, x = (h4.1, h4.2.1, zst 8 h4.2.2 61 (fun c => zcst c 28 0)) := ⟨_, rfl⟩
  have hs5 : h5.1 = 129 := by rw [eh5]; exact hs4
  have sl5 : h5.2.1 = 650610 := by rw [eh5]; exact sl4
  obtain ⟨c61_5, ec61_5⟩ : ∃ x : zC, x = zcst hbB15_c61 28 0 := ⟨_, rfl⟩
  have g61_5 : zget 8 h5.2.2 61 = c61_5 := by rw [eh5, ec61_5]; exact zg_s (by decide) g61_4
  have st61_5 : c61_5.1 = 12 := by rw [ec61_5]; exact (zcst_1 _ _ _).1.trans st61_0
  have ln61_5 : c61_5.2.1 = 114 := by rw [ec61_5]; exact (zcst_1 _ _ _).2.trans ln61_0
  obtain ⟨h6, eh6⟩ : ∃ x : zH, x = (h5.1, h5.2.1, zst 8 h5.2.2 61 (fun c => zcst c 29 0)) := ⟨_, rfl⟩
  have hs6 : h6.1 = 129 := by rw [eh6]; exact hs5
  have sl6 : h6.2.1 = 650610 := by rw [eh6]; exact sl5
  obtain ⟨c61_6, ec61_6⟩ : ∃ x : zC, x = zcst c61_5 29 0 := ⟨_, rfl⟩
  have g61_6 : zget 8 h6.2.2 61 = c61_6 := by rw [eh6, ec61_6]; exact zg_s (by decide) g61_5
  have st61_6 : c61_6.1 = 12 := by rw [ec61_6]; exact (zcst_1 _ _ _).1.trans st61_5
  have ln61_6 : c61_6.2.1 = 114 := by rw [ec61_6]; exact (zcst_1 _ _ _).2.trans ln61_5
  obtain ⟨h7, eh7⟩ : ∃ x : zH, x = (h6.1, h6.2.1, zst 8 h6.2.2 61 (fun c => zcst c 30 0)) := ⟨_, rfl⟩
  have hs7 : h7.1 = 129 := by rw [eh7]; exact hs6
  have sl7 : h7.2.1 = 650610 := by rw [eh7]; exact sl6
  have lL26_1 : zlane L26 1 = 0 + 1 := by rw [eL26]; exact zlane_same (by decide)
  have lL27_1 : zlane L27 1 = 0 + 1 := by rw [eL27]; exact (zlane_ne (by decide) (by decide)).trans lL26_1
  obtain ⟨L29, eL29⟩ : ∃ x : Nat, x = zput 0 2 (0 + 1) := ⟨_, rfl⟩
  obtain ⟨L30, eL30⟩ : ∃ x : Nat, x = zput L29 1 (0 + 1) := ⟨_, rfl⟩
  obtain ⟨L31, eL31⟩ : ∃ x : Nat, x = zput L30 0 (4294967358 + 1) := ⟨_, rfl⟩
  have lL31_0 : zlane L31 0 = 4294967358 + 1 := by rw [eL31]; exact zlane_same (by decide)
  obtain ⟨c61_7, ec61_7⟩ : ∃ x : zC, x = zcst c61_6 30 0 := ⟨_, rfl⟩
  have v61_30_7 : zcv c61_7 30 = 0 := by rw [ec61_7]; exact zcv_s (by decide) (by rw [ln61_6]; decide) (by rw [ln61_6]; decide)
  have g61_7 : zget 8 h7.2.2 61 = c61_7 := by rw [eh7, ec61_7]; exact zg_s (by decide) g61_6
  have st61_7 : c61_7.1 = 12 := by rw [ec61_7]; exact (zcst_1 _ _ _).1.trans st61_6
  have ln61_7 : c61_7.2.1 = 114 := by rw [ec61_7]; exact (zcst_1 _ _ _).2.trans ln61_6
  have v61_29_6 : zcv c61_6 29 = 0 := by rw [ec61_6]; exact zcv_s (by decide) (by rw [ln61_5]; decide) (by rw [ln61_5]; decide)
  have v61_29_7 : zcv c61_7 29 = 0 := by rw [ec61_7]; exact zcv_n (by decide) (by rw [ln61_6]; decide) (by rw [ln61_6]; decide) (by rw [ln61_6]; decide) (by decide) v61_29_6
  have lL30_1 : zlane L30 1 = 0 + 1 := by rw [eL30]; exact zlane_same (by decide)
  have lL31_1 : zlane L31 1 = 0 + 1 := by rw [eL31]; exact (zlane_ne (by decide) (by decide)).trans lL30_1
  obtain ⟨L33, eL33⟩ : ∃ x : Nat, x = zput 0 2 (1 + 1) := ⟨_, rfl⟩
  obtain ⟨L34, eL34⟩ : ∃ x : Nat, x = zput L33 1 (0 + 1) := ⟨_, rfl⟩
  obtain ⟨L35, eL35⟩ : ∃ x : Nat, x = zput L34 0 (4294967358 + 1) := ⟨_, rfl⟩
  have lL34_1 : zlane L34 1 = 0 + 1 := by rw [eL34]; exact zlane_same (by decide)
  have lL35_1 : zlane L35 1 = 0 + 1 := by rw [eL35]; exact (zlane_ne (by decide) (by decide)).trans lL34_1
  have lL35_0 : zlane L35 0 = 4294967358 + 1 := by rw [eL35]; exact zlane_same (by decide)
  obtain ⟨h8, eh8⟩ : ∃ x : zH, x = (h7.1, h7.2.1, zst 8 h7.2.2 61 (fun c => zcst c 29 1)) := ⟨_, rfl⟩
  have hs8 : h8.1 = 129 := by rw [eh8]; exact hs7
  have sl8 : h8.2.1 = 650610 := by rw [eh8]; exact sl7
  obtain ⟨L37, eL37⟩ : ∃ x : Nat, x = zput 0 2 (1 + 1) := ⟨_, rfl⟩
  obtain ⟨L38, eL38⟩ : ∃ x : Nat, x = zput L37 1 (0 + 1) := ⟨_, rfl⟩
  obtain ⟨L39, eL39⟩ : ∃ x : Nat, x = zput L38 0 (4294967358 + 1) := ⟨_, rfl⟩
  have lL38_1 : zlane L38 1 = 0 + 1 := by rw [eL38]; exact zlane_same (by decide)
  have lL39_1 : zlane L39 1 = 0 + 1 := by rw [eL39]; exact (zlane_ne (by decide) (by decide)).trans lL38_1
  have lL39_0 : zlane L39 0 = 4294967358 + 1 := by rw [eL39]; exact zlane_same (by decide)
  obtain ⟨c61_8, ec61_8⟩ : ∃ x : zC, x = zcst c61_7 29 1 := ⟨_, rfl⟩
  have g61_8 : zget 8 h8.2.2 61 = c61_8 := by rw [eh8, ec61_8]; exact zg_s (by decide) g61_7
  have st61_8 : c61_8.1 = 12 := by rw [ec61_8]; exact (zcst_1 _ _ _).1.trans st61_7
  obtain ⟨L41, eL41⟩ : ∃ x : Nat, x = zput 0 1 (0 + 1) := ⟨_, rfl⟩
  obtain ⟨L42, eL42⟩ : ∃ x : Nat, x = zput L41 0 (4294967358 + 1) := ⟨_, rfl⟩
  have lL41_1 : zlane L41 1 = 0 + 1 := by rw [eL41]; exact zlane_same (by decide)
  have lL42_1 : zlane L42 1 = 0 + 1 := by rw [eL42]; exact (zlane_ne (by decide) (by decide)).trans lL41_1
  obtain ⟨L44, eL44⟩ : ∃ x : Nat, x = zput 0 0 (0 + 1) := ⟨_, rfl⟩
  have lL44_0 : zlane L44 0 = 0 + 1 := by rw [eL44]; exact zlane_same (by decide)
  have lL42_0 : zlane L42 0 = 4294967358 + 1 := by rw [eL42]; exact zlane_same (by decide)
  obtain ⟨L46, eL46⟩ : ∃ x : Nat, x = zput 0 2 (6 + 1) := ⟨_, rfl⟩
  obtain ⟨L47, eL47⟩ : ∃ x : Nat, x = zput L46 1 (0 + 1) := ⟨_, rfl⟩
  obtain ⟨L48, eL48⟩ : ∃ x : Nat, x = zput L47 0 (4294967358 + 1) := ⟨_, rfl⟩
  have lL47_1 : zlane L47 1 = 0 + 1 := by rw [eL47]; exact zlane_same (by decide)
  have lL48_1 : zlane L48 1 = 0 + 1 := by rw [eL48]; exact (zlane_ne (by decide) (by decide)).trans lL47_1
  have lL48_0 : zlane L48 0 = 4294967358 + 1 := by rw [eL48]; exact zlane_same (by decide)
  obtain ⟨L50, eL50⟩ : ∃ x : Nat, x = zput 0 1 (0 + 1) := ⟨_, rfl⟩
  obtain ⟨L51, eL51⟩ : ∃ x : Nat, x = zput L50 0 (4294967358 + 1) := ⟨_, rfl⟩
  have lL50_1 : zlane L50 1 = 0 + 1 := by rw [eL50]; exact zlane_same (by decide)
  have lL51_1 : zlane L51 1 = 0 + 1 := by rw [eL51]; exact (zlane_ne (by decide) (by decide)).trans lL50_1
  obtain ⟨L53, eL53⟩ : ∃ x : Nat, x = zput 0 0 (0 + 1) := ⟨_, rfl⟩
  have lL53_0 : zlane L53 0 = 0 + 1 := by rw [eL53]; exact zlane_same (by decide)
  obtain ⟨L55, eL55⟩ : ∃ x : Nat, x = zput 0 2 (68 + 1) := ⟨_, rfl⟩
  obtain ⟨L56, eL56⟩ : ∃ x : Nat, x = zput L55 1 (16 + 1) := ⟨_, rfl⟩
  obtain ⟨L57, eL57⟩ : ∃ x : Nat, x = zput L56 0 (0 + 1) := ⟨_, rfl⟩
  have lL57_0 : zlane L57 0 = 0 + 1 := by rw [eL57]; exact zlane_same (by decide)
  have lL56_1 : zlane L56 1 = 16 + 1 := by rw [eL56]; exact zlane_same (by decide)
  have lL57_1 : zlane L57 1 = 16 + 1 := by rw [eL57]; exact (zlane_ne (by decide) (by decide)).trans lL56_1
  have lL51_0 : zlane L51 0 = 4294967358 + 1 := by rw [eL51]; exact zlane_same (by decide)
  obtain ⟨L59, eL59⟩ : ∃ x : Nat, x = zput 0 2 (2 + 1) := ⟨_, rfl⟩
  obtain ⟨L60, eL60⟩ : ∃ x : Nat, x = zput L59 1 (0 + 1) := ⟨_, rfl⟩
  obtain ⟨L61, eL61⟩ : ∃ x : Nat, x = zput L60 0 (4294967358 + 1) := ⟨_, rfl⟩
  have lL60_1 : zlane L60 1 = 0 + 1 := by rw [eL60]; exact zlane_same (by decide)
  have lL61_1 : zlane L61 1 = 0 + 1 := by rw [eL61]; exact (zlane_ne (by decide) (by decide)).trans lL60_1
  have lL61_0 : zlane L61 0 = 4294967358 + 1 := by rw [eL61]; exact zlane_same (by decide)
  obtain ⟨L63, eL63⟩ : ∃ x : Nat, x = zput 0 2 (5 + 1) := ⟨_, rfl⟩
  obtain ⟨L64, eL64⟩ : ∃ x : Nat, x = zput L63 1 (0 + 1) := ⟨_, rfl⟩
  obtain ⟨L65, eL65⟩ : ∃ x : Nat, x = zput L64 0 (4294967358 + 1) := ⟨_, rfl⟩
  have lL64_1 : zlane L64 1 = 0 + 1 := by rw [eL64]; exact zlane_same (by decide)
  have lL65_1 : zlane L65 1 = 0 + 1 := by rw [eL65]; exact (zlane_ne (by decide) (by decide)).trans lL64_1
  have lL65_0 : zlane L65 0 = 4294967358 + 1 := by rw [eL65]; exact zlane_same (by decide)
  have lL24_1 : zlane L24 1 = v + 1 := by rw [eL24]; exact zlane_same (Nat.lt_of_le_of_lt (Nat.succ_le_of_lt hv) (by decide))
  have lL25_1 : zlane L25 1 = v + 1 := by rw [eL25]; exact (zlane_ne (by decide) (by decide)).trans lL24_1
  have v61_28_5 : zcv c61_5 28 = 0 := by rw [ec61_5]; exact zcv_s (by decide) (by rw [ln61_0]; decide) (by rw [ln61_0]; decide)
  have v61_28_6 : zcv c61_6 28 = 0 := by rw [ec61_6]; exact zcv_n (by decide) (by rw [ln61_5]; decide) (by rw [ln61_5]; decide) (by rw [ln61_5]; decide) (by decide) v61_28_5
  have v61_28_7 : zcv c61_7 28 = 0 := by rw [ec61_7]; exact zcv_n (by decide) (by rw [ln61_6]; decide) (by rw [ln61_6]; decide) (by rw [ln61_6]; decide) (by decide) v61_28_6
  have v61_28_8 : zcv c61_8 28 = 0 := by rw [ec61_8]; exact zcv_n (by decide) (by rw [ln61_7]; decide) (by rw [ln61_7]; decide) (by rw [ln61_7]; decide) (by decide) v61_28_7
  have ln61_8 : c61_8.2.1 = 114 := by rw [ec61_8]; exact (zcst_1 _ _ _).2.trans ln61_7
  obtain ⟨L67, eL67⟩ : ∃ x : Nat, x = zput 0 2 (4294967295 + 1) := ⟨_, rfl⟩
  obtain ⟨L68, eL68⟩ : ∃ x : Nat, x = zput L67 1 (0 + 1) := ⟨_, rfl⟩
  obtain ⟨L69, eL69⟩ : ∃ x : Nat, x = zput L68 0 (v + 1) := ⟨_, rfl⟩
  have lL69_0 : zlane L69 0 = v + 1 := by rw [eL69]; exact zlane_same (Nat.lt_of_le_of_lt (Nat.succ_le_of_lt hv) (by decide))
  have lL68_1 : zlane L68 1 = 0 + 1 := by rw [eL68]; exact zlane_same (by decide)
  have lL69_1 : zlane L69 1 = 0 + 1 := by rw [eL69]; exact (zlane_ne (Nat.lt_of_le_of_lt (Nat.succ_le_of_lt hv) (by decide)) (by decide)).trans lL68_1
  have MS : (zget 8 h4.2.2 61).1 = 12 := by rw [g61_4]; exact st61_0
  have A1 : zrunX zXt 9 ztc (n + 60) 1679 168 L2 [] hbB16 = some ([4294967295], h4) := by
    refine (ca_168 (n := n + 59)).trans ?_
    refine (e_aload lL2_0 (by decide)).trans ?_
    refine (f_getf (k := 0) (by rw [hs0]; decide) g0_0 st0_0 (by rw [ln0_0]; decide) v0_7_0).trans ?_
    refine (e_aload lL2_0 (by decide)).trans ?_
    refine (f_getf (k := 0) (by rw [hs0]; decide) g0_0 st0_0 (by rw [ln0_0]; decide) v0_4_0).trans ?_
    refine (f_getf (k := 5) (by rw [hs0]; decide) g5_0 st5_0 (by rw [ln5_0]; decide) v5_1_0).trans ?_
    refine (e_push).trans ?_
    refine (e_iald (k := 6) (by decide) (by rw [hs0]; decide) g6_0 st6_0 (by rw [ln6_0]; decide) v6_0_0 (by decide)).trans ?_
    have m5 : zrunX zXt 9 ztc (n + 59) 1678 107 L4 [] hbB16 = some ([], h4) := by
      refine (ca_107 (n := n + 58)).trans ?_
      refine (e_aload lL4_0 (by decide)).trans ?_
      have m7 : zrunX zXt 9 ztc (n + 58) 1677 102 L6 [] hbB16 = some ([], h3) := by
        refine (ca_102 (n := n + 57)).trans ?_
        refine (e_aload lL6_0 (by decide)).trans ?_
        refine (e_push).trans ?_
        refine (f_putf (ck := ck_int) (k := 15) (by decide +kernel) (by rw [hs0]; decide) g15_0 st15_0 (by rw [ln15_0]; decide) eh1.symm).trans ?_
        refine (e_aload lL6_0 (by decide)).trans ?_
        refine (e_push).trans ?_
        refine (f_putf (ck := ck_int) (k := 15) (by decide +kernel) (by rw [hs1]; decide) g15_1 st15_1 (by rw [ln15_1]; decide) eh2.symm).trans ?_
        refine (e_aload lL6_0 (by decide)).trans ?_
        refine (e_push).trans ?_
        refine (f_putf (ck := ck_bool) (k := 15) (by decide +kernel) (by rw [hs2]; decide) g15_2 st15_2 (by rw [ln15_2]; decide) eh3.symm).trans ?_
        exact e_vret (R := zrunX zXt 9 ztc (n + 57)) (d := 1677) (L := L6) (h := h3)
      refine (f_callV (k := 15) (d' := 1677) (S0 := [4294967312]) (S' := []) (S2 := []) (fun q => by rw [zargs_s q (by decide), ← eL6]; rfl) lL6_0 (by rw [hs0]; decide) g15_0 st15_0 (Nat.le_of_ble_eq_true rfl) m7 (hs3.trans hs0.symm) rfl).trans ?_
      refine (e_aload lL4_0 (by decide)).trans ?_
      refine (e_iload lL4_1 (by decide)).trans ?_
      refine (e_push).trans ?_
      have m11 : zrunX zXt 9 ztc (n + 58) 1677 106 L10 [] h3 = some ([], h4) := by
        refine (ca_106 (n := n + 57)).trans ?_
        refine (e_aload lL10_0 (by decide)).trans ?_
        refine (f_getf (k := 15) (by rw [hs3]; decide) g15_3 st15_3 (by rw [ln15_3]; decide) v15_1_3).trans ?_
        refine (e_iload lL10_1 (by decide)).trans ?_
        have m14 : zrunX zXt 9 ztc (n + 57) 1676 30 L13 [] h3 = some ([0], h3) := by
          refine (ca_30 (n := n + 56)).trans ?_
          refine (e_iload lL13_1 (by decide)).trans ?_
          refine (e_push).trans ?_
          refine (f_bin (f := z_and) (v := 0) (by decide) (by decide) (by decide +kernel)).trans ?_
          refine (f_if_t (f := fun a => Nat.beq a 0) (by decide) (by decide +kernel)).trans ?_
          refine (e_iload lL13_1 (by decide)).trans ?_
          refine (e_push).trans ?_
          refine (f_cmp_t (f := z_lt) (by decide) (by decide) (by decide +kernel)).trans ?_
          refine (e_iload lL13_1 (by decide)).trans ?_
          refine (e_push).trans ?_
          refine (f_cmp_t (f := z_lt) (by decide) (by decide) (by decide +kernel)).trans ?_
          refine (e_push).trans ?_
          refine (f_istore (by decide) eL15.symm).trans ?_
          refine (e_iload lL15_2 (by decide)).trans ?_
          refine (f_if_t (f := fun a => Nat.beq a 0) (by decide) (by decide +kernel)).trans ?_
          refine (e_push).trans ?_
          exact e_ret (R := zrunX zXt 9 ztc (n + 56)) (d := 1676) (L := L15) (h := h3) (v := 0) (by decide)
        refine (f_callV (k := 12) (d' := 1676) (S0 := [0, 4294967309]) (S' := []) (S2 := [0]) (fun q => by rw [zargs_s q (by decide), ← eL12, zargs_s q (by decide), ← eL13]; rfl) lL13_0 (by rw [hs3]; decide) g12_3 st12_0 (Nat.le_of_ble_eq_true rfl) m14 (hs3.trans hs3.symm) rfl).trans ?_
        refine (f_istore (by decide) eL16.symm).trans ?_
        refine (e_aload lL16_0 (by decide)).trans ?_
        refine (f_getf (k := 15) (by rw [hs3]; decide) g15_3 st15_3 (by rw [ln15_3]; decide) v15_4_3).trans ?_
        refine (e_push).trans ?_
        refine (f_cmp_t (f := z_lt) (by decide) (by decide) (by decide +kernel)).trans ?_
        refine (e_iload lL16_3 (by decide)).trans ?_
        refine (e_push).trans ?_
        refine (f_cmp_t (f := z_ne) (by decide) (by decide) (by decide +kernel)).trans ?_
        refine (e_aload lL16_0 (by decide)).trans ?_
        refine (e_dup).trans ?_
        refine (f_getf (k := 15) (by rw [hs3]; decide) g15_3 st15_3 (by rw [ln15_3]; decide) v15_4_3).trans ?_
        refine (e_push).trans ?_
        refine (f_bin (f := z_add) (v := 1) (by decide) (by decide) (by decide +kernel)).trans ?_
        refine (f_putf (ck := ck_int) (k := 15) (by decide +kernel) (by rw [hs3]; decide) g15_3 st15_3 (by rw [ln15_3]; decide) eh4.symm).trans ?_
        refine (e_iload lL16_3 (by decide)).trans ?_
        refine (e_push).trans ?_
        refine (f_cmp_t (f := z_ne) (by decide) (by decide) (by decide +kernel)).trans ?_
        refine (e_iload lL16_1 (by decide)).trans ?_
        refine (e_push).trans ?_
        refine (f_bin (f := z_and) (v := 0) (by decide) (by decide) (by decide +kernel)).trans ?_
        refine (f_if_t (f := fun a => Nat.beq a 0) (by decide) (by decide +kernel)).trans ?_
        refine (e_iload lL16_3 (by decide)).trans ?_
        refine (e_push).trans ?_
        refine (f_cmp_t (f := z_ne) (by decide) (by decide) (by decide +kernel)).trans ?_
        refine (e_aload lL16_0 (by decide)).trans ?_
        refine (e_iload lL16_1 (by decide)).trans ?_
        refine (e_iload lL16_3 (by decide)).trans ?_
        have m20 : zrunX zXt 9 ztc (n + 57) 1676 105 L19 [] h4 = some ([], h4) := by
          refine (ca_105 (n := n + 56)).trans ?_
          refine (e_push).trans ?_
          refine (f_istore (by decide) eL21.symm).trans ?_
          refine (e_iload lL21_1 (by decide)).trans ?_
          refine (e_push).trans ?_
          refine (f_cmp_t (f := z_ne) (by decide) (by decide) (by decide +kernel)).trans ?_
          refine (e_iload lL21_1 (by decide)).trans ?_
          refine (e_push).trans ?_
          refine (f_cmp_t (f := z_ne) (by decide) (by decide) (by decide +kernel)).trans ?_
          refine (e_iload lL21_1 (by decide)).trans ?_
          refine (e_push).trans ?_
          refine (f_cmp_t (f := z_ne) (by decide) (by decide) (by decide +kernel)).trans ?_
          refine (e_iload lL21_1 (by decide)).trans ?_
          have m23 : zrunX zXt 9 ztc (n + 56) 1675 154 L22 [] h4 = some ([0], h4) := by
            refine (ca_154 (n := n + 55)).trans ?_
            refine (e_iload lL22_0 (by decide)).trans ?_
            refine (e_push).trans ?_
            refine (f_bin (f := z_and) (v := 0) (by decide) (by decide) (by decide +kernel)).trans ?_
            refine (f_if_f (f := fun a => z_ne a 0) (by decide) (by decide +kernel)).trans ?_
            refine (e_iload lL22_0 (by decide)).trans ?_
            refine (e_push).trans ?_
            refine (f_cmp_t (f := z_lt) (by decide) (by decide) (by decide +kernel)).trans ?_
            refine (e_push).trans ?_
            exact e_zret (R := zrunX zXt 9 ztc (n + 55)) (d := 1675) (L := L22) (h := h4) (v := 0) (by decide)
          refine (f_callS (d' := 1675) (S0 := [0]) (S' := []) (S2 := [0]) (fun q => by rw [zargs_s q (by decide), ← eL22]; rfl) (Nat.le_of_ble_eq_true rfl) m23 (hs4.trans hs4.symm) rfl).trans ?_
          refine (f_if_f (f := fun a => z_ne a 0) (by decide) (by decide +kernel)).trans ?_
          refine (e_iload lL21_2 (by decide)).trans ?_
          refine (e_push).trans ?_
          refine (f_cmp_f (f := Nat.beq) (by decide) (by decide) (by decide +kernel)).trans ?_
          refine (e_iload lL21_2 (by decide)).trans ?_
          refine (e_push).trans ?_
          refine (f_cmp_t (f := z_ne) (by decide) (by decide) (by decide +kernel)).trans ?_
          refine (e_iload lL21_1 (by decide)).trans ?_
          refine (e_push).trans ?_
          refine (f_cmp_t (f := z_ne) (by decide) (by decide) (by decide +kernel)).trans ?_
          refine (e_iload lL21_3 (by decide)).trans ?_
          refine (f_if_t (f := fun a => Nat.beq a 0) (by decide) (by decide +kernel)).trans ?_
          exact e_vret (R := zrunX zXt 9 ztc (n + 56)) (d := 1676) (L := L21) (h := h4)
        refine (f_callV (k := 15) (d' := 1676) (S0 := [0, 0, 4294967312]) (S' := []) (S2 := []) (fun q => by rw [zargs_s q (by decide), ← eL17, zargs_s q (by decide), ← eL18, zargs_s q (by decide), ← eL19]; rfl) lL19_0 (by rw [hs4]; decide) g15_4 st15_4 (Nat.le_of_ble_eq_true rfl) m20 (hs4.trans hs4.symm) rfl).trans ?_
        exact e_vret (R := zrunX zXt 9 ztc (n + 57)) (d := 1677) (L := L16) (h := h4)
      refine (f_callV (k := 15) (d' := 1677) (S0 := [0, 0, 4294967312]) (S' := []) (S2 := []) (fun q => by rw [zargs_s q (by decide), ← eL8, zargs_s q (by decide), ← eL9, zargs_s q (by decide), ← eL10]; rfl) lL10_0 (by rw [hs3]; decide) g15_3 st15_3 (Nat.le_of_ble_eq_true rfl) m11 (hs4.trans hs3.symm) rfl).trans ?_
      exact e_vret (R := zrunX zXt 9 ztc (n + 58)) (d := 1678) (L := L4) (h := h4)
    refine (f_callV (k := 15) (d' := 1678) (S0 := [0, 4294967312]) (S' := []) (S2 := []) (fun q => by rw [zargs_s q (by decide), ← eL3, zargs_s q (by decide), ← eL4]; rfl) lL4_0 (by rw [hs0]; decide) g15_0 st15_0 (Nat.le_of_ble_eq_true rfl) m5 (hs4.trans hs0.symm) rfl).trans ?_
    refine (e_iload lL2_1 hv).trans ?_
    refine (f_if_t (f := fun a => z_lt a 0) hv (zlt_t (a := v) (b := 0) (fs_shown_neg_o0 v hv i1))).trans ?_
    refine (e_push).trans ?_
    exact e_ret (R := zrunX zXt 9 ztc (n + 59)) (d := 1679) (L := L2) (h := h4) (v := 4294967295) (by decide)
  have A2 : zrunX zXt 9 ztc (n + 60) 1679 273 L25 [] h4 = some ([4294967295], h8) := by
    refine (ca_273 (n := n + 59)).trans ?_
    refine (e_aload lL25_0 (by decide)).trans ?_
    refine (e_aload lL25_0 (by decide)).trans ?_
    refine (f_getf (k := 61) (by rw [hs4]; decide) g61_4 st61_0 (by rw [ln61_0]; decide) v61_1_0).trans ?_
    refine (e_push).trans ?_
    refine (e_aald (k := 65) (by decide) (by rw [hs4]; decide) g65_4 st65_0 (by rw [ln65_0]; decide) v65_0_0 (by decide)).trans ?_
    refine (e_push).trans ?_
    refine (e_iald (k := 66) (by decide) (by rw [hs4]; decide) g66_4 st66_0 (by rw [ln66_0]; decide) v66_0_0 (by decide)).trans ?_
    have m28 : zrunX zXt 9 ztc (n + 59) 1678 297 L27 [] h4 = some ([], h8) := by
      refine (ca_297 (n := n + 58)).trans ?_
      refine (e_aload lL27_0 (by decide)).trans ?_
      refine (e_push).trans ?_
      refine (f_putf (ck := ck_int) (k := 61) (by decide +kernel) (by rw [hs4]; decide) g61_4 st61_0 (by rw [ln61_0]; decide) eh5.symm).trans ?_
      refine (e_aload lL27_0 (by decide)).trans ?_
      refine (e_push).trans ?_
      refine (f_putf (ck := ck_int) (k := 61) (by decide +kernel) (by rw [hs5]; decide) g61_5 st61_5 (by rw [ln61_5]; decide) eh6.symm).trans ?_
      refine (e_aload lL27_0 (by decide)).trans ?_
      refine (e_push).trans ?_
      refine (f_putf (ck := ck_bool) (k := 61) (by decide +kernel) (by rw [hs6]; decide) g61_6 st61_6 (by rw [ln61_6]; decide) eh7.symm).trans ?_
      refine (e_aload lL27_0 (by decide)).trans ?_
      refine (e_iload lL27_1 (by decide)).trans ?_
      refine (e_push).trans ?_
      have m32 : zrunX zXt 9 ztc (n + 58) 1677 296 L31 [] h7 = some ([], h8) := by
        refine (ca_296 (n := n + 57)).trans ?_
        refine (e_aload lL31_0 (by decide)).trans ?_
        refine (f_getf (k := 61) (by rw [hs7]; decide) g61_7 st61_7 (by rw [ln61_7]; decide) v61_30_7).trans ?_
        refine (f_if_t (f := fun a => Nat.beq a 0) (by decide) (by decide +kernel)).trans ?_
        refine (e_aload lL31_0 (by decide)).trans ?_
        refine (f_getf (k := 61) (by rw [hs7]; decide) g61_7 st61_7 (by rw [ln61_7]; decide) v61_29_7).trans ?_
        refine (e_push).trans ?_
        refine (f_cmp_t (f := z_ne) (by decide) (by decide) (by decide +kernel)).trans ?_
        refine (e_aload lL31_0 (by decide)).trans ?_
        refine (e_iload lL31_1 (by decide)).trans ?_
        refine (e_push).trans ?_
        have m36 : zrunX zXt 9 ztc (n + 57) 1676 233 L35 [] h7 = some ([0], h7) := by
          refine (ca_233 (n := n + 56)).trans ?_
          refine (e_iload lL35_1 (by decide)).trans ?_
          refine (e_push).trans ?_
          refine (f_bin (f := z_and) (v := 0) (by decide) (by decide) (by decide +kernel)).trans ?_
          refine (f_if_f (f := fun a => z_ne a 0) (by decide) (by decide +kernel)).trans ?_
          refine (e_iload lL35_1 (by decide)).trans ?_
          refine (e_push).trans ?_
          refine (f_cmp_t (f := z_lt) (by decide) (by decide) (by decide +kernel)).trans ?_
          refine (e_push).trans ?_
          exact e_zret (R := zrunX zXt 9 ztc (n + 56)) (d := 1676) (L := L35) (h := h7) (v := 0) (by decide)
        refine (f_callV (k := 61) (d' := 1676) (S0 := [1, 0, 4294967358]) (S' := []) (S2 := [0]) (fun q => by rw [zargs_s q (by decide), ← eL33, zargs_s q (by decide), ← eL34, zargs_s q (by decide), ← eL35]; rfl) lL35_0 (by rw [hs7]; decide) g61_7 st61_7 (Nat.le_of_ble_eq_true rfl) m36 (hs7.trans hs7.symm) rfl).trans ?_
        refine (f_if_t (f := fun a => Nat.beq a 0) (by decide) (by decide +kernel)).trans ?_
        refine (e_aload lL31_0 (by decide)).trans ?_
        refine (e_dup).trans ?_
        refine (f_getf (k := 61) (by rw [hs7]; decide) g61_7 st61_7 (by rw [ln61_7]; decide) v61_29_7).trans ?_
        refine (e_push).trans ?_
        refine (f_bin (f := z_add) (v := 1) (by decide) (by decide) (by decide +kernel)).trans ?_
        refine (f_putf (ck := ck_int) (k := 61) (by decide +kernel) (by rw [hs7]; decide) g61_7 st61_7 (by rw [ln61_7]; decide) eh8.symm).trans ?_
        refine (e_aload lL31_0 (by decide)).trans ?_
        refine (e_iload lL31_1 (by decide)).trans ?_
        refine (e_push).trans ?_
        have m40 : zrunX zXt 9 ztc (n + 57) 1676 233 L39 [] h8 = some ([0], h8) := by
          refine (ca_233 (n := n + 56)).trans ?_
          refine (e_iload lL39_1 (by decide)).trans ?_
          refine (e_push).trans ?_
          refine (f_bin (f := z_and) (v := 0) (by decide) (by decide) (by decide +kernel)).trans ?_
          refine (f_if_f (f := fun a => z_ne a 0) (by decide) (by decide +kernel)).trans ?_
          refine (e_iload lL39_1 (by decide)).trans ?_
          refine (e_push).trans ?_
          refine (f_cmp_t (f := z_lt) (by decide) (by decide) (by decide +kernel)).trans ?_
          refine (e_push).trans ?_
          exact e_zret (R := zrunX zXt 9 ztc (n + 56)) (d := 1676) (L := L39) (h := h8) (v := 0) (by decide)
        refine (f_callV (k := 61) (d' := 1676) (S0 := [1, 0, 4294967358]) (S' := []) (S2 := [0]) (fun q => by rw [zargs_s q (by decide), ← eL37, zargs_s q (by decide), ← eL38, zargs_s q (by decide), ← eL39]; rfl) lL39_0 (by rw [hs8]; decide) g61_8 st61_8 (Nat.le_of_ble_eq_true rfl) m40 (hs8.trans hs8.symm) rfl).trans ?_
        refine (f_if_t (f := fun a => Nat.beq a 0) (by decide) (by decide +kernel)).trans ?_
        refine (e_aload lL31_0 (by decide)).trans ?_
        refine (e_iload lL31_1 (by decide)).trans ?_
        have m43 : zrunX zXt 9 ztc (n + 57) 1676 234 L42 [] h8 = some ([], h8) := by
          refine (ca_234 (n := n + 56)).trans ?_
          refine (e_iload lL42_1 (by decide)).trans ?_
          have m45 : zrunX zXt 9 ztc (n + 56) 1675 227 L44 [] h8 = some ([0], h8) := by
            refine (ca_227 (n := n + 55)).trans ?_
            refine (e_iload lL44_0 (by decide)).trans ?_
            refine (e_push).trans ?_
            refine (f_bin (f := z_and) (v := 0) (by decide) (by decide) (by decide +kernel)).trans ?_
            refine (e_push).trans ?_
            refine (f_cmp_t (f := z_ne) (by decide) (by decide) (by decide +kernel)).trans ?_
            refine (e_push).trans ?_
            exact e_zret (R := zrunX zXt 9 ztc (n + 55)) (d := 1675) (L := L44) (h := h8) (v := 0) (by decide)
          refine (f_callS (d' := 1675) (S0 := [0]) (S' := []) (S2 := [0]) (fun q => by rw [zargs_s q (by decide), ← eL44]; rfl) (Nat.le_of_ble_eq_true rfl) m45 (hs8.trans hs8.symm) rfl).trans ?_
          refine (f_if_t (f := fun a => Nat.beq a 0) (by decide) (by decide +kernel)).trans ?_
          refine (e_iload lL42_1 (by decide)).trans ?_
          refine (e_push).trans ?_
          refine (f_cmp_t (f := z_ne) (by decide) (by decide) (by decide +kernel)).trans ?_
          refine (e_aload lL42_0 (by decide)).trans ?_
          refine (e_iload lL42_1 (by decide)).trans ?_
          refine (e_push).trans ?_
          have m49 : zrunX zXt 9 ztc (n + 56) 1675 233 L48 [] h8 = some ([0], h8) := by
            refine (ca_233 (n := n + 55)).trans ?_
            refine (e_iload lL48_1 (by decide)).trans ?_
            refine (e_push).trans ?_
            refine (f_bin (f := z_and) (v := 0) (by decide) (by decide) (by decide +kernel)).trans ?_
            refine (f_if_f (f := fun a => z_ne a 0) (by decide) (by decide +kernel)).trans ?_
            refine (e_iload lL48_1 (by decide)).trans ?_
            refine (e_push).trans ?_
            refine (f_cmp_t (f := z_lt) (by decide) (by decide) (by decide +kernel)).trans ?_
            refine (e_push).trans ?_
            exact e_zret (R := zrunX zXt 9 ztc (n + 55)) (d := 1675) (L := L48) (h := h8) (v := 0) (by decide)
          refine (f_callV (k := 61) (d' := 1675) (S0 := [6, 0, 4294967358]) (S' := []) (S2 := [0]) (fun q => by rw [zargs_s q (by decide), ← eL46, zargs_s q (by decide), ← eL47, zargs_s q (by decide), ← eL48]; rfl) lL48_0 (by rw [hs8]; decide) g61_8 st61_8 (Nat.le_of_ble_eq_true rfl) m49 (hs8.trans hs8.symm) rfl).trans ?_
          refine (f_if_t (f := fun a => Nat.beq a 0) (by decide) (by decide +kernel)).trans ?_
          refine (e_iload lL42_1 (by decide)).trans ?_
          refine (e_push).trans ?_
          refine (f_cmp_f (f := Nat.beq) (by decide) (by decide) (by decide +kernel)).trans ?_
          refine (e_iload lL42_1 (by decide)).trans ?_
          refine (e_push).trans ?_
          refine (f_cmp_f (f := Nat.beq) (by decide) (by decide) (by decide +kernel)).trans ?_
          refine (e_iload lL42_1 (by decide)).trans ?_
          refine (e_push).trans ?_
          refine (f_cmp_f (f := Nat.beq) (by decide) (by decide) (by decide +kernel)).trans ?_
          refine (e_aload lL42_0 (by decide)).trans ?_
          refine (e_iload lL42_1 (by decide)).trans ?_
          have m52 : zrunX zXt 9 ztc (n + 56) 1675 229 L51 [] h8 = some ([0], h8) := by
            refine (ca_229 (n := n + 55)).trans ?_
            refine (e_iload lL51_1 (by decide)).trans ?_
            have m54 : zrunX zXt 9 ztc (n + 55) 1674 228 L53 [] h8 = some ([0], h8) := by
              refine (ca_228 (n := n + 54)).trans ?_
              refine (e_iload lL53_0 (by decide)).trans ?_
              refine (e_push).trans ?_
              refine (f_bin (f := z_and) (v := 0) (by decide) (by decide) (by decide +kernel)).trans ?_
              refine (f_if_f (f := fun a => z_ne a 0) (by decide) (by decide +kernel)).trans ?_
              refine (e_iload lL53_0 (by decide)).trans ?_
              refine (e_push).trans ?_
              refine (e_push).trans ?_
              have m58 : zrunX zXt 9 ztc (n + 54) 1673 217 L57 [] h8 = some ([0], h8) := by
                refine (ca_217 (n := n + 53)).trans ?_
                refine (e_iload lL57_0 (by decide)).trans ?_
                refine (e_iload lL57_1 (by decide)).trans ?_
                refine (f_cmp_t (f := z_lt) (by decide) (by decide) (by decide +kernel)).trans ?_
                refine (e_push).trans ?_
                exact e_zret (R := zrunX zXt 9 ztc (n + 53)) (d := 1673) (L := L57) (h := h8) (v := 0) (by decide)
              refine (f_callS (d' := 1673) (S0 := [68, 16, 0]) (S' := []) (S2 := [0]) (fun q => by rw [zargs_s q (by decide), ← eL55, zargs_s q (by decide), ← eL56, zargs_s q (by decide), ← eL57]; rfl) (Nat.le_of_ble_eq_true rfl) m58 (hs8.trans hs8.symm) rfl).trans ?_
              refine (f_if_t (f := fun a => Nat.beq a 0) (by decide) (by decide +kernel)).trans ?_
              refine (e_push).trans ?_
              exact e_zret (R := zrunX zXt 9 ztc (n + 54)) (d := 1674) (L := L53) (h := h8) (v := 0) (by decide)
            refine (f_callS (d' := 1674) (S0 := [0]) (S' := []) (S2 := [0]) (fun q => by rw [zargs_s q (by decide), ← eL53]; rfl) (Nat.le_of_ble_eq_true rfl) m54 (hs8.trans hs8.symm) rfl).trans ?_
            refine (f_if_f (f := fun a => z_ne a 0) (by decide) (by decide +kernel)).trans ?_
            refine (e_aload lL51_0 (by decide)).trans ?_
            refine (e_iload lL51_1 (by decide)).trans ?_
            refine (e_push).trans ?_
            have m62 : zrunX zXt 9 ztc (n + 55) 1674 233 L61 [] h8 = some ([0], h8) := by
              refine (ca_233 (n := n + 54)).trans ?_
              refine (e_iload lL61_1 (by decide)).trans ?_
              refine (e_push).trans ?_
              refine (f_bin (f := z_and) (v := 0) (by decide) (by decide) (by decide +kernel)).trans ?_
              refine (f_if_f (f := fun a => z_ne a 0) (by decide) (by decide +kernel)).trans ?_
              refine (e_iload lL61_1 (by decide)).trans ?_
              refine (e_push).trans ?_
              refine (f_cmp_t (f := z_lt) (by decide) (by decide) (by decide +kernel)).trans ?_
              refine (e_push).trans ?_
              exact e_zret (R := zrunX zXt 9 ztc (n + 54)) (d := 1674) (L := L61) (h := h8) (v := 0) (by decide)
            refine (f_callV (k := 61) (d' := 1674) (S0 := [2, 0, 4294967358]) (S' := []) (S2 := [0]) (fun q => by rw [zargs_s q (by decide), ← eL59, zargs_s q (by decide), ← eL60, zargs_s q (by decide), ← eL61]; rfl) lL61_0 (by rw [hs8]; decide) g61_8 st61_8 (Nat.le_of_ble_eq_true rfl) m62 (hs8.trans hs8.symm) rfl).trans ?_
            refine (f_if_f (f := fun a => z_ne a 0) (by decide) (by decide +kernel)).trans ?_
            refine (e_aload lL51_0 (by decide)).trans ?_
            refine (e_iload lL51_1 (by decide)).trans ?_
            refine (e_push).trans ?_
            have m66 : zrunX zXt 9 ztc (n + 55) 1674 233 L65 [] h8 = some ([0], h8) := by
              refine (ca_233 (n := n + 54)).trans ?_
              refine (e_iload lL65_1 (by decide)).trans ?_
              refine (e_push).trans ?_
              refine (f_bin (f := z_and) (v := 0) (by decide) (by decide) (by decide +kernel)).trans ?_
              refine (f_if_f (f := fun a => z_ne a 0) (by decide) (by decide +kernel)).trans ?_
              refine (e_iload lL65_1 (by decide)).trans ?_
              refine (e_push).trans ?_
              refine (f_cmp_t (f := z_lt) (by decide) (by decide) (by decide +kernel)).trans ?_
              refine (e_push).trans ?_
              exact e_zret (R := zrunX zXt 9 ztc (n + 54)) (d := 1674) (L := L65) (h := h8) (v := 0) (by decide)
            refine (f_callV (k := 61) (d' := 1674) (S0 := [5, 0, 4294967358]) (S' := []) (S2 := [0]) (fun q => by rw [zargs_s q (by decide), ← eL63, zargs_s q (by decide), ← eL64, zargs_s q (by decide), ← eL65]; rfl) lL65_0 (by rw [hs8]; decide) g61_8 st61_8 (Nat.le_of_ble_eq_true rfl) m66 (hs8.trans hs8.symm) rfl).trans ?_
            refine (f_if_t (f := fun a => Nat.beq a 0) (by decide) (by decide +kernel)).trans ?_
            refine (e_push).trans ?_
            exact e_zret (R := zrunX zXt 9 ztc (n + 55)) (d := 1675) (L := L51) (h := h8) (v := 0) (by decide)
          refine (f_callV (k := 61) (d' := 1675) (S0 := [0, 4294967358]) (S' := []) (S2 := [0]) (fun q => by rw [zargs_s q (by decide), ← eL50, zargs_s q (by decide), ← eL51]; rfl) lL51_0 (by rw [hs8]; decide) g61_8 st61_8 (Nat.le_of_ble_eq_true rfl) m52 (hs8.trans hs8.symm) rfl).trans ?_
          refine (f_if_t (f := fun a => Nat.beq a 0) (by decide) (by decide +kernel)).trans ?_
          exact e_vret (R := zrunX zXt 9 ztc (n + 56)) (d := 1676) (L := L42) (h := h8)
        refine (f_callV (k := 61) (d' := 1676) (S0 := [0, 4294967358]) (S' := []) (S2 := []) (fun q => by rw [zargs_s q (by decide), ← eL41, zargs_s q (by decide), ← eL42]; rfl) lL42_0 (by rw [hs8]; decide) g61_8 st61_8 (Nat.le_of_ble_eq_true rfl) m43 (hs8.trans hs8.symm) rfl).trans ?_
        exact e_vret (R := zrunX zXt 9 ztc (n + 57)) (d := 1677) (L := L31) (h := h8)
      refine (f_callV (k := 61) (d' := 1677) (S0 := [0, 0, 4294967358]) (S' := []) (S2 := []) (fun q => by rw [zargs_s q (by decide), ← eL29, zargs_s q (by decide), ← eL30, zargs_s q (by decide), ← eL31]; rfl) lL31_0 (by rw [hs7]; decide) g61_7 st61_7 (Nat.le_of_ble_eq_true rfl) m32 (hs8.trans hs7.symm) rfl).trans ?_
      exact e_vret (R := zrunX zXt 9 ztc (n + 58)) (d := 1678) (L := L27) (h := h8)
    refine (f_callV (k := 61) (d' := 1678) (S0 := [0, 4294967358]) (S' := []) (S2 := []) (fun q => by rw [zargs_s q (by decide), ← eL26, zargs_s q (by decide), ← eL27]; rfl) lL27_0 (by rw [hs4]; decide) g61_4 st61_0 (Nat.le_of_ble_eq_true rfl) m28 (hs8.trans hs4.symm) rfl).trans ?_
    refine (e_iload lL25_1 hv).trans ?_
    refine (e_push).trans ?_
    refine (e_aload lL25_0 (by decide)).trans ?_
    refine (f_getf (k := 61) (by rw [hs8]; decide) g61_8 st61_8 (by rw [ln61_8]; decide) v61_28_8).trans ?_
    refine (e_push).trans ?_
    refine (f_bin (f := z_sub) (v := 4294967295) (by decide) (by decide) (by decide +kernel)).trans ?_
    have m70 : zrunX zXt 9 ztc (n + 59) 1678 217 L69 [] h8 = some ([0], h8) := by
      refine (ca_217 (n := n + 58)).trans ?_
      refine (e_iload lL69_0 hv).trans ?_
      refine (e_iload lL69_1 (by decide)).trans ?_
      refine (f_cmp_t (f := z_lt) hv (by decide) (zlt_t (a := v) (b := 0) (fs_shown_neg_o0 v hv i1))).trans ?_
      refine (e_push).trans ?_
      exact e_zret (R := zrunX zXt 9 ztc (n + 58)) (d := 1678) (L := L69) (h := h8) (v := 0) (by decide)
    refine (f_callS (d' := 1678) (S0 := [4294967295, 0, v]) (S' := []) (S2 := [0]) (fun q => by rw [zargs_s q (by decide), ← eL67, zargs_s q (by decide), ← eL68, zargs_s q (Nat.le_of_lt (Nat.lt_trans hv (by decide))), ← eL69]; rfl) (Nat.le_of_ble_eq_true rfl) m70 (hs8.trans hs8.symm) rfl).trans ?_
    refine (f_if_t (f := fun a => Nat.beq a 0) (by decide) (by decide +kernel)).trans ?_
    refine (e_push).trans ?_
    exact e_ret (R := zrunX zXt 9 ztc (n + 59)) (d := 1679) (L := L25) (h := h8) (v := 4294967295) (by decide)
  rw [eL2, eL1] at A1
  rw [eL25, eL24] at A2
  exact ⟨_, _, _, (by decide), A1, hs4, MS, A2, hs8, sl8⟩
