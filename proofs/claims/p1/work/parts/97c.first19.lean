theorem fs_feed (x1 : Nat) (hx1 : x1 < 4294967296) (x2 : Nat) (hx2 : x2 < 4294967296) (x3 : Nat) (hx3 : x3 < 4294967296) (x4 : Nat) (hx4 : x4 < 4294967296) (x5 : Nat) (hx5 : x5 < 4294967296) (n : Nat) : zFst n 148 (zput (zput (zput (zput (zput (zput 0 5 (x5 + 1)) 4 (x4 + 1)) 3 (x3 + 1)) 2 (x2 + 1)) 1 (x1 + 1)) 0 (4294967297 + 1)) 202 (zput (zput (zput (zput (zput (zput 0 5 (x5 + 1)) 4 (x4 + 1)) 3 (x3 + 1)) 2 (x2 + 1)) 1 (x1 + 1)) 0 (4294967358 + 1)) := by
  have hs0 : hbB16.1 = 129 := rfl
  have sl0 : hbB16.2.1 = 650610 := rfl
  obtain ⟨L1, eL1⟩ : ∃ x : Nat, x = zput 0 5 (x5 + 1) := ⟨_, rfl⟩
  obtain ⟨L2, eL2⟩ : ∃ x : Nat, x = zput L1 4 (x4 + 1) := ⟨_, rfl⟩
  obtain ⟨L3, eL3⟩ : ∃ x : Nat, x = zput L2 3 (x3 + 1) := ⟨_, rfl⟩
  obtain ⟨L4, eL4⟩ : ∃ x : Nat, x = zput L3 2 (x2 + 1) := ⟨_, rfl⟩
  obtain ⟨L5, eL5⟩ : ∃ x : Nat, x = zput L4 1 (x1 + 1) := ⟨_, rfl⟩
  obtain ⟨L6, eL6⟩ : ∃ x : Nat, x = zput L5 0 (4294967297 + 1) := ⟨_, rfl⟩
  have lL6_0 : zlane L6 0 = 4294967297 + 1 := by rw [eL6]; exact zlane_same (by decide)
  have v0_1_0 : zcv haA0_c0 1 = 0 := by decide +kernel
  have g0_0 : zget 8 hbB16.2.2 0 = haA0_c0 := rfl
  have st0_0 : haA0_c0.1 = 11 := rfl
  have ln0_0 : haA0_c0.2.1 = 18 := rfl
  have lL5_1 : zlane L5 1 = x1 + 1 := by rw [eL5]; exact zlane_same (Nat.lt_of_le_of_lt (Nat.succ_le_of_lt hx1) (by decide))
  have lL6_1 : zlane L6 1 = x1 + 1 := by rw [eL6]; exact (zlane_ne (by decide) (by decide)).trans lL5_1
  obtain ⟨L7, eL7⟩ : ∃ x : Nat, x = zput 0 1 (x1 + 1) := ⟨_, rfl⟩
  obtain ⟨L8, eL8⟩ : ∃ x : Nat, x = zput L7 0 (4294967297 + 1) := ⟨_, rfl⟩
  obtain ⟨L10, eL10⟩ : ∃ x : Nat, x = zput L8 2 (24 + 1) := ⟨_, rfl⟩
  have lL10_2 : zlane L10 2 = 24 + 1 := by rw [eL10]; exact zlane_same (by decide)
  have lL8_0 : zlane L8 0 = 4294967297 + 1 := by rw [eL8]; exact zlane_same (by decide)
  have lL10_0 : zlane L10 0 = 4294967297 + 1 := by rw [eL10]; exact (zlane_ne (by decide) (by decide)).trans lL8_0
  have v0_0_0 : zcv haA0_c0 0 = 4294967298 := by decide +kernel
  have lL7_1 : zlane L7 1 = x1 + 1 := by rw [eL7]; exact zlane_same (Nat.lt_of_le_of_lt (Nat.succ_le_of_lt hx1) (by decide))
  have lL8_1 : zlane L8 1 = x1 + 1 := by rw [eL8]; exact (zlane_ne (by decide) (by decide)).trans lL7_1
  have lL10_1 : zlane L10 1 = x1 + 1 := by rw [eL10]; exact (zlane_ne (by decide) (by decide)).trans lL8_1
  have g1_0 : zget 8 hbB16.2.2 1 = haA0_c1 := rfl
  have st1_0 : haA0_c1.1 = 100 := rfl
  have ln1_0 : haA0_c1.2.1 = 2000 := rfl
  obtain ⟨h1, eh1⟩ : ∃ x : zH, x = (hbB16.1, hbB16.2.1, zst 8 hbB16.2.2 1 (fun c => zcst c 0 ((z_shr x1 24) % 256))) := ⟨_, rfl⟩
  have hs1 : h1.1 = 129 := by rw [eh1]; exact hs0
  have sl1 : h1.2.1 = 650610 := by rw [eh1]; exact sl0
  have g0_1 : zget 8 h1.2.2 0 = haA0_c0 := by rw [eh1]; exact zg_n (by decide) (by decide) (by decide) g0_0
  obtain ⟨h2, eh2⟩ : ∃ x : zH, x = (h1.1, h1.2.1, zst 8 h1.2.2 0 (fun c => zcst c 1 1)) := ⟨_, rfl⟩
  have hs2 : h2.1 = 129 := by rw [eh2]; exact hs1
  have sl2 : h2.2.1 = 650610 := by rw [eh2]; exact sl1
  obtain ⟨L11, eL11⟩ : ∃ x : Nat, x = zput L10 2 (16 + 1) := ⟨_, rfl⟩
  have lL11_2 : zlane L11 2 = 16 + 1 := by rw [eL11]; exact zlane_same (by decide)
  have lL11_0 : zlane L11 0 = 4294967297 + 1 := by rw [eL11]; exact (zlane_ne (by decide) (by decide)).trans lL10_0
  obtain ⟨c0_2, ec0_2⟩ : ∃ x : zC, x = zcst haA0_c0 1 1 := ⟨_, rfl⟩
  have v0_1_2 : zcv c0_2 1 = 1 := by rw [ec0_2]; exact zcv_s (by decide) (by rw [ln0_0]; decide) (by rw [ln0_0]; decide)
  have g0_2 : zget 8 h2.2.2 0 = c0_2 := by rw [eh2, ec0_2]; exact zg_s (by decide) g0_1
  have st0_2 : c0_2.1 = 11 := by rw [ec0_2]; exact (zcst_1 _ _ _).1.trans st0_0
  have ln0_2 : c0_2.2.1 = 18 := by rw [ec0_2]; exact (zcst_1 _ _ _).2.trans ln0_0
  have v0_0_2 : zcv c0_2 0 = 4294967298 := by rw [ec0_2]; exact zcv_n (by decide) (by rw [ln0_0]; decide) (by rw [ln0_0]; decide) (by rw [ln0_0]; decide) (by decide) v0_0_0
  have lL11_1 : zlane L11 1 = x1 + 1 := by rw [eL11]; exact (zlane_ne (by decide) (by decide)).trans lL10_1
  obtain ⟨c1_1, ec1_1⟩ : ∃ x : zC, x = zcst haA0_c1 0 ((z_shr x1 24) % 256) := ⟨_, rfl⟩
  have g1_1 : zget 8 h1.2.2 1 = c1_1 := by rw [eh1, ec1_1]; exact zg_s (by decide) g1_0
  have g1_2 : zget 8 h2.2.2 1 = c1_1 := by rw [eh2]; exact zg_n (by decide) (by decide) (by decide) g1_1
  have st1_1 : c1_1.1 = 100 := by rw [ec1_1]; exact (zcst_1 _ _ _).1.trans st1_0
  have ln1_1 : c1_1.2.1 = 2000 := by rw [ec1_1]; exact (zcst_1 _ _ _).2.trans ln1_0
  obtain ⟨h3, eh3⟩ : ∃ x : zH, x = (h2.1, h2.2.1, zst 8 h2.2.2 1 (fun c => zcst c 1 ((z_shr x1 16) % 256))) := ⟨_, rfl⟩
  have hs3 : h3.1 = 129 := by rw [eh3]; exact hs2
  have sl3 : h3.2.1 = 650610 := by rw [eh3]; exact sl2
  have g0_3 : zget 8 h3.2.2 0 = c0_2 := by rw [eh3]; exact zg_n (by decide) (by decide) (by decide) g0_2
  obtain ⟨h4, eh4⟩ : ∃ x : zH, x = (h3.1, h3.2.1, zst 8 h3.2.2 0 (fun c => zcst c 1 2)) := ⟨_, rfl⟩
  have hs4 : h4.1 = 129 := by rw [eh4]; exact hs3
  have sl4 : h4.2.1 = 650610 := by rw [eh4]; exact sl3
  obtain ⟨L12, eL12⟩ : ∃ x : Nat, x = zput L11 2 (8 + 1) := ⟨_, rfl⟩
  have lL12_2 : zlane L12 2 = 8 + 1 := by rw [eL12]; exact zlane_same (by decide)
  have lL12_0 : zlane L12 0 = 4294967297 + 1 := by rw [eL12]; exact (zlane_ne (by decide) (by decide)).trans lL11_0
  obtain ⟨c0_4, ec0_4⟩ : ∃ x : zC, x = zcst c0_2 1 2 := ⟨_, rfl⟩
  have v0_1_4 : zcv c0_4 1 = 2 := by rw [ec0_4]; exact zcv_s (by decide) (by rw [ln0_2]; decide) (by rw [ln0_2]; decide)
  have g0_4 : zget 8 h4.2.2 0 = c0_4 := by rw [eh4, ec0_4]; exact zg_s (by decide) g0_3
  have st0_4 : c0_4.1 = 11 := by rw [ec0_4]; exact (zcst_1 _ _ _).1.trans st0_2
  have ln0_4 : c0_4.2.1 = 18 := by rw [ec0_4]; exact (zcst_1 _ _ _).2.trans ln0_2
  have v0_0_4 : zcv c0_4 0 = 4294967298 := by rw [ec0_4]; exact zcv_n (by decide) (by rw [ln0_2]; decide) (by rw [ln0_2]; decide) (by rw [ln0_2]; decide) (by decide) v0_0_2
  have lL12_1 : zlane L12 1 = x1 + 1 := by rw [eL12]; exact (zlane_ne (by decide) (by decide)).trans lL11_1
  obtain ⟨c1_3, ec1_3⟩ : ∃ x : zC, x = zcst c1_1 1 ((z_shr x1 16) % 256) := ⟨_, rfl⟩
  have g1_3 : zget 8 h3.2.2 1 = c1_3 := by rw [eh3, ec1_3]; exact zg_s (by decide) g1_2
  have g1_4 : zget 8 h4.2.2 1 = c1_3 := by rw [eh4]; exact zg_n (by decide) (by decide) (by decide) g1_3
  have st1_3 : c1_3.1 = 100 := by rw [ec1_3]; exact (zcst_1 _ _ _).1.trans st1_1
  have ln1_3 : c1_3.2.1 = 2000 := by rw [ec1_3]; exact (zcst_1 _ _ _).2.trans ln1_1
  obtain ⟨h5, eh5⟩ : ∃ x : zH, x = (h4.1, h4.2.1, zst 8 h4.2.2 1 (fun c => zcst c 2 ((z_shr x1 8) % 256))) := ⟨_, rfl⟩
  have hs5 : h5.1 = 129 := by rw [eh5]; exact hs4
  have sl5 : h5.2.1 = 650610 := by rw [eh5]; exact sl4
  have g0_5 : zget 8 h5.2.2 0 = c0_4 := by rw [eh5]; exact zg_n (by decide) (by decide) (by decide) g0_4
  obtain ⟨h6, eh6⟩ : ∃ x : zH, x = (h5.1, h5.2.1, zst 8 h5.2.2 0 (fun c => zcst c 1 3)) := ⟨_, rfl⟩
  have hs6 : h6.1 = 129 := by rw [eh6]; exact hs5
  have sl6 : h6.2.1 = 650610 := by rw [eh6]; exact sl5
  obtain ⟨L13, eL13⟩ : ∃ x : Nat, x = zput L12 2 (0 + 1) := ⟨_, rfl⟩
  have lL13_2 : zlane L13 2 = 0 + 1 := by rw [eL13]; exact zlane_same (by decide)
  have lL13_0 : zlane L13 0 = 4294967297 + 1 := by rw [eL13]; exact (zlane_ne (by decide) (by decide)).trans lL12_0
  obtain ⟨c0_6, ec0_6⟩ : ∃ x : zC, x = zcst c0_4 1 3 := ⟨_, rfl⟩
  have v0_1_6 : zcv c0_6 1 = 3 := by rw [ec0_6]; exact zcv_s (by decide) (by rw [ln0_4]; decide) (by rw [ln0_4]; decide)
  have g0_6 : zget 8 h6.2.2 0 = c0_6 := by rw [eh6, ec0_6]; exact zg_s (by decide) g0_5
  have st0_6 : c0_6.1 = 11 := by rw [ec0_6]; exact (zcst_1 _ _ _).1.trans st0_4
  have ln0_6 : c0_6.2.1 = 18 := by rw [ec0_6]; exact (zcst_1 _ _ _).2.trans ln0_4
  have v0_0_6 : zcv c0_6 0 = 4294967298 := by rw [ec0_6]; exact zcv_n (by decide) (by rw [ln0_4]; decide) (by rw [ln0_4]; decide) (by rw [ln0_4]; decide) (by decide) v0_0_4
  have lL13_1 : zlane L13 1 = x1 + 1 := by rw [eL13]; exact (zlane_ne (by decide) (by decide)).trans lL12_1
  obtain ⟨c1_5, ec1_5⟩ : ∃ x : zC, x = zcst c1_3 2 ((z_shr x1 8) % 256) := ⟨_, rfl⟩
  have g1_5 : zget 8 h5.2.2 1 = c1_5 := by rw [eh5, ec1_5]; exact zg_s (by decide) g1_4
  have g1_6 : zget 8 h6.2.2 1 = c1_5 := by rw [eh6]; exact zg_n (by decide) (by decide) (by decide) g1_5
  have st1_5 : c1_5.1 = 100 := by rw [ec1_5]; exact (zcst_1 _ _ _).1.trans st1_3
  have ln1_5 : c1_5.2.1 = 2000 := by rw [ec1_5]; exact (zcst_1 _ _ _).2.trans ln1_3
  obtain ⟨h7, eh7⟩ : ∃ x : zH, x = (h6.1, h6.2.1, zst 8 h6.2.2 1 (fun c => zcst c 3 ((z_shr x1 0) % 256))) := ⟨_, rfl⟩
  have hs7 : h7.1 = 129 := by rw [eh7]; exact hs6
  have sl7 : h7.2.1 = 650610 := by rw [eh7]; exact sl6
  have g0_7 : zget 8 h7.2.2 0 = c0_6 := by rw [eh7]; exact zg_n (by decide) (by decide) (by decide) g0_6
  obtain ⟨h8, eh8⟩ : ∃ x : zH, x = (h7.1, h7.2.1, zst 8 h7.2.2 0 (fun c => zcst c 1 4)) := ⟨_, rfl⟩
  have hs8 : h8.1 = 129 := by rw [eh8]; exact hs7
  have sl8 : h8.2.1 = 650610 := by rw [eh8]; exact sl7
  obtain ⟨L14, eL14⟩ : ∃ x : Nat, x = zput L13 2 (4294967288 + 1) := ⟨_, rfl⟩
  have lL14_2 : zlane L14 2 = 4294967288 + 1 := by rw [eL14]; exact zlane_same (by decide)
  have lL4_2 : zlane L4 2 = x2 + 1 := by rw [eL4]; exact zlane_same (Nat.lt_of_le_of_lt (Nat.succ_le_of_lt hx2) (by decide))
  have lL5_2 : zlane L5 2 = x2 + 1 := by rw [eL5]; exact (zlane_ne (Nat.lt_of_le_of_lt (Nat.succ_le_of_lt hx1) (by decide)) (by decide)).trans lL4_2
  have lL6_2 : zlane L6 2 = x2 + 1 := by rw [eL6]; exact (zlane_ne (by decide) (by decide)).trans lL5_2
  obtain ⟨L15, eL15⟩ : ∃ x : Nat, x = zput 0 1 (x2 + 1) := ⟨_, rfl⟩
  obtain ⟨L16, eL16⟩ : ∃ x : Nat, x = zput L15 0 (4294967297 + 1) := ⟨_, rfl⟩
  obtain ⟨L18, eL18⟩ : ∃ x : Nat, x = zput L16 2 (24 + 1) := ⟨_, rfl⟩
  have lL18_2 : zlane L18 2 = 24 + 1 := by rw [eL18]; exact zlane_same (by decide)
  have lL16_0 : zlane L16 0 = 4294967297 + 1 := by rw [eL16]; exact zlane_same (by decide)
  have lL18_0 : zlane L18 0 = 4294967297 + 1 := by rw [eL18]; exact (zlane_ne (by decide) (by decide)).trans lL16_0
  obtain ⟨c0_8, ec0_8⟩ : ∃ x : zC, x = zcst c0_6 1 4 := ⟨_, rfl⟩
  have v0_1_8 : zcv c0_8 1 = 4 := by rw [ec0_8]; exact zcv_s (by decide) (by rw [ln0_6]; decide) (by rw [ln0_6]; decide)
  have g0_8 : zget 8 h8.2.2 0 = c0_8 := by rw [eh8, ec0_8]; exact zg_s (by decide) g0_7
  have st0_8 : c0_8.1 = 11 := by rw [ec0_8]; exact (zcst_1 _ _ _).1.trans st0_6
  have ln0_8 : c0_8.2.1 = 18 := by rw [ec0_8]; exact (zcst_1 _ _ _).2.trans ln0_6
  have v0_0_8 : zcv c0_8 0 = 4294967298 := by rw [ec0_8]; exact zcv_n (by decide) (by rw [ln0_6]; decide) (by rw [ln0_6]; decide) (by rw [ln0_6]; decide) (by decide) v0_0_6
  have lL15_1 : zlane L15 1 = x2 + 1 := by rw [eL15]; exact zlane_same (Nat.lt_of_le_of_lt (Nat.succ_le_of_lt hx2) (by decide))
  have lL16_1 : zlane L16 1 = x2 + 1 := by rw [eL16]; exact (zlane_ne (by decide) (by decide)).trans lL15_1
  have lL18_1 : zlane L18 1 = x2 + 1 := by rw [eL18]; exact (zlane_ne (by decide) (by decide)).trans lL16_1
  obtain ⟨c1_7, ec1_7⟩ : ∃ x : zC, x = zcst c1_5 3 ((z_shr x1 0) % 256) := ⟨_, rfl⟩
  have g1_7 : zget 8 h7.2.2 1 = c1_7 := by rw [eh7, ec1_7]; exact zg_s (by decide) g1_6
  have g1_8 : zget 8 h8.2.2 1 = c1_7 := by rw [eh8]; exact zg_n (by decide) (by decide) (by decide) g1_7
  have st1_7 : c1_7.1 = 100 := by rw [ec1_7]; exact (zcst_1 _ _ _).1.trans st1_5
  have ln1_7 : c1_7.2.1 = 2000 := by rw [ec1_7]; exact (zcst_1 _ _ _).2.trans ln1_5
  obtain ⟨h9, eh9⟩ : ∃ x : zH, x = (h8.1, h8.2.1, zst 8 h8.2.2 1 (fun c => zcst c 4 ((z_shr x2 24) % 256))) := ⟨_, rfl⟩
  have hs9 : h9.1 = 129 := by rw [eh9]; exact hs8
  have sl9 : h9.2.1 = 650610 := by rw [eh9]; exact sl8
  have g0_9 : zget 8 h9.2.2 0 = c0_8 := by rw [eh9]; exact zg_n (by decide) (by decide) (by decide) g0_8
  obtain ⟨h10, eh10⟩ : ∃ x : zH, x = (h9.1, h9.2.1, zst 8 h9.2.2 0 (fun c => zcst c 1 5)) := ⟨_, rfl⟩
  have hs10 : h10.1 = 129 := by rw [eh10]; exact hs9
  have sl10 : h10.2.1 = 650610 := by rw [eh10]; exact sl9
  obtain ⟨L19, eL19⟩ : ∃ x : Nat, x = zput L18 2 (16 + 1) := ⟨_, rfl⟩
  have lL19_2 : zlane L19 2 = 16 + 1 := by rw [eL19]; exact zlane_same (by decide)
  have lL19_0 : zlane L19 0 = 4294967297 + 1 := by rw [eL19]; exact (zlane_ne (by decide) (by decide)).trans lL18_0
  obtain ⟨c0_10, ec0_10⟩ : ∃ x : zC, x = zcst c0_8 1 5 := ⟨_, rfl⟩
  have v0_1_10 : zcv c0_10 1 = 5 := by rw [ec0_10]; exact zcv_s (by decide) (by rw [ln0_8]; decide) (by rw [ln0_8]; decide)
  have g0_10 : zget 8 h10.2.2 0 = c0_10 := by rw [eh10, ec0_10]; exact zg_s (by decide) g0_9
  have st0_10 : c0_10.1 = 11 := by rw [ec0_10]; exact (zcst_1 _ _ _).1.trans st0_8
  have ln0_10 : c0_10.2.1 = 18 := by rw [ec0_10]; exact (zcst_1 _ _ _).2.trans ln0_8
  have v0_0_10 : zcv c0_10 0 = 4294967298 := by rw [ec0_10]; exact zcv_n (by decide) (by rw [ln0_8]; decide) (by rw [ln0_8]; decide) (by rw [ln0_8]; decide) (by decide) v0_0_8
  have lL19_1 : zlane L19 1 = x2 + 1 := by rw [eL19]; exact (zlane_ne (by decide) (by decide)).trans lL18_1
  obtain ⟨c1_9, ec1_9⟩ : ∃ x : zC, x = zcst c1_7 4 ((z_shr x2 24) % 256) := ⟨_, rfl⟩
  have g1_9 : zget 8 h9.2.2 1 = c1_9 := by rw [eh9, ec1_9]; exact zg_s (by decide) g1_8
  have g1_10 : zget 8 h10.2.2 1 = c1_9 := by rw [eh10]; exact zg_n (by decide) (by decide) (by decide) g1_9
  have st1_9 : c1_9.1 = 100 := by rw [ec1_9]; exact (zcst_1 _ _ _).1.trans st1_7
  have ln1_9 : c1_9.2.1 = 2000 := by rw [ec1_9]; exact (zcst_1 _ _ _).2.trans ln1_7
  obtain ⟨h11, eh11⟩ : ∃ x : zH, x = (h10.1, h10.2.1, zst 8 h10.2.2 1 (fun c => zcst c 5 ((z_shr x2 16) % 256))) := ⟨_, rfl⟩
  have hs11 : h11.1 = 129 := by rw [eh11]; exact hs10
  have sl11 : h11.2.1 = 650610 := by rw [eh11]; exact sl10
  have g0_11 : zget 8 h11.2.2 0 = c0_10 := by rw [eh11]; exact zg_n (by decide) (by decide) (by decide) g0_10
  obtain ⟨h12, eh12⟩ : ∃ x : zH, x = (h11.1, h11.2.1, zst 8 h11.2.2 0 (fun c => zcst c 1 6)) := ⟨_, rfl⟩
  have hs12 : h12.1 = 129 := by rw [eh12]; exact hs11
  have sl12 : h12.2.1 = 650610 := by rw [eh12]; exact sl11
  obtain ⟨L20, eL20⟩ : ∃ x : Nat, x = zput L19 2 (8 + 1) := ⟨_, rfl⟩
  have lL20_2 : zlane L20 2 = 8 + 1 := by rw [eL20]; exact zlane_same (by decide)
  have lL20_0 : zlane L20 0 = 4294967297 + 1 := by rw [eL20]; exact (zlane_ne (by decide) (by decide)).trans lL19_0
  obtain ⟨c0_12, ec0_12⟩ : ∃ x : zC, x = zcst c0_10 1 6 := ⟨_, rfl⟩
  have v0_1_12 : zcv c0_12 1 = 6 := by rw [ec0_12]; exact zcv_s (by decide) (by rw [ln0_10]; decide) (by rw [ln0_10]; decide)
  have g0_12 : zget 8 h12.2.2 0 = c0_12 := by rw [eh12, ec0_12]; exact zg_s (by decide) g0_11
  have st0_12 : c0_12.1 = 11 := by rw [ec0_12]; exact (zcst_1 _ _ _).1.trans st0_10
  have ln0_12 : c0_12.2.1 = 18 := by rw [ec0_12]; exact (zcst_1 _ _ _).2.trans ln0_10
  have v0_0_12 : zcv c0_12 0 = 4294967298 := by rw [ec0_12]; exact zcv_n (by decide) (by rw [ln0_10]; decide) (by rw [ln0_10]; decide) (by rw [ln0_10]; decide) (by decide) v0_0_10
  have lL20_1 : zlane L20 1 = x2 + 1 := by rw [eL20]; exact (zlane_ne (by decide) (by decide)).trans lL19_1
  obtain ⟨c1_11, ec1_11⟩ : ∃ x : zC, x = zcst c1_9 5 ((z_shr x2 16) % 256) := ⟨_, rfl⟩
  have g1_11 : zget 8 h11.2.2 1 = c1_11 := by rw [eh11, ec1_11]; exact zg_s (by decide) g1_10
  have g1_12 : zget 8 h12.2.2 1 = c1_11 := by rw [eh12]; exact zg_n (by decide) (by decide) (by decide) g1_11
  have st1_11 : c1_11.1 = 100 := by rw [ec1_11]; exact (zcst_1 _ _ _).1.trans st1_9
  have ln1_11 : c1_11.2.1 = 2000 := by rw [ec1_11]; exact (zcst_1 _ _ _).2.trans ln1_9
  obtain ⟨h13, eh13⟩ : ∃ x : zH, x = (h12.1, h12.2.1, zst 8 h12.2.2 1 (fun c => zcst c 6 ((z_shr x2 8) % 256))) := ⟨_, rfl⟩
  have hs13 : h13.1 = 129 := by rw [eh13]; exact hs12
  have sl13 : h13.2.1 = 650610 := by rw [eh13]; exact sl12
  have g0_13 : zget 8 h13.2.2 0 = c0_12 := by rw [eh13]; exact zg_n (by decide) (by decide) (by decide) g0_12
  obtain ⟨h14, eh14⟩ : ∃ x : zH, x = (h13.1, h13.2.1, zst 8 h13.2.2 0 (fun c => zcst c 1 7)) := ⟨_, rfl⟩
  have hs14 : h14.1 = 129 := by rw [eh14]; exact hs13
  have sl14 : h14.2.1 = 650610 := by rw [eh14]; exact sl13
  obtain ⟨L21, eL21⟩ : ∃ x : Nat, x = zput L20 2 (0 + 1) := ⟨_, rfl⟩
  have lL21_2 : zlane L21 2 = 0 + 1 := by rw [eL21]; exact zlane_same (by decide)
  have lL21_0 : zlane L21 0 = 4294967297 + 1 := by rw [eL21]; exact (zlane_ne (by decide) (by decide)).trans lL20_0
  obtain ⟨c0_14, ec0_14⟩ : ∃ x : zC, x = zcst c0_12 1 7 := ⟨_, rfl⟩
  have v0_1_14 : zcv c0_14 1 = 7 := by rw [ec0_14]; exact zcv_s (by decide) (by rw [ln0_12]; decide) (by rw [ln0_12]; decide)
  have g0_14 : zget 8 h14.2.2 0 = c0_14 := by rw [eh14, ec0_14]; exact zg_s (by decide) g0_13
  have st0_14 : c0_14.1 = 11 := by rw [ec0_14]; exact (zcst_1 _ _ _).1.trans st0_12
  have ln0_14 : c0_14.2.1 = 18 := by rw [ec0_14]; exact (zcst_1 _ _ _).2.trans ln0_12
  have v0_0_14 : zcv c0_14 0 = 4294967298 := by rw [ec0_14]; exact zcv_n (by decide) (by rw [ln0_12]; decide) (by rw [ln0_12]; decide) (by rw [ln0_12]; decide) (by decide) v0_0_12
  have lL21_1 : zlane L21 1 = x2 + 1 := by rw [eL21]; exact (zlane_ne (by decide) (by decide)).trans lL20_1
  obtain ⟨c1_13, ec1_13⟩ : ∃ x : zC, x = zcst c1_11 6 ((z_shr x2 8) % 256) := ⟨_, rfl⟩
  have g1_13 : zget 8 h13.2.2 1 = c1_13 := by rw [eh13, ec1_13]; exact zg_s (by decide) g1_12
  have g1_14 : zget 8 h14.2.2 1 = c1_13 := by rw [eh14]; exact zg_n (by decide) (by decide) (by decide) g1_13
  have st1_13 : c1_13.1 = 100 := by rw [ec1_13]; exact (zcst_1 _ _ _).1.trans st1_11
  have ln1_13 : c1_13.2.1 = 2000 := by rw [ec1_13]; exact (zcst_1 _ _ _).2.trans ln1_11
  obtain ⟨h15, eh15⟩ : ∃ x : zH, x = (h14.1, h14.2.1, zst 8 h14.2.2 1 (fun c => zcst c 7 ((z_shr x2 0) % 256))) := ⟨_, rfl⟩
  have hs15 : h15.1 = 129 := by rw [eh15]; exact hs14
  have sl15 : h15.2.1 = 650610 := by rw [eh15]; exact sl14
  have g0_15 : zget 8 h15.2.2 0 = c0_14 := by rw [eh15]; exact zg_n (by decide) (by decide) (by decide) g0_14
  obtain ⟨h16, eh16⟩ : ∃ x : zH, x = (h15.1, h15.2.1, zst 8 h15.2.2 0 (fun c => zcst c 1 8)) := ⟨_, rfl⟩
  have hs16 : h16.1 = 129 := by rw [eh16]; exact hs15
  have sl16 : h16.2.1 = 650610 := by rw [eh16]; exact sl15
  obtain ⟨L22, eL22⟩ : ∃ x : Nat, x = zput L21 2 (4294967288 + 1) := ⟨_, rfl⟩
  have lL22_2 : zlane L22 2 = 4294967288 + 1 := by rw [eL22]; exact zlane_same (by decide)
  have lL3_3 : zlane L3 3 = x3 + 1 := by rw [eL3]; exact zlane_same (Nat.lt_of_le_of_lt (Nat.succ_le_of_lt hx3) (by decide))
  have lL4_3 : zlane L4 3 = x3 + 1 := by rw [eL4]; exact (zlane_ne (Nat.lt_of_le_of_lt (Nat.succ_le_of_lt hx2) (by decide)) (by decide)).trans lL3_3
  have lL5_3 : zlane L5 3 = x3 + 1 := by rw [eL5]; exact (zlane_ne (Nat.lt_of_le_of_lt (Nat.succ_le_of_lt hx1) (by decide)) (by decide)).trans lL4_3
  have lL6_3 : zlane L6 3 = x3 + 1 := by rw [eL6]; exact (zlane_ne (by decide) (by decide)).trans lL5_3
  obtain ⟨L23, eL23⟩ : ∃ x : Nat, x = zput 0 1 (x3 + 1) := ⟨_, rfl⟩
  obtain ⟨L24, eL24⟩ : ∃ x : Nat, x = zput L23 0 (4294967297 + 1) := ⟨_, rfl⟩
  obtain ⟨L26, eL26⟩ : ∃ x : Nat, x = zput L24 2 (24 + 1) := ⟨_, rfl⟩
  have lL26_2 : zlane L26 2 = 24 + 1 := by rw [eL26]; exact zlane_same (by decide)
  have lL24_0 : zlane L24 0 = 4294967297 + 1 := by rw [eL24]; exact zlane_same (by decide)
  have lL26_0 : zlane L26 0 = 4294967297 + 1 := by rw [eL26]; exact (zlane_ne (by decide) (by decide)).trans lL24_0
  obtain ⟨c0_16, ec0_16⟩ : ∃ x : zC, x = zcst c0_14 1 8 := ⟨_, rfl⟩
  have v0_1_16 : zcv c0_16 1 = 8 := by rw [ec0_16]; exact zcv_s (by decide) (by rw [ln0_14]; decide) (by rw [ln0_14]; decide)
  have g0_16 : zget 8 h16.2.2 0 = c0_16 := by rw [eh16, ec0_16]; exact zg_s (by decide) g0_15
  have st0_16 : c0_16.1 = 11 := by rw [ec0_16]; exact (zcst_1 _ _ _).1.trans st0_14
  have ln0_16 : c0_16.2.1 = 18 := by rw [ec0_16]; exact (zcst_1 _ _ _).2.trans ln0_14
  have v0_0_16 : zcv c0_16 0 = 4294967298 := by rw [ec0_16]; exact zcv_n (by decide) (by rw [ln0_14]; decide) (by rw [ln0_14]; decide) (by rw [ln0_14]; decide) (by decide) v0_0_14
  have lL23_1 : zlane L23 1 = x3 + 1 := by rw [eL23]; exact zlane_same (Nat.lt_of_le_of_lt (Nat.succ_le_of_lt hx3) (by decide))
  have lL24_1 : zlane L24 1 = x3 + 1 := by rw [eL24]; exact (zlane_ne (by decide) (by decide)).trans lL23_1
  have lL26_1 : zlane L26 1 = x3 + 1 := by rw [eL26]; exact (zlane_ne (by decide) (by decide)).trans lL24_1
  obtain ⟨c1_15, ec1_15⟩ : ∃ x : zC, x = zcst c1_13 7 ((z_shr x2 0) % 256) := ⟨_, rfl⟩
  have g1_15 : zget 8 h15.2.2 1 = c1_15 := by rw [eh15, ec1_15]; exact zg_s (by decide) g1_14
  have g1_16 : zget 8 h16.2.2 1 = c1_15 := by rw [eh16]; exact zg_n (by decide) (by decide) (by decide) g1_15
  have st1_15 : c1_15.1 = 100 := by rw [ec1_15]; exact (zcst_1 _ _ _).1.trans st1_13
  have ln1_15 : c1_15.2.1 = 2000 := by rw [ec1_15]; exact (zcst_1 _ _ _).2.trans ln1_13
  obtain ⟨h17, eh17⟩ : ∃ x : zH, x = (h16.1, h16.2.1, zst 8 h16.2.2 1 (fun c => zcst c 8 ((z_shr x3 24) % 256))) := ⟨_, rfl⟩
  have hs17 : h17.1 = 129 := by rw [eh17]; exact hs16
  have sl17 : h17.2.1 = 650610 := by rw [eh17]; exact sl16
  have g0_17 : zget 8 h17.2.2 0 = c0_16 := by rw [eh17]; exact zg_n (by decide) (by decide) (by decide) g0_16
  obtain ⟨h18, eh18⟩ : ∃ x : zH, x = (h17.1, h17.2.1, zst 8 h17.2.2 0 (fun c => zcst c 1 9)) := ⟨_, rfl⟩
  have hs18 : h18.1 = 129 := by rw [eh18]; exact hs17
  have sl18 : h18.2.1 = 650610 := by rw [eh18]; exact sl17
  obtain ⟨L27, eL27⟩ : ∃ x : Nat, x = zput L26 2 (16 + 1) := ⟨_, rfl⟩
  have lL27_2 : zlane L27 2 = 16 + 1 := by rw [eL27]; exact zlane_same (by decide)
  have lL27_0 : zlane L27 0 = 4294967297 + 1 := by rw [eL27]; exact (zlane_ne (by decide) (by decide)).trans lL26_0
  obtain ⟨c0_18, ec0_18⟩ : ∃ x : zC, x = zcst c0_16 1 9 := ⟨_, rfl⟩
  have v0_1_18 : zcv c0_18 1 = 9 := by rw [ec0_18]; exact zcv_s (by decide) (by rw [ln0_16]; decide) (by rw [ln0_16]; decide)
  have g0_18 : zget 8 h18.2.2 0 = c0_18 := by rw [eh18, ec0_18]; exact zg_s (by decide) g0_17
  have st0_18 : c0_18.1 = 11 := by rw [ec0_18]; exact (zcst_1 _ _ _).1.trans st0_16
  have ln0_18 : c0_18.2.1 = 18 := by rw [ec0_18]; exact (zcst_1 _ _ _).2.trans ln0_16
  have v0_0_18 : zcv c0_18 0 = 4294967298 := by rw [ec0_18]; exact zcv_n (by decide) (by rw [ln0_16]; decide) (by rw [ln0_16]; decide) (by rw [ln0_16]; decide) (by decide) v0_0_16
  have lL27_1 : zlane L27 1 = x3 + 1 := by rw [eL27]; exact (zlane_ne (by decide) (by decide)).trans lL26_1
  obtain ⟨c1_17, ec1_17⟩ : ∃ x : zC, x = zcst c1_15 8 ((z_shr x3 24) % 256) := ⟨_, rfl⟩
  have g1_17 : zget 8 h17.2.2 1 = c1_17 := by rw [eh17, ec1_17]; exact zg_s (by decide) g1_16
  have g1_18 : zget 8 h18.2.2 1 = c1_17 := by rw [eh18]; exact zg_n (by decide) (by decide) (by decide) g1_17
  have st1_17 : c1_17.1 = 100 := by rw [ec1_17]; exact (zcst_1 _ _ _).1.trans st1_15
  have ln1_17 : c1_17.2.1 = 2000 := by rw [ec1_17]; exact (zcst_1 _ _ _).2.trans ln1_15
  obtain ⟨h19, eh19⟩ : ∃ x : zH, x = (h18.1, h18.2.1, zst 8 h18.2.2 1 (fun c => zcst c 9 ((z_shr x3 16) % 256))) := ⟨_, rfl⟩
  have hs19 : h19.1 = 129 := by rw [eh19]; exact hs18
  have sl19 : h19.2.1 = 650610 := by rw [eh19]; exact sl18
  have g0_19 : zget 8 h19.2.2 0 = c0_18 := by rw [eh19]; exact zg_n (by decide) (by decide) (by decide) g0_18
  obtain ⟨h20, eh20⟩ : ∃ x : zH, x = (h19.1, h19.2.1, zst 8 h19.2.2 0 (fun c => zcst c 1 10)) := ⟨_, rfl⟩
  have hs20 : h20.1 = 129 := by rw [eh20]; exact hs19
  have sl20 : h20.2.1 = 650610 := by rw [eh20]; exact sl19
  obtain ⟨L28, eL28⟩ : ∃ x : Nat, x = zput L27 2 (8 + 1) := ⟨_, rfl⟩
  have lL28_2 : zlane L28 2 = 8 + 1 := by rw [eL28]; exact zlane_same (by decide)
  have lL28_0 : zlane L28 0 = 4294967297 + 1 := by rw [eL28]; exact (zlane_ne (by decide) (by decide)).trans lL27_0
  obtain ⟨c0_20, ec0_20⟩ : ∃ x : zC, x = zcst c0_18 1 10 := ⟨_, rfl⟩
  have v0_1_20 : zcv c0_20 1 = 10 := by rw [ec0_20]; exact zcv_s (by decide) (by rw [ln0_18]; decide) (by rw [ln0_18]; decide)
  have g0_20 : zget 8 h20.2.2 0 = c0_20 := by rw [eh20, ec0_20]; exact zg_s (by decide) g0_19
  have st0_20 : c0_20.1 = 11 := by rw [ec0_20]; exact (zcst_1 _ _ _).1.trans st0_18
  have ln0_20 : c0_20.2.1 = 18 := by rw [ec0_20]; exact (zcst_1 _ _ _).2.trans ln0_18
  have v0_0_20 : zcv c0_20 0 = 4294967298 := by rw [ec0_20]; exact zcv_n (by decide) (by rw [ln0_18]; decide) (by rw [ln0_18]; decide) (by rw [ln0_18]; decide) (by decide) v0_0_18
  have lL28_1 : zlane L28 1 = x3 + 1 := by rw [eL28]; exact (zlane_ne (by decide) (by decide)).trans lL27_1
  obtain ⟨c1_19, ec1_19⟩ : ∃ x : zC, x = zcst c1_17 9 ((z_shr x3 16) % 256) := ⟨_, rfl⟩
  have g1_19 : zget 8 h19.2.2 1 = c1_19 := by rw [eh19, ec1_19]; exact zg_s (by decide) g1_18
  have g1_20 : zget 8 h20.2.2 1 = c1_19 := by rw [eh20]; exact zg_n (by decide) (by decide) (by decide) g1_19
  have st1_19 : c1_19.1 = 100 := by rw [ec1_19]; exact (zcst_1 _ _ _).1.trans st1_17
  have ln1_19 : c1_19.2.1 = 2000 := by rw [ec1_19]; exact (zcst_1 _ _ _).2.trans ln1_17
  obtain ⟨h21, eh21⟩ : ∃ x : zH, x = (h20.1, h20.2.1, zst 8 h20.2.2 1 (fun c => zcst c 10 ((z_shr x3 8) % 256))) := ⟨_, rfl⟩
  have hs21 : h21.1 = 129 := by rw [eh21]; exact hs20
  have sl21 : h21.2.1 = 650610 := by rw [eh21]; exact sl20
  have g0_21 : zget 8 h21.2.2 0 = c0_20 := by rw [eh21]; exact zg_n (by decide) (by decide) (by decide) g0_20
  obtain ⟨h22, eh22⟩ : ∃ x : zH, x = (h21.1, h21.2.1, zst 8 h21.2.2 0 (fun c => zcst c 1 11)) := ⟨_, rfl⟩
  have hs22 : h22.1 = 129 := by rw [eh22]; exact hs21
  have sl22 : h22.2.1 = 650610 := by rw [eh22]; exact sl21
  obtain ⟨L29, eL29⟩ : ∃ x : Nat, x = zput L28 2 (0 + 1) := ⟨_, rfl⟩
  have lL29_2 : zlane L29 2 = 0 + 1 := by rw [eL29]; exact zlane_same (by decide)
  have lL29_0 : zlane L29 0 = 4294967297 + 1 := by rw [eL29]; exact (zlane_ne (by decide) (by decide)).trans lL28_0
  obtain ⟨c0_22, ec0_22⟩ : ∃ x : zC, x = zcst c0_20 1 11 := ⟨_, rfl⟩
  have v0_1_22 : zcv c0_22 1 = 11 := by rw [ec0_22]; exact zcv_s (by decide) (by rw [ln0_20]; decide) (by rw [ln0_20]; decide)
  have g0_22 : zget 8 h22.2.2 0 = c0_22 := by rw [eh22, ec0_22]; exact zg_s (by decide) g0_21
  have st0_22 : c0_22.1 = 11 := by rw [ec0_22]; exact (zcst_1 _ _ _).1.trans st0_20
  have ln0_22 : c0_22.2.1 = 18 := by rw [ec0_22]; exact (zcst_1 _ _ _).2.trans ln0_20
  have v0_0_22 : zcv c0_22 0 = 4294967298 := by rw [ec0_22]; exact zcv_n (by decide) (by rw [ln0_20]; decide) (by rw [ln0_20]; decide) (by rw [ln0_20]; decide) (by decide) v0_0_20
  have lL29_1 : zlane L29 1 = x3 + 1 := by rw [eL29]; exact (zlane_ne (by decide) (by decide)).trans lL28_1
  obtain ⟨c1_21, ec1_21⟩ : ∃ x : zC, x = zcst c1_19 10 ((z_shr x3 8) % 256) := ⟨_, rfl⟩
  have g1_21 : zget 8 h21.2.2 1 = c1_21 := by rw [eh21, ec1_21]; exact zg_s (by decide) g1_20
  have g1_22 : zget 8 h22.2.2 1 = c1_21 := by rw [eh22]; exact zg_n (by decide) (by decide) (by decide) g1_21
  have st1_21 : c1_21.1 = 100 := by rw [ec1_21]; exact (zcst_1 _ _ _).1.trans st1_19
  have ln1_21 : c1_21.2.1 = 2000 := by rw [ec1_21]; exact (zcst_1 _ _ _).2.trans ln1_19
  obtain ⟨h23, eh23⟩ : ∃ x : zH, x = (h22.1, h22.2.1, zst 8 h22.2.2 1 (fun c => zcst c 11 ((z_shr x3 0) % 256))) := ⟨_, rfl⟩
  have hs23 : h23.1 = 129 := by rw [eh23]; exact hs22
  have sl23 : h23.2.1 = 650610 := by rw [eh23]; exact sl22
  have g0_23 : zget 8 h23.2.2 0 = c0_22 := by rw [eh23]; exact zg_n (by decide) (by decide) (by decide) g0_22
  obtain ⟨h24, eh24⟩ : ∃ x : zH, x = (h23.1, h23.2.1, zst 8 h23.2.2 0 (fun c => zcst c 1 12)) := ⟨_, rfl⟩
  have hs24 : h24.1 = 129 := by rw [eh24]; exact hs23
  have sl24 : h24.2.1 = 650610 := by rw [eh24]; exact sl23
  obtain ⟨L30, eL30⟩ : ∃ x : Nat, x = zput L29 2 (4294967288 + 1) := ⟨_, rfl⟩
  have lL30_2 : zlane L30 2 = 4294967288 + 1 := by rw [eL30]; exact zlane_same (by decide)
  have lL2_4 : zlane L2 4 = x4 + 1 := by rw [eL2]; exact zlane_same (Nat.lt_of_le_of_lt (Nat.succ_le_of_lt hx4) (by decide))
  have lL3_4 : zlane L3 4 = x4 + 1 := by rw [eL3]; exact (zlane_ne (Nat.lt_of_le_of_lt (Nat.succ_le_of_lt hx3) (by decide)) (by decide)).trans lL2_4
  have lL4_4 : zlane L4 4 = x4 + 1 := by rw [eL4]; exact (zlane_ne (Nat.lt_of_le_of_lt (Nat.succ_le_of_lt hx2) (by decide)) (by decide)).trans lL3_4
  have lL5_4 : zlane L5 4 = x4 + 1 := by rw [eL5]; exact (zlane_ne (Nat.lt_of_le_of_lt (Nat.succ_le_of_lt hx1) (by decide)) (by decide)).trans lL4_4
  have lL6_4 : zlane L6 4 = x4 + 1 := by rw [eL6]; exact (zlane_ne (by decide) (by decide)).trans lL5_4
  obtain ⟨L31, eL31⟩ : ∃ x : Nat, x = zput 0 1 (x4 + 1) := ⟨_, rfl⟩
  obtain ⟨L32, eL32⟩ : ∃ x : Nat, x = zput L31 0 (4294967297 + 1) := ⟨_, rfl⟩
  obtain ⟨L34, eL34⟩ : ∃ x : Nat, x = zput L32 2 (24 + 1) := ⟨_, rfl⟩
  have lL34_2 : zlane L34 2 = 24 + 1 := by rw [eL34]; exact zlane_same (by decide)
  have lL32_0 : zlane L32 0 = 4294967297 + 1 := by rw [eL32]; exact zlane_same (by decide)
  have lL34_0 : zlane L34 0 = 4294967297 + 1 := by rw [eL34]; exact (zlane_ne (by decide) (by decide)).trans lL32_0
  obtain ⟨c0_24, ec0_24⟩ : ∃ x : zC, x = zcst c0_22 1 12 := ⟨_, rfl⟩
  have v0_1_24 : zcv c0_24 1 = 12 := by rw [ec0_24]; exact zcv_s (by decide) (by rw [ln0_22]; decide) (by rw [ln0_22]; decide)
  have g0_24 : zget 8 h24.2.2 0 = c0_24 := by rw [eh24, ec0_24]; exact zg_s (by decide) g0_23
  have st0_24 : c0_24.1 = 11 := by rw [ec0_24]; exact (zcst_1 _ _ _).1.trans st0_22
  have ln0_24 : c0_24.2.1 = 18 := by rw [ec0_24]; exact (zcst_1 _ _ _).2.trans ln0_22
  have v0_0_24 : zcv c0_24 0 = 4294967298 := by rw [ec0_24]; exact zcv_n (by decide) (by rw [ln0_22]; decide) (by rw [ln0_22]; decide) (by rw [ln0_22]; decide) (by decide) v0_0_22
  have lL31_1 : zlane L31 1 = x4 + 1 := by rw [eL31]; exact zlane_same (Nat.lt_of_le_of_lt (Nat.succ_le_of_lt hx4) (by decide))
  have lL32_1 : zlane L32 1 = x4 + 1 := by rw [eL32]; exact (zlane_ne (by decide) (by decide)).trans lL31_1
  have lL34_1 : zlane L34 1 = x4 + 1 := by rw [eL34]; exact (zlane_ne (by decide) (by decide)).trans lL32_1
  obtain ⟨c1_23, ec1_23⟩ : ∃ x : zC, x = zcst c1_21 11 ((z_shr x3 0) % 256) := ⟨_, rfl⟩
  have g1_23 : zget 8 h23.2.2 1 = c1_23 := by rw [eh23, ec1_23]; exact zg_s (by decide) g1_22
  have g1_24 : zget 8 h24.2.2 1 = c1_23 := by rw [eh24]; exact zg_n (by decide) (by decide) (by decide) g1_23
  have st1_23 : c1_23.1 = 100 := by rw [ec1_23]; exact (zcst_1 _ _ _).1.trans st1_21
  have ln1_23 : c1_23.2.1 = 2000 := by rw [ec1_23]; exact (zcst_1 _ _ _).2.trans ln1_21
  obtain ⟨h25, eh25⟩ : ∃ x : zH, x = (h24.1, h24.2.1, zst 8 h24.2.2 1 (fun c => zcst c 12 ((z_shr x4 24) % 256))) := ⟨_, rfl⟩
  have hs25 : h25.1 = 129 := by rw [eh25]; exact hs24
  have sl25 : h25.2.1 = 650610 := by rw [eh25]; exact sl24
  have g0_25 : zget 8 h25.2.2 0 = c0_24 := by rw [eh25]; exact zg_n (by decide) (by decide) (by decide) g0_24
  obtain ⟨h26, eh26⟩ : ∃ x : zH, x = (h25.1, h25.2.1, zst 8 h25.2.2 0 (fun c => zcst c 1 13)) := ⟨_, rfl⟩
  have hs26 : h26.1 = 129 := by rw [eh26]; exact hs25
  have sl26 : h26.2.1 = 650610 := by rw [eh26]; exact sl25
  obtain ⟨L35, eL35⟩ : ∃ x : Nat, x = zput L34 2 (16 + 1) := ⟨_, rfl⟩
  have lL35_2 : zlane L35 2 = 16 + 1 := by rw [eL35]; exact zlane_same (by decide)
  have lL35_0 : zlane L35 0 = 4294967297 + 1 := by rw [eL35]; exact (zlane_ne (by decide) (by decide)).trans lL34_0
  obtain ⟨c0_26, ec0_26⟩ : ∃ x : zC, x = zcst c0_24 1 13 := ⟨_, rfl⟩
  have v0_1_26 : zcv c0_26 1 = 13 := by rw [ec0_26]; exact zcv_s (by decide) (by rw [ln0_24]; decide) (by rw [ln0_24]; decide)
  have g0_26 : zget 8 h26.2.2 0 = c0_26 := by rw [eh26, ec0_26]; exact zg_s (by decide) g0_25
  have st0_26 : c0_26.1 = 11 := by rw [ec0_26]; exact (zcst_1 _ _ _).1.trans st0_24
  have ln0_26 : c0_26.2.1 = 18 := by rw [ec0_26]; exact (zcst_1 _ _ _).2.trans ln0_24
  have v0_0_26 : zcv c0_26 0 = 4294967298 := by rw [ec0_26]; exact zcv_n (by decide) (by rw [ln0_24]; decide) (by rw [ln0_24]; decide) (by rw [ln0_24]; decide) (by decide) v0_0_24
  have lL35_1 : zlane L35 1 = x4 + 1 := by rw [eL35]; exact (zlane_ne (by decide) (by decide)).trans lL34_1
  obtain ⟨c1_25, ec1_25⟩ : ∃ x : zC, x = zcst c1_23 12 ((z_shr x4 24) % 256) := ⟨_, rfl⟩
  have g1_25 : zget 8 h25.2.2 1 = c1_25 := by rw [eh25, ec1_25]; exact zg_s (by decide) g1_24
  have g1_26 : zget 8 h26.2.2 1 = c1_25 := by rw [eh26]; exact zg_n (by decide) (by decide) (by decide) g1_25
  have st1_25 : c1_25.1 = 100 := by rw [ec1_25]; exact (zcst_1 _ _ _).1.trans st1_23
  have ln1_25 : c1_25.2.1 = 2000 := by rw [ec1_25]; exact (zcst_1 _ _ _).2.trans ln1_23
  obtain ⟨h27, eh27⟩ : ∃ x : zH, x = (h26.1, h26.2.1, zst 8 h26.2.2 1 (fun c => zcst c 13 ((z_shr x4 16) % 256))) := ⟨_, rfl⟩
  have hs27 : h27.1 = 129 := by rw [eh27]; exact hs26
  have sl27 : h27.2.1 = 650610 := by rw [eh27]; exact sl26
  have g0_27 : zget 8 h27.2.2 0 = c0_26 := by rw [eh27]; exact zg_n (by decide) (by decide) (by decide) g0_26
  obtain ⟨h28, eh28⟩ : ∃ x : zH, x = (h27.1, h27.2.1, zst 8 h27.2.2 0 (fun c => zcst c 1 14)) := ⟨_, rfl⟩
  have hs28 : h28.1 = 129 := by rw [eh28]; exact hs27
  have sl28 : h28.2.1 = 650610 := by rw [eh28]; exact sl27
  obtain ⟨L36, eL36⟩ : ∃ x : Nat, x = zput L35 2 (8 + 1) := ⟨_, rfl⟩
  have lL36_2 : zlane L36 2 = 8 + 1 := by rw [eL36]; exact zlane_same (by decide)
  have lL36_0 : zlane L36 0 = 4294967297 + 1 := by rw [eL36]; exact (zlane_ne (by decide) (by decide)).trans lL35_0
  obtain ⟨c0_28, ec0_28⟩ : ∃ x : zC, x = zcst c0_26 1 14 := ⟨_, rfl⟩
  have v0_1_28 : zcv c0_28 1 = 14 := by rw [ec0_28]; exact zcv_s (by decide) (by rw [ln0_26]; decide) (by rw [ln0_26]; decide)
  have g0_28 : zget 8 h28.2.2 0 = c0_28 := by rw [eh28, ec0_28]; exact zg_s (by decide) g0_27
  have st0_28 : c0_28.1 = 11 := by rw [ec0_28]; exact (zcst_1 _ _ _).1.trans st0_26
  have ln0_28 : c0_28.2.1 = 18 := by rw [ec0_28]; exact (zcst_1 _ _ _).2.trans ln0_26
  have v0_0_28 : zcv c0_28 0 = 4294967298 := by rw [ec0_28]; exact zcv_n (by decide) (by rw [ln0_26]; decide) (by rw [ln0_26]; decide) (by rw [ln0_26]; decide) (by decide) v0_0_26
  have lL36_1 : zlane L36 1 = x4 + 1 := by rw [eL36]; exact (zlane_ne (by decide) (by decide)).trans lL35_1
  obtain ⟨c1_27, ec1_27⟩ : ∃ x : zC, x = zcst c1_25 13 ((z_shr x4 16) % 256) := ⟨_, rfl⟩
  have g1_27 : zget 8 h27.2.2 1 = c1_27 := by rw [eh27, ec1_27]; exact zg_s (by decide) g1_26
  have g1_28 : zget 8 h28.2.2 1 = c1_27 := by rw [eh28]; exact zg_n (by decide) (by decide) (by decide) g1_27
  have st1_27 : c1_27.1 = 100 := by rw [ec1_27]; exact (zcst_1 _ _ _).1.trans st1_25
  have ln1_27 : c1_27.2.1 = 2000 := by rw [ec1_27]; exact (zcst_1 _ _ _).2.trans ln1_25
  obtain ⟨h29, eh29⟩ : ∃ x : zH, x = (h28.1, h28.2.1, zst 8 h28.2.2 1 (fun c => zcst c 14 ((z_shr x4 8) % 256))) := ⟨_, rfl⟩
  have hs29 : h29.1 = 129 := by rw [eh29]; exact hs28
  have sl29 : h29.2.1 = 650610 := by rw [eh29]; exact sl28
  have g0_29 : zget 8 h29.2.2 0 = c0_28 := by rw [eh29]; exact zg_n (by decide) (by decide) (by decide) g0_28
  obtain ⟨h30, eh30⟩ : ∃ x : zH, x = (h29.1, h29.2.1, zst 8 h29.2.2 0 (fun c => zcst c 1 15)) := ⟨_, rfl⟩
  have hs30 : h30.1 = 129 := by rw [eh30]; exact hs29
  have sl30 : h30.2.1 = 650610 := by rw [eh30]; exact sl29
  obtain ⟨L37, eL37⟩ : ∃ x : Nat, x = zput L36 2 (0 + 1) := ⟨_, rfl⟩
  have lL37_2 : zlane L37 2 = 0 + 1 := by rw [eL37]; exact zlane_same (by decide)
  have lL37_0 : zlane L37 0 = 4294967297 + 1 := by rw [eL37]; exact (zlane_ne (by decide) (by decide)).trans lL36_0
  obtain ⟨c0_30, ec0_30⟩ : ∃ x : zC, x = zcst c0_28 1 15 := ⟨_, rfl⟩
  have v0_1_30 : zcv c0_30 1 = 15 := by rw [ec0_30]; exact zcv_s (by decide) (by rw [ln0_28]; decide) (by rw [ln0_28]; decide)
  have g0_30 : zget 8 h30.2.2 0 = c0_30 := by rw [eh30, ec0_30]; exact zg_s (by decide) g0_29
  have st0_30 : c0_30.1 = 11 := by rw [ec0_30]; exact (zcst_1 _ _ _).1.trans st0_28
  have ln0_30 : c0_30.2.1 = 18 := by rw [ec0_30]; exact (zcst_1 _ _ _).2.trans ln0_28
  have v0_0_30 : zcv c0_30 0 = 4294967298 := by rw [ec0_30]; exact zcv_n (by decide) (by rw [ln0_28]; decide) (by rw [ln0_28]; decide) (by rw [ln0_28]; decide) (by decide) v0_0_28
  have lL37_1 : zlane L37 1 = x4 + 1 := by rw [eL37]; exact (zlane_ne (by decide) (by decide)).trans lL36_1
  obtain ⟨c1_29, ec1_29⟩ : ∃ x : zC, x = zcst c1_27 14 ((z_shr x4 8) % 256) := ⟨_, rfl⟩
  have g1_29 : zget 8 h29.2.2 1 = c1_29 := by rw [eh29, ec1_29]; exact zg_s (by decide) g1_28
  have g1_30 : zget 8 h30.2.2 1 = c1_29 := by rw [eh30]; exact zg_n (by decide) (by decide) (by decide) g1_29
  have st1_29 : c1_29.1 = 100 := by rw [ec1_29]; exact (zcst_1 _ _ _).1.trans st1_27
  have ln1_29 : c1_29.2.1 = 2000 := by rw [ec1_29]; exact (zcst_1 _ _ _).2.trans ln1_27
  obtain ⟨h31, eh31⟩ : ∃ x : zH, x = (h30.1, h30.2.1, zst 8 h30.2.2 1 (fun c => zcst c 15 ((z_shr x4 0) % 256))) := ⟨_, rfl⟩
  have hs31 : h31.1 = 129 := by rw [eh31]; exact hs30
  have sl31 : h31.2.1 = 650610 := by rw [eh31]; exact sl30
  have g0_31 : zget 8 h31.2.2 0 = c0_30 := by rw [eh31]; exact zg_n (by decide) (by decide) (by decide) g0_30
  obtain ⟨h32, eh32⟩ : ∃ x : zH, x = (h31.1, h31.2.1, zst 8 h31.2.2 0 (fun c => zcst c 1 16)) := ⟨_, rfl⟩
  have hs32 : h32.1 = 129 := by rw [eh32]; exact hs31
  have sl32 : h32.2.1 = 650610 := by rw [eh32]; exact sl31
  obtain ⟨L38, eL38⟩ : ∃ x : Nat, x = zput L37 2 (4294967288 + 1) := ⟨_, rfl⟩
  have lL38_2 : zlane L38 2 = 4294967288 + 1 := by rw [eL38]; exact zlane_same (by decide)
  have lL1_5 : zlane L1 5 = x5 + 1 := by rw [eL1]; exact zlane_same (Nat.lt_of_le_of_lt (Nat.succ_le_of_lt hx5) (by decide))
  have lL2_5 : zlane L2 5 = x5 + 1 := by rw [eL2]; exact (zlane_ne (Nat.lt_of_le_of_lt (Nat.succ_le_of_lt hx4) (by decide)) (by decide)).trans lL1_5
  have lL3_5 : zlane L3 5 = x5 + 1 := by rw [eL3]; exact (zlane_ne (Nat.lt_of_le_of_lt (Nat.succ_le_of_lt hx3) (by decide)) (by decide)).trans lL2_5
  have lL4_5 : zlane L4 5 = x5 + 1 := by rw [eL4]; exact (zlane_ne (Nat.lt_of_le_of_lt (Nat.succ_le_of_lt hx2) (by decide)) (by decide)).trans lL3_5
  have lL5_5 : zlane L5 5 = x5 + 1 := by rw [eL5]; exact (zlane_ne (Nat.lt_of_le_of_lt (Nat.succ_le_of_lt hx1) (by decide)) (by decide)).trans lL4_5
  have lL6_5 : zlane L6 5 = x5 + 1 := by rw [eL6]; exact (zlane_ne (by decide) (by decide)).trans lL5_5
  obtain ⟨L39, eL39⟩ : ∃ x : Nat, x = zput 0 1 (x5 + 1) := ⟨_, rfl⟩
  obtain ⟨L40, eL40⟩ : ∃ x : Nat, x = zput L39 0 (4294967297 + 1) := ⟨_, rfl⟩
  obtain ⟨L42, eL42⟩ : ∃ x : Nat, x = zput L40 2 (24 + 1) := ⟨_, rfl⟩
  have lL42_2 : zlane L42 2 = 24 + 1 := by rw [eL42]; exact zlane_same (by decide)
  have lL40_0 : zlane L40 0 = 4294967297 + 1 := by rw [eL40]; exact zlane_same (by decide)
  have lL42_0 : zlane L42 0 = 4294967297 + 1 := by rw [eL42]; exact (zlane_ne (by decide) (by decide)).trans lL40_0
  obtain ⟨c0_32, ec0_32⟩ : ∃ x : zC, x = zcst c0_30 1 16 := ⟨_, rfl⟩
  have v0_1_32 : zcv c0_32 1 = 16 := by rw [ec0_32]; exact zcv_s (by decide) (by rw [ln0_30]; decide) (by rw [ln0_30]; decide)
  have g0_32 : zget 8 h32.2.2 0 = c0_32 := by rw [eh32, ec0_32]; exact zg_s (by decide) g0_31
  have st0_32 : c0_32.1 = 11 := by rw [ec0_32]; exact (zcst_1 _ _ _).1.trans st0_30
  have ln0_32 : c0_32.2.1 = 18 := by rw [ec0_32]; exact (zcst_1 _ _ _).2.trans ln0_30
  have v0_0_32 : zcv c0_32 0 = 4294967298 := by rw [ec0_32]; exact zcv_n (by decide) (by rw [ln0_30]; decide) (by rw [ln0_30]; decide) (by rw [ln0_30]; decide) (by decide) v0_0_30
  have lL39_1 : zlane L39 1 = x5 + 1 := by rw [eL39]; exact zlane_same (Nat.lt_of_le_of_lt (Nat.succ_le_of_lt hx5) (by decide))
  have lL40_1 : zlane L40 1 = x5 + 1 := by rw [eL40]; exact (zlane_ne (by decide) (by decide)).trans lL39_1
  have lL42_1 : zlane L42 1 = x5 + 1 := by rw [eL42]; exact (zlane_ne (by decide) (by decide)).trans lL40_1
  obtain ⟨c1_31, ec1_31⟩ : ∃ x : zC, x = zcst c1_29 15 ((z_shr x4 0) % 256) := ⟨_, rfl⟩
  have g1_31 : zget 8 h31.2.2 1 = c1_31 := by rw [eh31, ec1_31]; exact zg_s (by decide) g1_30
  have g1_32 : zget 8 h32.2.2 1 = c1_31 := by rw [eh32]; exact zg_n (by decide) (by decide) (by decide) g1_31
  have st1_31 : c1_31.1 = 100 := by rw [ec1_31]; exact (zcst_1 _ _ _).1.trans st1_29
  have ln1_31 : c1_31.2.1 = 2000 := by rw [ec1_31]; exact (zcst_1 _ _ _).2.trans ln1_29
  obtain ⟨h33, eh33⟩ : ∃ x : zH, x = (h32.1, h32.2.1, zst 8 h32.2.2 1 (fun c => zcst c 16 ((z_shr x5 24) % 256))) := ⟨_, rfl⟩
  have hs33 : h33.1 = 129 := by rw [eh33]; exact hs32
  have sl33 : h33.2.1 = 650610 := by rw [eh33]; exact sl32
  have g0_33 : zget 8 h33.2.2 0 = c0_32 := by rw [eh33]; exact zg_n (by decide) (by decide) (by decide) g0_32
  obtain ⟨h34, eh34⟩ : ∃ x : zH, x = (h33.1, h33.2.1, zst 8 h33.2.2 0 (fun c => zcst c 1 17)) := ⟨_, rfl⟩
  have hs34 : h34.1 = 129 := by rw [eh34]; exact hs33
  have sl34 : h34.2.1 = 650610 := by rw [eh34]; exact sl33
  obtain ⟨L43, eL43⟩ : ∃ x : Nat, x = zput L42 2 (16 + 1) := ⟨_, rfl⟩
  have lL43_2 : zlane L43 2 = 16 + 1 := by rw [eL43]; exact zlane_same (by decide)
  have lL43_0 : zlane L43 0 = 4294967297 + 1 := by rw [eL43]; exact (zlane_ne (by decide) (by decide)).trans lL42_0
  obtain ⟨c0_34, ec0_34⟩ : ∃ x : zC, x = zcst c0_32 1 17 := ⟨_, rfl⟩
  have v0_1_34 : zcv c0_34 1 = 17 := by rw [ec0_34]; exact zcv_s (by decide) (by rw [ln0_32]; decide) (by rw [ln0_32]; decide)
  have g0_34 : zget 8 h34.2.2 0 = c0_34 := by rw [eh34, ec0_34]; exact zg_s (by decide) g0_33
  have st0_34 : c0_34.1 = 11 := by rw [ec0_34]; exact (zcst_1 _ _ _).1.trans st0_32
  have ln0_34 : c0_34.2.1 = 18 := by rw [ec0_34]; exact (zcst_1 _ _ _).2.trans ln0_32
  have v0_0_34 : zcv c0_34 0 = 4294967298 := by rw [ec0_34]; exact zcv_n (by decide) (by rw [ln0_32]; decide) (by rw [ln0_32]; decide) (by rw [ln0_32]; decide) (by decide) v0_0_32
  have lL43_1 : zlane L43 1 = x5 + 1 := by rw [eL43]; exact (zlane_ne (by decide) (by decide)).trans lL42_1
  obtain ⟨c1_33, ec1_33⟩ : ∃ x : zC, x = zcst c1_31 16 ((z_shr x5 24) % 256) := ⟨_, rfl⟩
  have g1_33 : zget 8 h33.2.2 1 = c1_33 := by rw [eh33, ec1_33]; exact zg_s (by decide) g1_32
  have g1_34 : zget 8 h34.2.2 1 = c1_33 := by rw [eh34]; exact zg_n (by decide) (by decide) (by decide) g1_33
  have st1_33 : c1_33.1 = 100 := by rw [ec1_33]; exact (zcst_1 _ _ _).1.trans st1_31
  have ln1_33 : c1_33.2.1 = 2000 := by rw [ec1_33]; exact (zcst_1 _ _ _).2.trans ln1_31
  obtain ⟨h35, eh35⟩ : ∃ x : zH, x = (h34.1, h34.2.1, zst 8 h34.2.2 1 (fun c => zcst c 17 ((z_shr x5 16) % 256))) := ⟨_, rfl⟩
  have hs35 : h35.1 = 129 := by rw [eh35]; exact hs34
  have sl35 : h35.2.1 = 650610 := by rw [eh35]; exact sl34
  have g0_35 : zget 8 h35.2.2 0 = c0_34 := by rw [eh35]; exact zg_n (by decide) (by decide) (by decide) g0_34
  obtain ⟨h36, eh36⟩ : ∃ x : zH, x = (h35.1, h35.2.1, zst 8 h35.2.2 0 (fun c => zcst c 1 18)) := ⟨_, rfl⟩
  have hs36 : h36.1 = 129 := by rw [eh36]; exact hs35
  have sl36 : h36.2.1 = 650610 := by rw [eh36]; exact sl35
  obtain ⟨L44, eL44⟩ : ∃ x : Nat, x = zput L43 2 (8 + 1) := ⟨_, rfl⟩
  have lL44_2 : zlane L44 2 = 8 + 1 := by rw [eL44]; exact zlane_same (by decide)
  have lL44_0 : zlane L44 0 = 4294967297 + 1 := by rw [eL44]; exact (zlane_ne (by decide) (by decide)).trans lL43_0
  obtain ⟨c0_36, ec0_36⟩ : ∃ x : zC, x = zcst c0_34 1 18 := ⟨_, rfl⟩
  have v0_1_36 : zcv c0_36 1 = 18 := by rw [ec0_36]; exact zcv_s (by decide) (by rw [ln0_34]; decide) (by rw [ln0_34]; decide)
  have g0_36 : zget 8 h36.2.2 0 = c0_36 := by rw [eh36, ec0_36]; exact zg_s (by decide) g0_35
  have st0_36 : c0_36.1 = 11 := by rw [ec0_36]; exact (zcst_1 _ _ _).1.trans st0_34
  have ln0_36 : c0_36.2.1 = 18 := by rw [ec0_36]; exact (zcst_1 _ _ _).2.trans ln0_34
  have v0_0_36 : zcv c0_36 0 = 4294967298 := by rw [ec0_36]; exact zcv_n (by decide) (by rw [ln0_34]; decide) (by rw [ln0_34]; decide) (by rw [ln0_34]; decide) (by decide) v0_0_34
  have lL44_1 : zlane L44 1 = x5 + 1 := by rw [eL44]; exact (zlane_ne (by decide) (by decide)).trans lL43_1
  obtain ⟨c1_35, ec1_35⟩ : ∃ x : zC, x = zcst c1_33 17 ((z_shr x5 16) % 256) := ⟨_, rfl⟩
  have g1_35 : zget 8 h35.2.2 1 = c1_35 := by rw [eh35, ec1_35]; exact zg_s (by decide) g1_34
  have g1_36 : zget 8 h36.2.2 1 = c1_35 := by rw [eh36]; exact zg_n (by decide) (by decide) (by decide) g1_35
  have st1_35 : c1_35.1 = 100 := by rw [ec1_35]; exact (zcst_1 _ _ _).1.trans st1_33
  have ln1_35 : c1_35.2.1 = 2000 := by rw [ec1_35]; exact (zcst_1 _ _ _).2.trans ln1_33
  obtain ⟨h37, eh37⟩ : ∃ x : zH, x = (h36.1, h36.2.1, zst 8 h36.2.2 1 (fun c => zcst c 18 ((z_shr x5 8) % 256))) := ⟨_, rfl⟩
  have hs37 : h37.1 = 129 := by rw [eh37]; exact hs36
  have sl37 : h37.2.1 = 650610 := by rw [eh37]; exact sl36
  have g0_37 : zget 8 h37.2.2 0 = c0_36 := by rw [eh37]; exact zg_n (by decide) (by decide) (by decide) g0_36
  obtain ⟨h38, eh38⟩ : ∃ x : zH, x = (h37.1, h37.2.1, zst 8 h37.2.2 0 (fun c => zcst c 1 19)) := ⟨_, rfl⟩
  have hs38 : h38.1 = 129 := by rw [eh38]; exact hs37
  have sl38 : h38.2.1 = 650610 := by rw [eh38]; exact sl37
  obtain ⟨L45, eL45⟩ : ∃ x : Nat, x = zput L44 2 (0 + 1) := ⟨_, rfl⟩
  have lL45_2 : zlane L45 2 = 0 + 1 := by rw [eL45]; exact zlane_same (by decide)
  have lL45_0 : zlane L45 0 = 4294967297 + 1 := by rw [eL45]; exact (zlane_ne (by decide) (by decide)).trans lL44_0
  obtain ⟨c0_38, ec0_38⟩ : ∃ x : zC, x = zcst c0_36 1 19 := ⟨_, rfl⟩
  have v0_1_38 : zcv c0_38 1 = 19 := by rw [ec0_38]; exact zcv_s (by decide) (by rw [ln0_36]; decide) (by rw [ln0_36]; decide)
  have g0_38 : zget 8 h38.2.2 0 = c0_38 := by rw [eh38, ec0_38]; exact zg_s (by decide) g0_37
  have st0_38 : c0_38.1 = 11 := by rw [ec0_38]; exact (zcst_1 _ _ _).1.trans st0_36
  have ln0_38 : c0_38.2.1 = 18 := by rw [ec0_38]; exact (zcst_1 _ _ _).2.trans ln0_36
  have v0_0_38 : zcv c0_38 0 = 4294967298 := by rw [ec0_38]; exact zcv_n (by decide) (by rw [ln0_36]; decide) (by rw [ln0_36]; decide) (by rw [ln0_36]; decide) (by decide) v0_0_36
  have lL45_1 : zlane L45 1 = x5 + 1 := by rw [eL45]; exact (zlane_ne (by decide) (by decide)).trans lL44_1
  obtain ⟨c1_37, ec1_37⟩ : ∃ x : zC, x = zcst c1_35 18 ((z_shr x5 8) % 256) := ⟨_, rfl⟩
  have g1_37 : zget 8 h37.2.2 1 = c1_37 := by rw [eh37, ec1_37]; exact zg_s (by decide) g1_36
  have g1_38 : zget 8 h38.2.2 1 = c1_37 := by rw [eh38]; exact zg_n (by decide) (by decide) (by decide) g1_37
  have st1_37 : c1_37.1 = 100 := by rw [ec1_37]; exact (zcst_1 _ _ _).1.trans st1_35
  have ln1_37 : c1_37.2.1 = 2000 := by rw [ec1_37]; exact (zcst_1 _ _ _).2.trans ln1_35
  obtain ⟨h39, eh39⟩ : ∃ x : zH, x = (h38.1, h38.2.1, zst 8 h38.2.2 1 (fun c => zcst c 19 ((z_shr x5 0) % 256))) := ⟨_, rfl⟩
  have hs39 : h39.1 = 129 := by rw [eh39]; exact hs38
  have sl39 : h39.2.1 = 650610 := by rw [eh39]; exact sl38
  have g0_39 : zget 8 h39.2.2 0 = c0_38 := by rw [eh39]; exact zg_n (by decide) (by decide) (by decide) g0_38
  obtain ⟨h40, eh40⟩ : ∃ x : zH, x = (h39.1, h39.2.1, zst 8 h39.2.2 0 (fun c => zcst c 1 20)) := ⟨_, rfl⟩
  have hs40 : h40.1 = 129 := by rw [eh40]; exact hs39
  have sl40 : h40.2.1 = 650610 := by rw [eh40]; exact sl39
  obtain ⟨L46, eL46⟩ : ∃ x : Nat, x = zput L45 2 (4294967288 + 1) := ⟨_, rfl⟩
  have lL46_2 : zlane L46 2 = 4294967288 + 1 := by rw [eL46]; exact zlane_same (by decide)
  obtain ⟨c0_40, ec0_40⟩ : ∃ x : zC, x = zcst c0_38 1 20 := ⟨_, rfl⟩
  have v0_1_40 : zcv c0_40 1 = 20 := by rw [ec0_40]; exact zcv_s (by decide) (by rw [ln0_38]; decide) (by rw [ln0_38]; decide)
  have g0_40 : zget 8 h40.2.2 0 = c0_40 := by rw [eh40, ec0_40]; exact zg_s (by decide) g0_39
  have st0_40 : c0_40.1 = 11 := by rw [ec0_40]; exact (zcst_1 _ _ _).1.trans st0_38
  have ln0_40 : c0_40.2.1 = 18 := by rw [ec0_40]; exact (zcst_1 _ _ _).2.trans ln0_38
  obtain ⟨L47, eL47⟩ : ∃ x : Nat, x = zput 0 5 (x5 + 1) := ⟨_, rfl⟩
  obtain ⟨L48, eL48⟩ : ∃ x : Nat, x = zput L47 4 (x4 + 1) := ⟨_, rfl⟩
  obtain ⟨L49, eL49⟩ : ∃ x : Nat, x = zput L48 3 (x3 + 1) := ⟨_, rfl⟩
  obtain ⟨L50, eL50⟩ : ∃ x : Nat, x = zput L49 2 (x2 + 1) := ⟨_, rfl⟩
  obtain ⟨L51, eL51⟩ : ∃ x : Nat, x = zput L50 1 (x1 + 1) := ⟨_, rfl⟩
  obtain ⟨L52, eL52⟩ : ∃ x : Nat, x = zput L51 0 (4294967358 + 1) := ⟨_, rfl⟩
  have lL52_0 : zlane L52 0 = 4294967358 + 1 := by rw [eL52]; exact zlane_same (by decide)
  have v61_32_0 : zcv hbB15_c61 32 = 0 := by decide +kernel
  have g61_0 : zget 8 hbB16.2.2 61 = hbB15_c61 := rfl
  have g61_1 : zget 8 h1.2.2 61 = hbB15_c61 := by rw [eh1]; exact zg_n (by decide) (by decide) (by decide) g61_0
  have g61_2 : zget 8 h2.2.2 61 = hbB15_c61 := by rw [eh2]; exact zg_n (by decide) (by decide) (by decide) g61_1
  have g61_3 : zget 8 h3.2.2 61 = hbB15_c61 := by rw [eh3]; exact zg_n (by decide) (by decide) (by decide) g61_2
  have g61_4 : zget 8 h4.2.2 61 = hbB15_c61 := by rw [eh4]; exact zg_n (by decide) (by decide) (by decide) g61_3
  have g61_5 : zget 8 h5.2.2 61 = hbB15_c61 := by rw [eh5]; exact zg_n (by decide) (by decide) (by decide) g61_4
  have g61_6 : zget 8 h6.2.2 61 = hbB15_c61 := by rw [eh6]; exact zg_n (by decide) (by decide) (by decide) g61_5
  have g61_7 : zget 8 h7.2.2 61 = hbB15_c61 := by rw [eh7]; exact zg_n (by decide) (by decide) (by decide) g61_6
  have g61_8 : zget 8 h8.2.2 61 = hbB15_c61 := by rw [eh8]; exact zg_n (by decide) (by decide) (by decide) g61_7
  have g61_9 : zget 8 h9.2.2 61 = hbB15_c61 := by rw [eh9]; exact zg_n (by decide) (by decide) (by decide) g61_8
  have g61_10 : zget 8 h10.2.2 61 = hbB15_c61 := by rw [eh10]; exact zg_n (by decide) (by decide) (by decide) g61_9
  have g61_11 : zget 8 h11.2.2 61 = hbB15_c61 := by rw [eh11]; exact zg_n (by decide) (by decide) (by decide) g61_10
  have g61_12 : zget 8 h12.2.2 61 = hbB15_c61 := by rw [eh12]; exact zg_n (by decide) (by decide) (by decide) g61_11
  have g61_13 : zget 8 h13.2.2 61 = hbB15_c61 := by rw [eh13]; exact zg_n (by decide) (by decide) (by decide) g61_12
  have g61_14 : zget 8 h14.2.2 61 = hbB15_c61 := by rw [eh14]; exact zg_n (by decide) (by decide) (by decide) g61_13
  have g61_15 : zget 8 h15.2.2 61 = hbB15_c61 := by rw [eh15]; exact zg_n (by decide) (by decide) (by decide) g61_14
  have g61_16 : zget 8 h16.2.2 61 = hbB15_c61 := by rw [eh16]; exact zg_n (by decide) (by decide) (by decide) g61_15
  have g61_17 : zget 8 h17.2.2 61 = hbB15_c61 := by rw [eh17]; exact zg_n (by decide) (by decide) (by decide) g61_16
  have g61_18 : zget 8 h18.2.2 61 = hbB15_c61 := by rw [eh18]; exact zg_n (by decide) (by decide) (by decide) g61_17
  have g61_19 : zget 8 h19.2.2 61 = hbB15_c61 := by rw [eh19]; exact zg_n (by decide) (by decide) (by decide) g61_18
  have g61_20 : zget 8 h20.2.2 61 = hbB15_c61 := by rw [eh20]; exact zg_n (by decide) (by decide) (by decide) g61_19
  have g61_21 : zget 8 h21.2.2 61 = hbB15_c61 := by rw [eh21]; exact zg_n (by decide) (by decide) (by decide) g61_20
  have g61_22 : zget 8 h22.2.2 61 = hbB15_c61 := by rw [eh22]; exact zg_n (by decide) (by decide) (by decide) g61_21
  have g61_23 : zget 8 h23.2.2 61 = hbB15_c61 := by rw [eh23]; exact zg_n (by decide) (by decide) (by decide) g61_22
  have g61_24 : zget 8 h24.2.2 61 = hbB15_c61 := by rw [eh24]; exact zg_n (by decide) (by decide) (by decide) g61_23
  have g61_25 : zget 8 h25.2.2 61 = hbB15_c61 := by rw [eh25]; exact zg_n (by decide) (by decide) (by decide) g61_24
  have g61_26 : zget 8 h26.2.2 61 = hbB15_c61 := by rw [eh26]; exact zg_n (by decide) (by decide) (by decide) g61_25
  have g61_27 : zget 8 h27.2.2 61 = hbB15_c61 := by rw [eh27]; exact zg_n (by decide) (by decide) (by decide) g61_26
  have g61_28 : zget 8 h28.2.2 61 = hbB15_c61 := by rw [eh28]; exact zg_n (by decide) (by decide) (by decide) g61_27
  have g61_29 : zget 8 h29.2.2 61 = hbB15_c61 := by rw [eh29]; exact zg_n (by decide) (by decide) (by decide) g61_28
  have g61_30 : zget 8 h30.2.2 61 = hbB15_c61 := by rw [eh30]; exact zg_n (by decide) (by decide) (by decide) g61_29
  have g61_31 : zget 8 h31.2.2 61 = hbB15_c61 := by rw [eh31]; exact zg_n (by decide) (by decide) (by decide) g61_30
  have g61_32 : zget 8 h32.2.2 61 = hbB15_c61 := by rw [eh32]; exact zg_n (by decide) (by decide) (by decide) g61_31
  have g61_33 : zget 8 h33.2.2 61 = hbB15_c61 := by rw [eh33]; exact zg_n (by decide) (by decide) (by decide) g61_32
  have g61_34 : zget 8 h34.2.2 61 = hbB15_c61 := by rw [eh34]; exact zg_n (by decide) (by decide) (by decide) g61_33
  have g61_35 : zget 8 h35.2.2 61 = hbB15_c61 := by rw [eh35]; exact zg_n (by decide) (by decide) (by decide) g61_34
  have g61_36 : zget 8 h36.2.2 61 = hbB15_c61 := by rw [eh36]; exact zg_n (by decide) (by decide) (by decide) g61_35
  have g61_37 : zget 8 h37.2.2 61 = hbB15_c61 := by rw [eh37]; exact zg_n (by decide) (by decide) (by decide) g61_36
  have g61_38 : zget 8 h38.2.2 61 = hbB15_c61 := by rw [eh38]; exact zg_n (by decide) (by decide) (by decide) g61_37
  have g61_39 : zget 8 h39.2.2 61 = hbB15_c61 := by rw [eh39]; exact zg_n (by decide) (by decide) (by decide) g61_38
  have g61_40 : zget 8 h40.2.2 61 = hbB15_c61 := by rw [eh40]; exact zg_n (by decide) (by decide) (by decide) g61_39
  have st61_0 : hbB15_c61.1 = 12 := rfl
  have ln61_0 : hbB15_c61.2.1 = 114 := rfl
  have lL51_1 : zlane L51 1 = x1 + 1 := by rw [eL51]; exact zlane_same (Nat.lt_of_le_of_lt (Nat.succ_le_of_lt hx1) (by decide))
  have lL52_1 : zlane L52 1 = x1 + 1 := by rw [eL52]; exact (zlane_ne (by decide) (by decide)).trans lL51_1
  obtain ⟨L53, eL53⟩ : ∃ x : Nat, x = zput 0 1 (x1 + 1) := ⟨_, rfl⟩
  obtain ⟨L54, eL54⟩ : ∃ x : Nat, x = zput L53 0 (4294967358 + 1) := ⟨_, rfl⟩
  obtain ⟨L56, eL56⟩ : ∃ x : Nat, x = zput L54 2 (24 + 1) := ⟨_, rfl⟩
  have lL56_2 : zlane L56 2 = 24 + 1 := by rw [eL56]; exact zlane_same (by decide)
  have lL54_0 : zlane L54 0 = 4294967358 + 1 := by rw [eL54]; exact zlane_same (by decide)
  have lL56_0 : zlane L56 0 = 4294967358 + 1 := by rw [eL56]; exact (zlane_ne (by decide) (by decide)).trans lL54_0
  have v61_31_0 : zcv hbB15_c61 31 = 4294967376 := by decide +kernel
  have lL53_1 : zlane L53 1 = x1 + 1 := by rw [eL53]; exact zlane_same (Nat.lt_of_le_of_lt (Nat.succ_le_of_lt hx1) (by decide))
  have lL54_1 : zlane L54 1 = x1 + 1 := by rw [eL54]; exact (zlane_ne (by decide) (by decide)).trans lL53_1
  have lL56_1 : zlane L56 1 = x1 + 1 := by rw [eL56]; exact (zlane_ne (by decide) (by decide)).trans lL54_1
  have g79_0 : zget 8 hbB16.2.2 79 = haA0_c1 := rfl
  have g79_1 : zget 8 h1.2.2 79 = haA0_c1 := by rw [eh1]; exact zg_n (by decide) (by decide) (by decide) g79_0
  have g79_2 : zget 8 h2.2.2 79 = haA0_c1 := by rw [eh2]; exact zg_n (by decide) (by decide) (by decide) g79_1
  have g79_3 : zget 8 h3.2.2 79 = haA0_c1 := by rw [eh3]; exact zg_n (by decide) (by decide) (by decide) g79_2
  have g79_4 : zget 8 h4.2.2 79 = haA0_c1 := by rw [eh4]; exact zg_n (by decide) (by decide) (by decide) g79_3
  have g79_5 : zget 8 h5.2.2 79 = haA0_c1 := by rw [eh5]; exact zg_n (by decide) (by decide) (by decide) g79_4
  have g79_6 : zget 8 h6.2.2 79 = haA0_c1 := by rw [eh6]; exact zg_n (by decide) (by decide) (by decide) g79_5
  have g79_7 : zget 8 h7.2.2 79 = haA0_c1 := by rw [eh7]; exact zg_n (by decide) (by decide) (by decide) g79_6
  have g79_8 : zget 8 h8.2.2 79 = haA0_c1 := by rw [eh8]; exact zg_n (by decide) (by decide) (by decide) g79_7
  have g79_9 : zget 8 h9.2.2 79 = haA0_c1 := by rw [eh9]; exact zg_n (by decide) (by decide) (by decide) g79_8
  have g79_10 : zget 8 h10.2.2 79 = haA0_c1 := by rw [eh10]; exact zg_n (by decide) (by decide) (by decide) g79_9
  have g79_11 : zget 8 h11.2.2 79 = haA0_c1 := by rw [eh11]; exact zg_n (by decide) (by decide) (by decide) g79_10
  have g79_12 : zget 8 h12.2.2 79 = haA0_c1 := by rw [eh12]; exact zg_n (by decide) (by decide) (by decide) g79_11
  have g79_13 : zget 8 h13.2.2 79 = haA0_c1 := by rw [eh13]; exact zg_n (by decide) (by decide) (by decide) g79_12
  have g79_14 : zget 8 h14.2.2 79 = haA0_c1 := by rw [eh14]; exact zg_n (by decide) (by decide) (by decide) g79_13
  have g79_15 : zget 8 h15.2.2 79 = haA0_c1 := by rw [eh15]; exact zg_n (by decide) (by decide) (by decide) g79_14
  have g79_16 : zget 8 h16.2.2 79 = haA0_c1 := by rw [eh16]; exact zg_n (by decide) (by decide) (by decide) g79_15
  have g79_17 : zget 8 h17.2.2 79 = haA0_c1 := by rw [eh17]; exact zg_n (by decide) (by decide) (by decide) g79_16
  have g79_18 : zget 8 h18.2.2 79 = haA0_c1 := by rw [eh18]; exact zg_n (by decide) (by decide) (by decide) g79_17
  have g79_19 : zget 8 h19.2.2 79 = haA0_c1 := by rw [eh19]; exact zg_n (by decide) (by decide) (by decide) g79_18
  have g79_20 : zget 8 h20.2.2 79 = haA0_c1 := by rw [eh20]; exact zg_n (by decide) (by decide) (by decide) g79_19
  have g79_21 : zget 8 h21.2.2 79 = haA0_c1 := by rw [eh21]; exact zg_n (by decide) (by decide) (by decide) g79_20
  have g79_22 : zget 8 h22.2.2 79 = haA0_c1 := by rw [eh22]; exact zg_n (by decide) (by decide) (by decide) g79_21
  have g79_23 : zget 8 h23.2.2 79 = haA0_c1 := by rw [eh23]; exact zg_n (by decide) (by decide) (by decide) g79_22
  have g79_24 : zget 8 h24.2.2 79 = haA0_c1 := by rw [eh24]; exact zg_n (by decide) (by decide) (by decide) g79_23
  have g79_25 : zget 8 h25.2.2 79 = haA0_c1 := by rw [eh25]; exact zg_n (by decide) (by decide) (by decide) g79_24
  have g79_26 : zget 8 h26.2.2 79 = haA0_c1 := by rw [eh26]; exact zg_n (by decide) (by decide) (by decide) g79_25
  have g79_27 : zget 8 h27.2.2 79 = haA0_c1 := by rw [eh27]; exact zg_n (by decide) (by decide) (by decide) g79_26
  have g79_28 : zget 8 h28.2.2 79 = haA0_c1 := by rw [eh28]; exact zg_n (by decide) (by decide) (by decide) g79_27
  have g79_29 : zget 8 h29.2.2 79 = haA0_c1 := by rw [eh29]; exact zg_n (by decide) (by decide) (by decide) g79_28
  have g79_30 : zget 8 h30.2.2 79 = haA0_c1 := by rw [eh30]; exact zg_n (by decide) (by decide) (by decide) g79_29
  have g79_31 : zget 8 h31.2.2 79 = haA0_c1 := by rw [eh31]; exact zg_n (by decide) (by decide) (by decide) g79_30
  have g79_32 : zget 8 h32.2.2 79 = haA0_c1 := by rw [eh32]; exact zg_n (by decide) (by decide) (by decide) g79_31
  have g79_33 : zget 8 h33.2.2 79 = haA0_c1 := by rw [eh33]; exact zg_n (by decide) (by decide) (by decide) g79_32
  have g79_34 : zget 8 h34.2.2 79 = haA0_c1 := by rw [eh34]; exact zg_n (by decide) (by decide) (by decide) g79_33
  have g79_35 : zget 8 h35.2.2 79 = haA0_c1 := by rw [eh35]; exact zg_n (by decide) (by decide) (by decide) g79_34
  have g79_36 : zget 8 h36.2.2 79 = haA0_c1 := by rw [eh36]; exact zg_n (by decide) (by decide) (by decide) g79_35
  have g79_37 : zget 8 h37.2.2 79 = haA0_c1 := by rw [eh37]; exact zg_n (by decide) (by decide) (by decide) g79_36
  have g79_38 : zget 8 h38.2.2 79 = haA0_c1 := by rw [eh38]; exact zg_n (by decide) (by decide) (by decide) g79_37
  have g79_39 : zget 8 h39.2.2 79 = haA0_c1 := by rw [eh39]; exact zg_n (by decide) (by decide) (by decide) g79_38
  have g79_40 : zget 8 h40.2.2 79 = haA0_c1 := by rw [eh40]; exact zg_n (by decide) (by decide) (by decide) g79_39
  have st79_0 : haA0_c1.1 = 100 := rfl
  have ln79_0 : haA0_c1.2.1 = 2000 := rfl
  obtain ⟨h41, eh41⟩ : ∃ x : zH, x = (h40.1, h40.2.1, zst 8 h40.2.2 79 (fun c => zcst c 0 ((z_shr x1 24) % 256))) := ⟨_, rfl⟩
  have hs41 : h41.1 = 129 := by rw [eh41]; exact hs40
  have sl41 : h41.2.1 = 650610 := by rw [eh41]; exact sl40
  have g61_41 : zget 8 h41.2.2 61 = hbB15_c61 := by rw [eh41]; exact zg_n (by decide) (by decide) (by decide) g61_40
  obtain ⟨h42, eh42⟩ : ∃ x : zH, x = (h41.1, h41.2.1, zst 8 h41.2.2 61 (fun c => zcst c 32 1)) := ⟨_, rfl⟩
  have hs42 : h42.1 = 129 := by rw [eh42]; exact hs41
  have sl42 : h42.2.1 = 650610 := by rw [eh42]; exact sl41
  obtain ⟨L57, eL57⟩ : ∃ x : Nat, x = zput L56 2 (16 + 1) := ⟨_, rfl⟩
  have lL57_2 : zlane L57 2 = 16 + 1 := by rw [eL57]; exact zlane_same (by decide)
  have lL57_0 : zlane L57 0 = 4294967358 + 1 := by rw [eL57]; exact (zlane_ne (by decide) (by decide)).trans lL56_0
  obtain ⟨c61_42, ec61_42⟩ : ∃ x : zC, x = zcst hbB15_c61 32 1 := ⟨_, rfl⟩
  have v61_31_42 : zcv c61_42 31 = 4294967376 := by rw [ec61_42]; exact zcv_n (by decide) (by rw [ln61_0]; decide) (by rw [ln61_0]; decide) (by rw [ln61_0]; decide) (by decide) v61_31_0
  have g61_42 : zget 8 h42.2.2 61 = c61_42 := by rw [eh42, ec61_42]; exact zg_s (by decide) g61_41
  have st61_42 : c61_42.1 = 12 := by rw [ec61_42]; exact (zcst_1 _ _ _).1.trans st61_0
  have ln61_42 : c61_42.2.1 = 114 := by rw [ec61_42]; exact (zcst_1 _ _ _).2.trans ln61_0
  have v61_32_42 : zcv c61_42 32 = 1 := by rw [ec61_42]; exact zcv_s (by decide) (by rw [ln61_0]; decide) (by rw [ln61_0]; decide)
  have lL57_1 : zlane L57 1 = x1 + 1 := by rw [eL57]; exact (zlane_ne (by decide) (by decide)).trans lL56_1
  obtain ⟨c79_41, ec79_41⟩ : ∃ x : zC, x = zcst haA0_c1 0 ((z_shr x1 24) % 256) := ⟨_, rfl⟩
  have g79_41 : zget 8 h41.2.2 79 = c79_41 := by rw [eh41, ec79_41]; exact zg_s (by decide) g79_40
  have g79_42 : zget 8 h42.2.2 79 = c79_41 := by rw [eh42]; exact zg_n (by decide) (by decide) (by decide) g79_41
  have st79_41 : c79_41.1 = 100 := by rw [ec79_41]; exact (zcst_1 _ _ _).1.trans st79_0
  have ln79_41 : c79_41.2.1 = 2000 := by rw [ec79_41]; exact (zcst_1 _ _ _).2.trans ln79_0
  obtain ⟨h43, eh43⟩ : ∃ x : zH, x = (h42.1, h42.2.1, zst 8 h42.2.2 79 (fun c => zcst c 1 ((z_shr x1 16) % 256))) := ⟨_, rfl⟩
  have hs43 : h43.1 = 129 := by rw [eh43]; exact hs42
  have sl43 : h43.2.1 = 650610 := by rw [eh43]; exact sl42
  have g61_43 : zget 8 h43.2.2 61 = c61_42 := by rw [eh43]; exact zg_n (by decide) (by decide) (by decide) g61_42
  obtain ⟨h44, eh44⟩ : ∃ x : zH, x = (h43.1, h43.2.1, zst 8 h43.2.2 61 (fun c => zcst c 32 2)) := ⟨_, rfl⟩
  have hs44 : h44.1 = 129 := by rw [eh44]; exact hs43
  have sl44 : h44.2.1 = 650610 := by rw [eh44]; exact sl43
  obtain ⟨L58, eL58⟩ : ∃ x : Nat, x = zput L57 2 (8 + 1) := ⟨_, rfl⟩
  have lL58_2 : zlane L58 2 = 8 + 1 := by rw [eL58]; exact zlane_same (by decide)
  have lL58_0 : zlane L58 0 = 4294967358 + 1 := by rw [eL58]; exact (zlane_ne (by decide) (by decide)).trans lL57_0
  obtain ⟨c61_44, ec61_44⟩ : ∃ x : zC, x = zcst c61_42 32 2 := ⟨_, rfl⟩
  have v61_31_44 : zcv c61_44 31 = 4294967376 := by rw [ec61_44]; exact zcv_n (by decide) (by rw [ln61_42]; decide) (by rw [ln61_42]; decide) (by rw [ln61_42]; decide) (by decide) v61_31_42
  have g61_44 : zget 8 h44.2.2 61 = c61_44 := by rw [eh44, ec61_44]; exact zg_s (by decide) g61_43
  have st61_44 : c61_44.1 = 12 := by rw [ec61_44]; exact (zcst_1 _ _ _).1.trans st61_42
  have ln61_44 : c61_44.2.1 = 114 := by rw [ec61_44]; exact (zcst_1 _ _ _).2.trans ln61_42
  have v61_32_44 : zcv c61_44 32 = 2 := by rw [ec61_44]; exact zcv_s (by decide) (by rw [ln61_42]; decide) (by rw [ln61_42]; decide)
  have lL58_1 : zlane L58 1 = x1 + 1 := by rw [eL58]; exact (zlane_ne (by decide) (by decide)).trans lL57_1
  obtain ⟨c79_43, ec79_43⟩ : ∃ x : zC, x = zcst c79_41 1 ((z_shr x1 16) % 256) := ⟨_, rfl⟩
  have g79_43 : zget 8 h43.2.2 79 = c79_43 := by rw [eh43, ec79_43]; exact zg_s (by decide) g79_42
  have g79_44 : zget 8 h44.2.2 79 = c79_43 := by rw [eh44]; exact zg_n (by decide) (by decide) (by decide) g79_43
  have st79_43 : c79_43.1 = 100 := by rw [ec79_43]; exact (zcst_1 _ _ _).1.trans st79_41
  have ln79_43 : c79_43.2.1 = 2000 := by rw [ec79_43]; exact (zcst_1 _ _ _).2.trans ln79_41
  obtain ⟨h45, eh45⟩ : ∃ x : zH, x = (h44.1, h44.2.1, zst 8 h44.2.2 79 (fun c => zcst c 2 ((z_shr x1 8) % 256))) := ⟨_, rfl⟩
  have hs45 : h45.1 = 129 := by rw [eh45]; exact hs44
  have sl45 : h45.2.1 = 650610 := by rw [eh45]; exact sl44
  have g61_45 : zget 8 h45.2.2 61 = c61_44 := by rw [eh45]; exact zg_n (by decide) (by decide) (by decide) g61_44
  obtain ⟨h46, eh46⟩ : ∃ x : zH, x = (h45.1, h45.2.1, zst 8 h45.2.2 61 (fun c => zcst c 32 3)) := ⟨_, rfl⟩
  have hs46 : h46.1 = 129 := by rw [eh46]; exact hs45
  have sl46 : h46.2.1 = 650610 := by rw [eh46]; exact sl45
  obtain ⟨L59, eL59⟩ : ∃ x : Nat, x = zput L58 2 (0 + 1) := ⟨_, rfl⟩
  have lL59_2 : zlane L59 2 = 0 + 1 := by rw [eL59]; exact zlane_same (by decide)
  have lL59_0 : zlane L59 0 = 4294967358 + 1 := by rw [eL59]; exact (zlane_ne (by decide) (by decide)).trans lL58_0
  obtain ⟨c61_46, ec61_46⟩ : ∃ x : zC, x = zcst c61_44 32 3 := ⟨_, rfl⟩
  have v61_31_46 : zcv c61_46 31 = 4294967376 := by rw [ec61_46]; exact zcv_n (by decide) (by rw [ln61_44]; decide) (by rw [ln61_44]; decide) (by rw [ln61_44]; decide) (by decide) v61_31_44
  have g61_46 : zget 8 h46.2.2 61 = c61_46 := by rw [eh46, ec61_46]; exact zg_s (by decide) g61_45
  have st61_46 : c61_46.1 = 12 := by rw [ec61_46]; exact (zcst_1 _ _ _).1.trans st61_44
  have ln61_46 : c61_46.2.1 = 114 := by rw [ec61_46]; exact (zcst_1 _ _ _).2.trans ln61_44
  have v61_32_46 : zcv c61_46 32 = 3 := by rw [ec61_46]; exact zcv_s (by decide) (by rw [ln61_44]; decide) (by rw [ln61_44]; decide)
  have lL59_1 : zlane L59 1 = x1 + 1 := by rw [eL59]; exact (zlane_ne (by decide) (by decide)).trans lL58_1
  obtain ⟨c79_45, ec79_45⟩ : ∃ x : zC, x = zcst c79_43 2 ((z_shr x1 8) % 256) := ⟨_, rfl⟩
  have g79_45 : zget 8 h45.2.2 79 = c79_45 := by rw [eh45, ec79_45]; exact zg_s (by decide) g79_44
  have g79_46 : zget 8 h46.2.2 79 = c79_45 := by rw [eh46]; exact zg_n (by decide) (by decide) (by decide) g79_45
  have st79_45 : c79_45.1 = 100 := by rw [ec79_45]; exact (zcst_1 _ _ _).1.trans st79_43
  have ln79_45 : c79_45.2.1 = 2000 := by rw [ec79_45]; exact (zcst_1 _ _ _).2.trans ln79_43
  obtain ⟨h47, eh47⟩ : ∃ x : zH, x = (h46.1, h46.2.1, zst 8 h46.2.2 79 (fun c => zcst c 3 ((z_shr x1 0) % 256))) := ⟨_, rfl⟩
  have hs47 : h47.1 = 129 := by rw [eh47]; exact hs46
  have sl47 : h47.2.1 = 650610 := by rw [eh47]; exact sl46
  have g61_47 : zget 8 h47.2.2 61 = c61_46 := by rw [eh47]; exact zg_n (by decide) (by decide) (by decide) g61_46
  obtain ⟨h48, eh48⟩ : ∃ x : zH, x = (h47.1, h47.2.1, zst 8 h47.2.2 61 (fun c => zcst c 32 4)) := ⟨_, rfl⟩
  have hs48 : h48.1 = 129 := by rw [eh48]; exact hs47
  have sl48 : h48.2.1 = 650610 := by rw [eh48]; exact sl47
  obtain ⟨L60, eL60⟩ : ∃ x : Nat, x = zput L59 2 (4294967288 + 1) := ⟨_, rfl⟩
  have lL60_2 : zlane L60 2 = 4294967288 + 1 := by rw [eL60]; exact zlane_same (by decide)
  have lL50_2 : zlane L50 2 = x2 + 1 := by rw [eL50]; exact zlane_same (Nat.lt_of_le_of_lt (Nat.succ_le_of_lt hx2) (by decide))
  have lL51_2 : zlane L51 2 = x2 + 1 := by rw [eL51]; exact (zlane_ne (Nat.lt_of_le_of_lt (Nat.succ_le_of_lt hx1) (by decide)) (by decide)).trans lL50_2
  have lL52_2 : zlane L52 2 = x2 + 1 := by rw [eL52]; exact (zlane_ne (by decide) (by decide)).trans lL51_2
  obtain ⟨L61, eL61⟩ : ∃ x : Nat, x = zput 0 1 (x2 + 1) := ⟨_, rfl⟩
  obtain ⟨L62, eL62⟩ : ∃ x : Nat, x = zput L61 0 (4294967358 + 1) := ⟨_, rfl⟩
  obtain ⟨L64, eL64⟩ : ∃ x : Nat, x = zput L62 2 (24 + 1) := ⟨_, rfl⟩
  have lL64_2 : zlane L64 2 = 24 + 1 := by rw [eL64]; exact zlane_same (by decide)
  have lL62_0 : zlane L62 0 = 4294967358 + 1 := by rw [eL62]; exact zlane_same (by decide)
  have lL64_0 : zlane L64 0 = 4294967358 + 1 := by rw [eL64]; exact (zlane_ne (by decide) (by decide)).trans lL62_0
  obtain ⟨c61_48, ec61_48⟩ : ∃ x : zC, x = zcst c61_46 32 4 := ⟨_, rfl⟩
  have v61_31_48 : zcv c61_48 31 = 4294967376 := by rw [ec61_48]; exact zcv_n (by decide) (by rw [ln61_46]; decide) (by rw [ln61_46]; decide) (by rw [ln61_46]; decide) (by decide) v61_31_46
  have g61_48 : zget 8 h48.2.2 61 = c61_48 := by rw [eh48, ec61_48]; exact zg_s (by decide) g61_47
  have st61_48 : c61_48.1 = 12 := by rw [ec61_48]; exact (zcst_1 _ _ _).1.trans st61_46
  have ln61_48 : c61_48.2.1 = 114 := by rw [ec61_48]; exact (zcst_1 _ _ _).2.trans ln61_46
  have v61_32_48 : zcv c61_48 32 = 4 := by rw [ec61_48]; exact zcv_s (by decide) (by rw [ln61_46]; decide) (by rw [ln61_46]; decide)
  have lL61_1 : zlane L61 1 = x2 + 1 := by rw [eL61]; exact zlane_same (Nat.lt_of_le_of_lt (Nat.succ_le_of_lt hx2) (by decide))
  have lL62_1 : zlane L62 1 = x2 + 1 := by rw [eL62]; exact (zlane_ne (by decide) (by decide)).trans lL61_1
  have lL64_1 : zlane L64 1 = x2 + 1 := by rw [eL64]; exact (zlane_ne (by decide) (by decide)).trans lL62_1
  obtain ⟨c79_47, ec79_47⟩ : ∃ x : zC, x = zcst c79_45 3 ((z_shr x1 0) % 256) := ⟨_, rfl⟩
  have g79_47 : zget 8 h47.2.2 79 = c79_47 := by rw [eh47, ec79_47]; exact zg_s (by decide) g79_46
  have g79_48 : zget 8 h48.2.2 79 = c79_47 := by rw [eh48]; exact zg_n (by decide) (by decide) (by decide) g79_47
  have st79_47 : c79_47.1 = 100 := by rw [ec79_47]; exact (zcst_1 _ _ _).1.trans st79_45
  have ln79_47 : c79_47.2.1 = 2000 := by rw [ec79_47]; exact (zcst_1 _ _ _).2.trans ln79_45
  obtain ⟨h49, eh49⟩ : ∃ x : zH, x = (h48.1, h48.2.1, zst 8 h48.2.2 79 (fun c => zcst c 4 ((z_shr x2 24) % 256))) := ⟨_, rfl⟩
  have hs49 : h49.1 = 129 := by rw [eh49]; exact hs48
  have sl49 : h49.2.1 = 650610 := by rw [eh49]; exact sl48
  have g61_49 : zget 8 h49.2.2 61 = c61_48 := by rw [eh49]; exact zg_n (by decide) (by decide) (by decide) g61_48
  obtain ⟨h50, eh50⟩ : ∃ x : zH, x = (h49.1, h49.2.1, zst 8 h49.2.2 61 (fun c => zcst c 32 5)) := ⟨_, rfl⟩
  have hs50 : h50.1 = 129 := by rw [eh50]; exact hs49
  have sl50 : h50.2.1 = 650610 := by rw [eh50]; exact sl49
  obtain ⟨L65, eL65⟩ : ∃ x : Nat, x = zput L64 2 (16 + 1) := ⟨_, rfl⟩
  have lL65_2 : zlane L65 2 = 16 + 1 := by rw [eL65]; exact zlane_same (by decide)
  have lL65_0 : zlane L65 0 = 4294967358 + 1 := by rw [eL65]; exact (zlane_ne (by decide) (by decide)).trans lL64_0
  obtain ⟨c61_50, ec61_50⟩ : ∃ x : zC, x = zcst c61_48 32 5 := ⟨_, rfl⟩
  have v61_31_50 : zcv c61_50 31 = 4294967376 := by rw [ec61_50]; exact zcv_n (by decide) (by rw [ln61_48]; decide) (by rw [ln61_48]; decide) (by rw [ln61_48]; decide) (by decide) v61_31_48
  have g61_50 : zget 8 h50.2.2 61 = c61_50 := by rw [eh50, ec61_50]; exact zg_s (by decide) g61_49
  have st61_50 : c61_50.1 = 12 := by rw [ec61_50]; exact (zcst_1 _ _ _).1.trans st61_48
  have ln61_50 : c61_50.2.1 = 114 := by rw [ec61_50]; exact (zcst_1 _ _ _).2.trans ln61_48
  have v61_32_50 : zcv c61_50 32 = 5 := by rw [ec61_50]; exact zcv_s (by decide) (by rw [ln61_48]; decide) (by rw [ln61_48]; decide)
  have lL65_1 : zlane L65 1 = x2 + 1 := by rw [eL65]; exact (zlane_ne (by decide) (by decide)).trans lL64_1
  obtain ⟨c79_49, ec79_49⟩ : ∃ x : zC, x = zcst c79_47 4 ((z_shr x2 24) % 256) := ⟨_, rfl⟩
  have g79_49 : zget 8 h49.2.2 79 = c79_49 := by rw [eh49, ec79_49]; exact zg_s (by decide) g79_48
  have g79_50 : zget 8 h50.2.2 79 = c79_49 := by rw [eh50]; exact zg_n (by decide) (by decide) (by decide) g79_49
  have st79_49 : c79_49.1 = 100 := by rw [ec79_49]; exact (zcst_1 _ _ _).1.trans st79_47
  have ln79_49 : c79_49.2.1 = 2000 := by rw [ec79_49]; exact (zcst_1 _ _ _).2.trans ln79_47
  obtain ⟨h51, eh51⟩ : ∃ x : zH, x = (h50.1, h50.2.1, zst 8 h50.2.2 79 (fun c => zcst c 5 ((z_shr x2 16) % 256))) := ⟨_, rfl⟩
  have hs51 : h51.1 = 129 := by rw [eh51]; exact hs50
  have sl51 : h51.2.1 = 650610 := by rw [eh51]; exact sl50
  have g61_51 : zget 8 h51.2.2 61 = c61_50 := by rw [eh51]; exact zg_n (by decide) (by decide) (by decide) g61_50
  obtain ⟨h52, eh52⟩ : ∃ x : zH, x = (h51.1, h51.2.1, zst 8 h51.2.2 61 (fun c => zcst c 32 6)) := ⟨_, rfl⟩
  have hs52 : h52.1 = 129 := by rw [eh52]; exact hs51
  have sl52 : h52.2.1 = 650610 := by rw [eh52]; exact sl51
  obtain ⟨L66, eL66⟩ : ∃ x : Nat, x = zput L65 2 (8 + 1) := ⟨_, rfl⟩
  have lL66_2 : zlane L66 2 = 8 + 1 := by rw [eL66]; exact zlane_same (by decide)
  have lL66_0 : zlane L66 0 = 4294967358 + 1 := by rw [eL66]; exact (zlane_ne (by decide) (by decide)).trans lL65_0
  obtain ⟨c61_52, ec61_52⟩ : ∃ x : zC, x = zcst c61_50 32 6 := ⟨_, rfl⟩
  have v61_31_52 : zcv c61_52 31 = 4294967376 := by rw [ec61_52]; exact zcv_n (by decide) (by rw [ln61_50]; decide) (by rw [ln61_50]; decide) (by rw [ln61_50]; decide) (by decide) v61_31_50
  have g61_52 : zget 8 h52.2.2 61 = c61_52 := by rw [eh52, ec61_52]; exact zg_s (by decide) g61_51
  have st61_52 : c61_52.1 = 12 := by rw [ec61_52]; exact (zcst_1 _ _ _).1.trans st61_50
  have ln61_52 : c61_52.2.1 = 114 := by rw [ec61_52]; exact (zcst_1 _ _ _).2.trans ln61_50
  have v61_32_52 : zcv c61_52 32 = 6 := by rw [ec61_52]; exact zcv_s (by decide) (by rw [ln61_50]; decide) (by rw [ln61_50]; decide)
  have lL66_1 : zlane L66 1 = x2 + 1 := by rw [eL66]; exact (zlane_ne (by decide) (by decide)).trans lL65_1
  obtain ⟨c79_51, ec79_51⟩ : ∃ x : zC, x = zcst c79_49 5 ((z_shr x2 16) % 256) := ⟨_, rfl⟩
  have g79_51 : zget 8 h51.2.2 79 = c79_51 := by rw [eh51, ec79_51]; exact zg_s (by decide) g79_50
  have g79_52 : zget 8 h52.2.2 79 = c79_51 := by rw [eh52]; exact zg_n (by decide) (by decide) (by decide) g79_51
  have st79_51 : c79_51.1 = 100 := by rw [ec79_51]; exact (zcst_1 _ _ _).1.trans st79_49
  have ln79_51 : c79_51.2.1 = 2000 := by rw [ec79_51]; exact (zcst_1 _ _ _).2.trans ln79_49
  obtain ⟨h53, eh53⟩ : ∃ x : zH, x = (h52.1, h52.2.1, zst 8 h52.2.2 79 (fun c => zcst c 6 ((z_shr x2 8) % 256))) := ⟨_, rfl⟩
  have hs53 : h53.1 = 129 := by rw [eh53]; exact hs52
  have sl53 : h53.2.1 = 650610 := by rw [eh53]; exact sl52
  have g61_53 : zget 8 h53.2.2 61 = c61_52 := by rw [eh53]; exact zg_n (by decide) (by decide) (by decide) g61_52
  obtain ⟨h54, eh54⟩ : ∃ x : zH, x = (h53.1, h53.2.1, zst 8 h53.2.2 61 (fun c => zcst c 32 7)) := ⟨_, rfl⟩
  have hs54 : h54.1 = 129 := by rw [eh54]; exact hs53
  have sl54 : h54.2.1 = 650610 := by rw [eh54]; exact sl53
  obtain ⟨L67, eL67⟩ : ∃ x : Nat, x = zput L66 2 (0 + 1) := ⟨_, rfl⟩
  have lL67_2 : zlane L67 2 = 0 + 1 := by rw [eL67]; exact zlane_same (by decide)
  have lL67_0 : zlane L67 0 = 4294967358 + 1 := by rw [eL67]; exact (zlane_ne (by decide) (by decide)).trans lL66_0
  obtain ⟨c61_54, ec61_54⟩ : ∃ x : zC, x = zcst c61_52 32 7 := ⟨_, rfl⟩
  have v61_31_54 : zcv c61_54 31 = 4294967376 := by rw [ec61_54]; exact zcv_n (by decide) (by rw [ln61_52]; decide) (by rw [ln61_52]; decide) (by rw [ln61_52]; decide) (by decide) v61_31_52
  have g61_54 : zget 8 h54.2.2 61 = c61_54 := by rw [eh54, ec61_54]; exact zg_s (by decide) g61_53
  have st61_54 : c61_54.1 = 12 := by rw [ec61_54]; exact (zcst_1 _ _ _).1.trans st61_52
  have ln61_54 : c61_54.2.1 = 114 := by rw [ec61_54]; exact (zcst_1 _ _ _).2.trans ln61_52
  have v61_32_54 : zcv c61_54 32 = 7 := by rw [ec61_54]; exact zcv_s (by decide) (by rw [ln61_52]; decide) (by rw [ln61_52]; decide)
  have lL67_1 : zlane L67 1 = x2 + 1 := by rw [eL67]; exact (zlane_ne (by decide) (by decide)).trans lL66_1
  obtain ⟨c79_53, ec79_53⟩ : ∃ x : zC, x = zcst c79_51 6 ((z_shr x2 8) % 256) := ⟨_, rfl⟩
  have g79_53 : zget 8 h53.2.2 79 = c79_53 := by rw [eh53, ec79_53]; exact zg_s (by decide) g79_52
  have g79_54 : zget 8 h54.2.2 79 = c79_53 := by rw [eh54]; exact zg_n (by decide) (by decide) (by decide) g79_53
  have st79_53 : c79_53.1 = 100 := by rw [ec79_53]; exact (zcst_1 _ _ _).1.trans st79_51
  have ln79_53 : c79_53.2.1 = 2000 := by rw [ec79_53]; exact (zcst_1 _ _ _).2.trans ln79_51
  obtain ⟨h55, eh55⟩ : ∃ x : zH, x = (h54.1, h54.2.1, zst 8 h54.2.2 79 (fun c => zcst c 7 ((z_shr x2 0) % 256))) := ⟨_, rfl⟩
  have hs55 : h55.1 = 129 := by rw [eh55]; exact hs54
  have sl55 : h55.2.1 = 650610 := by rw [eh55]; exact sl54
  have g61_55 : zget 8 h55.2.2 61 = c61_54 := by rw [eh55]; exact zg_n (by decide) (by decide) (by decide) g61_54
  obtain ⟨h56, eh56⟩ : ∃ x : zH, x = (h55.1, h55.2.1, zst 8 h55.2.2 61 (fun c => zcst c 32 8)) := ⟨_, rfl⟩
  have hs56 : h56.1 = 129 := by rw [eh56]; exact hs55
  have sl56 : h56.2.1 = 650610 := by rw [eh56]; exact sl55
  obtain ⟨L68, eL68⟩ : ∃ x : Nat, x = zput L67 2 (4294967288 + 1) := ⟨_, rfl⟩
  have lL68_2 : zlane L68 2 = 4294967288 + 1 := by rw [eL68]; exact zlane_same (by decide)
  have lL49_3 : zlane L49 3 = x3 + 1 := by rw [eL49]; exact zlane_same (Nat.lt_of_le_of_lt (Nat.succ_le_of_lt hx3) (by decide))
  have lL50_3 : zlane L50 3 = x3 + 1 := by rw [eL50]; exact (zlane_ne (Nat.lt_of_le_of_lt (Nat.succ_le_of_lt hx2) (by decide)) (by decide)).trans lL49_3
  have lL51_3 : zlane L51 3 = x3 + 1 := by rw [eL51]; exact (zlane_ne (Nat.lt_of_le_of_lt (Nat.succ_le_of_lt hx1) (by decide)) (by decide)).trans lL50_3
  have lL52_3 : zlane L52 3 = x3 + 1 := by rw [eL52]; exact (zlane_ne (by decide) (by decide)).trans lL51_3
  obtain ⟨L69, eL69⟩ : ∃ x : Nat, x = zput 0 1 (x3 + 1) := ⟨_, rfl⟩
  obtain ⟨L70, eL70⟩ : ∃ x : Nat, x = zput L69 0 (4294967358 + 1) := ⟨_, rfl⟩
  obtain ⟨L72, eL72⟩ : ∃ x : Nat, x = zput L70 2 (24 + 1) := ⟨_, rfl⟩
  have lL72_2 : zlane L72 2 = 24 + 1 := by rw [eL72]; exact zlane_same (by decide)
  have lL70_0 : zlane L70 0 = 4294967358 + 1 := by rw [eL70]; exact zlane_same (by decide)
  have lL72_0 : zlane L72 0 = 4294967358 + 1 := by rw [eL72]; exact (zlane_ne (by decide) (by decide)).trans lL70_0
  obtain ⟨c61_56, ec61_56⟩ : ∃ x : zC, x = zcst c61_54 32 8 := ⟨_, rfl⟩
  have v61_31_56 : zcv c61_56 31 = 4294967376 := by rw [ec61_56]; exact zcv_n (by decide) (by rw [ln61_54]; decide) (by rw [ln61_54]; decide) (by rw [ln61_54]; decide) (by decide) v61_31_54
  have g61_56 : zget 8 h56.2.2 61 = c61_56 := by rw [eh56, ec61_56]; exact zg_s (by decide) g61_55
  have st61_56 : c61_56.1 = 12 := by rw [ec61_56]; exact (zcst_1 _ _ _).1.trans st61_54
  have ln61_56 : c61_56.2.1 = 114 := by rw [ec61_56]; exact (zcst_1 _ _ _).2.trans ln61_54
  have v61_32_56 : zcv c61_56 32 = 8 := by rw [ec61_56]; exact zcv_s (by decide) (by rw [ln61_54]; decide) (by rw [ln61_54]; decide)
  have lL69_1 : zlane L69 1 = x3 + 1 := by rw [eL69]; exact zlane_same (Nat.lt_of_le_of_lt (Nat.succ_le_of_lt hx3) (by decide))
  have lL70_1 : zlane L70 1 = x3 + 1 := by rw [eL70]; exact (zlane_ne (by decide) (by decide)).trans lL69_1
  have lL72_1 : zlane L72 1 = x3 + 1 := by rw [eL72]; exact (zlane_ne (by decide) (by decide)).trans lL70_1
  obtain ⟨c79_55, ec79_55⟩ : ∃ x : zC, x = zcst c79_53 7 ((z_shr x2 0) % 256) := ⟨_, rfl⟩
  have g79_55 : zget 8 h55.2.2 79 = c79_55 := by rw [eh55, ec79_55]; exact zg_s (by decide) g79_54
  have g79_56 : zget 8 h56.2.2 79 = c79_55 := by rw [eh56]; exact zg_n (by decide) (by decide) (by decide) g79_55
  have st79_55 : c79_55.1 = 100 := by rw [ec79_55]; exact (zcst_1 _ _ _).1.trans st79_53
  have ln79_55 : c79_55.2.1 = 2000 := by rw [ec79_55]; exact (zcst_1 _ _ _).2.trans ln79_53
  obtain ⟨h57, eh57⟩ : ∃ x : zH, x = (h56.1, h56.2.1, zst 8 h56.2.2 79 (fun c => zcst c 8 ((z_shr x3 24) % 256))) := ⟨_, rfl⟩
  have hs57 : h57.1 = 129 := by rw [eh57]; exact hs56
  have sl57 : h57.2.1 = 650610 := by rw [eh57]; exact sl56
  have g61_57 : zget 8 h57.2.2 61 = c61_56 := by rw [eh57]; exact zg_n (by decide) (by decide) (by decide) g61_56
  obtain ⟨h58, eh58⟩ : ∃ x : zH, x = (h57.1, h57.2.1, zst 8 h57.2.2 61 (fun c => zcst c 32 9)) := ⟨_, rfl⟩
  have hs58 : h58.1 = 129 := by rw [eh58]; exact hs57
  have sl58 : h58.2.1 = 650610 := by rw [eh58]; exact sl57
  obtain ⟨L73, eL73⟩ : ∃ x : Nat, x = zput L72 2 (16 + 1) := ⟨_, rfl⟩
  have lL73_2 : zlane L73 2 = 16 + 1 := by rw [eL73]; exact zlane_same (by decide)
  have lL73_0 : zlane L73 0 = 4294967358 + 1 := by rw [eL73]; exact (zlane_ne (by decide) (by decide)).trans lL72_0
  obtain ⟨c61_58, ec61_58⟩ : ∃ x : zC, x = zcst c61_56 32 9 := ⟨_, rfl⟩
  have v61_31_58 : zcv c61_58 31 = 4294967376 := by rw [ec61_58]; exact zcv_n (by decide) (by rw [ln61_56]; decide) (by rw [ln61_56]; decide) (by rw [ln61_56]; decide) (by decide) v61_31_56
  have g61_58 : zget 8 h58.2.2 61 = c61_58 := by rw [eh58, ec61_58]; exact zg_s (by decide) g61_57
  have st61_58 : c61_58.1 = 12 := by rw [ec61_58]; exact (zcst_1 _ _ _).1.trans st61_56
  have ln61_58 : c61_58.2.1 = 114 := by rw [ec61_58]; exact (zcst_1 _ _ _).2.trans ln61_56
  have v61_32_58 : zcv c61_58 32 = 9 := by rw [ec61_58]; exact zcv_s (by decide) (by rw [ln61_56]; decide) (by rw [ln61_56]; decide)
  have lL73_1 : zlane L73 1 = x3 + 1 := by rw [eL73]; exact (zlane_ne (by decide) (by decide)).trans lL72_1
  obtain ⟨c79_57, ec79_57⟩ : ∃ x : zC, x = zcst c79_55 8 ((z_shr x3 24) % 256) := ⟨_, rfl⟩
  have g79_57 : zget 8 h57.2.2 79 = c79_57 := by rw [eh57, ec79_57]; exact zg_s (by decide) g79_56
  have g79_58 : zget 8 h58.2.2 79 = c79_57 := by rw [eh58]; exact zg_n (by decide) (by decide) (by decide) g79_57
  have st79_57 : c79_57.1 = 100 := by rw [ec79_57]; exact (zcst_1 _ _ _).1.trans st79_55
  have ln79_57 : c79_57.2.1 = 2000 := by rw [ec79_57]; exact (zcst_1 _ _ _).2.trans ln79_55
  obtain ⟨h59, eh59⟩ : ∃ x : zH, x = (h58.1, h58.2.1, zst 8 h58.2.2 79 (fun c => zcst c 9 ((z_shr x3 16) % 256))) := ⟨_, rfl⟩
  have hs59 : h59.1 = 129 := by rw [eh59]; exact hs58
  have sl59 : h59.2.1 = 650610 := by rw [eh59]; exact sl58
  have g61_59 : zget 8 h59.2.2 61 = c61_58 := by rw [eh59]; exact zg_n (by decide) (by decide) (by decide) g61_58
  obtain ⟨h60, eh60⟩ : ∃ x : zH, x = (h59.1, h59.2.1, zst 8 h59.2.2 61 (fun c => zcst c 32 10)) := ⟨_, rfl⟩
  have hs60 : h60.1 = 129 := by rw [eh60]; exact hs59
  have sl60 : h60.2.1 = 650610 := by rw [eh60]; exact sl59
  obtain ⟨L74, eL74⟩ : ∃ x : Nat, x = zput L73 2 (8 + 1) := ⟨_, rfl⟩
  have lL74_2 : zlane L74 2 = 8 + 1 := by rw [eL74]; exact zlane_same (by decide)
  have lL74_0 : zlane L74 0 = 4294967358 + 1 := by rw [eL74]; exact (zlane_ne (by decide) (by decide)).trans lL73_0
  obtain ⟨c61_60, ec61_60⟩ : ∃ x : zC, x = zcst c61_58 32 10 := ⟨_, rfl⟩
  have v61_31_60 : zcv c61_60 31 = 4294967376 := by rw [ec61_60]; exact zcv_n (by decide) (by rw [ln61_58]; decide) (by rw [ln61_58]; decide) (by rw [ln61_58]; decide) (by decide) v61_31_58
  have g61_60 : zget 8 h60.2.2 61 = c61_60 := by rw [eh60, ec61_60]; exact zg_s (by decide) g61_59
  have st61_60 : c61_60.1 = 12 := by rw [ec61_60]; exact (zcst_1 _ _ _).1.trans st61_58
  have ln61_60 : c61_60.2.1 = 114 := by rw [ec61_60]; exact (zcst_1 _ _ _).2.trans ln61_58
  have v61_32_60 : zcv c61_60 32 = 10 := by rw [ec61_60]; exact zcv_s (by decide) (by rw [ln61_58]; decide) (by rw [ln61_58]; decide)
  have lL74_1 : zlane L74 1 = x3 + 1 := by rw [eL74]; exact (zlane_ne (by decide) (by decide)).trans lL73_1
  obtain ⟨c79_59, ec79_59⟩ : ∃ x : zC, x = zcst c79_57 9 ((z_shr x3 16) % 256) := ⟨_, rfl⟩
  have g79_59 : zget 8 h59.2.2 79 = c79_59 := by rw [eh59, ec79_59]; exact zg_s (by decide) g79_58
  have g79_60 : zget 8 h60.2.2 79 = c79_59 := by rw [eh60]; exact zg_n (by decide) (by decide) (by decide) g79_59
  have st79_59 : c79_59.1 = 100 := by rw [ec79_59]; exact (zcst_1 _ _ _).1.trans st79_57
  have ln79_59 : c79_59.2.1 = 2000 := by rw [ec79_59]; exact (zcst_1 _ _ _).2.trans ln79_57
  obtain ⟨h61, eh61⟩ : ∃ x : zH, x = (h60.1, h60.2.1, zst 8 h60.2.2 79 (fun c => zcst c 10 ((z_shr x3 8) % 256))) := ⟨_, rfl⟩
  have hs61 : h61.1 = 129 := by rw [eh61]; exact hs60
  have sl61 : h61.2.1 = 650610 := by rw [eh61]; exact sl60
  have g61_61 : zget 8 h61.2.2 61 = c61_60 := by rw [eh61]; exact zg_n (by decide) (by decide) (by decide) g61_60
  obtain ⟨h62, eh62⟩ : ∃ x : zH, x = (h61.1, h61.2.1, zst 8 h61.2.2 61 (fun c => zcst c 32 11)) := ⟨_, rfl⟩
  have hs62 : h62.1 = 129 := by rw [eh62]; exact hs61
  have sl62 : h62.2.1 = 650610 := by rw [eh62]; exact sl61
  obtain ⟨L75, eL75⟩ : ∃ x : Nat, x = zput L74 2 (0 + 1) := ⟨_, rfl⟩
  have lL75_2 : zlane L75 2 = 0 + 1 := by rw [eL75]; exact zlane_same (by decide)
  have lL75_0 : zlane L75 0 = 4294967358 + 1 := by rw [eL75]; exact (zlane_ne (by decide) (by decide)).trans lL74_0
  obtain ⟨c61_62, ec61_62⟩ : ∃ x : zC, x = zcst c61_60 32 11 := ⟨_, rfl⟩
  have v61_31_62 : zcv c61_62 31 = 4294967376 := by rw [ec61_62]; exact zcv_n (by decide) (by rw [ln61_60]; decide) (by rw [ln61_60]; decide) (by rw [ln61_60]; decide) (by decide) v61_31_60
  have g61_62 : zget 8 h62.2.2 61 = c61_62 := by rw [eh62, ec61_62]; exact zg_s (by decide) g61_61
  have st61_62 : c61_62.1 = 12 := by rw [ec61_62]; exact (zcst_1 _ _ _).1.trans st61_60
  have ln61_62 : c61_62.2.1 = 114 := by rw [ec61_62]; exact (zcst_1 _ _ _).2.trans ln61_60
  have v61_32_62 : zcv c61_62 32 = 11 := by rw [ec61_62]; exact zcv_s (by decide) (by rw [ln61_60]; decide) (by rw [ln61_60]; decide)
  have lL75_1 : zlane L75 1 = x3 + 1 := by rw [eL75]; exact (zlane_ne (by decide) (by decide)).trans lL74_1
  obtain ⟨c79_61, ec79_61⟩ : ∃ x : zC, x = zcst c79_59 10 ((z_shr x3 8) % 256) := ⟨_, rfl⟩
  have g79_61 : zget 8 h61.2.2 79 = c79_61 := by rw [eh61, ec79_61]; exact zg_s (by decide) g79_60
  have g79_62 : zget 8 h62.2.2 79 = c79_61 := by rw [eh62]; exact zg_n (by decide) (by decide) (by decide) g79_61
  have st79_61 : c79_61.1 = 100 := by rw [ec79_61]; exact (zcst_1 _ _ _).1.trans st79_59
  have ln79_61 : c79_61.2.1 = 2000 := by rw [ec79_61]; exact (zcst_1 _ _ _).2.trans ln79_59
  obtain ⟨h63, eh63⟩ : ∃ x : zH, x = (h62.1, h62.2.1, zst 8 h62.2.2 79 (fun c => zcst c 11 ((z_shr x3 0) % 256))) := ⟨_, rfl⟩
  have hs63 : h63.1 = 129 := by rw [eh63]; exact hs62
  have sl63 : h63.2.1 = 650610 := by rw [eh63]; exact sl62
  have g61_63 : zget 8 h63.2.2 61 = c61_62 := by rw [eh63]; exact zg_n (by decide) (by decide) (by decide) g61_62
  obtain ⟨h64, eh64⟩ : ∃ x : zH, x = (h63.1, h63.2.1, zst 8 h63.2.2 61 (fun c => zcst c 32 12)) := ⟨_, rfl⟩
  have hs64 : h64.1 = 129 := by rw [eh64]; exact hs63
  have sl64 : h64.2.1 = 650610 := by rw [eh64]; exact sl63
  obtain ⟨L76, eL76⟩ : ∃ x : Nat, x = zput L75 2 (4294967288 + 1) := ⟨_, rfl⟩
  have lL76_2 : zlane L76 2 = 4294967288 + 1 := by rw [eL76]; exact zlane_same (by decide)
  have lL48_4 : zlane L48 4 = x4 + 1 := by rw [eL48]; exact zlane_same (Nat.lt_of_le_of_lt (Nat.succ_le_of_lt hx4) (by decide))
  have lL49_4 : zlane L49 4 = x4 + 1 := by rw [eL49]; exact (zlane_ne (Nat.lt_of_le_of_lt (Nat.succ_le_of_lt hx3) (by decide)) (by decide)).trans lL48_4
  have lL50_4 : zlane L50 4 = x4 + 1 := by rw [eL50]; exact (zlane_ne (Nat.lt_of_le_of_lt (Nat.succ_le_of_lt hx2) (by decide)) (by decide)).trans lL49_4
  have lL51_4 : zlane L51 4 = x4 + 1 := by rw [eL51]; exact (zlane_ne (Nat.lt_of_le_of_lt (Nat.succ_le_of_lt hx1) (by decide)) (by decide)).trans lL50_4
  have lL52_4 : zlane L52 4 = x4 + 1 := by rw [eL52]; exact (zlane_ne (by decide) (by decide)).trans lL51_4
  obtain ⟨L77, eL77⟩ : ∃ x : Nat, x = zput 0 1 (x4 + 1) := ⟨_, rfl⟩
  obtain ⟨L78, eL78⟩ : ∃ x : Nat, x = zput L77 0 (4294967358 + 1) := ⟨_, rfl⟩
  obtain ⟨L80, eL80⟩ : ∃ x : Nat, x = zput L78 2 (24 + 1) := ⟨_, rfl⟩
  have lL80_2 : zlane L80 2 = 24 + 1 := by rw [eL80]; exact zlane_same (by decide)
  have lL78_0 : zlane L78 0 = 4294967358 + 1 := by rw [eL78]; exact zlane_same (by decide)
  have lL80_0 : zlane L80 0 = 4294967358 + 1 := by rw [eL80]; exact (zlane_ne (by decide) (by decide)).trans lL78_0
  obtain ⟨c61_64, ec61_64⟩ : ∃ x : zC, x = zcst c61_62 32 12 := ⟨_, rfl⟩
  have v61_31_64 : zcv c61_64 31 = 4294967376 := by rw [ec61_64]; exact zcv_n (by decide) (by rw [ln61_62]; decide) (by rw [ln61_62]; decide) (by rw [ln61_62]; decide) (by decide) v61_31_62
  have g61_64 : zget 8 h64.2.2 61 = c61_64 := by rw [eh64, ec61_64]; exact zg_s (by decide) g61_63
  have st61_64 : c61_64.1 = 12 := by rw [ec61_64]; exact (zcst_1 _ _ _).1.trans st61_62
  have ln61_64 : c61_64.2.1 = 114 := by rw [ec61_64]; exact (zcst_1 _ _ _).2.trans ln61_62
  have v61_32_64 : zcv c61_64 32 = 12 := by rw [ec61_64]; exact zcv_s (by decide) (by rw [ln61_62]; decide) (by rw [ln61_62]; decide)
  have lL77_1 : zlane L77 1 = x4 + 1 := by rw [eL77]; exact zlane_same (Nat.lt_of_le_of_lt (Nat.succ_le_of_lt hx4) (by decide))
  have lL78_1 : zlane L78 1 = x4 + 1 := by rw [eL78]; exact (zlane_ne (by decide) (by decide)).trans lL77_1
  have lL80_1 : zlane L80 1 = x4 + 1 := by rw [eL80]; exact (zlane_ne (by decide) (by decide)).trans lL78_1
  obtain ⟨c79_63, ec79_63⟩ : ∃ x : zC, x = zcst c79_61 11 ((z_shr x3 0) % 256) := ⟨_, rfl⟩
  have g79_63 : zget 8 h63.2.2 79 = c79_63 := by rw [eh63, ec79_63]; exact zg_s (by decide) g79_62
  have g79_64 : zget 8 h64.2.2 79 = c79_63 := by rw [eh64]; exact zg_n (by decide) (by decide) (by decide) g79_63
  have st79_63 : c79_63.1 = 100 := by rw [ec79_63]; exact (zcst_1 _ _ _).1.trans st79_61
  have ln79_63 : c79_63.2.1 = 2000 := by rw [ec79_63]; exact (zcst_1 _ _ _).2.trans ln79_61
  obtain ⟨h65, eh65⟩ : ∃ x : zH, x = (h64.1, h64.2.1, zst 8 h64.2.2 79 (fun c => zcst c 12 ((z_shr x4 24) % 256))) := ⟨_, rfl⟩
  have hs65 : h65.1 = 129 := by rw [eh65]; exact hs64
  have sl65 : h65.2.1 = 650610 := by rw [eh65]; exact sl64
  have g61_65 : zget 8 h65.2.2 61 = c61_64 := by rw [eh65]; exact zg_n (by decide) (by decide) (by decide) g61_64
  obtain ⟨h66, eh66⟩ : ∃ x : zH, x = (h65.1, h65.2.1, zst 8 h65.2.2 61 (fun c => zcst c 32 13)) := ⟨_, rfl⟩
  have hs66 : h66.1 = 129 := by rw [eh66]; exact hs65
  have sl66 : h66.2.1 = 650610 := by rw [eh66]; exact sl65
  obtain ⟨L81, eL81⟩ : ∃ x : Nat, x = zput L80 2 (16 + 1) := ⟨_, rfl⟩
  have lL81_2 : zlane L81 2 = 16 + 1 := by rw [eL81]; exact zlane_same (by decide)
  have lL81_0 : zlane L81 0 = 4294967358 + 1 := by rw [eL81]; exact (zlane_ne (by decide) (by decide)).trans lL80_0
  obtain ⟨c61_66, ec61_66⟩ : ∃ x : zC, x = zcst c61_64 32 13 := ⟨_, rfl⟩
  have v61_31_66 : zcv c61_66 31 = 4294967376 := by rw [ec61_66]; exact zcv_n (by decide) (by rw [ln61_64]; decide) (by rw [ln61_64]; decide) (by rw [ln61_64]; decide) (by decide) v61_31_64
  have g61_66 : zget 8 h66.2.2 61 = c61_66 := by rw [eh66, ec61_66]; exact zg_s (by decide) g61_65
  have st61_66 : c61_66.1 = 12 := by rw [ec61_66]; exact (zcst_1 _ _ _).1.trans st61_64
  have ln61_66 : c61_66.2.1 = 114 := by rw [ec61_66]; exact (zcst_1 _ _ _).2.trans ln61_64
  have v61_32_66 : zcv c61_66 32 = 13 := by rw [ec61_66]; exact zcv_s (by decide) (by rw [ln61_64]; decide) (by rw [ln61_64]; decide)
  have lL81_1 : zlane L81 1 = x4 + 1 := by rw [eL81]; exact (zlane_ne (by decide) (by decide)).trans lL80_1
  obtain ⟨c79_65, ec79_65⟩ : ∃ x : zC, x = zcst c79_63 12 ((z_shr x4 24) % 256) := ⟨_, rfl⟩
  have g79_65 : zget 8 h65.2.2 79 = c79_65 := by rw [eh65, ec79_65]; exact zg_s (by decide) g79_64
  have g79_66 : zget 8 h66.2.2 79 = c79_65 := by rw [eh66]; exact zg_n (by decide) (by decide) (by decide) g79_65
  have st79_65 : c79_65.1 = 100 := by rw [ec79_65]; exact (zcst_1 _ _ _).1.trans st79_63
  have ln79_65 : c79_65.2.1 = 2000 := by rw [ec79_65]; exact (zcst_1 _ _ _).2.trans ln79_63
  obtain ⟨h67, eh67⟩ : ∃ x : zH, x = (h66.1, h66.2.1, zst 8 h66.2.2 79 (fun c => zcst c 13 ((z_shr x4 16) % 256))) := ⟨_, rfl⟩
  have hs67 : h67.1 = 129 := by rw [eh67]; exact hs66
  have sl67 : h67.2.1 = 650610 := by rw [eh67]; exact sl66
  have g61_67 : zget 8 h67.2.2 61 = c61_66 := by rw [eh67]; exact zg_n (by decide) (by decide) (by decide) g61_66
  obtain ⟨h68, eh68⟩ : ∃ x : zH, x = (h67.1, h67.2.1, zst 8 h67.2.2 61 (fun c => zcst c 32 14)) := ⟨_, rfl⟩
  have hs68 : h68.1 = 129 := by rw [eh68]; exact hs67
  have sl68 : h68.2.1 = 650610 := by rw [eh68]; exact sl67
  obtain ⟨L82, eL82⟩ : ∃ x : Nat, x = zput L81 2 (8 + 1) := ⟨_, rfl⟩
  have lL82_2 : zlane L82 2 = 8 + 1 := by rw [eL82]; exact zlane_same (by decide)
  have lL82_0 : zlane L82 0 = 4294967358 + 1 := by rw [eL82]; exact (zlane_ne (by decide) (by decide)).trans lL81_0
  obtain ⟨c61_68, ec61_68⟩ : ∃ x : zC, x = zcst c61_66 32 14 := ⟨_, rfl⟩
  have v61_31_68 : zcv c61_68 31 = 4294967376 := by rw [ec61_68]; exact zcv_n (by decide) (by rw [ln61_66]; decide) (by rw [ln61_66]; decide) (by rw [ln61_66]; decide) (by decide) v61_31_66
  have g61_68 : zget 8 h68.2.2 61 = c61_68 := by rw [eh68, ec61_68]; exact zg_s (by decide) g61_67
  have st61_68 : c61_68.1 = 12 := by rw [ec61_68]; exact (zcst_1 _ _ _).1.trans st61_66
  have ln61_68 : c61_68.2.1 = 114 := by rw [ec61_68]; exact (zcst_1 _ _ _).2.trans ln61_66
  have v61_32_68 : zcv c61_68 32 = 14 := by rw [ec61_68]; exact zcv_s (by decide) (by rw [ln61_66]; decide) (by rw [ln61_66]; decide)
  have lL82_1 : zlane L82 1 = x4 + 1 := by rw [eL82]; exact (zlane_ne (by decide) (by decide)).trans lL81_1
  obtain ⟨c79_67, ec79_67⟩ : ∃ x : zC, x = zcst c79_65 13 ((z_shr x4 16) % 256) := ⟨_, rfl⟩
  have g79_67 : zget 8 h67.2.2 79 = c79_67 := by rw [eh67, ec79_67]; exact zg_s (by decide) g79_66
  have g79_68 : zget 8 h68.2.2 79 = c79_67 := by rw [eh68]; exact zg_n (by decide) (by decide) (by decide) g79_67
  have st79_67 : c79_67.1 = 100 := by rw [ec79_67]; exact (zcst_1 _ _ _).1.trans st79_65
  have ln79_67 : c79_67.2.1 = 2000 := by rw [ec79_67]; exact (zcst_1 _ _ _).2.trans ln79_65
  obtain ⟨h69, eh69⟩ : ∃ x : zH, x = (h68.1, h68.2.1, zst 8 h68.2.2 79 (fun c => zcst c 14 ((z_shr x4 8) % 256))) := ⟨_, rfl⟩
  have hs69 : h69.1 = 129 := by rw [eh69]; exact hs68
  have sl69 : h69.2.1 = 650610 := by rw [eh69]; exact sl68
  have g61_69 : zget 8 h69.2.2 61 = c61_68 := by rw [eh69]; exact zg_n (by decide) (by decide) (by decide) g61_68
  obtain ⟨h70, eh70⟩ : ∃ x : zH, x = (h69.1, h69.2.1, zst 8 h69.2.2 61 (fun c => zcst c 32 15)) := ⟨_, rfl⟩
  have hs70 : h70.1 = 129 := by rw [eh70]; exact hs69
  have sl70 : h70.2.1 = 650610 := by rw [eh70]; exact sl69
  obtain ⟨L83, eL83⟩ : ∃ x : Nat, x = zput L82 2 (0 + 1) := ⟨_, rfl⟩
  have lL83_2 : zlane L83 2 = 0 + 1 := by rw [eL83]; exact zlane_same (by decide)
  have lL83_0 : zlane L83 0 = 4294967358 + 1 := by rw [eL83]; exact (zlane_ne (by decide) (by decide)).trans lL82_0
  obtain ⟨c61_70, ec61_70⟩ : ∃ x : zC, x = zcst c61_68 32 15 := ⟨_, rfl⟩
  have v61_31_70 : zcv c61_70 31 = 4294967376 := by rw [ec61_70]; exact zcv_n (by decide) (by rw [ln61_68]; decide) (by rw [ln61_68]; decide) (by rw [ln61_68]; decide) (by decide) v61_31_68
  have g61_70 : zget 8 h70.2.2 61 = c61_70 := by rw [eh70, ec61_70]; exact zg_s (by decide) g61_69
  have st61_70 : c61_70.1 = 12 := by rw [ec61_70]; exact (zcst_1 _ _ _).1.trans st61_68
  have ln61_70 : c61_70.2.1 = 114 := by rw [ec61_70]; exact (zcst_1 _ _ _).2.trans ln61_68
  have v61_32_70 : zcv c61_70 32 = 15 := by rw [ec61_70]; exact zcv_s (by decide) (by rw [ln61_68]; decide) (by rw [ln61_68]; decide)
  have lL83_1 : zlane L83 1 = x4 + 1 := by rw [eL83]; exact (zlane_ne (by decide) (by decide)).trans lL82_1
  obtain ⟨c79_69, ec79_69⟩ : ∃ x : zC, x = zcst c79_67 14 ((z_shr x4 8) % 256) := ⟨_, rfl⟩
  have g79_69 : zget 8 h69.2.2 79 = c79_69 := by rw [eh69, ec79_69]; exact zg_s (by decide) g79_68
  have g79_70 : zget 8 h70.2.2 79 = c79_69 := by rw [eh70]; exact zg_n (by decide) (by decide) (by decide) g79_69
  have st79_69 : c79_69.1 = 100 := by rw [ec79_69]; exact (zcst_1 _ _ _).1.trans st79_67
  have ln79_69 : c79_69.2.1 = 2000 := by rw [ec79_69]; exact (zcst_1 _ _ _).2.trans ln79_67
  obtain ⟨h71, eh71⟩ : ∃ x : zH, x = (h70.1, h70.2.1, zst 8 h70.2.2 79 (fun c => zcst c 15 ((z_shr x4 0) % 256))) := ⟨_, rfl⟩
  have hs71 : h71.1 = 129 := by rw [eh71]; exact hs70
  have sl71 : h71.2.1 = 650610 := by rw [eh71]; exact sl70
  have g61_71 : zget 8 h71.2.2 61 = c61_70 := by rw [eh71]; exact zg_n (by decide) (by decide) (by decide) g61_70
  obtain ⟨h72, eh72⟩ : ∃ x : zH, x = (h71.1, h71.2.1, zst 8 h71.2.2 61 (fun c => zcst c 32 16)) := ⟨_, rfl⟩
  have hs72 : h72.1 = 129 := by rw [eh72]; exact hs71
  have sl72 : h72.2.1 = 650610 := by rw [eh72]; exact sl71
  obtain ⟨L84, eL84⟩ : ∃ x : Nat, x = zput L83 2 (4294967288 + 1) := ⟨_, rfl⟩
  have lL84_2 : zlane L84 2 = 4294967288 + 1 := by rw [eL84]; exact zlane_same (by decide)
  have lL47_5 : zlane L47 5 = x5 + 1 := by rw [eL47]; exact zlane_same (Nat.lt_of_le_of_lt (Nat.succ_le_of_lt hx5) (by decide))
  have lL48_5 : zlane L48 5 = x5 + 1 := by rw [eL48]; exact (zlane_ne (Nat.lt_of_le_of_lt (Nat.succ_le_of_lt hx4) (by decide)) (by decide)).trans lL47_5
  have lL49_5 : zlane L49 5 = x5 + 1 := by rw [eL49]; exact (zlane_ne (Nat.lt_of_le_of_lt (Nat.succ_le_of_lt hx3) (by decide)) (by decide)).trans lL48_5
  have lL50_5 : zlane L50 5 = x5 + 1 := by rw [eL50]; exact (zlane_ne (Nat.lt_of_le_of_lt (Nat.succ_le_of_lt hx2) (by decide)) (by decide)).trans lL49_5
  have lL51_5 : zlane L51 5 = x5 + 1 := by rw [eL51]; exact (zlane_ne (Nat.lt_of_le_of_lt (Nat.succ_le_of_lt hx1) (by decide)) (by decide)).trans lL50_5
  have lL52_5 : zlane L52 5 = x5 + 1 := by rw [eL52]; exact (zlane_ne (by decide) (by decide)).trans lL51_5
  obtain ⟨L85, eL85⟩ : ∃ x : Nat, x = zput 0 1 (x5 + 1) := ⟨_, rfl⟩
  obtain ⟨L86, eL86⟩ : ∃ x : Nat, x = zput L85 0 (4294967358 + 1) := ⟨_, rfl⟩
  obtain ⟨L88, eL88⟩ : ∃ x : Nat, x = zput L86 2 (24 + 1) := ⟨_, rfl⟩
  have lL88_2 : zlane L88 2 = 24 + 1 := by rw [eL88]; exact zlane_same (by decide)
  have lL86_0 : zlane L86 0 = 4294967358 + 1 := by rw [eL86]; exact zlane_same (by decide)
  have lL88_0 : zlane L88 0 = 4294967358 + 1 := by rw [eL88]; exact (zlane_ne (by decide) (by decide)).trans lL86_0
  obtain ⟨c61_72, ec61_72⟩ : ∃ x : zC, x = zcst c61_70 32 16 := ⟨_, rfl⟩
  have v61_31_72 : zcv c61_72 31 = 4294967376 := by rw [ec61_72]; exact zcv_n (by decide) (by rw [ln61_70]; decide) (by rw [ln61_70]; decide) (by rw [ln61_70]; decide) (by decide) v61_31_70
  have g61_72 : zget 8 h72.2.2 61 = c61_72 := by rw [eh72, ec61_72]; exact zg_s (by decide) g61_71
  have st61_72 : c61_72.1 = 12 := by rw [ec61_72]; exact (zcst_1 _ _ _).1.trans st61_70
  have ln61_72 : c61_72.2.1 = 114 := by rw [ec61_72]; exact (zcst_1 _ _ _).2.trans ln61_70
  have v61_32_72 : zcv c61_72 32 = 16 := by rw [ec61_72]; exact zcv_s (by decide) (by rw [ln61_70]; decide) (by rw [ln61_70]; decide)
  have lL85_1 : zlane L85 1 = x5 + 1 := by rw [eL85]; exact zlane_same (Nat.lt_of_le_of_lt (Nat.succ_le_of_lt hx5) (by decide))
  have lL86_1 : zlane L86 1 = x5 + 1 := by rw [eL86]; exact (zlane_ne (by decide) (by decide)).trans lL85_1
  have lL88_1 : zlane L88 1 = x5 + 1 := by rw [eL88]; exact (zlane_ne (by decide) (by decide)).trans lL86_1
  obtain ⟨c79_71, ec79_71⟩ : ∃ x : zC, x = zcst c79_69 15 ((z_shr x4 0) % 256) := ⟨_, rfl⟩
  have g79_71 : zget 8 h71.2.2 79 = c79_71 := by rw [eh71, ec79_71]; exact zg_s (by decide) g79_70
  have g79_72 : zget 8 h72.2.2 79 = c79_71 := by rw [eh72]; exact zg_n (by decide) (by decide) (by decide) g79_71
  have st79_71 : c79_71.1 = 100 := by rw [ec79_71]; exact (zcst_1 _ _ _).1.trans st79_69
  have ln79_71 : c79_71.2.1 = 2000 := by rw [ec79_71]; exact (zcst_1 _ _ _).2.trans ln79_69
  obtain ⟨h73, eh73⟩ : ∃ x : zH, x = (h72.1, h72.2.1, zst 8 h72.2.2 79 (fun c => zcst c 16 ((z_shr x5 24) % 256))) := ⟨_, rfl⟩
  have hs73 : h73.1 = 129 := by rw [eh73]; exact hs72
  have sl73 : h73.2.1 = 650610 := by rw [eh73]; exact sl72
  have g61_73 : zget 8 h73.2.2 61 = c61_72 := by rw [eh73]; exact zg_n (by decide) (by decide) (by decide) g61_72
  obtain ⟨h74, eh74⟩ : ∃ x : zH, x = (h73.1, h73.2.1, zst 8 h73.2.2 61 (fun c => zcst c 32 17)) := ⟨_, rfl⟩
  have hs74 : h74.1 = 129 := by rw [eh74]; exact hs73
  have sl74 : h74.2.1 = 650610 := by rw [eh74]; exact sl73
  obtain ⟨L89, eL89⟩ : ∃ x : Nat, x = zput L88 2 (16 + 1) := ⟨_, rfl⟩
  have lL89_2 : zlane L89 2 = 16 + 1 := by rw [eL89]; exact zlane_same (by decide)
  have lL89_0 : zlane L89 0 = 4294967358 + 1 := by rw [eL89]; exact (zlane_ne (by decide) (by decide)).trans lL88_0
  obtain ⟨c61_74, ec61_74⟩ : ∃ x : zC, x = zcst c61_72 32 17 := ⟨_, rfl⟩
  have v61_31_74 : zcv c61_74 31 = 4294967376 := by rw [ec61_74]; exact zcv_n (by decide) (by rw [ln61_72]; decide) (by rw [ln61_72]; decide) (by rw [ln61_72]; decide) (by decide) v61_31_72
  have g61_74 : zget 8 h74.2.2 61 = c61_74 := by rw [eh74, ec61_74]; exact zg_s (by decide) g61_73
  have st61_74 : c61_74.1 = 12 := by rw [ec61_74]; exact (zcst_1 _ _ _).1.trans st61_72
  have ln61_74 : c61_74.2.1 = 114 := by rw [ec61_74]; exact (zcst_1 _ _ _).2.trans ln61_72
  have v61_32_74 : zcv c61_74 32 = 17 := by rw [ec61_74]; exact zcv_s (by decide) (by rw [ln61_72]; decide) (by rw [ln61_72]; decide)
  have lL89_1 : zlane L89 1 = x5 + 1 := by rw [eL89]; exact (zlane_ne (by decide) (by decide)).trans lL88_1
  obtain ⟨c79_73, ec79_73⟩ : ∃ x : zC, x = zcst c79_71 16 ((z_shr x5 24) % 256) := ⟨_, rfl⟩
  have g79_73 : zget 8 h73.2.2 79 = c79_73 := by rw [eh73, ec79_73]; exact zg_s (by decide) g79_72
  have g79_74 : zget 8 h74.2.2 79 = c79_73 := by rw [eh74]; exact zg_n (by decide) (by decide) (by decide) g79_73
  have st79_73 : c79_73.1 = 100 := by rw [ec79_73]; exact (zcst_1 _ _ _).1.trans st79_71
  have ln79_73 : c79_73.2.1 = 2000 := by rw [ec79_73]; exact (zcst_1 _ _ _).2.trans ln79_71
  obtain ⟨h75, eh75⟩ : ∃ x : zH, x = (h74.1, h74.2.1, zst 8 h74.2.2 79 (fun c => zcst c 17 ((z_shr x5 16) % 256))) := ⟨_, rfl⟩
  have hs75 : h75.1 = 129 := by rw [eh75]; exact hs74
  have sl75 : h75.2.1 = 650610 := by rw [eh75]; exact sl74
  have g61_75 : zget 8 h75.2.2 61 = c61_74 := by rw [eh75]; exact zg_n (by decide) (by decide) (by decide) g61_74
  obtain ⟨h76, eh76⟩ : ∃ x : zH, x = (h75.1, h75.2.1, zst 8 h75.2.2 61 (fun c => zcst c 32 18)) := ⟨_, rfl⟩
  have hs76 : h76.1 = 129 := by rw [eh76]; exact hs75
  have sl76 : h76.2.1 = 650610 := by rw [eh76]; exact sl75
  obtain ⟨L90, eL90⟩ : ∃ x : Nat, x = zput L89 2 (8 + 1) := ⟨_, rfl⟩
  have lL90_2 : zlane L90 2 = 8 + 1 := by rw [eL90]; exact zlane_same (by decide)
  have lL90_0 : zlane L90 0 = 4294967358 + 1 := by rw [eL90]; exact (zlane_ne (by decide) (by decide)).trans lL89_0
  obtain ⟨c61_76, ec61_76⟩ : ∃ x : zC, x = zcst c61_74 32 18 := ⟨_, rfl⟩
  have v61_31_76 : zcv c61_76 31 = 4294967376 := by rw [ec61_76]; exact zcv_n (by decide) (by rw [ln61_74]; decide) (by rw [ln61_74]; decide) (by rw [ln61_74]; decide) (by decide) v61_31_74
  have g61_76 : zget 8 h76.2.2 61 = c61_76 := by rw [eh76, ec61_76]; exact zg_s (by decide) g61_75
  have st61_76 : c61_76.1 = 12 := by rw [ec61_76]; exact (zcst_1 _ _ _).1.trans st61_74
  have ln61_76 : c61_76.2.1 = 114 := by rw [ec61_76]; exact (zcst_1 _ _ _).2.trans ln61_74
  have v61_32_76 : zcv c61_76 32 = 18 := by rw [ec61_76]; exact zcv_s (by decide) (by rw [ln61_74]; decide) (by rw [ln61_74]; decide)
  have lL90_1 : zlane L90 1 = x5 + 1 := by rw [eL90]; exact (zlane_ne (by decide) (by decide)).trans lL89_1
  obtain ⟨c79_75, ec79_75⟩ : ∃ x : zC, x = zcst c79_73 17 ((z_shr x5 16) % 256) := ⟨_, rfl⟩
  have g79_75 : zget 8 h75.2.2 79 = c79_75 := by rw [eh75, ec79_75]; exact zg_s (by decide) g79_74
  have g79_76 : zget 8 h76.2.2 79 = c79_75 := by rw [eh76]; exact zg_n (by decide) (by decide) (by decide) g79_75
  have st79_75 : c79_75.1 = 100 := by rw [ec79_75]; exact (zcst_1 _ _ _).1.trans st79_73
  have ln79_75 : c79_75.2.1 = 2000 := by rw [ec79_75]; exact (zcst_1 _ _ _).2.trans ln79_73
  obtain ⟨h77, eh77⟩ : ∃ x : zH, x = (h76.1, h76.2.1, zst 8 h76.2.2 79 (fun c => zcst c 18 ((z_shr x5 8) % 256))) := ⟨_, rfl⟩
  have hs77 : h77.1 = 129 := by rw [eh77]; exact hs76
  have sl77 : h77.2.1 = 650610 := by rw [eh77]; exact sl76
  have g61_77 : zget 8 h77.2.2 61 = c61_76 := by rw [eh77]; exact zg_n (by decide) (by decide) (by decide) g61_76
  obtain ⟨h78, eh78⟩ : ∃ x : zH, x = (h77.1, h77.2.1, zst 8 h77.2.2 61 (fun c => zcst c 32 19)) := ⟨_, rfl⟩
  have hs78 : h78.1 = 129 := by rw [eh78]; exact hs77
  have sl78 : h78.2.1 = 650610 := by rw [eh78]; exact sl77
  obtain ⟨L91, eL91⟩ : ∃ x : Nat, x = zput L90 2 (0 + 1) := ⟨_, rfl⟩
  have lL91_2 : zlane L91 2 = 0 + 1 := by rw [eL91]; exact zlane_same (by decide)
  have lL91_0 : zlane L91 0 = 4294967358 + 1 := by rw [eL91]; exact (zlane_ne (by decide) (by decide)).trans lL90_0
  obtain ⟨c61_78, ec61_78⟩ : ∃ x : zC, x = zcst c61_76 32 19 := ⟨_, rfl⟩
  have v61_31_78 : zcv c61_78 31 = 4294967376 := by rw [ec61_78]; exact zcv_n (by decide) (by rw [ln61_76]; decide) (by rw [ln61_76]; decide) (by rw [ln61_76]; decide) (by decide) v61_31_76
  have g61_78 : zget 8 h78.2.2 61 = c61_78 := by rw [eh78, ec61_78]; exact zg_s (by decide) g61_77
  have st61_78 : c61_78.1 = 12 := by rw [ec61_78]; exact (zcst_1 _ _ _).1.trans st61_76
  have ln61_78 : c61_78.2.1 = 114 := by rw [ec61_78]; exact (zcst_1 _ _ _).2.trans ln61_76
  have v61_32_78 : zcv c61_78 32 = 19 := by rw [ec61_78]; exact zcv_s (by decide) (by rw [ln61_76]; decide) (by rw [ln61_76]; decide)
  have lL91_1 : zlane L91 1 = x5 + 1 := by rw [eL91]; exact (zlane_ne (by decide) (by decide)).trans lL90_1
  obtain ⟨c79_77, ec79_77⟩ : ∃ x : zC, x = zcst c79_75 18 ((z_shr x5 8) % 256) := ⟨_, rfl⟩
  have g79_77 : zget 8 h77.2.2 79 = c79_77 := by rw [eh77, ec79_77]; exact zg_s (by decide) g79_76
  have g79_78 : zget 8 h78.2.2 79 = c79_77 := by rw [eh78]; exact zg_n (by decide) (by decide) (by decide) g79_77
  have st79_77 : c79_77.1 = 100 := by rw [ec79_77]; exact (zcst_1 _ _ _).1.trans st79_75
  have ln79_77 : c79_77.2.1 = 2000 := by rw [ec79_77]; exact (zcst_1 _ _ _).2.trans ln79_75
  obtain ⟨h79, eh79⟩ : ∃ x : zH, x = (h78.1, h78.2.1, zst 8 h78.2.2 79 (fun c => zcst c 19 ((z_shr x5 0) % 256))) := ⟨_, rfl⟩
  have hs79 : h79.1 = 129 := by rw [eh79]; exact hs78
  have sl79 : h79.2.1 = 650610 := by rw [eh79]; exact sl78
  have g61_79 : zget 8 h79.2.2 61 = c61_78 := by rw [eh79]; exact zg_n (by decide) (by decide) (by decide) g61_78
  obtain ⟨h80, eh80⟩ : ∃ x : zH, x = (h79.1, h79.2.1, zst 8 h79.2.2 61 (fun c => zcst c 32 20)) := ⟨_, rfl⟩
  have hs80 : h80.1 = 129 := by rw [eh80]; exact hs79
  have sl80 : h80.2.1 = 650610 := by rw [eh80]; exact sl79
  obtain ⟨L92, eL92⟩ : ∃ x : Nat, x = zput L91 2 (4294967288 + 1) := ⟨_, rfl⟩
  have lL92_2 : zlane L92 2 = 4294967288 + 1 := by rw [eL92]; exact zlane_same (by decide)
  obtain ⟨c61_80, ec61_80⟩ : ∃ x : zC, x = zcst c61_78 32 20 := ⟨_, rfl⟩
  have v61_32_80 : zcv c61_80 32 = 20 := by rw [ec61_80]; exact zcv_s (by decide) (by rw [ln61_78]; decide) (by rw [ln61_78]; decide)
  have g61_80 : zget 8 h80.2.2 61 = c61_80 := by rw [eh80, ec61_80]; exact zg_s (by decide) g61_79
  have st61_80 : c61_80.1 = 12 := by rw [ec61_80]; exact (zcst_1 _ _ _).1.trans st61_78
  have ln61_80 : c61_80.2.1 = 114 := by rw [ec61_80]; exact (zcst_1 _ _ _).2.trans ln61_78
  have MS : (zget 8 h40.2.2 61).1 = 12 := by rw [g61_40]; exact st61_0
  have A1 : zrunX zXt 9 ztc (n + 60) 1679 148 L6 [] hbB16 = some ([20], h40) := by
    refine (ca_148 (n := n + 59)).trans ?_
    refine (e_aload lL6_0 (by decide)).trans ?_
    refine (f_getf (k := 0) (by rw [hs0]; decide) g0_0 st0_0 (by rw [ln0_0]; decide) v0_1_0).trans ?_
    refine (e_push).trans ?_
    refine (f_bin (f := z_add) (v := 20) (by decide) (by decide) (by decide +kernel)).trans ?_
    refine (e_push).trans ?_
    refine (f_cmp_t (f := z_le) (by decide) (by decide) (by decide +kernel)).trans ?_
    refine (e_aload lL6_0 (by decide)).trans ?_
    refine (e_iload lL6_1 hx1).trans ?_
    have m9 : zrunX zXt 9 ztc (n + 59) 1678 172 L8 [] hbB16 = some ([], h8) := by
      refine (ca_172 (n := n + 58)).trans ?_
      refine (e_push).trans ?_
      refine (f_istore (by decide) eL10.symm).trans ?_
      refine (e_iload lL10_2 (by decide)).trans ?_
      refine (f_if_f (f := fun a => z_lt a 0) (by decide) (by decide +kernel)).trans ?_
      refine (e_aload lL10_0 (by decide)).trans ?_
      refine (f_getf (k := 0) (by rw [hs0]; decide) g0_0 st0_0 (by rw [ln0_0]; decide) v0_1_0).trans ?_
      refine (e_push).trans ?_
      refine (f_cmp_f (f := z_ge) (by decide) (by decide) (by decide +kernel)).trans ?_
      refine (e_aload lL10_0 (by decide)).trans ?_
      refine (f_getf (k := 0) (by rw [hs0]; decide) g0_0 st0_0 (by rw [ln0_0]; decide) v0_0_0).trans ?_
      refine (e_aload lL10_0 (by decide)).trans ?_
      refine (f_getf (k := 0) (by rw [hs0]; decide) g0_0 st0_0 (by rw [ln0_0]; decide) v0_1_0).trans ?_
      refine (e_iload lL10_1 hx1).trans ?_
      refine (e_iload lL10_2 (by decide)).trans ?_
      refine (f_bin (f := z_shr) (v := (z_shr x1 24)) hx1 (by decide) rfl).trans ?_
      refine (e_push).trans ?_
      refine (f_bin (f := z_and) (v := ((z_shr x1 24) % 256)) (show (z_shr x1 24) < 4294967296 from (z_shr_ok _ _ hx1 (by decide)).1) (by decide) (z_and_m (k := 8) (by decide))).trans ?_
      refine (f_iast (k := 1) (show ((z_shr x1 24) % 256) < 4294967296 from (Nat.lt_trans (Nat.mod_lt _ (by decide)) (by decide))) (by decide) (by rw [hs0]; decide) g1_0 st1_0 (by rw [ln1_0]; decide) eh1.symm).trans ?_
      refine (e_aload lL10_0 (by decide)).trans ?_
      refine (e_dup).trans ?_
      refine (f_getf (k := 0) (by rw [hs1]; decide) g0_1 st0_0 (by rw [ln0_0]; decide) v0_1_0).trans ?_
      refine (e_push).trans ?_
      refine (f_bin (f := z_add) (v := 1) (by decide) (by decide) (by decide +kernel)).trans ?_
      refine (f_putf (ck := ck_int) (k := 0) (by decide +kernel) (by rw [hs1]; decide) g0_1 st0_0 (by rw [ln0_0]; decide) eh2.symm).trans ?_
      refine (f_iinc lL10_2 (by decide) (by decide) eL11.symm).trans ?_
      refine (e_back (lbl := 173)).trans ?_
      refine (ca_173 (n := n + 57)).trans ?_
      refine (e_iload lL11_2 (by decide)).trans ?_
      refine (f_if_f (f := fun a => z_lt a 0) (by decide) (by decide +kernel)).trans ?_
      refine (e_aload lL11_0 (by decide)).trans ?_
      refine (f_getf (k := 0) (by rw [hs2]; decide) g0_2 st0_2 (by rw [ln0_2]; decide) v0_1_2).trans ?_
      refine (e_push).trans ?_
      refine (f_cmp_f (f := z_ge) (by decide) (by decide) (by decide +kernel)).trans ?_
      refine (e_aload lL11_0 (by decide)).trans ?_
      refine (f_getf (k := 0) (by rw [hs2]; decide) g0_2 st0_2 (by rw [ln0_2]; decide) v0_0_2).trans ?_
      refine (e_aload lL11_0 (by decide)).trans ?_
      refine (f_getf (k := 0) (by rw [hs2]; decide) g0_2 st0_2 (by rw [ln0_2]; decide) v0_1_2).trans ?_
      refine (e_iload lL11_1 hx1).trans ?_
      refine (e_iload lL11_2 (by decide)).trans ?_
      refine (f_bin (f := z_shr) (v := (z_shr x1 16)) hx1 (by decide) rfl).trans ?_
      refine (e_push).trans ?_
      refine (f_bin (f := z_and) (v := ((z_shr x1 16) % 256)) (show (z_shr x1 16) < 4294967296 from (z_shr_ok _ _ hx1 (by decide)).1) (by decide) (z_and_m (k := 8) (by decide))).trans ?_
      refine (f_iast (k := 1) (show ((z_shr x1 16) % 256) < 4294967296 from (Nat.lt_trans (Nat.mod_lt _ (by decide)) (by decide))) (by decide) (by rw [hs2]; decide) g1_2 st1_1 (by rw [ln1_1]; decide) eh3.symm).trans ?_
      refine (e_aload lL11_0 (by decide)).trans ?_
      refine (e_dup).trans ?_
      refine (f_getf (k := 0) (by rw [hs3]; decide) g0_3 st0_2 (by rw [ln0_2]; decide) v0_1_2).trans ?_
      refine (e_push).trans ?_
      refine (f_bin (f := z_add) (v := 2) (by decide) (by decide) (by decide +kernel)).trans ?_
      refine (f_putf (ck := ck_int) (k := 0) (by decide +kernel) (by rw [hs3]; decide) g0_3 st0_2 (by rw [ln0_2]; decide) eh4.symm).trans ?_
      refine (f_iinc lL11_2 (by decide) (by decide) eL12.symm).trans ?_
      refine (e_back (lbl := 173)).trans ?_
      refine (ca_173 (n := n + 56)).trans ?_
      refine (e_iload lL12_2 (by decide)).trans ?_
      refine (f_if_f (f := fun a => z_lt a 0) (by decide) (by decide +kernel)).trans ?_
      refine (e_aload lL12_0 (by decide)).trans ?_
      refine (f_getf (k := 0) (by rw [hs4]; decide) g0_4 st0_4 (by rw [ln0_4]; decide) v0_1_4).trans ?_
      refine (e_push).trans ?_
      refine (f_cmp_f (f := z_ge) (by decide) (by decide) (by decide +kernel)).trans ?_
      refine (e_aload lL12_0 (by decide)).trans ?_
      refine (f_getf (k := 0) (by rw [hs4]; decide) g0_4 st0_4 (by rw [ln0_4]; decide) v0_0_4).trans ?_
      refine (e_aload lL12_0 (by decide)).trans ?_
      refine (f_getf (k := 0) (by rw [hs4]; decide) g0_4 st0_4 (by rw [ln0_4]; decide) v0_1_4).trans ?_
      refine (e_iload lL12_1 hx1).trans ?_
      refine (e_iload lL12_2 (by decide)).trans ?_
      refine (f_bin (f := z_shr) (v := (z_shr x1 8)) hx1 (by decide) rfl).trans ?_
      refine (e_push).trans ?_
      refine (f_bin (f := z_and) (v := ((z_shr x1 8) % 256)) (show (z_shr x1 8) < 4294967296 from (z_shr_ok _ _ hx1 (by decide)).1) (by decide) (z_and_m (k := 8) (by decide))).trans ?_
      refine (f_iast (k := 1) (show ((z_shr x1 8) % 256) < 4294967296 from (Nat.lt_trans (Nat.mod_lt _ (by decide)) (by decide))) (by decide) (by rw [hs4]; decide) g1_4 st1_3 (by rw [ln1_3]; decide) eh5.symm).trans ?_
      refine (e_aload lL12_0 (by decide)).trans ?_
      refine (e_dup).trans ?_
      refine (f_getf (k := 0) (by rw [hs5]; decide) g0_5 st0_4 (by rw [ln0_4]; decide) v0_1_4).trans ?_
      refine (e_push).trans ?_
      refine (f_bin (f := z_add) (v := 3) (by decide) (by decide) (by decide +kernel)).trans ?_
      refine (f_putf (ck := ck_int) (k := 0) (by decide +kernel) (by rw [hs5]; decide) g0_5 st0_4 (by rw [ln0_4]; decide) eh6.symm).trans ?_
      refine (f_iinc lL12_2 (by decide) (by decide) eL13.symm).trans ?_
      refine (e_back (lbl := 173)).trans ?_
      refine (ca_173 (n := n + 55)).trans ?_
      refine (e_iload lL13_2 (by decide)).trans ?_
      refine (f_if_f (f := fun a => z_lt a 0) (by decide) (by decide +kernel)).trans ?_
      refine (e_aload lL13_0 (by decide)).trans ?_
      refine (f_getf (k := 0) (by rw [hs6]; decide) g0_6 st0_6 (by rw [ln0_6]; decide) v0_1_6).trans ?_
      refine (e_push).trans ?_
      refine (f_cmp_f (f := z_ge) (by decide) (by decide) (by decide +kernel)).trans ?_
      refine (e_aload lL13_0 (by decide)).trans ?_
      refine (f_getf (k := 0) (by rw [hs6]; decide) g0_6 st0_6 (by rw [ln0_6]; decide) v0_0_6).trans ?_
      refine (e_aload lL13_0 (by decide)).trans ?_
      refine (f_getf (k := 0) (by rw [hs6]; decide) g0_6 st0_6 (by rw [ln0_6]; decide) v0_1_6).trans ?_
      refine (e_iload lL13_1 hx1).trans ?_
      refine (e_iload lL13_2 (by decide)).trans ?_
      refine (f_bin (f := z_shr) (v := (z_shr x1 0)) hx1 (by decide) rfl).trans ?_
      refine (e_push).trans ?_
      refine (f_bin (f := z_and) (v := ((z_shr x1 0) % 256)) (show (z_shr x1 0) < 4294967296 from (z_shr_ok _ _ hx1 (by decide)).1) (by decide) (z_and_m (k := 8) (by decide))).trans ?_
      refine (f_iast (k := 1) (show ((z_shr x1 0) % 256) < 4294967296 from (Nat.lt_trans (Nat.mod_lt _ (by decide)) (by decide))) (by decide) (by rw [hs6]; decide) g1_6 st1_5 (by rw [ln1_5]; decide) eh7.symm).trans ?_
      refine (e_aload lL13_0 (by decide)).trans ?_
      refine (e_dup).trans ?_
      refine (f_getf (k := 0) (by rw [hs7]; decide) g0_7 st0_6 (by rw [ln0_6]; decide) v0_1_6).trans ?_
      refine (e_push).trans ?_
      refine (f_bin (f := z_add) (v := 4) (by decide) (by decide) (by decide +kernel)).trans ?_
      refine (f_putf (ck := ck_int) (k := 0) (by decide +kernel) (by rw [hs7]; decide) g0_7 st0_6 (by rw [ln0_6]; decide) eh8.symm).trans ?_
      refine (f_iinc lL13_2 (by decide) (by decide) eL14.symm).trans ?_
      refine (e_back (lbl := 173)).trans ?_
      refine (ca_173 (n := n + 54)).trans ?_
      refine (e_iload lL14_2 (by decide)).trans ?_
      refine (f_if_t (f := fun a => z_lt a 0) (by decide) (by decide +kernel)).trans ?_
      exact e_vret (R := zrunX zXt 9 ztc (n + 54)) (d := 1678) (L := L14) (h := h8)
    refine (f_callV (k := 0) (d' := 1678) (S0 := [x1, 4294967297]) (S' := []) (S2 := []) (fun q => by rw [zargs_s q (Nat.le_of_lt (Nat.lt_trans hx1 (by decide))), ← eL7, zargs_s q (by decide), ← eL8]; rfl) lL8_0 (by rw [hs0]; decide) g0_0 st0_0 (Nat.le_of_ble_eq_true rfl) m9 (hs8.trans hs0.symm) rfl).trans ?_
    refine (e_aload lL6_0 (by decide)).trans ?_
    refine (e_iload lL6_2 hx2).trans ?_
    have m17 : zrunX zXt 9 ztc (n + 59) 1678 172 L16 [] h8 = some ([], h16) := by
      refine (ca_172 (n := n + 58)).trans ?_
      refine (e_push).trans ?_
      refine (f_istore (by decide) eL18.symm).trans ?_
      refine (e_iload lL18_2 (by decide)).trans ?_
      refine (f_if_f (f := fun a => z_lt a 0) (by decide) (by decide +kernel)).trans ?_
      refine (e_aload lL18_0 (by decide)).trans ?_
      refine (f_getf (k := 0) (by rw [hs8]; decide) g0_8 st0_8 (by rw [ln0_8]; decide) v0_1_8).trans ?_
      refine (e_push).trans ?_
      refine (f_cmp_f (f := z_ge) (by decide) (by decide) (by decide +kernel)).trans ?_
      refine (e_aload lL18_0 (by decide)).trans ?_
      refine (f_getf (k := 0) (by rw [hs8]; decide) g0_8 st0_8 (by rw [ln0_8]; decide) v0_0_8).trans ?_
      refine (e_aload lL18_0 (by decide)).trans ?_
      refine (f_getf (k := 0) (by rw [hs8]; decide) g0_8 st0_8 (by rw [ln0_8]; decide) v0_1_8).trans ?_
      refine (e_iload lL18_1 hx2).trans ?_
      refine (e_iload lL18_2 (by decide)).trans ?_
      refine (f_bin (f := z_shr) (v := (z_shr x2 24)) hx2 (by decide) rfl).trans ?_
      refine (e_push).trans ?_
      refine (f_bin (f := z_and) (v := ((z_shr x2 24) % 256)) (show (z_shr x2 24) < 4294967296 from (z_shr_ok _ _ hx2 (by decide)).1) (by decide) (z_and_m (k := 8) (by decide))).trans ?_
      refine (f_iast (k := 1) (show ((z_shr x2 24) % 256) < 4294967296 from (Nat.lt_trans (Nat.mod_lt _ (by decide)) (by decide))) (by decide) (by rw [hs8]; decide) g1_8 st1_7 (by rw [ln1_7]; decide) eh9.symm).trans ?_
      refine (e_aload lL18_0 (by decide)).trans ?_
      refine (e_dup).trans ?_
      refine (f_getf (k := 0) (by rw [hs9]; decide) g0_9 st0_8 (by rw [ln0_8]; decide) v0_1_8).trans ?_
      refine (e_push).trans ?_
      refine (f_bin (f := z_add) (v := 5) (by decide) (by decide) (by decide +kernel)).trans ?_
      refine (f_putf (ck := ck_int) (k := 0) (by decide +kernel) (by rw [hs9]; decide) g0_9 st0_8 (by rw [ln0_8]; decide) eh10.symm).trans ?_
      refine (f_iinc lL18_2 (by decide) (by decide) eL19.symm).trans ?_
      refine (e_back (lbl := 173)).trans ?_
      refine (ca_173 (n := n + 57)).trans ?_
      refine (e_iload lL19_2 (by decide)).trans ?_
      refine (f_if_f (f := fun a => z_lt a 0) (by decide) (by decide +kernel)).trans ?_
      refine (e_aload lL19_0 (by decide)).trans ?_
      refine (f_getf (k := 0) (by rw [hs10]; decide) g0_10 st0_10 (by rw [ln0_10]; decide) v0_1_10).trans ?_
      refine (e_push).trans ?_
      refine (f_cmp_f (f := z_ge) (by decide) (by decide) (by decide +kernel)).trans ?_
      refine (e_aload lL19_0 (by decide)).trans ?_
      refine (f_getf (k := 0) (by rw [hs10]; decide) g0_10 st0_10 (by rw [ln0_10]; decide) v0_0_10).trans ?_
      refine (e_aload lL19_0 (by decide)).trans ?_
      refine (f_getf (k := 0) (by rw [hs10]; decide) g0_10 st0_10 (by rw [ln0_10]; decide) v0_1_10).trans ?_
      refine (e_iload lL19_1 hx2).trans ?_
      refine (e_iload lL19_2 (by decide)).trans ?_
      refine (f_bin (f := z_shr) (v := (z_shr x2 16)) hx2 (by decide) rfl).trans ?_
      refine (e_push).trans ?_
      refine (f_bin (f := z_and) (v := ((z_shr x2 16) % 256)) (show (z_shr x2 16) < 4294967296 from (z_shr_ok _ _ hx2 (by decide)).1) (by decide) (z_and_m (k := 8) (by decide))).trans ?_
      refine (f_iast (k := 1) (show ((z_shr x2 16) % 256) < 4294967296 from (Nat.lt_trans (Nat.mod_lt _ (by decide)) (by decide))) (by decide) (by rw [hs10]; decide) g1_10 st1_9 (by rw [ln1_9]; decide) eh11.symm).trans ?_
      refine (e_aload lL19_0 (by decide)).trans ?_
      refine (e_dup).trans ?_
      refine (f_getf (k := 0) (by rw [hs11]; decide) g0_11 st0_10 (by rw [ln0_10]; decide) v0_1_10).trans ?_
      refine (e_push).trans ?_
      refine (f_bin (f := z_add) (v := 6) (by decide) (by decide) (by decide +kernel)).trans ?_
      refine (f_putf (ck := ck_int) (k := 0) (by decide +kernel) (by rw [hs11]; decide) g0_11 st0_10 (by rw [ln0_10]; decide) eh12.symm).trans ?_
      refine (f_iinc lL19_2 (by decide) (by decide) eL20.symm).trans ?_
      refine (e_back (lbl := 173)).trans ?_
      refine (ca_173 (n := n + 56)).trans ?_
      refine (e_iload lL20_2 (by decide)).trans ?_
      refine (f_if_f (f := fun a => z_lt a 0) (by decide) (by decide +kernel)).trans ?_
      refine (e_aload lL20_0 (by decide)).trans ?_
      refine (f_getf (k := 0) (by rw [hs12]; decide) g0_12 st0_12 (by rw [ln0_12]; decide) v0_1_12).trans ?_
      refine (e_push).trans ?_
      refine (f_cmp_f (f := z_ge) (by decide) (by decide) (by decide +kernel)).trans ?_
      refine (e_aload lL20_0 (by decide)).trans ?_
      refine (f_getf (k := 0) (by rw [hs12]; decide) g0_12 st0_12 (by rw [ln0_12]; decide) v0_0_12).trans ?_
      refine (e_aload lL20_0 (by decide)).trans ?_
      refine (f_getf (k := 0) (by rw [hs12]; decide) g0_12 st0_12 (by rw [ln0_12]; decide) v0_1_12).trans ?_
      refine (e_iload lL20_1 hx2).trans ?_
      refine (e_iload lL20_2 (by decide)).trans ?_
      refine (f_bin (f := z_shr) (v := (z_shr x2 8)) hx2 (by decide) rfl).trans ?_
      refine (e_push).trans ?_
      refine (f_bin (f := z_and) (v := ((z_shr x2 8) % 256)) (show (z_shr x2 8) < 4294967296 from (z_shr_ok _ _ hx2 (by decide)).1) (by decide) (z_and_m (k := 8) (by decide))).trans ?_
      refine (f_iast (k := 1) (show ((z_shr x2 8) % 256) < 4294967296 from (Nat.lt_trans (Nat.mod_lt _ (by decide)) (by decide))) (by decide) (by rw [hs12]; decide) g1_12 st1_11 (by rw [ln1_11]; decide) eh13.symm).trans ?_
      refine (e_aload lL20_0 (by decide)).trans ?_
      refine (e_dup).trans ?_
      refine (f_getf (k := 0) (by rw [hs13]; decide) g0_13 st0_12 (by rw [ln0_12]; decide) v0_1_12).trans ?_
      refine (e_push).trans ?_
      refine (f_bin (f := z_add) (v := 7) (by decide) (by decide) (by decide +kernel)).trans ?_
      refine (f_putf (ck := ck_int) (k := 0) (by decide +kernel) (by rw [hs13]; decide) g0_13 st0_12 (by rw [ln0_12]; decide) eh14.symm).trans ?_
      refine (f_iinc lL20_2 (by decide) (by decide) eL21.symm).trans ?_
      refine (e_back (lbl := 173)).trans ?_
      refine (ca_173 (n := n + 55)).trans ?_
      refine (e_iload lL21_2 (by decide)).trans ?_
      refine (f_if_f (f := fun a => z_lt a 0) (by decide) (by decide +kernel)).trans ?_
      refine (e_aload lL21_0 (by decide)).trans ?_
      refine (f_getf (k := 0) (by rw [hs14]; decide) g0_14 st0_14 (by rw [ln0_14]; decide) v0_1_14).trans ?_
      refine (e_push).trans ?_
      refine (f_cmp_f (f := z_ge) (by decide) (by decide) (by decide +kernel)).trans ?_
      refine (e_aload lL21_0 (by decide)).trans ?_
      refine (f_getf (k := 0) (by rw [hs14]; decide) g0_14 st0_14 (by rw [ln0_14]; decide) v0_0_14).trans ?_
      refine (e_aload lL21_0 (by decide)).trans ?_
      refine (f_getf (k := 0) (by rw [hs14]; decide) g0_14 st0_14 (by rw [ln0_14]; decide) v0_1_14).trans ?_
      refine (e_iload lL21_1 hx2).trans ?_
      refine (e_iload lL21_2 (by decide)).trans ?_
      refine (f_bin (f := z_shr) (v := (z_shr x2 0)) hx2 (by decide) rfl).trans ?_
      refine (e_push).trans ?_
      refine (f_bin (f := z_and) (v := ((z_shr x2 0) % 256)) (show (z_shr x2 0) < 4294967296 from (z_shr_ok _ _ hx2 (by decide)).1) (by decide) (z_and_m (k := 8) (by decide))).trans ?_
      refine (f_iast (k := 1) (show ((z_shr x2 0) % 256) < 4294967296 from (Nat.lt_trans (Nat.mod_lt _ (by decide)) (by decide))) (by decide) (by rw [hs14]; decide) g1_14 st1_13 (by rw [ln1_13]; decide) eh15.symm).trans ?_
      refine (e_aload lL21_0 (by decide)).trans ?_
      refine (e_dup).trans ?_
      refine (f_getf (k := 0) (by rw [hs15]; decide) g0_15 st0_14 (by rw [ln0_14]; decide) v0_1_14).trans ?_
      refine (e_push).trans ?_
      refine (f_bin (f := z_add) (v := 8) (by decide) (by decide) (by decide +kernel)).trans ?_
      refine (f_putf (ck := ck_int) (k := 0) (by decide +kernel) (by rw [hs15]; decide) g0_15 st0_14 (by rw [ln0_14]; decide) eh16.symm).trans ?_
      refine (f_iinc lL21_2 (by decide) (by decide) eL22.symm).trans ?_
      refine (e_back (lbl := 173)).trans ?_
      refine (ca_173 (n := n + 54)).trans ?_
      refine (e_iload lL22_2 (by decide)).trans ?_
      refine (f_if_t (f := fun a => z_lt a 0) (by decide) (by decide +kernel)).trans ?_
      exact e_vret (R := zrunX zXt 9 ztc (n + 54)) (d := 1678) (L := L22) (h := h16)
    refine (f_callV (k := 0) (d' := 1678) (S0 := [x2, 4294967297]) (S' := []) (S2 := []) (fun q => by rw [zargs_s q (Nat.le_of_lt (Nat.lt_trans hx2 (by decide))), ← eL15, zargs_s q (by decide), ← eL16]; rfl) lL16_0 (by rw [hs8]; decide) g0_8 st0_8 (Nat.le_of_ble_eq_true rfl) m17 (hs16.trans hs8.symm) rfl).trans ?_
    refine (e_aload lL6_0 (by decide)).trans ?_
    refine (e_iload lL6_3 hx3).trans ?_
    have m25 : zrunX zXt 9 ztc (n + 59) 1678 172 L24 [] h16 = some ([], h24) := by
      refine (ca_172 (n := n + 58)).trans ?_
      refine (e_push).trans ?_
      refine (f_istore (by decide) eL26.symm).trans ?_
      refine (e_iload lL26_2 (by decide)).trans ?_
      refine (f_if_f (f := fun a => z_lt a 0) (by decide) (by decide +kernel)).trans ?_
      refine (e_aload lL26_0 (by decide)).trans ?_
      refine (f_getf (k := 0) (by rw [hs16]; decide) g0_16 st0_16 (by rw [ln0_16]; decide) v0_1_16).trans ?_
      refine (e_push).trans ?_
      refine (f_cmp_f (f := z_ge) (by decide) (by decide) (by decide +kernel)).trans ?_
      refine (e_aload lL26_0 (by decide)).trans ?_
      refine (f_getf (k := 0) (by rw [hs16]; decide) g0_16 st0_16 (by rw [ln0_16]; decide) v0_0_16).trans ?_
      refine (e_aload lL26_0 (by decide)).trans ?_
      refine (f_getf (k := 0) (by rw [hs16]; decide) g0_16 st0_16 (by rw [ln0_16]; decide) v0_1_16).trans ?_
      refine (e_iload lL26_1 hx3).trans ?_
      refine (e_iload lL26_2 (by decide)).trans ?_
      refine (f_bin (f := z_shr) (v := (z_shr x3 24)) hx3 (by decide) rfl).trans ?_
      refine (e_push).trans ?_
      refine (f_bin (f := z_and) (v := ((z_shr x3 24) % 256)) (show (z_shr x3 24) < 4294967296 from (z_shr_ok _ _ hx3 (by decide)).1) (by decide) (z_and_m (k := 8) (by decide))).trans ?_
      refine (f_iast (k := 1) (show ((z_shr x3 24) % 256) < 4294967296 from (Nat.lt_trans (Nat.mod_lt _ (by decide)) (by decide))) (by decide) (by rw [hs16]; decide) g1_16 st1_15 (by rw [ln1_15]; decide) eh17.symm).trans ?_
      refine (e_aload lL26_0 (by decide)).trans ?_
      refine (e_dup).trans ?_
      refine (f_getf (k := 0) (by rw [hs17]; decide) g0_17 st0_16 (by rw [ln0_16]; decide) v0_1_16).trans ?_
      refine (e_push).trans ?_
      refine (f_bin (f := z_add) (v := 9) (by decide) (by decide) (by decide +kernel)).trans ?_
      refine (f_putf (ck := ck_int) (k := 0) (by decide +kernel) (by rw [hs17]; decide) g0_17 st0_16 (by rw [ln0_16]; decide) eh18.symm).trans ?_
      refine (f_iinc lL26_2 (by decide) (by decide) eL27.symm).trans ?_
      refine (e_back (lbl := 173)).trans ?_
      refine (ca_173 (n := n + 57)).trans ?_
      refine (e_iload lL27_2 (by decide)).trans ?_
      refine (f_if_f (f := fun a => z_lt a 0) (by decide) (by decide +kernel)).trans ?_
      refine (e_aload lL27_0 (by decide)).trans ?_
      refine (f_getf (k := 0) (by rw [hs18]; decide) g0_18 st0_18 (by rw [ln0_18]; decide) v0_1_18).trans ?_
      refine (e_push).trans ?_
      refine (f_cmp_f (f := z_ge) (by decide) (by decide) (by decide +kernel)).trans ?_
      refine (e_aload lL27_0 (by decide)).trans ?_
      refine (f_getf (k := 0) (by rw [hs18]; decide) g0_18 st0_18 (by rw [ln0_18]; decide) v0_0_18).trans ?_
      refine (e_aload lL27_0 (by decide)).trans ?_
      refine (f_getf (k := 0) (by rw [hs18]; decide) g0_18 st0_18 (by rw [ln0_18]; decide) v0_1_18).trans ?_
      refine (e_iload lL27_1 hx3).trans ?_
      refine (e_iload lL27_2 (by decide)).trans ?_
      refine (f_bin (f := z_shr) (v := (z_shr x3 16)) hx3 (by decide) rfl).trans ?_
      refine (e_push).trans ?_
      refine (f_bin (f := z_and) (v := ((z_shr x3 16) % 256)) (show (z_shr x3 16) < 4294967296 from (z_shr_ok _ _ hx3 (by decide)).1) (by decide) (z_and_m (k := 8) (by decide))).trans ?_
      refine (f_iast (k := 1) (show ((z_shr x3 16) % 256) < 4294967296 from (Nat.lt_trans (Nat.mod_lt _ (by decide)) (by decide))) (by decide) (by rw [hs18]; decide) g1_18 st1_17 (by rw [ln1_17]; decide) eh19.symm).trans ?_
      refine (e_aload lL27_0 (by decide)).trans ?_
      refine (e_dup).trans ?_
      refine (f_getf (k := 0) (by rw [hs19]; decide) g0_19 st0_18 (by rw [ln0_18]; decide) v0_1_18).trans ?_
      refine (e_push).trans ?_
      refine (f_bin (f := z_add) (v := 10) (by decide) (by decide) (by decide +kernel)).trans ?_
      refine (f_putf (ck := ck_int) (k := 0) (by decide +kernel) (by rw [hs19]; decide) g0_19 st0_18 (by rw [ln0_18]; decide) eh20.symm).trans ?_
      refine (f_iinc lL27_2 (by decide) (by decide) eL28.symm).trans ?_
      refine (e_back (lbl := 173)).trans ?_
      refine (ca_173 (n := n + 56)).trans ?_
      refine (e_iload lL28_2 (by decide)).trans ?_
      refine (f_if_f (f := fun a => z_lt a 0) (by decide) (by decide +kernel)).trans ?_
      refine (e_aload lL28_0 (by decide)).trans ?_
      refine (f_getf (k := 0) (by rw [hs20]; decide) g0_20 st0_20 (by rw [ln0_20]; decide) v0_1_20).trans ?_
      refine (e_push).trans ?_
      refine (f_cmp_f (f := z_ge) (by decide) (by decide) (by decide +kernel)).trans ?_
      refine (e_aload lL28_0 (by decide)).trans ?_
      refine (f_getf (k := 0) (by rw [hs20]; decide) g0_20 st0_20 (by rw [ln0_20]; decide) v0_0_20).trans ?_
      refine (e_aload lL28_0 (by decide)).trans ?_
      refine (f_getf (k := 0) (by rw [hs20]; decide) g0_20 st0_20 (by rw [ln0_20]; decide) v0_1_20).trans ?_
      refine (e_iload lL28_1 hx3).trans ?_
      refine (e_iload lL28_2 (by decide)).trans ?_
      refine (f_bin (f := z_shr) (v := (z_shr x3 8)) hx3 (by decide) rfl).trans ?_
      refine (e_push).trans ?_
      refine (f_bin (f := z_and) (v := ((z_shr x3 8) % 256)) (show (z_shr x3 8) < 4294967296 from (z_shr_ok _ _ hx3 (by decide)).1) (by decide) (z_and_m (k := 8) (by decide))).trans ?_
      refine (f_iast (k := 1) (show ((z_shr x3 8) % 256) < 4294967296 from (Nat.lt_trans (Nat.mod_lt _ (by decide)) (by decide))) (by decide) (by rw [hs20]; decide) g1_20 st1_19 (by rw [ln1_19]; decide) eh21.symm).trans ?_
      refine (e_aload lL28_0 (by decide)).trans ?_
      refine (e_dup).trans ?_
      refine (f_getf (k := 0) (by rw [hs21]; decide) g0_21 st0_20 (by rw [ln0_20]; decide) v0_1_20).trans ?_
      refine (e_push).trans ?_
      refine (f_bin (f := z_add) (v := 11) (by decide) (by decide) (by decide +kernel)).trans ?_
      refine (f_putf (ck := ck_int) (k := 0) (by decide +kernel) (by rw [hs21]; decide) g0_21 st0_20 (by rw [ln0_20]; decide) eh22.symm).trans ?_
      refine (f_iinc lL28_2 (by decide) (by decide) eL29.symm).trans ?_
      refine (e_back (lbl := 173)).trans ?_
      refine (ca_173 (n := n + 55)).trans ?_
      refine (e_iload lL29_2 (by decide)).trans ?_
      refine (f_if_f (f := fun a => z_lt a 0) (by decide) (by decide +kernel)).trans ?_
      refine (e_aload lL29_0 (by decide)).trans ?_
      refine (f_getf (k := 0) (by rw [hs22]; decide) g0_22 st0_22 (by rw [ln0_22]; decide) v0_1_22).trans ?_
      refine (e_push).trans ?_
      refine (f_cmp_f (f := z_ge) (by decide) (by decide) (by decide +kernel)).trans ?_
      refine (e_aload lL29_0 (by decide)).trans ?_
      refine (f_getf (k := 0) (by rw [hs22]; decide) g0_22 st0_22 (by rw [ln0_22]; decide) v0_0_22).trans ?_
      refine (e_aload lL29_0 (by decide)).trans ?_
      refine (f_getf (k := 0) (by rw [hs22]; decide) g0_22 st0_22 (by rw [ln0_22]; decide) v0_1_22).trans ?_
      refine (e_iload lL29_1 hx3).trans ?_
      refine (e_iload lL29_2 (by decide)).trans ?_
      refine (f_bin (f := z_shr) (v := (z_shr x3 0)) hx3 (by decide) rfl).trans ?_
      refine (e_push).trans ?_
      refine (f_bin (f := z_and) (v := ((z_shr x3 0) % 256)) (show (z_shr x3 0) < 4294967296 from (z_shr_ok _ _ hx3 (by decide)).1) (by decide) (z_and_m (k := 8) (by decide))).trans ?_
      refine (f_iast (k := 1) (show ((z_shr x3 0) % 256) < 4294967296 from (Nat.lt_trans (Nat.mod_lt _ (by decide)) (by decide))) (by decide) (by rw [hs22]; decide) g1_22 st1_21 (by rw [ln1_21]; decide) eh23.symm).trans ?_
      refine (e_aload lL29_0 (by decide)).trans ?_
      refine (e_dup).trans ?_
      refine (f_getf (k := 0) (by rw [hs23]; decide) g0_23 st0_22 (by rw [ln0_22]; decide) v0_1_22).trans ?_
      refine (e_push).trans ?_
      refine (f_bin (f := z_add) (v := 12) (by decide) (by decide) (by decide +kernel)).trans ?_
      refine (f_putf (ck := ck_int) (k := 0) (by decide +kernel) (by rw [hs23]; decide) g0_23 st0_22 (by rw [ln0_22]; decide) eh24.symm).trans ?_
      refine (f_iinc lL29_2 (by decide) (by decide) eL30.symm).trans ?_
      refine (e_back (lbl := 173)).trans ?_
      refine (ca_173 (n := n + 54)).trans ?_
      refine (e_iload lL30_2 (by decide)).trans ?_
      refine (f_if_t (f := fun a => z_lt a 0) (by decide) (by decide +kernel)).trans ?_
      exact e_vret (R := zrunX zXt 9 ztc (n + 54)) (d := 1678) (L := L30) (h := h24)
    refine (f_callV (k := 0) (d' := 1678) (S0 := [x3, 4294967297]) (S' := []) (S2 := []) (fun q => by rw [zargs_s q (Nat.le_of_lt (Nat.lt_trans hx3 (by decide))), ← eL23, zargs_s q (by decide), ← eL24]; rfl) lL24_0 (by rw [hs16]; decide) g0_16 st0_16 (Nat.le_of_ble_eq_true rfl) m25 (hs24.trans hs16.symm) rfl).trans ?_
    refine (e_aload lL6_0 (by decide)).trans ?_
    refine (e_iload lL6_4 hx4).trans ?_
    have m33 : zrunX zXt 9 ztc (n + 59) 1678 172 L32 [] h24 = some ([], h32) := by
      refine (ca_172 (n := n + 58)).trans ?_
      refine (e_push).trans ?_
      refine (f_istore (by decide) eL34.symm).trans ?_
      refine (e_iload lL34_2 (by decide)).trans ?_
      refine (f_if_f (f := fun a => z_lt a 0) (by decide) (by decide +kernel)).trans ?_
      refine (e_aload lL34_0 (by decide)).trans ?_
      refine (f_getf (k := 0) (by rw [hs24]; decide) g0_24 st0_24 (by rw [ln0_24]; decide) v0_1_24).trans ?_
      refine (e_push).trans ?_
      refine (f_cmp_f (f := z_ge) (by decide) (by decide) (by decide +kernel)).trans ?_
      refine (e_aload lL34_0 (by decide)).trans ?_
      refine (f_getf (k := 0) (by rw [hs24]; decide) g0_24 st0_24 (by rw [ln0_24]; decide) v0_0_24).trans ?_
      refine (e_aload lL34_0 (by decide)).trans ?_
      refine (f_getf (k := 0) (by rw [hs24]; decide) g0_24 st0_24 (by rw [ln0_24]; decide) v0_1_24).trans ?_
      refine (e_iload lL34_1 hx4).trans ?_
      refine (e_iload lL34_2 (by decide)).trans ?_
      refine (f_bin (f := z_shr) (v := (z_shr x4 24)) hx4 (by decide) rfl).trans ?_
      refine (e_push).trans ?_
      refine (f_bin (f := z_and) (v := ((z_shr x4 24) % 256)) (show (z_shr x4 24) < 4294967296 from (z_shr_ok _ _ hx4 (by decide)).1) (by decide) (z_and_m (k := 8) (by decide))).trans ?_
      refine (f_iast (k := 1) (show ((z_shr x4 24) % 256) < 4294967296 from (Nat.lt_trans (Nat.mod_lt _ (by decide)) (by decide))) (by decide) (by rw [hs24]; decide) g1_24 st1_23 (by rw [ln1_23]; decide) eh25.symm).trans ?_
      refine (e_aload lL34_0 (by decide)).trans ?_
      refine (e_dup).trans ?_
      refine (f_getf (k := 0) (by rw [hs25]; decide) g0_25 st0_24 (by rw [ln0_24]; decide) v0_1_24).trans ?_
      refine (e_push).trans ?_
      refine (f_bin (f := z_add) (v := 13) (by decide) (by decide) (by decide +kernel)).trans ?_
      refine (f_putf (ck := ck_int) (k := 0) (by decide +kernel) (by rw [hs25]; decide) g0_25 st0_24 (by rw [ln0_24]; decide) eh26.symm).trans ?_
      refine (f_iinc lL34_2 (by decide) (by decide) eL35.symm).trans ?_
      refine (e_back (lbl := 173)).trans ?_
      refine (ca_173 (n := n + 57)).trans ?_
      refine (e_iload lL35_2 (by decide)).trans ?_
      refine (f_if_f (f := fun a => z_lt a 0) (by decide) (by decide +kernel)).trans ?_
      refine (e_aload lL35_0 (by decide)).trans ?_
      refine (f_getf (k := 0) (by rw [hs26]; decide) g0_26 st0_26 (by rw [ln0_26]; decide) v0_1_26).trans ?_
      refine (e_push).trans ?_
      refine (f_cmp_f (f := z_ge) (by decide) (by decide) (by decide +kernel)).trans ?_
      refine (e_aload lL35_0 (by decide)).trans ?_
      refine (f_getf (k := 0) (by rw [hs26]; decide) g0_26 st0_26 (by rw [ln0_26]; decide) v0_0_26).trans ?_
      refine (e_aload lL35_0 (by decide)).trans ?_
      refine (f_getf (k := 0) (by rw [hs26]; decide) g0_26 st0_26 (by rw [ln0_26]; decide) v0_1_26).trans ?_
      refine (e_iload lL35_1 hx4).trans ?_
      refine (e_iload lL35_2 (by decide)).trans ?_
      refine (f_bin (f := z_shr) (v := (z_shr x4 16)) hx4 (by decide) rfl).trans ?_
      refine (e_push).trans ?_
      refine (f_bin (f := z_and) (v := ((z_shr x4 16) % 256)) (show (z_shr x4 16) < 4294967296 from (z_shr_ok _ _ hx4 (by decide)).1) (by decide) (z_and_m (k := 8) (by decide))).trans ?_
      refine (f_iast (k := 1) (show ((z_shr x4 16) % 256) < 4294967296 from (Nat.lt_trans (Nat.mod_lt _ (by decide)) (by decide))) (by decide) (by rw [hs26]; decide) g1_26 st1_25 (by rw [ln1_25]; decide) eh27.symm).trans ?_
      refine (e_aload lL35_0 (by decide)).trans ?_
      refine (e_dup).trans ?_
      refine (f_getf (k := 0) (by rw [hs27]; decide) g0_27 st0_26 (by rw [ln0_26]; decide) v0_1_26).trans ?_
      refine (e_push).trans ?_
      refine (f_bin (f := z_add) (v := 14) (by decide) (by decide) (by decide +kernel)).trans ?_
      refine (f_putf (ck := ck_int) (k := 0) (by decide +kernel) (by rw [hs27]; decide) g0_27 st0_26 (by rw [ln0_26]; decide) eh28.symm).trans ?_
      refine (f_iinc lL35_2 (by decide) (by decide) eL36.symm).trans ?_
      refine (e_back (lbl := 173)).trans ?_
      refine (ca_173 (n := n + 56)).trans ?_
      refine (e_iload lL36_2 (by decide)).trans ?_
      refine (f_if_f (f := fun a => z_lt a 0) (by decide) (by decide +kernel)).trans ?_
      refine (e_aload lL36_0 (by decide)).trans ?_
      refine (f_getf (k := 0) (by rw [hs28]; decide) g0_28 st0_28 (by rw [ln0_28]; decide) v0_1_28).trans ?_
      refine (e_push).trans ?_
      refine (f_cmp_f (f := z_ge) (by decide) (by decide) (by decide +kernel)).trans ?_
      refine (e_aload lL36_0 (by decide)).trans ?_
      refine (f_getf (k := 0) (by rw [hs28]; decide) g0_28 st0_28 (by rw [ln0_28]; decide) v0_0_28).trans ?_
      refine (e_aload lL36_0 (by decide)).trans ?_
      refine (f_getf (k := 0) (by rw [hs28]; decide) g0_28 st0_28 (by rw [ln0_28]; decide) v0_1_28).trans ?_
      refine (e_iload lL36_1 hx4).trans ?_
      refine (e_iload lL36_2 (by decide)).trans ?_
      refine (f_bin (f := z_shr) (v := (z_shr x4 8)) hx4 (by decide) rfl).trans ?_
      refine (e_push).trans ?_
      refine (f_bin (f := z_and) (v := ((z_shr x4 8) % 256)) (show (z_shr x4 8) < 4294967296 from (z_shr_ok _ _ hx4 (by decide)).1) (by decide) (z_and_m (k := 8) (by decide))).trans ?_
      refine (f_iast (k := 1) (show ((z_shr x4 8) % 256) < 4294967296 from (Nat.lt_trans (Nat.mod_lt _ (by decide)) (by decide))) (by decide) (by rw [hs28]; decide) g1_28 st1_27 (by rw [ln1_27]; decide) eh29.symm).trans ?_
      refine (e_aload lL36_0 (by decide)).trans ?_
      refine (e_dup).trans ?_
      refine (f_getf (k := 0) (by rw [hs29]; decide) g0_29 st0_28 (by rw [ln0_28]; decide) v0_1_28).trans ?_
      refine (e_push).trans ?_
      refine (f_bin (f := z_add) (v := 15) (by decide) (by decide) (by decide +kernel)).trans ?_
      refine (f_putf (ck := ck_int) (k := 0) (by decide +kernel) (by rw [hs29]; decide) g0_29 st0_28 (by rw [ln0_28]; decide) eh30.symm).trans ?_
      refine (f_iinc lL36_2 (by decide) (by decide) eL37.symm).trans ?_
      refine (e_back (lbl := 173)).trans ?_
      refine (ca_173 (n := n + 55)).trans ?_
      refine (e_iload lL37_2 (by decide)).trans ?_
      refine (f_if_f (f := fun a => z_lt a 0) (by decide) (by decide +kernel)).trans ?_
      refine (e_aload lL37_0 (by decide)).trans ?_
      refine (f_getf (k := 0) (by rw [hs30]; decide) g0_30 st0_30 (by rw [ln0_30]; decide) v0_1_30).trans ?_
      refine (e_push).trans ?_
      refine (f_cmp_f (f := z_ge) (by decide) (by decide) (by decide +kernel)).trans ?_
      refine (e_aload lL37_0 (by decide)).trans ?_
      refine (f_getf (k := 0) (by rw [hs30]; decide) g0_30 st0_30 (by rw [ln0_30]; decide) v0_0_30).trans ?_
      refine (e_aload lL37_0 (by decide)).trans ?_
      refine (f_getf (k := 0) (by rw [hs30]; decide) g0_30 st0_30 (by rw [ln0_30]; decide) v0_1_30).trans ?_
      refine (e_iload lL37_1 hx4).trans ?_
      refine (e_iload lL37_2 (by decide)).trans ?_
      refine (f_bin (f := z_shr) (v := (z_shr x4 0)) hx4 (by decide) rfl).trans ?_
      refine (e_push).trans ?_
      refine (f_bin (f := z_and) (v := ((z_shr x4 0) % 256)) (show (z_shr x4 0) < 4294967296 from (z_shr_ok _ _ hx4 (by decide)).1) (by decide) (z_and_m (k := 8) (by decide))).trans ?_
      refine (f_iast (k := 1) (show ((z_shr x4 0) % 256) < 4294967296 from (Nat.lt_trans (Nat.mod_lt _ (by decide)) (by decide))) (by decide) (by rw [hs30]; decide) g1_30 st1_29 (by rw [ln1_29]; decide) eh31.symm).trans ?_
      refine (e_aload lL37_0 (by decide)).trans ?_
      refine (e_dup).trans ?_
      refine (f_getf (k := 0) (by rw [hs31]; decide) g0_31 st0_30 (by rw [ln0_30]; decide) v0_1_30).trans ?_
      refine (e_push).trans ?_
      refine (f_bin (f := z_add) (v := 16) (by decide) (by decide) (by decide +kernel)).trans ?_
      refine (f_putf (ck := ck_int) (k := 0) (by decide +kernel) (by rw [hs31]; decide) g0_31 st0_30 (by rw [ln0_30]; decide) eh32.symm).trans ?_
      refine (f_iinc lL37_2 (by decide) (by decide) eL38.symm).trans ?_
      refine (e_back (lbl := 173)).trans ?_
      refine (ca_173 (n := n + 54)).trans ?_
      refine (e_iload lL38_2 (by decide)).trans ?_
      refine (f_if_t (f := fun a => z_lt a 0) (by decide) (by decide +kernel)).trans ?_
      exact e_vret (R := zrunX zXt 9 ztc (n + 54)) (d := 1678) (L := L38) (h := h32)
    refine (f_callV (k := 0) (d' := 1678) (S0 := [x4, 4294967297]) (S' := []) (S2 := []) (fun q => by rw [zargs_s q (Nat.le_of_lt (Nat.lt_trans hx4 (by decide))), ← eL31, zargs_s q (by decide), ← eL32]; rfl) lL32_0 (by rw [hs24]; decide) g0_24 st0_24 (Nat.le_of_ble_eq_true rfl) m33 (hs32.trans hs24.symm) rfl).trans ?_
    refine (e_aload lL6_0 (by decide)).trans ?_
    refine (e_iload lL6_5 hx5).trans ?_
    have m41 : zrunX zXt 9 ztc (n + 59) 1678 172 L40 [] h32 = some ([], h40) := by
      refine (ca_172 (n := n + 58)).trans ?_
      refine (e_push).trans ?_
      refine (f_istore (by decide) eL42.symm).trans ?_
      refine (e_iload lL42_2 (by decide)).trans ?_
      refine (f_if_f (f := fun a => z_lt a 0) (by decide) (by decide +kernel)).trans ?_
      refine (e_aload lL42_0 (by decide)).trans ?_
      refine (f_getf (k := 0) (by rw [hs32]; decide) g0_32 st0_32 (by rw [ln0_32]; decide) v0_1_32).trans ?_
      refine (e_push).trans ?_
      refine (f_cmp_f (f := z_ge) (by decide) (by decide) (by decide +kernel)).trans ?_
      refine (e_aload lL42_0 (by decide)).trans ?_
      refine (f_getf (k := 0) (by rw [hs32]; decide) g0_32 st0_32 (by rw [ln0_32]; decide) v0_0_32).trans ?_
      refine (e_aload lL42_0 (by decide)).trans ?_
      refine (f_getf (k := 0) (by rw [hs32]; decide) g0_32 st0_32 (by rw [ln0_32]; decide) v0_1_32).trans ?_
      refine (e_iload lL42_1 hx5).trans ?_
      refine (e_iload lL42_2 (by decide)).trans ?_
      refine (f_bin (f := z_shr) (v := (z_shr x5 24)) hx5 (by decide) rfl).trans ?_
      refine (e_push).trans ?_
      refine (f_bin (f := z_and) (v := ((z_shr x5 24) % 256)) (show (z_shr x5 24) < 4294967296 from (z_shr_ok _ _ hx5 (by decide)).1) (by decide) (z_and_m (k := 8) (by decide))).trans ?_
      refine (f_iast (k := 1) (show ((z_shr x5 24) % 256) < 4294967296 from (Nat.lt_trans (Nat.mod_lt _ (by decide)) (by decide))) (by decide) (by rw [hs32]; decide) g1_32 st1_31 (by rw [ln1_31]; decide) eh33.symm).trans ?_
      refine (e_aload lL42_0 (by decide)).trans ?_
      refine (e_dup).trans ?_
      refine (f_getf (k := 0) (by rw [hs33]; decide) g0_33 st0_32 (by rw [ln0_32]; decide) v0_1_32).trans ?_
      refine (e_push).trans ?_
      refine (f_bin (f := z_add) (v := 17) (by decide) (by decide) (by decide +kernel)).trans ?_
      refine (f_putf (ck := ck_int) (k := 0) (by decide +kernel) (by rw [hs33]; decide) g0_33 st0_32 (by rw [ln0_32]; decide) eh34.symm).trans ?_
      refine (f_iinc lL42_2 (by decide) (by decide) eL43.symm).trans ?_
      refine (e_back (lbl := 173)).trans ?_
      refine (ca_173 (n := n + 57)).trans ?_
      refine (e_iload lL43_2 (by decide)).trans ?_
      refine (f_if_f (f := fun a => z_lt a 0) (by decide) (by decide +kernel)).trans ?_
      refine (e_aload lL43_0 (by decide)).trans ?_
      refine (f_getf (k := 0) (by rw [hs34]; decide) g0_34 st0_34 (by rw [ln0_34]; decide) v0_1_34).trans ?_
      refine (e_push).trans ?_
      refine (f_cmp_f (f := z_ge) (by decide) (by decide) (by decide +kernel)).trans ?_
      refine (e_aload lL43_0 (by decide)).trans ?_
      refine (f_getf (k := 0) (by rw [hs34]; decide) g0_34 st0_34 (by rw [ln0_34]; decide) v0_0_34).trans ?_
      refine (e_aload lL43_0 (by decide)).trans ?_
      refine (f_getf (k := 0) (by rw [hs34]; decide) g0_34 st0_34 (by rw [ln0_34]; decide) v0_1_34).trans ?_
      refine (e_iload lL43_1 hx5).trans ?_
      refine (e_iload lL43_2 (by decide)).trans ?_
      refine (f_bin (f := z_shr) (v := (z_shr x5 16)) hx5 (by decide) rfl).trans ?_
      refine (e_push).trans ?_
      refine (f_bin (f := z_and) (v := ((z_shr x5 16) % 256)) (show (z_shr x5 16) < 4294967296 from (z_shr_ok _ _ hx5 (by decide)).1) (by decide) (z_and_m (k := 8) (by decide))).trans ?_
      refine (f_iast (k := 1) (show ((z_shr x5 16) % 256) < 4294967296 from (Nat.lt_trans (Nat.mod_lt _ (by decide)) (by decide))) (by decide) (by rw [hs34]; decide) g1_34 st1_33 (by rw [ln1_33]; decide) eh35.symm).trans ?_
      refine (e_aload lL43_0 (by decide)).trans ?_
      refine (e_dup).trans ?_
      refine (f_getf (k := 0) (by rw [hs35]; decide) g0_35 st0_34 (by rw [ln0_34]; decide) v0_1_34).trans ?_
      refine (e_push).trans ?_
      refine (f_bin (f := z_add) (v := 18) (by decide) (by decide) (by decide +kernel)).trans ?_
      refine (f_putf (ck := ck_int) (k := 0) (by decide +kernel) (by rw [hs35]; decide) g0_35 st0_34 (by rw [ln0_34]; decide) eh36.symm).trans ?_
      refine (f_iinc lL43_2 (by decide) (by decide) eL44.symm).trans ?_
      refine (e_back (lbl := 173)).trans ?_
      refine (ca_173 (n := n + 56)).trans ?_
      refine (e_iload lL44_2 (by decide)).trans ?_
      refine (f_if_f (f := fun a => z_lt a 0) (by decide) (by decide +kernel)).trans ?_
      refine (e_aload lL44_0 (by decide)).trans ?_
      refine (f_getf (k := 0) (by rw [hs36]; decide) g0_36 st0_36 (by rw [ln0_36]; decide) v0_1_36).trans ?_
      refine (e_push).trans ?_
      refine (f_cmp_f (f := z_ge) (by decide) (by decide) (by decide +kernel)).trans ?_
      refine (e_aload lL44_0 (by decide)).trans ?_
      refine (f_getf (k := 0) (by rw [hs36]; decide) g0_36 st0_36 (by rw [ln0_36]; decide) v0_0_36).trans ?_
      refine (e_aload lL44_0 (by decide)).trans ?_
      refine (f_getf (k := 0) (by rw [hs36]; decide) g0_36 st0_36 (by rw [ln0_36]; decide) v0_1_36).trans ?_
      refine (e_iload lL44_1 hx5).trans ?_
      refine (e_iload lL44_2 (by decide)).trans ?_
      refine (f_bin (f := z_shr) (v := (z_shr x5 8)) hx5 (by decide) rfl).trans ?_
      refine (e_push).trans ?_
      refine (f_bin (f := z_and) (v := ((z_shr x5 8) % 256)) (show (z_shr x5 8) < 4294967296 from (z_shr_ok _ _ hx5 (by decide)).1) (by decide) (z_and_m (k := 8) (by decide))).trans ?_
      refine (f_iast (k := 1) (show ((z_shr x5 8) % 256) < 4294967296 from (Nat.lt_trans (Nat.mod_lt _ (by decide)) (by decide))) (by decide) (by rw [hs36]; decide) g1_36 st1_35 (by rw [ln1_35]; decide) eh37.symm).trans ?_
      refine (e_aload lL44_0 (by decide)).trans ?_
      refine (e_dup).trans ?_
      refine (f_getf (k := 0) (by rw [hs37]; decide) g0_37 st0_36 (by rw [ln0_36]; decide) v0_1_36).trans ?_
      refine (e_push).trans ?_
      refine (f_bin (f := z_add) (v := 19) (by decide) (by decide) (by decide +kernel)).trans ?_
      refine (f_putf (ck := ck_int) (k := 0) (by decide +kernel) (by rw [hs37]; decide) g0_37 st0_36 (by rw [ln0_36]; decide) eh38.symm).trans ?_
      refine (f_iinc lL44_2 (by decide) (by decide) eL45.symm).trans ?_
      refine (e_back (lbl := 173)).trans ?_
      refine (ca_173 (n := n + 55)).trans ?_
      refine (e_iload lL45_2 (by decide)).trans ?_
      refine (f_if_f (f := fun a => z_lt a 0) (by decide) (by decide +kernel)).trans ?_
      refine (e_aload lL45_0 (by decide)).trans ?_
      refine (f_getf (k := 0) (by rw [hs38]; decide) g0_38 st0_38 (by rw [ln0_38]; decide) v0_1_38).trans ?_
      refine (e_push).trans ?_
      refine (f_cmp_f (f := z_ge) (by decide) (by decide) (by decide +kernel)).trans ?_
      refine (e_aload lL45_0 (by decide)).trans ?_
      refine (f_getf (k := 0) (by rw [hs38]; decide) g0_38 st0_38 (by rw [ln0_38]; decide) v0_0_38).trans ?_
      refine (e_aload lL45_0 (by decide)).trans ?_
      refine (f_getf (k := 0) (by rw [hs38]; decide) g0_38 st0_38 (by rw [ln0_38]; decide) v0_1_38).trans ?_
      refine (e_iload lL45_1 hx5).trans ?_
      refine (e_iload lL45_2 (by decide)).trans ?_
      refine (f_bin (f := z_shr) (v := (z_shr x5 0)) hx5 (by decide) rfl).trans ?_
      refine (e_push).trans ?_
      refine (f_bin (f := z_and) (v := ((z_shr x5 0) % 256)) (show (z_shr x5 0) < 4294967296 from (z_shr_ok _ _ hx5 (by decide)).1) (by decide) (z_and_m (k := 8) (by decide))).trans ?_
      refine (f_iast (k := 1) (show ((z_shr x5 0) % 256) < 4294967296 from (Nat.lt_trans (Nat.mod_lt _ (by decide)) (by decide))) (by decide) (by rw [hs38]; decide) g1_38 st1_37 (by rw [ln1_37]; decide) eh39.symm).trans ?_
      refine (e_aload lL45_0 (by decide)).trans ?_
      refine (e_dup).trans ?_
      refine (f_getf (k := 0) (by rw [hs39]; decide) g0_39 st0_38 (by rw [ln0_38]; decide) v0_1_38).trans ?_
      refine (e_push).trans ?_
      refine (f_bin (f := z_add) (v := 20) (by decide) (by decide) (by decide +kernel)).trans ?_
      refine (f_putf (ck := ck_int) (k := 0) (by decide +kernel) (by rw [hs39]; decide) g0_39 st0_38 (by rw [ln0_38]; decide) eh40.symm).trans ?_
      refine (f_iinc lL45_2 (by decide) (by decide) eL46.symm).trans ?_
      refine (e_back (lbl := 173)).trans ?_
      refine (ca_173 (n := n + 54)).trans ?_
      refine (e_iload lL46_2 (by decide)).trans ?_
      refine (f_if_t (f := fun a => z_lt a 0) (by decide) (by decide +kernel)).trans ?_
      exact e_vret (R := zrunX zXt 9 ztc (n + 54)) (d := 1678) (L := L46) (h := h40)
    refine (f_callV (k := 0) (d' := 1678) (S0 := [x5, 4294967297]) (S' := []) (S2 := []) (fun q => by rw [zargs_s q (Nat.le_of_lt (Nat.lt_trans hx5 (by decide))), ← eL39, zargs_s q (by decide), ← eL40]; rfl) lL40_0 (by rw [hs32]; decide) g0_32 st0_32 (Nat.le_of_ble_eq_true rfl) m41 (hs40.trans hs32.symm) rfl).trans ?_
    refine (e_aload lL6_0 (by decide)).trans ?_
    refine (f_getf (k := 0) (by rw [hs40]; decide) g0_40 st0_40 (by rw [ln0_40]; decide) v0_1_40).trans ?_
    exact e_ret (R := zrunX zXt 9 ztc (n + 59)) (d := 1679) (L := L6) (h := h40) (v := 20) (by decide)
  have A2 : zrunX zXt 9 ztc (n + 60) 1679 202 L52 [] h40 = some ([20], h80) := by
    refine (ca_202 (n := n + 59)).trans ?_
    refine (e_aload lL52_0 (by decide)).trans ?_
    refine (f_getf (k := 61) (by rw [hs40]; decide) g61_40 st61_0 (by rw [ln61_0]; decide) v61_32_0).trans ?_
    refine (e_push).trans ?_
    refine (f_bin (f := z_add) (v := 20) (by decide) (by decide) (by decide +kernel)).trans ?_
    refine (e_push).trans ?_
    refine (f_cmp_t (f := z_le) (by decide) (by decide) (by decide +kernel)).trans ?_
    refine (e_aload lL52_0 (by decide)).trans ?_
    refine (e_iload lL52_1 hx1).trans ?_
    have m55 : zrunX zXt 9 ztc (n + 59) 1678 203 L54 [] h40 = some ([], h48) := by
      refine (ca_203 (n := n + 58)).trans ?_
      refine (e_push).trans ?_
      refine (f_istore (by decide) eL56.symm).trans ?_
      refine (e_iload lL56_2 (by decide)).trans ?_
      refine (f_if_f (f := fun a => z_lt a 0) (by decide) (by decide +kernel)).trans ?_
      refine (e_aload lL56_0 (by decide)).trans ?_
      refine (f_getf (k := 61) (by rw [hs40]; decide) g61_40 st61_0 (by rw [ln61_0]; decide) v61_31_0).trans ?_
      refine (e_aload lL56_0 (by decide)).trans ?_
      refine (f_getf (k := 61) (by rw [hs40]; decide) g61_40 st61_0 (by rw [ln61_0]; decide) v61_32_0).trans ?_
      refine (e_iload lL56_1 hx1).trans ?_
      refine (e_iload lL56_2 (by decide)).trans ?_
      refine (f_bin (f := z_shr) (v := (z_shr x1 24)) hx1 (by decide) rfl).trans ?_
      refine (e_push).trans ?_
      refine (f_bin (f := z_and) (v := ((z_shr x1 24) % 256)) (show (z_shr x1 24) < 4294967296 from (z_shr_ok _ _ hx1 (by decide)).1) (by decide) (z_and_m (k := 8) (by decide))).trans ?_
      refine (f_iast (k := 79) (show ((z_shr x1 24) % 256) < 4294967296 from (Nat.lt_trans (Nat.mod_lt _ (by decide)) (by decide))) (by decide) (by rw [hs40]; decide) g79_40 st79_0 (by rw [ln79_0]; decide) eh41.symm).trans ?_
      refine (e_aload lL56_0 (by decide)).trans ?_
      refine (e_dup).trans ?_
      refine (f_getf (k := 61) (by rw [hs41]; decide) g61_41 st61_0 (by rw [ln61_0]; decide) v61_32_0).trans ?_
      refine (e_push).trans ?_
      refine (f_bin (f := z_add) (v := 1) (by decide) (by decide) (by decide +kernel)).trans ?_
      refine (f_putf (ck := ck_int) (k := 61) (by decide +kernel) (by rw [hs41]; decide) g61_41 st61_0 (by rw [ln61_0]; decide) eh42.symm).trans ?_
      refine (f_iinc lL56_2 (by decide) (by decide) eL57.symm).trans ?_
      refine (e_back (lbl := 204)).trans ?_
      refine (ca_204 (n := n + 57)).trans ?_
      refine (e_iload lL57_2 (by decide)).trans ?_
      refine (f_if_f (f := fun a => z_lt a 0) (by decide) (by decide +kernel)).trans ?_
      refine (e_aload lL57_0 (by decide)).trans ?_
      refine (f_getf (k := 61) (by rw [hs42]; decide) g61_42 st61_42 (by rw [ln61_42]; decide) v61_31_42).trans ?_
      refine (e_aload lL57_0 (by decide)).trans ?_
      refine (f_getf (k := 61) (by rw [hs42]; decide) g61_42 st61_42 (by rw [ln61_42]; decide) v61_32_42).trans ?_
      refine (e_iload lL57_1 hx1).trans ?_
      refine (e_iload lL57_2 (by decide)).trans ?_
      refine (f_bin (f := z_shr) (v := (z_shr x1 16)) hx1 (by decide) rfl).trans ?_
      refine (e_push).trans ?_
      refine (f_bin (f := z_and) (v := ((z_shr x1 16) % 256)) (show (z_shr x1 16) < 4294967296 from (z_shr_ok _ _ hx1 (by decide)).1) (by decide) (z_and_m (k := 8) (by decide))).trans ?_
      refine (f_iast (k := 79) (show ((z_shr x1 16) % 256) < 4294967296 from (Nat.lt_trans (Nat.mod_lt _ (by decide)) (by decide))) (by decide) (by rw [hs42]; decide) g79_42 st79_41 (by rw [ln79_41]; decide) eh43.symm).trans ?_
      refine (e_aload lL57_0 (by decide)).trans ?_
      refine (e_dup).trans ?_
      refine (f_getf (k := 61) (by rw [hs43]; decide) g61_43 st61_42 (by rw [ln61_42]; decide) v61_32_42).trans ?_
      refine (e_push).trans ?_
      refine (f_bin (f := z_add) (v := 2) (by decide) (by decide) (by decide +kernel)).trans ?_
      refine (f_putf (ck := ck_int) (k := 61) (by decide +kernel) (by rw [hs43]; decide) g61_43 st61_42 (by rw [ln61_42]; decide) eh44.symm).trans ?_
      refine (f_iinc lL57_2 (by decide) (by decide) eL58.symm).trans ?_
      refine (e_back (lbl := 204)).trans ?_
      refine (ca_204 (n := n + 56)).trans ?_
      refine (e_iload lL58_2 (by decide)).trans ?_
      refine (f_if_f (f := fun a => z_lt a 0) (by decide) (by decide +kernel)).trans ?_
      refine (e_aload lL58_0 (by decide)).trans ?_
      refine (f_getf (k := 61) (by rw [hs44]; decide) g61_44 st61_44 (by rw [ln61_44]; decide) v61_31_44).trans ?_
      refine (e_aload lL58_0 (by decide)).trans ?_
      refine (f_getf (k := 61) (by rw [hs44]; decide) g61_44 st61_44 (by rw [ln61_44]; decide) v61_32_44).trans ?_
      refine (e_iload lL58_1 hx1).trans ?_
      refine (e_iload lL58_2 (by decide)).trans ?_
      refine (f_bin (f := z_shr) (v := (z_shr x1 8)) hx1 (by decide) rfl).trans ?_
      refine (e_push).trans ?_
      refine (f_bin (f := z_and) (v := ((z_shr x1 8) % 256)) (show (z_shr x1 8) < 4294967296 from (z_shr_ok _ _ hx1 (by decide)).1) (by decide) (z_and_m (k := 8) (by decide))).trans ?_
      refine (f_iast (k := 79) (show ((z_shr x1 8) % 256) < 4294967296 from (Nat.lt_trans (Nat.mod_lt _ (by decide)) (by decide))) (by decide) (by rw [hs44]; decide) g79_44 st79_43 (by rw [ln79_43]; decide) eh45.symm).trans ?_
      refine (e_aload lL58_0 (by decide)).trans ?_
      refine (e_dup).trans ?_
      refine (f_getf (k := 61) (by rw [hs45]; decide) g61_45 st61_44 (by rw [ln61_44]; decide) v61_32_44).trans ?_
      refine (e_push).trans ?_
      refine (f_bin (f := z_add) (v := 3) (by decide) (by decide) (by decide +kernel)).trans ?_
      refine (f_putf (ck := ck_int) (k := 61) (by decide +kernel) (by rw [hs45]; decide) g61_45 st61_44 (by rw [ln61_44]; decide) eh46.symm).trans ?_
      refine (f_iinc lL58_2 (by decide) (by decide) eL59.symm).trans ?_
      refine (e_back (lbl := 204)).trans ?_
      refine (ca_204 (n := n + 55)).trans ?_
      refine (e_iload lL59_2 (by decide)).trans ?_
      refine (f_if_f (f := fun a => z_lt a 0) (by decide) (by decide +kernel)).trans ?_
      refine (e_aload lL59_0 (by decide)).trans ?_
      refine (f_getf (k := 61) (by rw [hs46]; decide) g61_46 st61_46 (by rw [ln61_46]; decide) v61_31_46).trans ?_
      refine (e_aload lL59_0 (by decide)).trans ?_
      refine (f_getf (k := 61) (by rw [hs46]; decide) g61_46 st61_46 (by rw [ln61_46]; decide) v61_32_46).trans ?_
      refine (e_iload lL59_1 hx1).trans ?_
      refine (e_iload lL59_2 (by decide)).trans ?_
      refine (f_bin (f := z_shr) (v := (z_shr x1 0)) hx1 (by decide) rfl).trans ?_
      refine (e_push).trans ?_
      refine (f_bin (f := z_and) (v := ((z_shr x1 0) % 256)) (show (z_shr x1 0) < 4294967296 from (z_shr_ok _ _ hx1 (by decide)).1) (by decide) (z_and_m (k := 8) (by decide))).trans ?_
      refine (f_iast (k := 79) (show ((z_shr x1 0) % 256) < 4294967296 from (Nat.lt_trans (Nat.mod_lt _ (by decide)) (by decide))) (by decide) (by rw [hs46]; decide) g79_46 st79_45 (by rw [ln79_45]; decide) eh47.symm).trans ?_
      refine (e_aload lL59_0 (by decide)).trans ?_
      refine (e_dup).trans ?_
      refine (f_getf (k := 61) (by rw [hs47]; decide) g61_47 st61_46 (by rw [ln61_46]; decide) v61_32_46).trans ?_
      refine (e_push).trans ?_
      refine (f_bin (f := z_add) (v := 4) (by decide) (by decide) (by decide +kernel)).trans ?_
      refine (f_putf (ck := ck_int) (k := 61) (by decide +kernel) (by rw [hs47]; decide) g61_47 st61_46 (by rw [ln61_46]; decide) eh48.symm).trans ?_
      refine (f_iinc lL59_2 (by decide) (by decide) eL60.symm).trans ?_
      refine (e_back (lbl := 204)).trans ?_
      refine (ca_204 (n := n + 54)).trans ?_
      refine (e_iload lL60_2 (by decide)).trans ?_
      refine (f_if_t (f := fun a => z_lt a 0) (by decide) (by decide +kernel)).trans ?_
      exact e_vret (R := zrunX zXt 9 ztc (n + 54)) (d := 1678) (L := L60) (h := h48)
    refine (f_callV (k := 61) (d' := 1678) (S0 := [x1, 4294967358]) (S' := []) (S2 := []) (fun q => by rw [zargs_s q (Nat.le_of_lt (Nat.lt_trans hx1 (by decide))), ← eL53, zargs_s q (by decide), ← eL54]; rfl) lL54_0 (by rw [hs40]; decide) g61_40 st61_0 (Nat.le_of_ble_eq_true rfl) m55 (hs48.trans hs40.symm) rfl).trans ?_
    refine (e_aload lL52_0 (by decide)).trans ?_
    refine (e_iload lL52_2 hx2).trans ?_
    have m63 : zrunX zXt 9 ztc (n + 59) 1678 203 L62 [] h48 = some ([], h56) := by
      refine (ca_203 (n := n + 58)).trans ?_
      refine (e_push).trans ?_
      refine (f_istore (by decide) eL64.symm).trans ?_
      refine (e_iload lL64_2 (by decide)).trans ?_
      refine (f_if_f (f := fun a => z_lt a 0) (by decide) (by decide +kernel)).trans ?_
      refine (e_aload lL64_0 (by decide)).trans ?_
      refine (f_getf (k := 61) (by rw [hs48]; decide) g61_48 st61_48 (by rw [ln61_48]; decide) v61_31_48).trans ?_
      refine (e_aload lL64_0 (by decide)).trans ?_
      refine (f_getf (k := 61) (by rw [hs48]; decide) g61_48 st61_48 (by rw [ln61_48]; decide) v61_32_48).trans ?_
      refine (e_iload lL64_1 hx2).trans ?_
      refine (e_iload lL64_2 (by decide)).trans ?_
      refine (f_bin (f := z_shr) (v := (z_shr x2 24)) hx2 (by decide) rfl).trans ?_
      refine (e_push).trans ?_
      refine (f_bin (f := z_and) (v := ((z_shr x2 24) % 256)) (show (z_shr x2 24) < 4294967296 from (z_shr_ok _ _ hx2 (by decide)).1) (by decide) (z_and_m (k := 8) (by decide))).trans ?_
      refine (f_iast (k := 79) (show ((z_shr x2 24) % 256) < 4294967296 from (Nat.lt_trans (Nat.mod_lt _ (by decide)) (by decide))) (by decide) (by rw [hs48]; decide) g79_48 st79_47 (by rw [ln79_47]; decide) eh49.symm).trans ?_
      refine (e_aload lL64_0 (by decide)).trans ?_
      refine (e_dup).trans ?_
      refine (f_getf (k := 61) (by rw [hs49]; decide) g61_49 st61_48 (by rw [ln61_48]; decide) v61_32_48).trans ?_
      refine (e_push).trans ?_
      refine (f_bin (f := z_add) (v := 5) (by decide) (by decide) (by decide +kernel)).trans ?_
      refine (f_putf (ck := ck_int) (k := 61) (by decide +kernel) (by rw [hs49]; decide) g61_49 st61_48 (by rw [ln61_48]; decide) eh50.symm).trans ?_
      refine (f_iinc lL64_2 (by decide) (by decide) eL65.symm).trans ?_
      refine (e_back (lbl := 204)).trans ?_
      refine (ca_204 (n := n + 57)).trans ?_
      refine (e_iload lL65_2 (by decide)).trans ?_
      refine (f_if_f (f := fun a => z_lt a 0) (by decide) (by decide +kernel)).trans ?_
      refine (e_aload lL65_0 (by decide)).trans ?_
      refine (f_getf (k := 61) (by rw [hs50]; decide) g61_50 st61_50 (by rw [ln61_50]; decide) v61_31_50).trans ?_
      refine (e_aload lL65_0 (by decide)).trans ?_
      refine (f_getf (k := 61) (by rw [hs50]; decide) g61_50 st61_50 (by rw [ln61_50]; decide) v61_32_50).trans ?_
      refine (e_iload lL65_1 hx2).trans ?_
      refine (e_iload lL65_2 (by decide)).trans ?_
      refine (f_bin (f := z_shr) (v := (z_shr x2 16)) hx2 (by decide) rfl).trans ?_
      refine (e_push).trans ?_
      refine (f_bin (f := z_and) (v := ((z_shr x2 16) % 256)) (show (z_shr x2 16) < 4294967296 from (z_shr_ok _ _ hx2 (by decide)).1) (by decide) (z_and_m (k := 8) (by decide))).trans ?_
      refine (f_iast (k := 79) (show ((z_shr x2 16) % 256) < 4294967296 from (Nat.lt_trans (Nat.mod_lt _ (by decide)) (by decide))) (by decide) (by rw [hs50]; decide) g79_50 st79_49 (by rw [ln79_49]; decide) eh51.symm).trans ?_
      refine (e_aload lL65_0 (by decide)).trans ?_
      refine (e_dup).trans ?_
      refine (f_getf (k := 61) (by rw [hs51]; decide) g61_51 st61_50 (by rw [ln61_50]; decide) v61_32_50).trans ?_
      refine (e_push).trans ?_
      refine (f_bin (f := z_add) (v := 6) (by decide) (by decide) (by decide +kernel)).trans ?_
      refine (f_putf (ck := ck_int) (k := 61) (by decide +kernel) (by rw [hs51]; decide) g61_51 st61_50 (by rw [ln61_50]; decide) eh52.symm).trans ?_
      refine (f_iinc lL65_2 (by decide) (by decide) eL66.symm).trans ?_
      refine (e_back (lbl := 204)).trans ?_
      refine (ca_204 (n := n + 56)).trans ?_
      refine (e_iload lL66_2 (by decide)).trans ?_
      refine (f_if_f (f := fun a => z_lt a 0) (by decide) (by decide +kernel)).trans ?_
      refine (e_aload lL66_0 (by decide)).trans ?_
      refine (f_getf (k := 61) (by rw [hs52]; decide) g61_52 st61_52 (by rw [ln61_52]; decide) v61_31_52).trans ?_
      refine (e_aload lL66_0 (by decide)).trans ?_
      refine (f_getf (k := 61) (by rw [hs52]; decide) g61_52 st61_52 (by rw [ln61_52]; decide) v61_32_52).trans ?_
      refine (e_iload lL66_1 hx2).trans ?_
      refine (e_iload lL66_2 (by decide)).trans ?_
      refine (f_bin (f := z_shr) (v := (z_shr x2 8)) hx2 (by decide) rfl).trans ?_
      refine (e_push).trans ?_
      refine (f_bin (f := z_and) (v := ((z_shr x2 8) % 256)) (show (z_shr x2 8) < 4294967296 from (z_shr_ok _ _ hx2 (by decide)).1) (by decide) (z_and_m (k := 8) (by decide))).trans ?_
      refine (f_iast (k := 79) (show ((z_shr x2 8) % 256) < 4294967296 from (Nat.lt_trans (Nat.mod_lt _ (by decide)) (by decide))) (by decide) (by rw [hs52]; decide) g79_52 st79_51 (by rw [ln79_51]; decide) eh53.symm).trans ?_
      refine (e_aload lL66_0 (by decide)).trans ?_
      refine (e_dup).trans ?_
      refine (f_getf (k := 61) (by rw [hs53]; decide) g61_53 st61_52 (by rw [ln61_52]; decide) v61_32_52).trans ?_
      refine (e_push).trans ?_
      refine (f_bin (f := z_add) (v := 7) (by decide) (by decide) (by decide +kernel)).trans ?_
      refine (f_putf (ck := ck_int) (k := 61) (by decide +kernel) (by rw [hs53]; decide) g61_53 st61_52 (by rw [ln61_52]; decide) eh54.symm).trans ?_
      refine (f_iinc lL66_2 (by decide) (by decide) eL67.symm).trans ?_
      refine (e_back (lbl := 204)).trans ?_
      refine (ca_204 (n := n + 55)).trans ?_
      refine (e_iload lL67_2 (by decide)).trans ?_
      refine (f_if_f (f := fun a => z_lt a 0) (by decide) (by decide +kernel)).trans ?_
      refine (e_aload lL67_0 (by decide)).trans ?_
      refine (f_getf (k := 61) (by rw [hs54]; decide) g61_54 st61_54 (by rw [ln61_54]; decide) v61_31_54).trans ?_
      refine (e_aload lL67_0 (by decide)).trans ?_
      refine (f_getf (k := 61) (by rw [hs54]; decide) g61_54 st61_54 (by rw [ln61_54]; decide) v61_32_54).trans ?_
      refine (e_iload lL67_1 hx2).trans ?_
      refine (e_iload lL67_2 (by decide)).trans ?_
      refine (f_bin (f := z_shr) (v := (z_shr x2 0)) hx2 (by decide) rfl).trans ?_
      refine (e_push).trans ?_
      refine (f_bin (f := z_and) (v := ((z_shr x2 0) % 256)) (show (z_shr x2 0) < 4294967296 from (z_shr_ok _ _ hx2 (by decide)).1) (by decide) (z_and_m (k := 8) (by decide))).trans ?_
      refine (f_iast (k := 79) (show ((z_shr x2 0) % 256) < 4294967296 from (Nat.lt_trans (Nat.mod_lt _ (by decide)) (by decide))) (by decide) (by rw [hs54]; decide) g79_54 st79_53 (by rw [ln79_53]; decide) eh55.symm).trans ?_
      refine (e_aload lL67_0 (by decide)).trans ?_
      refine (e_dup).trans ?_
      refine (f_getf (k := 61) (by rw [hs55]; decide) g61_55 st61_54 (by rw [ln61_54]; decide) v61_32_54).trans ?_
      refine (e_push).trans ?_
      refine (f_bin (f := z_add) (v := 8) (by decide) (by decide) (by decide +kernel)).trans ?_
      refine (f_putf (ck := ck_int) (k := 61) (by decide +kernel) (by rw [hs55]; decide) g61_55 st61_54 (by rw [ln61_54]; decide) eh56.symm).trans ?_
      refine (f_iinc lL67_2 (by decide) (by decide) eL68.symm).trans ?_
      refine (e_back (lbl := 204)).trans ?_
      refine (ca_204 (n := n + 54)).trans ?_
      refine (e_iload lL68_2 (by decide)).trans ?_
      refine (f_if_t (f := fun a => z_lt a 0) (by decide) (by decide +kernel)).trans ?_
      exact e_vret (R := zrunX zXt 9 ztc (n + 54)) (d := 1678) (L := L68) (h := h56)
    refine (f_callV (k := 61) (d' := 1678) (S0 := [x2, 4294967358]) (S' := []) (S2 := []) (fun q => by rw [zargs_s q (Nat.le_of_lt (Nat.lt_trans hx2 (by decide))), ← eL61, zargs_s q (by decide), ← eL62]; rfl) lL62_0 (by rw [hs48]; decide) g61_48 st61_48 (Nat.le_of_ble_eq_true rfl) m63 (hs56.trans hs48.symm) rfl).trans ?_
    refine (e_aload lL52_0 (by decide)).trans ?_
    refine (e_iload lL52_3 hx3).trans ?_
    have m71 : zrunX zXt 9 ztc (n + 59) 1678 203 L70 [] h56 = some ([], h64) := by
      refine (ca_203 (n := n + 58)).trans ?_
      refine (e_push).trans ?_
      refine (f_istore (by decide) eL72.symm).trans ?_
      refine (e_iload lL72_2 (by decide)).trans ?_
      refine (f_if_f (f := fun a => z_lt a 0) (by decide) (by decide +kernel)).trans ?_
      refine (e_aload lL72_0 (by decide)).trans ?_
      refine (f_getf (k := 61) (by rw [hs56]; decide) g61_56 st61_56 (by rw [ln61_56]; decide) v61_31_56).trans ?_
      refine (e_aload lL72_0 (by decide)).trans ?_
      refine (f_getf (k := 61) (by rw [hs56]; decide) g61_56 st61_56 (by rw [ln61_56]; decide) v61_32_56).trans ?_
      refine (e_iload lL72_1 hx3).trans ?_
      refine (e_iload lL72_2 (by decide)).trans ?_
      refine (f_bin (f := z_shr) (v := (z_shr x3 24)) hx3 (by decide) rfl).trans ?_
      refine (e_push).trans ?_
      refine (f_bin (f := z_and) (v := ((z_shr x3 24) % 256)) (show (z_shr x3 24) < 4294967296 from (z_shr_ok _ _ hx3 (by decide)).1) (by decide) (z_and_m (k := 8) (by decide))).trans ?_
      refine (f_iast (k := 79) (show ((z_shr x3 24) % 256) < 4294967296 from (Nat.lt_trans (Nat.mod_lt _ (by decide)) (by decide))) (by decide) (by rw [hs56]; decide) g79_56 st79_55 (by rw [ln79_55]; decide) eh57.symm).trans ?_
      refine (e_aload lL72_0 (by decide)).trans ?_
      refine (e_dup).trans ?_
      refine (f_getf (k := 61) (by rw [hs57]; decide) g61_57 st61_56 (by rw [ln61_56]; decide) v61_32_56).trans ?_
      refine (e_push).trans ?_
      refine (f_bin (f := z_add) (v := 9) (by decide) (by decide) (by decide +kernel)).trans ?_
      refine (f_putf (ck := ck_int) (k := 61) (by decide +kernel) (by rw [hs57]; decide) g61_57 st61_56 (by rw [ln61_56]; decide) eh58.symm).trans ?_
      refine (f_iinc lL72_2 (by decide) (by decide) eL73.symm).trans ?_
      refine (e_back (lbl := 204)).trans ?_
      refine (ca_204 (n := n + 57)).trans ?_
      refine (e_iload lL73_2 (by decide)).trans ?_
      refine (f_if_f (f := fun a => z_lt a 0) (by decide) (by decide +kernel)).trans ?_
      refine (e_aload lL73_0 (by decide)).trans ?_
      refine (f_getf (k := 61) (by rw [hs58]; decide) g61_58 st61_58 (by rw [ln61_58]; decide) v61_31_58).trans ?_
      refine (e_aload lL73_0 (by decide)).trans ?_
      refine (f_getf (k := 61) (by rw [hs58]; decide) g61_58 st61_58 (by rw [ln61_58]; decide) v61_32_58).trans ?_
      refine (e_iload lL73_1 hx3).trans ?_
      refine (e_iload lL73_2 (by decide)).trans ?_
      refine (f_bin (f := z_shr) (v := (z_shr x3 16)) hx3 (by decide) rfl).trans ?_
      refine (e_push).trans ?_
      refine (f_bin (f := z_and) (v := ((z_shr x3 16) % 256)) (show (z_shr x3 16) < 4294967296 from (z_shr_ok _ _ hx3 (by decide)).1) (by decide) (z_and_m (k := 8) (by decide))).trans ?_
      refine (f_iast (k := 79) (show ((z_shr x3 16) % 256) < 4294967296 from (Nat.lt_trans (Nat.mod_lt _ (by decide)) (by decide))) (by decide) (by rw [hs58]; decide) g79_58 st79_57 (by rw [ln79_57]; decide) eh59.symm).trans ?_
      refine (e_aload lL73_0 (by decide)).trans ?_
      refine (e_dup).trans ?_
      refine (f_getf (k := 61) (by rw [hs59]; decide) g61_59 st61_58 (by rw [ln61_58]; decide) v61_32_58).trans ?_
      refine (e_push).trans ?_
      refine (f_bin (f := z_add) (v := 10) (by decide) (by decide) (by decide +kernel)).trans ?_
      refine (f_putf (ck := ck_int) (k := 61) (by decide +kernel) (by rw [hs59]; decide) g61_59 st61_58 (by rw [ln61_58]; decide) eh60.symm).trans ?_
      refine (f_iinc lL73_2 (by decide) (by decide) eL74.symm).trans ?_
      refine (e_back (lbl := 204)).trans ?_
      refine (ca_204 (n := n + 56)).trans ?_
      refine (e_iload lL74_2 (by decide)).trans ?_
      refine (f_if_f (f := fun a => z_lt a 0) (by decide) (by decide +kernel)).trans ?_
      refine (e_aload lL74_0 (by decide)).trans ?_
      refine (f_getf (k := 61) (by rw [hs60]; decide) g61_60 st61_60 (by rw [ln61_60]; decide) v61_31_60).trans ?_
      refine (e_aload lL74_0 (by decide)).trans ?_
      refine (f_getf (k := 61) (by rw [hs60]; decide) g61_60 st61_60 (by rw [ln61_60]; decide) v61_32_60).trans ?_
      refine (e_iload lL74_1 hx3).trans ?_
      refine (e_iload lL74_2 (by decide)).trans ?_
      refine (f_bin (f := z_shr) (v := (z_shr x3 8)) hx3 (by decide) rfl).trans ?_
      refine (e_push).trans ?_
      refine (f_bin (f := z_and) (v := ((z_shr x3 8) % 256)) (show (z_shr x3 8) < 4294967296 from (z_shr_ok _ _ hx3 (by decide)).1) (by decide) (z_and_m (k := 8) (by decide))).trans ?_
      refine (f_iast (k := 79) (show ((z_shr x3 8) % 256) < 4294967296 from (Nat.lt_trans (Nat.mod_lt _ (by decide)) (by decide))) (by decide) (by rw [hs60]; decide) g79_60 st79_59 (by rw [ln79_59]; decide) eh61.symm).trans ?_
      refine (e_aload lL74_0 (by decide)).trans ?_
      refine (e_dup).trans ?_
      refine (f_getf (k := 61) (by rw [hs61]; decide) g61_61 st61_60 (by rw [ln61_60]; decide) v61_32_60).trans ?_
      refine (e_push).trans ?_
      refine (f_bin (f := z_add) (v := 11) (by decide) (by decide) (by decide +kernel)).trans ?_
      refine (f_putf (ck := ck_int) (k := 61) (by decide +kernel) (by rw [hs61]; decide) g61_61 st61_60 (by rw [ln61_60]; decide) eh62.symm).trans ?_
      refine (f_iinc lL74_2 (by decide) (by decide) eL75.symm).trans ?_
      refine (e_back (lbl := 204)).trans ?_
      refine (ca_204 (n := n + 55)).trans ?_
      refine (e_iload lL75_2 (by decide)).trans ?_
      refine (f_if_f (f := fun a => z_lt a 0) (by decide) (by decide +kernel)).trans ?_
      refine (e_aload lL75_0 (by decide)).trans ?_
      refine (f_getf (k := 61) (by rw [hs62]; decide) g61_62 st61_62 (by rw [ln61_62]; decide) v61_31_62).trans ?_
      refine (e_aload lL75_0 (by decide)).trans ?_
      refine (f_getf (k := 61) (by rw [hs62]; decide) g61_62 st61_62 (by rw [ln61_62]; decide) v61_32_62).trans ?_
      refine (e_iload lL75_1 hx3).trans ?_
      refine (e_iload lL75_2 (by decide)).trans ?_
      refine (f_bin (f := z_shr) (v := (z_shr x3 0)) hx3 (by decide) rfl).trans ?_
      refine (e_push).trans ?_
      refine (f_bin (f := z_and) (v := ((z_shr x3 0) % 256)) (show (z_shr x3 0) < 4294967296 from (z_shr_ok _ _ hx3 (by decide)).1) (by decide) (z_and_m (k := 8) (by decide))).trans ?_
      refine (f_iast (k := 79) (show ((z_shr x3 0) % 256) < 4294967296 from (Nat.lt_trans (Nat.mod_lt _ (by decide)) (by decide))) (by decide) (by rw [hs62]; decide) g79_62 st79_61 (by rw [ln79_61]; decide) eh63.symm).trans ?_
      refine (e_aload lL75_0 (by decide)).trans ?_
      refine (e_dup).trans ?_
      refine (f_getf (k := 61) (by rw [hs63]; decide) g61_63 st61_62 (by rw [ln61_62]; decide) v61_32_62).trans ?_
      refine (e_push).trans ?_
      refine (f_bin (f := z_add) (v := 12) (by decide) (by decide) (by decide +kernel)).trans ?_
      refine (f_putf (ck := ck_int) (k := 61) (by decide +kernel) (by rw [hs63]; decide) g61_63 st61_62 (by rw [ln61_62]; decide) eh64.symm).trans ?_
      refine (f_iinc lL75_2 (by decide) (by decide) eL76.symm).trans ?_
      refine (e_back (lbl := 204)).trans ?_
      refine (ca_204 (n := n + 54)).trans ?_
      refine (e_iload lL76_2 (by decide)).trans ?_
      refine (f_if_t (f := fun a => z_lt a 0) (by decide) (by decide +kernel)).trans ?_
      exact e_vret (R := zrunX zXt 9 ztc (n + 54)) (d := 1678) (L := L76) (h := h64)
    refine (f_callV (k := 61) (d' := 1678) (S0 := [x3, 4294967358]) (S' := []) (S2 := []) (fun q => by rw [zargs_s q (Nat.le_of_lt (Nat.lt_trans hx3 (by decide))), ← eL69, zargs_s q (by decide), ← eL70]; rfl) lL70_0 (by rw [hs56]; decide) g61_56 st61_56 (Nat.le_of_ble_eq_true rfl) m71 (hs64.trans hs56.symm) rfl).trans ?_
    refine (e_aload lL52_0 (by decide)).trans ?_
    refine (e_iload lL52_4 hx4).trans ?_
    have m79 : zrunX zXt 9 ztc (n + 59) 1678 203 L78 [] h64 = some ([], h72) := by
      refine (ca_203 (n := n + 58)).trans ?_
      refine (e_push).trans ?_
      refine (f_istore (by decide) eL80.symm).trans ?_
      refine (e_iload lL80_2 (by decide)).trans ?_
      refine (f_if_f (f := fun a => z_lt a 0) (by decide) (by decide +kernel)).trans ?_
      refine (e_aload lL80_0 (by decide)).trans ?_
      refine (f_getf (k := 61) (by rw [hs64]; decide) g61_64 st61_64 (by rw [ln61_64]; decide) v61_31_64).trans ?_
      refine (e_aload lL80_0 (by decide)).trans ?_
      refine (f_getf (k := 61) (by rw [hs64]; decide) g61_64 st61_64 (by rw [ln61_64]; decide) v61_32_64).trans ?_
      refine (e_iload lL80_1 hx4).trans ?_
      refine (e_iload lL80_2 (by decide)).trans ?_
      refine (f_bin (f := z_shr) (v := (z_shr x4 24)) hx4 (by decide) rfl).trans ?_
      refine (e_push).trans ?_
      refine (f_bin (f := z_and) (v := ((z_shr x4 24) % 256)) (show (z_shr x4 24) < 4294967296 from (z_shr_ok _ _ hx4 (by decide)).1) (by decide) (z_and_m (k := 8) (by decide))).trans ?_
      refine (f_iast (k := 79) (show ((z_shr x4 24) % 256) < 4294967296 from (Nat.lt_trans (Nat.mod_lt _ (by decide)) (by decide))) (by decide) (by rw [hs64]; decide) g79_64 st79_63 (by rw [ln79_63]; decide) eh65.symm).trans ?_
      refine (e_aload lL80_0 (by decide)).trans ?_
      refine (e_dup).trans ?_
      refine (f_getf (k := 61) (by rw [hs65]; decide) g61_65 st61_64 (by rw [ln61_64]; decide) v61_32_64).trans ?_
      refine (e_push).trans ?_
      refine (f_bin (f := z_add) (v := 13) (by decide) (by decide) (by decide +kernel)).trans ?_
      refine (f_putf (ck := ck_int) (k := 61) (by decide +kernel) (by rw [hs65]; decide) g61_65 st61_64 (by rw [ln61_64]; decide) eh66.symm).trans ?_
      refine (f_iinc lL80_2 (by decide) (by decide) eL81.symm).trans ?_
      refine (e_back (lbl := 204)).trans ?_
      refine (ca_204 (n := n + 57)).trans ?_
      refine (e_iload lL81_2 (by decide)).trans ?_
      refine (f_if_f (f := fun a => z_lt a 0) (by decide) (by decide +kernel)).trans ?_
      refine (e_aload lL81_0 (by decide)).trans ?_
      refine (f_getf (k := 61) (by rw [hs66]; decide) g61_66 st61_66 (by rw [ln61_66]; decide) v61_31_66).trans ?_
      refine (e_aload lL81_0 (by decide)).trans ?_
      refine (f_getf (k := 61) (by rw [hs66]; decide) g61_66 st61_66 (by rw [ln61_66]; decide) v61_32_66).trans ?_
      refine (e_iload lL81_1 hx4).trans ?_
      refine (e_iload lL81_2 (by decide)).trans ?_
      refine (f_bin (f := z_shr) (v := (z_shr x4 16)) hx4 (by decide) rfl).trans ?_
      refine (e_push).trans ?_
      refine (f_bin (f := z_and) (v := ((z_shr x4 16) % 256)) (show (z_shr x4 16) < 4294967296 from (z_shr_ok _ _ hx4 (by decide)).1) (by decide) (z_and_m (k := 8) (by decide))).trans ?_
      refine (f_iast (k := 79) (show ((z_shr x4 16) % 256) < 4294967296 from (Nat.lt_trans (Nat.mod_lt _ (by decide)) (by decide))) (by decide) (by rw [hs66]; decide) g79_66 st79_65 (by rw [ln79_65]; decide) eh67.symm).trans ?_
      refine (e_aload lL81_0 (by decide)).trans ?_
      refine (e_dup).trans ?_
      refine (f_getf (k := 61) (by rw [hs67]; decide) g61_67 st61_66 (by rw [ln61_66]; decide) v61_32_66).trans ?_
      refine (e_push).trans ?_
      refine (f_bin (f := z_add) (v := 14) (by decide) (by decide) (by decide +kernel)).trans ?_
      refine (f_putf (ck := ck_int) (k := 61) (by decide +kernel) (by rw [hs67]; decide) g61_67 st61_66 (by rw [ln61_66]; decide) eh68.symm).trans ?_
      refine (f_iinc lL81_2 (by decide) (by decide) eL82.symm).trans ?_
      refine (e_back (lbl := 204)).trans ?_
      refine (ca_204 (n := n + 56)).trans ?_
      refine (e_iload lL82_2 (by decide)).trans ?_
      refine (f_if_f (f := fun a => z_lt a 0) (by decide) (by decide +kernel)).trans ?_
      refine (e_aload lL82_0 (by decide)).trans ?_
      refine (f_getf (k := 61) (by rw [hs68]; decide) g61_68 st61_68 (by rw [ln61_68]; decide) v61_31_68).trans ?_
      refine (e_aload lL82_0 (by decide)).trans ?_
      refine (f_getf (k := 61) (by rw [hs68]; decide) g61_68 st61_68 (by rw [ln61_68]; decide) v61_32_68).trans ?_
      refine (e_iload lL82_1 hx4).trans ?_
      refine (e_iload lL82_2 (by decide)).trans ?_
      refine (f_bin (f := z_shr) (v := (z_shr x4 8)) hx4 (by decide) rfl).trans ?_
      refine (e_push).trans ?_
      refine (f_bin (f := z_and) (v := ((z_shr x4 8) % 256)) (show (z_shr x4 8) < 4294967296 from (z_shr_ok _ _ hx4 (by decide)).1) (by decide) (z_and_m (k := 8) (by decide))).trans ?_
      refine (f_iast (k := 79) (show ((z_shr x4 8) % 256) < 4294967296 from (Nat.lt_trans (Nat.mod_lt _ (by decide)) (by decide))) (by decide) (by rw [hs68]; decide) g79_68 st79_67 (by rw [ln79_67]; decide) eh69.symm).trans ?_
      refine (e_aload lL82_0 (by decide)).trans ?_
      refine (e_dup).trans ?_
      refine (f_getf (k := 61) (by rw [hs69]; decide) g61_69 st61_68 (by rw [ln61_68]; decide) v61_32_68).trans ?_
      refine (e_push).trans ?_
      refine (f_bin (f := z_add) (v := 15) (by decide) (by decide) (by decide +kernel)).trans ?_
      refine (f_putf (ck := ck_int) (k := 61) (by decide +kernel) (by rw [hs69]; decide) g61_69 st61_68 (by rw [ln61_68]; decide) eh70.symm).trans ?_
      refine (f_iinc lL82_2 (by decide) (by decide) eL83.symm).trans ?_
      refine (e_back (lbl := 204)).trans ?_
      refine (ca_204 (n := n + 55)).trans ?_
      refine (e_iload lL83_2 (by decide)).trans ?_
      refine (f_if_f (f := fun a => z_lt a 0) (by decide) (by decide +kernel)).trans ?_
      refine (e_aload lL83_0 (by decide)).trans ?_
      refine (f_getf (k := 61) (by rw [hs70]; decide) g61_70 st61_70 (by rw [ln61_70]; decide) v61_31_70).trans ?_
      refine (e_aload lL83_0 (by decide)).trans ?_
      refine (f_getf (k := 61) (by rw [hs70]; decide) g61_70 st61_70 (by rw [ln61_70]; decide) v61_32_70).trans ?_
      refine (e_iload lL83_1 hx4).trans ?_
      refine (e_iload lL83_2 (by decide)).trans ?_
      refine (f_bin (f := z_shr) (v := (z_shr x4 0)) hx4 (by decide) rfl).trans ?_
      refine (e_push).trans ?_
      refine (f_bin (f := z_and) (v := ((z_shr x4 0) % 256)) (show (z_shr x4 0) < 4294967296 from (z_shr_ok _ _ hx4 (by decide)).1) (by decide) (z_and_m (k := 8) (by decide))).trans ?_
      refine (f_iast (k := 79) (show ((z_shr x4 0) % 256) < 4294967296 from (Nat.lt_trans (Nat.mod_lt _ (by decide)) (by decide))) (by decide) (by rw [hs70]; decide) g79_70 st79_69 (by rw [ln79_69]; decide) eh71.symm).trans ?_
      refine (e_aload lL83_0 (by decide)).trans ?_
      refine (e_dup).trans ?_
      refine (f_getf (k := 61) (by rw [hs71]; decide) g61_71 st61_70 (by rw [ln61_70]; decide) v61_32_70).trans ?_
      refine (e_push).trans ?_
      refine (f_bin (f := z_add) (v := 16) (by decide) (by decide) (by decide +kernel)).trans ?_
      refine (f_putf (ck := ck_int) (k := 61) (by decide +kernel) (by rw [hs71]; decide) g61_71 st61_70 (by rw [ln61_70]; decide) eh72.symm).trans ?_
      refine (f_iinc lL83_2 (by decide) (by decide) eL84.symm).trans ?_
      refine (e_back (lbl := 204)).trans ?_
      refine (ca_204 (n := n + 54)).trans ?_
      refine (e_iload lL84_2 (by decide)).trans ?_
      refine (f_if_t (f := fun a => z_lt a 0) (by decide) (by decide +kernel)).trans ?_
      exact e_vret (R := zrunX zXt 9 ztc (n + 54)) (d := 1678) (L := L84) (h := h72)
    refine (f_callV (k := 61) (d' := 1678) (S0 := [x4, 4294967358]) (S' := []) (S2 := []) (fun q => by rw [zargs_s q (Nat.le_of_lt (Nat.lt_trans hx4 (by decide))), ← eL77, zargs_s q (by decide), ← eL78]; rfl) lL78_0 (by rw [hs64]; decide) g61_64 st61_64 (Nat.le_of_ble_eq_true rfl) m79 (hs72.trans hs64.symm) rfl).trans ?_
    refine (e_aload lL52_0 (by decide)).trans ?_
    refine (e_iload lL52_5 hx5).trans ?_
    have m87 : zrunX zXt 9 ztc (n + 59) 1678 203 L86 [] h72 = some ([], h80) := by
      refine (ca_203 (n := n + 58)).trans ?_
      refine (e_push).trans ?_
      refine (f_istore (by decide) eL88.symm).trans ?_
      refine (e_iload lL88_2 (by decide)).trans ?_
      refine (f_if_f (f := fun a => z_lt a 0) (by decide) (by decide +kernel)).trans ?_
      refine (e_aload lL88_0 (by decide)).trans ?_
      refine (f_getf (k := 61) (by rw [hs72]; decide) g61_72 st61_72 (by rw [ln61_72]; decide) v61_31_72).trans ?_
      refine (e_aload lL88_0 (by decide)).trans ?_
      refine (f_getf (k := 61) (by rw [hs72]; decide) g61_72 st61_72 (by rw [ln61_72]; decide) v61_32_72).trans ?_
      refine (e_iload lL88_1 hx5).trans ?_
      refine (e_iload lL88_2 (by decide)).trans ?_
      refine (f_bin (f := z_shr) (v := (z_shr x5 24)) hx5 (by decide) rfl).trans ?_
      refine (e_push).trans ?_
      refine (f_bin (f := z_and) (v := ((z_shr x5 24) % 256)) (show (z_shr x5 24) < 4294967296 from (z_shr_ok _ _ hx5 (by decide)).1) (by decide) (z_and_m (k := 8) (by decide))).trans ?_
      refine (f_iast (k := 79) (show ((z_shr x5 24) % 256) < 4294967296 from (Nat.lt_trans (Nat.mod_lt _ (by decide)) (by decide))) (by decide) (by rw [hs72]; decide) g79_72 st79_71 (by rw [ln79_71]; decide) eh73.symm).trans ?_
      refine (e_aload lL88_0 (by decide)).trans ?_
      refine (e_dup).trans ?_
      refine (f_getf (k := 61) (by rw [hs73]; decide) g61_73 st61_72 (by rw [ln61_72]; decide) v61_32_72).trans ?_
      refine (e_push).trans ?_
      refine (f_bin (f := z_add) (v := 17) (by decide) (by decide) (by decide +kernel)).trans ?_
      refine (f_putf (ck := ck_int) (k := 61) (by decide +kernel) (by rw [hs73]; decide) g61_73 st61_72 (by rw [ln61_72]; decide) eh74.symm).trans ?_
      refine (f_iinc lL88_2 (by decide) (by decide) eL89.symm).trans ?_
      refine (e_back (lbl := 204)).trans ?_
      refine (ca_204 (n := n + 57)).trans ?_
      refine (e_iload lL89_2 (by decide)).trans ?_
      refine (f_if_f (f := fun a => z_lt a 0) (by decide) (by decide +kernel)).trans ?_
      refine (e_aload lL89_0 (by decide)).trans ?_
      refine (f_getf (k := 61) (by rw [hs74]; decide) g61_74 st61_74 (by rw [ln61_74]; decide) v61_31_74).trans ?_
      refine (e_aload lL89_0 (by decide)).trans ?_
      refine (f_getf (k := 61) (by rw [hs74]; decide) g61_74 st61_74 (by rw [ln61_74]; decide) v61_32_74).trans ?_
      refine (e_iload lL89_1 hx5).trans ?_
      refine (e_iload lL89_2 (by decide)).trans ?_
      refine (f_bin (f := z_shr) (v := (z_shr x5 16)) hx5 (by decide) rfl).trans ?_
      refine (e_push).trans ?_
      refine (f_bin (f := z_and) (v := ((z_shr x5 16) % 256)) (show (z_shr x5 16) < 4294967296 from (z_shr_ok _ _ hx5 (by decide)).1) (by decide) (z_and_m (k := 8) (by decide))).trans ?_
      refine (f_iast (k := 79) (show ((z_shr x5 16) % 256) < 4294967296 from (Nat.lt_trans (Nat.mod_lt _ (by decide)) (by decide))) (by decide) (by rw [hs74]; decide) g79_74 st79_73 (by rw [ln79_73]; decide) eh75.symm).trans ?_
      refine (e_aload lL89_0 (by decide)).trans ?_
      refine (e_dup).trans ?_
      refine (f_getf (k := 61) (by rw [hs75]; decide) g61_75 st61_74 (by rw [ln61_74]; decide) v61_32_74).trans ?_
      refine (e_push).trans ?_
      refine (f_bin (f := z_add) (v := 18) (by decide) (by decide) (by decide +kernel)).trans ?_
      refine (f_putf (ck := ck_int) (k := 61) (by decide +kernel) (by rw [hs75]; decide) g61_75 st61_74 (by rw [ln61_74]; decide) eh76.symm).trans ?_
      refine (f_iinc lL89_2 (by decide) (by decide) eL90.symm).trans ?_
      refine (e_back (lbl := 204)).trans ?_
      refine (ca_204 (n := n + 56)).trans ?_
      refine (e_iload lL90_2 (by decide)).trans ?_
      refine (f_if_f (f := fun a => z_lt a 0) (by decide) (by decide +kernel)).trans ?_
      refine (e_aload lL90_0 (by decide)).trans ?_
      refine (f_getf (k := 61) (by rw [hs76]; decide) g61_76 st61_76 (by rw [ln61_76]; decide) v61_31_76).trans ?_
      refine (e_aload lL90_0 (by decide)).trans ?_
      refine (f_getf (k := 61) (by rw [hs76]; decide) g61_76 st61_76 (by rw [ln61_76]; decide) v61_32_76).trans ?_
      refine (e_iload lL90_1 hx5).trans ?_
      refine (e_iload lL90_2 (by decide)).trans ?_
      refine (f_bin (f := z_shr) (v := (z_shr x5 8)) hx5 (by decide) rfl).trans ?_
      refine (e_push).trans ?_
      refine (f_bin (f := z_and) (v := ((z_shr x5 8) % 256)) (show (z_shr x5 8) < 4294967296 from (z_shr_ok _ _ hx5 (by decide)).1) (by decide) (z_and_m (k := 8) (by decide))).trans ?_
      refine (f_iast (k := 79) (show ((z_shr x5 8) % 256) < 4294967296 from (Nat.lt_trans (Nat.mod_lt _ (by decide)) (by decide))) (by decide) (by rw [hs76]; decide) g79_76 st79_75 (by rw [ln79_75]; decide) eh77.symm).trans ?_
      refine (e_aload lL90_0 (by decide)).trans ?_
      refine (e_dup).trans ?_
      refine (f_getf (k := 61) (by rw [hs77]; decide) g61_77 st61_76 (by rw [ln61_76]; decide) v61_32_76).trans ?_
      refine (e_push).trans ?_
      refine (f_bin (f := z_add) (v := 19) (by decide) (by decide) (by decide +kernel)).trans ?_
      refine (f_putf (ck := ck_int) (k := 61) (by decide +kernel) (by rw [hs77]; decide) g61_77 st61_76 (by rw [ln61_76]; decide) eh78.symm).trans ?_
      refine (f_iinc lL90_2 (by decide) (by decide) eL91.symm).trans ?_
      refine (e_back (lbl := 204)).trans ?_
      refine (ca_204 (n := n + 55)).trans ?_
      refine (e_iload lL91_2 (by decide)).trans ?_
      refine (f_if_f (f := fun a => z_lt a 0) (by decide) (by decide +kernel)).trans ?_
      refine (e_aload lL91_0 (by decide)).trans ?_
      refine (f_getf (k := 61) (by rw [hs78]; decide) g61_78 st61_78 (by rw [ln61_78]; decide) v61_31_78).trans ?_
      refine (e_aload lL91_0 (by decide)).trans ?_
      refine (f_getf (k := 61) (by rw [hs78]; decide) g61_78 st61_78 (by rw [ln61_78]; decide) v61_32_78).trans ?_
      refine (e_iload lL91_1 hx5).trans ?_
      refine (e_iload lL91_2 (by decide)).trans ?_
      refine (f_bin (f := z_shr) (v := (z_shr x5 0)) hx5 (by decide) rfl).trans ?_
      refine (e_push).trans ?_
      refine (f_bin (f := z_and) (v := ((z_shr x5 0) % 256)) (show (z_shr x5 0) < 4294967296 from (z_shr_ok _ _ hx5 (by decide)).1) (by decide) (z_and_m (k := 8) (by decide))).trans ?_
      refine (f_iast (k := 79) (show ((z_shr x5 0) % 256) < 4294967296 from (Nat.lt_trans (Nat.mod_lt _ (by decide)) (by decide))) (by decide) (by rw [hs78]; decide) g79_78 st79_77 (by rw [ln79_77]; decide) eh79.symm).trans ?_
      refine (e_aload lL91_0 (by decide)).trans ?_
      refine (e_dup).trans ?_
      refine (f_getf (k := 61) (by rw [hs79]; decide) g61_79 st61_78 (by rw [ln61_78]; decide) v61_32_78).trans ?_
      refine (e_push).trans ?_
      refine (f_bin (f := z_add) (v := 20) (by decide) (by decide) (by decide +kernel)).trans ?_
      refine (f_putf (ck := ck_int) (k := 61) (by decide +kernel) (by rw [hs79]; decide) g61_79 st61_78 (by rw [ln61_78]; decide) eh80.symm).trans ?_
      refine (f_iinc lL91_2 (by decide) (by decide) eL92.symm).trans ?_
      refine (e_back (lbl := 204)).trans ?_
      refine (ca_204 (n := n + 54)).trans ?_
      refine (e_iload lL92_2 (by decide)).trans ?_
      refine (f_if_t (f := fun a => z_lt a 0) (by decide) (by decide +kernel)).trans ?_
      exact e_vret (R := zrunX zXt 9 ztc (n + 54)) (d := 1678) (L := L92) (h := h80)
    refine (f_callV (k := 61) (d' := 1678) (S0 := [x5, 4294967358]) (S' := []) (S2 := []) (fun q => by rw [zargs_s q (Nat.le_of_lt (Nat.lt_trans hx5 (by decide))), ← eL85, zargs_s q (by decide), ← eL86]; rfl) lL86_0 (by rw [hs72]; decide) g61_72 st61_72 (Nat.le_of_ble_eq_true rfl) m87 (hs80.trans hs72.symm) rfl).trans ?_
    refine (e_aload lL52_0 (by decide)).trans ?_
    refine (f_getf (k := 61) (by rw [hs80]; decide) g61_80 st61_80 (by rw [ln61_80]; decide) v61_32_80).trans ?_
    exact e_ret (R := zrunX zXt 9 ztc (n + 59)) (d := 1679) (L := L52) (h := h80) (v := 20) (by decide)
  rw [eL6, eL5, eL4, eL3, eL2, eL1] at A1
  rw [eL52, eL51, eL50, eL49, eL48, eL47] at A2
  exact ⟨_, _, _, (by decide), A1, hs40, MS, A2, hs80, sl80⟩
