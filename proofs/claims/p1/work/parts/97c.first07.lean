theorem fs_poke_even_o0 (v : Nat) (hv : v < 4294967296) (w : Nat) (hw : w < 4294967296) (i1 : v < 8192) (i2 : v % 2 = 0) : (0 + 2147483648) % 4294967296 ≤ (v + 2147483648) % 4294967296 := by omega
theorem fs_poke_even_o1 (v : Nat) (hv : v < 4294967296) (w : Nat) (hw : w < 4294967296) (i1 : v < 8192) (i2 : v % 2 = 0) : v < 2147483648 := by omega
theorem fs_poke_even_o2 (v : Nat) (hv : v < 4294967296) (w : Nat) (hw : w < 4294967296) (i1 : v < 8192) (i2 : v % 2 = 0) : ((v / 2) + 2147483648) % 4294967296 < (4096 + 2147483648) % 4294967296 := by omega
theorem fs_poke_even_o3 (v : Nat) (hv : v < 4294967296) (w : Nat) (hw : w < 4294967296) (i1 : v < 8192) (i2 : v % 2 = 0) : (0 + 2147483648) % 4294967296 ≤ ((v / 2) + 2147483648) % 4294967296 := by omega
theorem fs_poke_even_o4 (v : Nat) (hv : v < 4294967296) (w : Nat) (hw : w < 4294967296) (i1 : v < 8192) (i2 : v % 2 = 0) : (v / 2) < 4096 := by omega
theorem fs_poke_even_o5 (v : Nat) (hv : v < 4294967296) (w : Nat) (hw : w < 4294967296) (i1 : v < 8192) (i2 : v % 2 = 0) : (v + 2147483648) % 4294967296 ≤ (8191 + 2147483648) % 4294967296 := by omega
theorem fs_poke_even_o6 (v : Nat) (hv : v < 4294967296) (w : Nat) (hw : w < 4294967296) (i1 : v < 8192) (i2 : v % 2 = 0) : v + 1 < 4294967296 := by omega
theorem fs_poke_even_o7 (v : Nat) (hv : v < 4294967296) (w : Nat) (hw : w < 4294967296) (i1 : v < 8192) (i2 : v % 2 = 0) : (v + 1) < 4294967296 := by omega
theorem fs_poke_even_o8 (v : Nat) (hv : v < 4294967296) (w : Nat) (hw : w < 4294967296) (i1 : v < 8192) (i2 : v % 2 = 0) : (v + 1) < 8192 := by omega
theorem fs_poke_even (v : Nat) (hv : v < 4294967296) (w : Nat) (hw : w < 4294967296) (i1 : v < 8192) (i2 : v % 2 = 0) (n : Nat) : zFst n 161 (zput (zput (zput 0 2 (w + 1)) 1 (v + 1)) 0 (4294967297 + 1)) 253 (zput (zput (zput 0 2 (w + 1)) 1 (v + 1)) 0 (4294967358 + 1)) := by
  have hs0 : hbB16.1 = 129 := rfl
  have sl0 : hbB16.2.1 = 650610 := rfl
  obtain ⟨L1, eL1⟩ : ∃ x : Nat, x = zput 0 2 (w + 1) := ⟨_, rfl⟩
  obtain ⟨L2, eL2⟩ : ∃ x : Nat, x = zput L1 1 (v + 1) := ⟨_, rfl⟩
  obtain ⟨L3, eL3⟩ : ∃ x : Nat, x = zput L2 0 (4294967297 + 1) := ⟨_, rfl⟩
  have lL3_0 : zlane L3 0 = 4294967297 + 1 := by rw [eL3]; exact zlane_same (by decide)
  have v0_2_0 : zcv haA0_c0 2 = 4294967299 := by decide +kernel
  have g0_0 : zget 8 hbB16.2.2 0 = haA0_c0 := rfl
  have st0_0 : haA0_c0.1 = 11 := rfl
  have ln0_0 : haA0_c0.2.1 = 18 := rfl
  have lL2_1 : zlane L2 1 = v + 1 := by rw [eL2]; exact zlane_same (Nat.lt_of_le_of_lt (Nat.succ_le_of_lt hv) (by decide))
  have lL3_1 : zlane L3 1 = v + 1 := by rw [eL3]; exact (zlane_ne (by decide) (by decide)).trans lL2_1
  obtain ⟨L4, eL4⟩ : ∃ x : Nat, x = zput 0 1 (v + 1) := ⟨_, rfl⟩
  obtain ⟨L5, eL5⟩ : ∃ x : Nat, x = zput L4 0 (4294967299 + 1) := ⟨_, rfl⟩
  have lL4_1 : zlane L4 1 = v + 1 := by rw [eL4]; exact zlane_same (Nat.lt_of_le_of_lt (Nat.succ_le_of_lt hv) (by decide))
  have lL5_1 : zlane L5 1 = v + 1 := by rw [eL5]; exact (zlane_ne (by decide) (by decide)).trans lL4_1
  have lL5_0 : zlane L5 0 = 4294967299 + 1 := by rw [eL5]; exact zlane_same (by decide)
  have v2_0_0 : zcv haA0_c2 0 = 4294967301 := by decide +kernel
  have g2_0 : zget 8 hbB16.2.2 2 = haA0_c2 := rfl
  have st2_0 : haA0_c2.1 = 3 := rfl
  have ln2_0 : haA0_c2.2.1 = 7 := rfl
  have g4_0 : zget 8 hbB16.2.2 4 = haA0_c4 := rfl
  have st4_0 : haA0_c4.1 = 100 := rfl
  have ln4_0 : haA0_c4.2.1 = 4096 := rfl
  have lL1_2 : zlane L1 2 = w + 1 := by rw [eL1]; exact zlane_same (Nat.lt_of_le_of_lt (Nat.succ_le_of_lt hw) (by decide))
  have lL2_2 : zlane L2 2 = w + 1 := by rw [eL2]; exact (zlane_ne (Nat.lt_of_le_of_lt (Nat.succ_le_of_lt hv) (by decide)) (by decide)).trans lL1_2
  have lL3_2 : zlane L3 2 = w + 1 := by rw [eL3]; exact (zlane_ne (by decide) (by decide)).trans lL2_2
  obtain ⟨L7, eL7⟩ : ∃ x : Nat, x = zput 0 2 (w + 1) := ⟨_, rfl⟩
  obtain ⟨L8, eL8⟩ : ∃ x : Nat, x = zput L7 1 (v + 1) := ⟨_, rfl⟩
  obtain ⟨L9, eL9⟩ : ∃ x : Nat, x = zput L8 0 (4294967299 + 1) := ⟨_, rfl⟩
  have lL8_1 : zlane L8 1 = v + 1 := by rw [eL8]; exact zlane_same (Nat.lt_of_le_of_lt (Nat.succ_le_of_lt hv) (by decide))
  have lL9_1 : zlane L9 1 = v + 1 := by rw [eL9]; exact (zlane_ne (by decide) (by decide)).trans lL8_1
  obtain ⟨L11, eL11⟩ : ∃ x : Nat, x = zput L9 3 ((v / 2) + 1) := ⟨_, rfl⟩
  have lL11_1 : zlane L11 1 = v + 1 := by rw [eL11]; exact (zlane_ne (Nat.lt_of_le_of_lt (Nat.succ_le_of_lt (show (v / 2) < 4294967296 from (Nat.lt_of_le_of_lt (Nat.div_le_self _ _) hv))) (by decide)) (by decide)).trans lL9_1
  have lL11_3 : zlane L11 3 = (v / 2) + 1 := by rw [eL11]; exact zlane_same (Nat.lt_of_le_of_lt (Nat.succ_le_of_lt (show (v / 2) < 4294967296 from (Nat.lt_of_le_of_lt (Nat.div_le_self _ _) hv))) (by decide))
  have lL9_0 : zlane L9 0 = 4294967299 + 1 := by rw [eL9]; exact zlane_same (by decide)
  have lL11_0 : zlane L11 0 = 4294967299 + 1 := by rw [eL11]; exact (zlane_ne (Nat.lt_of_le_of_lt (Nat.succ_le_of_lt (show (v / 2) < 4294967296 from (Nat.lt_of_le_of_lt (Nat.div_le_self _ _) hv))) (by decide)) (by decide)).trans lL9_0
  have lL7_2 : zlane L7 2 = w + 1 := by rw [eL7]; exact zlane_same (Nat.lt_of_le_of_lt (Nat.succ_le_of_lt hw) (by decide))
  have lL8_2 : zlane L8 2 = w + 1 := by rw [eL8]; exact (zlane_ne (Nat.lt_of_le_of_lt (Nat.succ_le_of_lt hv) (by decide)) (by decide)).trans lL7_2
  have lL9_2 : zlane L9 2 = w + 1 := by rw [eL9]; exact (zlane_ne (by decide) (by decide)).trans lL8_2
  have lL11_2 : zlane L11 2 = w + 1 := by rw [eL11]; exact (zlane_ne (Nat.lt_of_le_of_lt (Nat.succ_le_of_lt (show (v / 2) < 4294967296 from (Nat.lt_of_le_of_lt (Nat.div_le_self _ _) hv))) (by decide)) (by decide)).trans lL9_2
  obtain ⟨h1, eh1⟩ : ∃ x : zH, x = (hbB16.1, hbB16.2.1, zst 8 hbB16.2.2 4 (fun c => zcst c (v / 2) (w % 65536))) := ⟨_, rfl⟩
  have hs1 : h1.1 = 129 := by rw [eh1]; exact hs0
  have sl1 : h1.2.1 = 650610 := by rw [eh1]; exact sl0
  obtain ⟨L12, eL12⟩ : ∃ x : Nat, x = zput 0 2 (w + 1) := ⟨_, rfl⟩
  obtain ⟨L13, eL13⟩ : ∃ x : Nat, x = zput L12 1 (v + 1) := ⟨_, rfl⟩
  obtain ⟨L14, eL14⟩ : ∃ x : Nat, x = zput L13 0 (4294967358 + 1) := ⟨_, rfl⟩
  have lL13_1 : zlane L13 1 = v + 1 := by rw [eL13]; exact zlane_same (Nat.lt_of_le_of_lt (Nat.succ_le_of_lt hv) (by decide))
  have lL14_1 : zlane L14 1 = v + 1 := by rw [eL14]; exact (zlane_ne (by decide) (by decide)).trans lL13_1
  obtain ⟨L15, eL15⟩ : ∃ x : Nat, x = zput 0 0 (v + 1) := ⟨_, rfl⟩
  have lL15_0 : zlane L15 0 = v + 1 := by rw [eL15]; exact zlane_same (Nat.lt_of_le_of_lt (Nat.succ_le_of_lt hv) (by decide))
  obtain ⟨L17, eL17⟩ : ∃ x : Nat, x = zput 0 2 (8191 + 1) := ⟨_, rfl⟩
  obtain ⟨L18, eL18⟩ : ∃ x : Nat, x = zput L17 1 (0 + 1) := ⟨_, rfl⟩
  obtain ⟨L19, eL19⟩ : ∃ x : Nat, x = zput L18 0 (v + 1) := ⟨_, rfl⟩
  have lL19_0 : zlane L19 0 = v + 1 := by rw [eL19]; exact zlane_same (Nat.lt_of_le_of_lt (Nat.succ_le_of_lt hv) (by decide))
  have lL18_1 : zlane L18 1 = 0 + 1 := by rw [eL18]; exact zlane_same (by decide)
  have lL19_1 : zlane L19 1 = 0 + 1 := by rw [eL19]; exact (zlane_ne (Nat.lt_of_le_of_lt (Nat.succ_le_of_lt hv) (by decide)) (by decide)).trans lL18_1
  have lL17_2 : zlane L17 2 = 8191 + 1 := by rw [eL17]; exact zlane_same (by decide)
  have lL18_2 : zlane L18 2 = 8191 + 1 := by rw [eL18]; exact (zlane_ne (by decide) (by decide)).trans lL17_2
  have lL19_2 : zlane L19 2 = 8191 + 1 := by rw [eL19]; exact (zlane_ne (Nat.lt_of_le_of_lt (Nat.succ_le_of_lt hv) (by decide)) (by decide)).trans lL18_2
  have lL14_0 : zlane L14 0 = 4294967358 + 1 := by rw [eL14]; exact zlane_same (by decide)
  have v61_0_0 : zcv hbB15_c61 0 = 4294967359 := by decide +kernel
  have g61_0 : zget 8 hbB16.2.2 61 = hbB15_c61 := rfl
  have g61_1 : zget 8 h1.2.2 61 = hbB15_c61 := by rw [eh1]; exact zg_n (by decide) (by decide) (by decide) g61_0
  have st61_0 : hbB15_c61.1 = 12 := rfl
  have ln61_0 : hbB15_c61.2.1 = 114 := rfl
  have v62_1_0 : zcv haB6_c62 1 = 4294967361 := by decide +kernel
  have g62_0 : zget 8 hbB16.2.2 62 = haB6_c62 := rfl
  have g62_1 : zget 8 h1.2.2 62 = haB6_c62 := by rw [eh1]; exact zg_n (by decide) (by decide) (by decide) g62_0
  have st62_0 : haB6_c62.1 = 102 := rfl
  have ln62_0 : haB6_c62.2.1 = 2 := rfl
  have lL12_2 : zlane L12 2 = w + 1 := by rw [eL12]; exact zlane_same (Nat.lt_of_le_of_lt (Nat.succ_le_of_lt hw) (by decide))
  have lL13_2 : zlane L13 2 = w + 1 := by rw [eL13]; exact (zlane_ne (Nat.lt_of_le_of_lt (Nat.succ_le_of_lt hv) (by decide)) (by decide)).trans lL12_2
  have lL14_2 : zlane L14 2 = w + 1 := by rw [eL14]; exact (zlane_ne (by decide) (by decide)).trans lL13_2
  have g64_0 : zget 8 hbB16.2.2 64 = haA0_c13 := rfl
  have g64_1 : zget 8 h1.2.2 64 = haA0_c13 := by rw [eh1]; exact zg_n (by decide) (by decide) (by decide) g64_0
  have st64_0 : haA0_c13.1 = 100 := rfl
  have ln64_0 : haA0_c13.2.1 = 8192 := rfl
  obtain ⟨h2, eh2⟩ : ∃ x : zH, x = (h1.1, h1.2.1, zst 8 h1.2.2 64 (fun c => zcst c v (w % 256))) := ⟨_, rfl⟩
  have hs2 : h2.1 = 129 := by rw [eh2]; exact hs1
  have sl2 : h2.2.1 = 650610 := by rw [eh2]; exact sl1
  have g61_2 : zget 8 h2.2.2 61 = hbB15_c61 := by rw [eh2]; exact zg_n (by decide) (by decide) (by decide) g61_1
  have g62_2 : zget 8 h2.2.2 62 = haB6_c62 := by rw [eh2]; exact zg_n (by decide) (by decide) (by decide) g62_1
  obtain ⟨c64_2, ec64_2⟩ : ∃ x : zC, x = zcst haA0_c13 v (w % 256) := ⟨_, rfl⟩
  have g64_2 : zget 8 h2.2.2 64 = c64_2 := by rw [eh2, ec64_2]; exact zg_s (by decide) g64_1
  have st64_2 : c64_2.1 = 100 := by rw [ec64_2]; exact (zcst_1 _ _ _).1.trans st64_0
  have ln64_2 : c64_2.2.1 = 8192 := by rw [ec64_2]; exact (zcst_1 _ _ _).2.trans ln64_0
  obtain ⟨h3, eh3⟩ : ∃ x : zH, x = (h2.1, h2.2.1, zst 8 h2.2.2 64 (fun c => zcst c (v + 1) ((z_shr w 8) % 256))) := ⟨_, rfl⟩
  have hs3 : h3.1 = 129 := by rw [eh3]; exact hs2
  have sl3 : h3.2.1 = 650610 := by rw [eh3]; exact sl2
  have MS : (zget 8 h1.2.2 61).1 = 12 := by rw [g61_1]; exact st61_0
  have A1 : zrunX zXt 9 ztc (n + 60) 1679 161 L3 [] hbB16 = some ([1], h1) := by
    refine (ca_161 (n := n + 59)).trans ?_
    refine (e_aload lL3_0 (by decide)).trans ?_
    refine (f_getf (k := 0) (by rw [hs0]; decide) g0_0 st0_0 (by rw [ln0_0]; decide) v0_2_0).trans ?_
    refine (e_iload lL3_1 hv).trans ?_
    have m6 : zrunX zXt 9 ztc (n + 59) 1678 46 L5 [] hbB16 = some ([1], hbB16) := by
      refine (ca_46 (n := n + 58)).trans ?_
      refine (e_iload lL5_1 hv).trans ?_
      refine (f_if_f (f := fun a => z_lt a 0) hv (zlt_f (a := v) (b := 0) (fs_poke_even_o0 v hv w hw i1 i2))).trans ?_
      refine (e_iload lL5_1 hv).trans ?_
      refine (e_push).trans ?_
      refine (f_bin (f := z_and) (v := (v % 2)) hv (by decide) (z_and_m (k := 1) (by decide))).trans ?_
      refine (f_if_f (f := fun a => z_ne a 0) (show (v % 2) < 4294967296 from (Nat.lt_trans (Nat.mod_lt _ (by decide)) (by decide))) (zne_f (a := (v % 2)) (b := 0) i2)).trans ?_
      refine (e_iload lL5_1 hv).trans ?_
      refine (e_push).trans ?_
      refine (f_bin (f := z_shr) (v := (v / 2)) hv (by decide) (z_shr_p (k := 1) (fs_poke_even_o1 v hv w hw i1 i2) (by decide))).trans ?_
      refine (e_aload lL5_0 (by decide)).trans ?_
      refine (f_getf (k := 2) (by rw [hs0]; decide) g2_0 st2_0 (by rw [ln2_0]; decide) v2_0_0).trans ?_
      refine (f_len (k := 4) (by rw [hs0]; decide) g4_0 st4_0 ln4_0).trans ?_
      refine (f_cmp_f (f := z_ge) (show (v / 2) < 4294967296 from (Nat.lt_of_le_of_lt (Nat.div_le_self _ _) hv)) (by decide) (zge_f (a := (v / 2)) (b := 4096) (fs_poke_even_o2 v hv w hw i1 i2))).trans ?_
      refine (e_push).trans ?_
      show q_X3_holds_26 _ _ _ _ _ = _
      exact e_zret (R := zrunX zXt 9 ztc (n + 58)) (d := 1678) (L := L5) (h := hbB16) (v := 1) (by decide)
    refine (f_callV (k := 2) (d' := 1678) (S0 := [v, 4294967299]) (S' := []) (S2 := [1]) (fun q => by rw [zargs_s q (Nat.le_of_lt (Nat.lt_trans hv (by decide))), ← eL4, zargs_s q (by decide), ← eL5]; rfl) lL5_0 (by rw [hs0]; decide) g2_0 st2_0 (Nat.le_of_ble_eq_true rfl) m6 (hs0.trans hs0.symm) rfl).trans ?_
    refine (f_if_t (f := fun a => z_ne a 0) (by decide) (by decide +kernel)).trans ?_
    refine (e_aload lL3_0 (by decide)).trans ?_
    refine (f_getf (k := 0) (by rw [hs0]; decide) g0_0 st0_0 (by rw [ln0_0]; decide) v0_2_0).trans ?_
    refine (e_iload lL3_1 hv).trans ?_
    refine (e_iload lL3_2 hw).trans ?_
    have m10 : zrunX zXt 9 ztc (n + 59) 1678 49 L9 [] hbB16 = some ([], h1) := by
      refine (ca_49 (n := n + 58)).trans ?_
      refine (e_iload lL9_1 hv).trans ?_
      refine (e_push).trans ?_
      refine (f_bin (f := z_shr) (v := (v / 2)) hv (by decide) (z_shr_p (k := 1) (fs_poke_even_o1 v hv w hw i1 i2) (by decide))).trans ?_
      refine (f_istore (show (v / 2) < 4294967296 from (Nat.lt_of_le_of_lt (Nat.div_le_self _ _) hv)) eL11.symm).trans ?_
      refine (e_iload lL11_1 hv).trans ?_
      refine (e_push).trans ?_
      refine (f_bin (f := z_and) (v := (v % 2)) hv (by decide) (z_and_m (k := 1) (by decide))).trans ?_
      refine (f_if_f (f := fun a => z_ne a 0) (show (v % 2) < 4294967296 from (Nat.lt_trans (Nat.mod_lt _ (by decide)) (by decide))) (zne_f (a := (v % 2)) (b := 0) i2)).trans ?_
      refine (e_iload lL11_3 (show (v / 2) < 4294967296 from (Nat.lt_of_le_of_lt (Nat.div_le_self _ _) hv))).trans ?_
      refine (f_if_f (f := fun a => z_lt a 0) (show (v / 2) < 4294967296 from (Nat.lt_of_le_of_lt (Nat.div_le_self _ _) hv)) (zlt_f (a := (v / 2)) (b := 0) (fs_poke_even_o3 v hv w hw i1 i2))).trans ?_
      refine (e_iload lL11_3 (show (v / 2) < 4294967296 from (Nat.lt_of_le_of_lt (Nat.div_le_self _ _) hv))).trans ?_
      refine (e_aload lL11_0 (by decide)).trans ?_
      refine (f_getf (k := 2) (by rw [hs0]; decide) g2_0 st2_0 (by rw [ln2_0]; decide) v2_0_0).trans ?_
      refine (f_len (k := 4) (by rw [hs0]; decide) g4_0 st4_0 ln4_0).trans ?_
      refine (f_cmp_f (f := z_ge) (show (v / 2) < 4294967296 from (Nat.lt_of_le_of_lt (Nat.div_le_self _ _) hv)) (by decide) (zge_f (a := (v / 2)) (b := 4096) (fs_poke_even_o2 v hv w hw i1 i2))).trans ?_
      refine (e_aload lL11_0 (by decide)).trans ?_
      refine (f_getf (k := 2) (by rw [hs0]; decide) g2_0 st2_0 (by rw [ln2_0]; decide) v2_0_0).trans ?_
      refine (e_iload lL11_3 (show (v / 2) < 4294967296 from (Nat.lt_of_le_of_lt (Nat.div_le_self _ _) hv))).trans ?_
      refine (e_iload lL11_2 hw).trans ?_
      refine (e_push).trans ?_
      refine (f_bin (f := z_and) (v := (w % 65536)) hw (by decide) (z_and_m (k := 16) (by decide))).trans ?_
      refine (f_iast (k := 4) (show (w % 65536) < 4294967296 from (Nat.lt_trans (Nat.mod_lt _ (by decide)) (by decide))) (show (v / 2) < 4294967296 from (Nat.lt_of_le_of_lt (Nat.div_le_self _ _) hv)) (by rw [hs0]; decide) g4_0 st4_0 (by rw [ln4_0]; exact (fs_poke_even_o4 v hv w hw i1 i2)) eh1.symm).trans ?_
      exact e_vret (R := zrunX zXt 9 ztc (n + 58)) (d := 1678) (L := L11) (h := h1)
    refine (f_callV (k := 2) (d' := 1678) (S0 := [w, v, 4294967299]) (S' := []) (S2 := []) (fun q => by rw [zargs_s q (Nat.le_of_lt (Nat.lt_trans hw (by decide))), ← eL7, zargs_s q (Nat.le_of_lt (Nat.lt_trans hv (by decide))), ← eL8, zargs_s q (by decide), ← eL9]; rfl) lL9_0 (by rw [hs0]; decide) g2_0 st2_0 (Nat.le_of_ble_eq_true rfl) m10 (hs1.trans hs0.symm) rfl).trans ?_
    refine (e_push).trans ?_
    exact e_zret (R := zrunX zXt 9 ztc (n + 59)) (d := 1679) (L := L3) (h := h1) (v := 1) (by decide)
  have A2 : zrunX zXt 9 ztc (n + 60) 1679 253 L14 [] h1 = some ([1], h3) := by
    refine (ca_253 (n := n + 59)).trans ?_
    refine (e_iload lL14_1 hv).trans ?_
    have m16 : zrunX zXt 9 ztc (n + 59) 1678 220 L15 [] h1 = some ([1], h1) := by
      refine (ca_220 (n := n + 58)).trans ?_
      refine (e_iload lL15_0 hv).trans ?_
      refine (e_push).trans ?_
      refine (e_push).trans ?_
      have m20 : zrunX zXt 9 ztc (n + 58) 1677 217 L19 [] h1 = some ([1], h1) := by
        refine (ca_217 (n := n + 57)).trans ?_
        refine (e_iload lL19_0 hv).trans ?_
        refine (e_iload lL19_1 (by decide)).trans ?_
        refine (f_cmp_f (f := z_lt) hv (by decide) (zlt_f (a := v) (b := 0) (fs_poke_even_o0 v hv w hw i1 i2))).trans ?_
        refine (e_iload lL19_0 hv).trans ?_
        refine (e_iload lL19_2 (by decide)).trans ?_
        refine (f_cmp_f (f := z_gt) hv (by decide) (zgt_f (a := v) (b := 8191) (fs_poke_even_o5 v hv w hw i1 i2))).trans ?_
        refine (e_push).trans ?_
        show q_X12_in_15 _ _ _ _ _ = _
        exact e_zret (R := zrunX zXt 9 ztc (n + 57)) (d := 1677) (L := L19) (h := h1) (v := 1) (by decide)
      refine (f_callS (d' := 1677) (S0 := [8191, 0, v]) (S' := []) (S2 := [1]) (fun q => by rw [zargs_s q (by decide), ← eL17, zargs_s q (by decide), ← eL18, zargs_s q (Nat.le_of_lt (Nat.lt_trans hv (by decide))), ← eL19]; rfl) (Nat.le_of_ble_eq_true rfl) m20 (hs1.trans hs1.symm) rfl).trans ?_
      refine (f_if_f (f := fun a => Nat.beq a 0) (by decide) (by decide +kernel)).trans ?_
      refine (e_iload lL15_0 hv).trans ?_
      refine (e_push).trans ?_
      refine (f_bin (f := z_and) (v := (v % 2)) hv (by decide) (z_and_m (k := 1) (by decide))).trans ?_
      refine (f_if_f (f := fun a => z_ne a 0) (show (v % 2) < 4294967296 from (Nat.lt_trans (Nat.mod_lt _ (by decide)) (by decide))) (zne_f (a := (v % 2)) (b := 0) i2)).trans ?_
      refine (e_push).trans ?_
      show q_X12_isBenchPlace_22 _ _ _ _ _ = _
      exact e_zret (R := zrunX zXt 9 ztc (n + 58)) (d := 1678) (L := L15) (h := h1) (v := 1) (by decide)
    refine (f_callS (d' := 1678) (S0 := [v]) (S' := []) (S2 := [1]) (fun q => by rw [zargs_s q (Nat.le_of_lt (Nat.lt_trans hv (by decide))), ← eL15]; rfl) (Nat.le_of_ble_eq_true rfl) m16 (hs1.trans hs1.symm) rfl).trans ?_
    refine (f_if_t (f := fun a => z_ne a 0) (by decide) (by decide +kernel)).trans ?_
    refine (e_aload lL14_0 (by decide)).trans ?_
    refine (f_getf (k := 61) (by rw [hs1]; decide) g61_1 st61_0 (by rw [ln61_0]; decide) v61_0_0).trans ?_
    refine (e_push).trans ?_
    refine (e_aald (k := 62) (by decide) (by rw [hs1]; decide) g62_1 st62_0 (by rw [ln62_0]; decide) v62_1_0 (by decide)).trans ?_
    refine (e_iload lL14_1 hv).trans ?_
    refine (e_iload lL14_2 hw).trans ?_
    refine (e_push).trans ?_
    refine (f_bin (f := z_and) (v := (w % 256)) hw (by decide) (z_and_m (k := 8) (by decide))).trans ?_
    refine (f_iast (k := 64) (show (w % 256) < 4294967296 from (Nat.lt_trans (Nat.mod_lt _ (by decide)) (by decide))) hv (by rw [hs1]; decide) g64_1 st64_0 (by rw [ln64_0]; exact i1) eh2.symm).trans ?_
    refine (e_aload lL14_0 (by decide)).trans ?_
    refine (f_getf (k := 61) (by rw [hs2]; decide) g61_2 st61_0 (by rw [ln61_0]; decide) v61_0_0).trans ?_
    refine (e_push).trans ?_
    refine (e_aald (k := 62) (by decide) (by rw [hs2]; decide) g62_2 st62_0 (by rw [ln62_0]; decide) v62_1_0 (by decide)).trans ?_
    refine (e_iload lL14_1 hv).trans ?_
    refine (e_push).trans ?_
    refine (f_bin (f := z_add) (v := (v + 1)) hv (by decide) (z_add_l (fs_poke_even_o6 v hv w hw i1 i2))).trans ?_
    refine (e_iload lL14_2 hw).trans ?_
    refine (e_push).trans ?_
    refine (f_bin (f := z_shr) (v := (z_shr w 8)) hw (by decide) rfl).trans ?_
    refine (e_push).trans ?_
    refine (f_bin (f := z_and) (v := ((z_shr w 8) % 256)) (show (z_shr w 8) < 4294967296 from (z_shr_ok _ _ hw (by decide)).1) (by decide) (z_and_m (k := 8) (by decide))).trans ?_
    refine (f_iast (k := 64) (show ((z_shr w 8) % 256) < 4294967296 from (Nat.lt_trans (Nat.mod_lt _ (by decide)) (by decide))) (show (v + 1) < 4294967296 from (fs_poke_even_o7 v hv w hw i1 i2)) (by rw [hs2]; decide) g64_2 st64_2 (by rw [ln64_2]; exact (fs_poke_even_o8 v hv w hw i1 i2)) eh3.symm).trans ?_
    refine (e_push).trans ?_
    exact e_zret (R := zrunX zXt 9 ztc (n + 59)) (d := 1679) (L := L14) (h := h3) (v := 1) (by decide)
  rw [eL3, eL2, eL1] at A1
  rw [eL14, eL13, eL12] at A2
  exact ⟨_, _, _, (by decide), A1, hs1, MS, A2, hs3, sl3⟩
theorem fs_poke_hodd_o0 (v : Nat) (hv : v < 4294967296) (w : Nat) (hw : w < 4294967296) (i1 : 8192 ≤ v) (i2 : v < 2147483648) (i3 : v % 2 = 1) : (0 + 2147483648) % 4294967296 ≤ (v + 2147483648) % 4294967296 := by omega
theorem fs_poke_hodd_o1 (v : Nat) (hv : v < 4294967296) (w : Nat) (hw : w < 4294967296) (i1 : 8192 ≤ v) (i2 : v < 2147483648) (i3 : v % 2 = 1) : v % 2 ≠ 0 := by omega
theorem fs_poke_hodd_o2 (v : Nat) (hv : v < 4294967296) (w : Nat) (hw : w < 4294967296) (i1 : 8192 ≤ v) (i2 : v < 2147483648) (i3 : v % 2 = 1) : (8191 + 2147483648) % 4294967296 < (v + 2147483648) % 4294967296 := by omega
theorem fs_poke_hodd (v : Nat) (hv : v < 4294967296) (w : Nat) (hw : w < 4294967296) (i1 : 8192 ≤ v) (i2 : v < 2147483648) (i3 : v % 2 = 1) (n : Nat) : zFst n 161 (zput (zput (zput 0 2 (w + 1)) 1 (v + 1)) 0 (4294967297 + 1)) 253 (zput (zput (zput 0 2 (w + 1)) 1 (v + 1)) 0 (4294967358 + 1)) := by
  have hs0 : hbB16.1 = 129 := rfl
  have sl0 : hbB16.2.1 = 650610 := rfl
  obtain ⟨L1, eL1⟩ : ∃ x : Nat, x = zput 0 2 (w + 1) := ⟨_, rfl⟩
  obtain ⟨L2, eL2⟩ : ∃ x : Nat, x = zput L1 1 (v + 1) := ⟨_, rfl⟩
  obtain ⟨L3, eL3⟩ : ∃ x : Nat, x = zput L2 0 (4294967297 + 1) := ⟨_, rfl⟩
  have lL3_0 : zlane L3 0 = 4294967297 + 1 := by rw [eL3]; exact zlane_same (by decide)
  have v0_2_0 : zcv haA0_c0 2 = 4294967299 := by decide +kernel
  have g0_0 : zget 8 hbB16.2.2 0 = haA0_c0 := rfl
  have st0_0 : haA0_c0.1 = 11 := rfl
  have ln0_0 : haA0_c0.2.1 = 18 := rfl
  have lL2_1 : zlane L2 1 = v + 1 := by rw [eL2]; exact zlane_same (Nat.lt_of_le_of_lt (Nat.succ_le_of_lt hv) (by decide))
  have lL3_1 : zlane L3 1 = v + 1 := by rw [eL3]; exact (zlane_ne (by decide) (by decide)).trans lL2_1
  obtain ⟨L4, eL4⟩ : ∃ x : Nat, x = zput 0 1 (v + 1) := ⟨_, rfl⟩
  obtain ⟨L5, eL5⟩ : ∃ x : Nat, x = zput L4 0 (4294967299 + 1) := ⟨_, rfl⟩
  have lL4_1 : zlane L4 1 = v + 1 := by rw [eL4]; exact zlane_same (Nat.lt_of_le_of_lt (Nat.succ_le_of_lt hv) (by decide))
  have lL5_1 : zlane L5 1 = v + 1 := by rw [eL5]; exact (zlane_ne (by decide) (by decide)).trans lL4_1
  have lL5_0 : zlane L5 0 = 4294967299 + 1 := by rw [eL5]; exact zlane_same (by decide)
  have g2_0 : zget 8 hbB16.2.2 2 = haA0_c2 := rfl
  have st2_0 : haA0_c2.1 = 3 := rfl
  obtain ⟨L7, eL7⟩ : ∃ x : Nat, x = zput 0 2 (w + 1) := ⟨_, rfl⟩
  obtain ⟨L8, eL8⟩ : ∃ x : Nat, x = zput L7 1 (v + 1) := ⟨_, rfl⟩
  obtain ⟨L9, eL9⟩ : ∃ x : Nat, x = zput L8 0 (4294967358 + 1) := ⟨_, rfl⟩
  have lL8_1 : zlane L8 1 = v + 1 := by rw [eL8]; exact zlane_same (Nat.lt_of_le_of_lt (Nat.succ_le_of_lt hv) (by decide))
  have lL9_1 : zlane L9 1 = v + 1 := by rw [eL9]; exact (zlane_ne (by decide) (by decide)).trans lL8_1
  obtain ⟨L10, eL10⟩ : ∃ x : Nat, x = zput 0 0 (v + 1) := ⟨_, rfl⟩
  have lL10_0 : zlane L10 0 = v + 1 := by rw [eL10]; exact zlane_same (Nat.lt_of_le_of_lt (Nat.succ_le_of_lt hv) (by decide))
  obtain ⟨L12, eL12⟩ : ∃ x : Nat, x = zput 0 2 (8191 + 1) := ⟨_, rfl⟩
  obtain ⟨L13, eL13⟩ : ∃ x : Nat, x = zput L12 1 (0 + 1) := ⟨_, rfl⟩
  obtain ⟨L14, eL14⟩ : ∃ x : Nat, x = zput L13 0 (v + 1) := ⟨_, rfl⟩
  have lL14_0 : zlane L14 0 = v + 1 := by rw [eL14]; exact zlane_same (Nat.lt_of_le_of_lt (Nat.succ_le_of_lt hv) (by decide))
  have lL13_1 : zlane L13 1 = 0 + 1 := by rw [eL13]; exact zlane_same (by decide)
  have lL14_1 : zlane L14 1 = 0 + 1 := by rw [eL14]; exact (zlane_ne (Nat.lt_of_le_of_lt (Nat.succ_le_of_lt hv) (by decide)) (by decide)).trans lL13_1
  have lL12_2 : zlane L12 2 = 8191 + 1 := by rw [eL12]; exact zlane_same (by decide)
  have lL13_2 : zlane L13 2 = 8191 + 1 := by rw [eL13]; exact (zlane_ne (by decide) (by decide)).trans lL12_2
  have lL14_2 : zlane L14 2 = 8191 + 1 := by rw [eL14]; exact (zlane_ne (Nat.lt_of_le_of_lt (Nat.succ_le_of_lt hv) (by decide)) (by decide)).trans lL13_2
  have g61_0 : zget 8 hbB16.2.2 61 = hbB15_c61 := rfl
  have st61_0 : hbB15_c61.1 = 12 := rfl
  have MS : (zget 8 hbB16.2.2 61).1 = 12 := by rw [g61_0]; exact st61_0
  have A1 : zrunX zXt 9 ztc (n + 60) 1679 161 L3 [] hbB16 = some ([0], hbB16) := by
    refine (ca_161 (n := n + 59)).trans ?_
    refine (e_aload lL3_0 (by decide)).trans ?_
    refine (f_getf (k := 0) (by rw [hs0]; decide) g0_0 st0_0 (by rw [ln0_0]; decide) v0_2_0).trans ?_
    refine (e_iload lL3_1 hv).trans ?_
    have m6 : zrunX zXt 9 ztc (n + 59) 1678 46 L5 [] hbB16 = some ([0], hbB16) := by
      refine (ca_46 (n := n + 58)).trans ?_
      refine (e_iload lL5_1 hv).trans ?_
      refine (f_if_f (f := fun a => z_lt a 0) hv (zlt_f (a := v) (b := 0) (fs_poke_hodd_o0 v hv w hw i1 i2 i3))).trans ?_
      refine (e_iload lL5_1 hv).trans ?_
      refine (e_push).trans ?_
      refine (f_bin (f := z_and) (v := (v % 2)) hv (by decide) (z_and_m (k := 1) (by decide))).trans ?_
      refine (f_if_t (f := fun a => z_ne a 0) (show (v % 2) < 4294967296 from (Nat.lt_trans (Nat.mod_lt _ (by decide)) (by decide))) (zne_t (a := (v % 2)) (b := 0) (fs_poke_hodd_o1 v hv w hw i1 i2 i3))).trans ?_
      refine (e_push).trans ?_
      exact e_zret (R := zrunX zXt 9 ztc (n + 58)) (d := 1678) (L := L5) (h := hbB16) (v := 0) (by decide)
    refine (f_callV (k := 2) (d' := 1678) (S0 := [v, 4294967299]) (S' := []) (S2 := [0]) (fun q => by rw [zargs_s q (Nat.le_of_lt (Nat.lt_trans hv (by decide))), ← eL4, zargs_s q (by decide), ← eL5]; rfl) lL5_0 (by rw [hs0]; decide) g2_0 st2_0 (Nat.le_of_ble_eq_true rfl) m6 (hs0.trans hs0.symm) rfl).trans ?_
    refine (f_if_f (f := fun a => z_ne a 0) (by decide) (by decide +kernel)).trans ?_
    refine (e_push).trans ?_
    exact e_zret (R := zrunX zXt 9 ztc (n + 59)) (d := 1679) (L := L3) (h := hbB16) (v := 0) (by decide)
  have A2 : zrunX zXt 9 ztc (n + 60) 1679 253 L9 [] hbB16 = some ([0], hbB16) := by
    refine (ca_253 (n := n + 59)).trans ?_
    refine (e_iload lL9_1 hv).trans ?_
    have m11 : zrunX zXt 9 ztc (n + 59) 1678 220 L10 [] hbB16 = some ([0], hbB16) := by
      refine (ca_220 (n := n + 58)).trans ?_
      refine (e_iload lL10_0 hv).trans ?_
      refine (e_push).trans ?_
      refine (e_push).trans ?_
      have m15 : zrunX zXt 9 ztc (n + 58) 1677 217 L14 [] hbB16 = some ([0], hbB16) := by
        refine (ca_217 (n := n + 57)).trans ?_
        refine (e_iload lL14_0 hv).trans ?_
        refine (e_iload lL14_1 (by decide)).trans ?_
        refine (f_cmp_f (f := z_lt) hv (by decide) (zlt_f (a := v) (b := 0) (fs_poke_hodd_o0 v hv w hw i1 i2 i3))).trans ?_
        refine (e_iload lL14_0 hv).trans ?_
        refine (e_iload lL14_2 (by decide)).trans ?_
        refine (f_cmp_t (f := z_gt) hv (by decide) (zgt_t (a := v) (b := 8191) (fs_poke_hodd_o2 v hv w hw i1 i2 i3))).trans ?_
        refine (e_push).trans ?_
        exact e_zret (R := zrunX zXt 9 ztc (n + 57)) (d := 1677) (L := L14) (h := hbB16) (v := 0) (by decide)
      refine (f_callS (d' := 1677) (S0 := [8191, 0, v]) (S' := []) (S2 := [0]) (fun q => by rw [zargs_s q (by decide), ← eL12, zargs_s q (by decide), ← eL13, zargs_s q (Nat.le_of_lt (Nat.lt_trans hv (by decide))), ← eL14]; rfl) (Nat.le_of_ble_eq_true rfl) m15 (hs0.trans hs0.symm) rfl).trans ?_
      refine (f_if_t (f := fun a => Nat.beq a 0) (by decide) (by decide +kernel)).trans ?_
      refine (e_push).trans ?_
      exact e_zret (R := zrunX zXt 9 ztc (n + 58)) (d := 1678) (L := L10) (h := hbB16) (v := 0) (by decide)
    refine (f_callS (d' := 1678) (S0 := [v]) (S' := []) (S2 := [0]) (fun q => by rw [zargs_s q (Nat.le_of_lt (Nat.lt_trans hv (by decide))), ← eL10]; rfl) (Nat.le_of_ble_eq_true rfl) m11 (hs0.trans hs0.symm) rfl).trans ?_
    refine (f_if_f (f := fun a => z_ne a 0) (by decide) (by decide +kernel)).trans ?_
    refine (e_push).trans ?_
    exact e_zret (R := zrunX zXt 9 ztc (n + 59)) (d := 1679) (L := L9) (h := hbB16) (v := 0) (by decide)
  rw [eL3, eL2, eL1] at A1
  rw [eL9, eL8, eL7] at A2
  exact ⟨_, _, _, (by decide), A1, hs0, MS, A2, hs0, sl0⟩
theorem fs_poke_heven_o0 (v : Nat) (hv : v < 4294967296) (w : Nat) (hw : w < 4294967296) (i1 : 8192 ≤ v) (i2 : v < 2147483648) (i3 : v % 2 = 0) : (0 + 2147483648) % 4294967296 ≤ (v + 2147483648) % 4294967296 := by omega
theorem fs_poke_heven_o1 (v : Nat) (hv : v < 4294967296) (w : Nat) (hw : w < 4294967296) (i1 : 8192 ≤ v) (i2 : v < 2147483648) (i3 : v % 2 = 0) : (4096 + 2147483648) % 4294967296 ≤ ((v / 2) + 2147483648) % 4294967296 := by omega
theorem fs_poke_heven_o2 (v : Nat) (hv : v < 4294967296) (w : Nat) (hw : w < 4294967296) (i1 : 8192 ≤ v) (i2 : v < 2147483648) (i3 : v % 2 = 0) : (8191 + 2147483648) % 4294967296 < (v + 2147483648) % 4294967296 := by omega
theorem fs_poke_heven (v : Nat) (hv : v < 4294967296) (w : Nat) (hw : w < 4294967296) (i1 : 8192 ≤ v) (i2 : v < 2147483648) (i3 : v % 2 = 0) (n : Nat) : zFst n 161 (zput (zput (zput 0 2 (w + 1)) 1 (v + 1)) 0 (4294967297 + 1)) 253 (zput (zput (zput 0 2 (w + 1)) 1 (v + 1)) 0 (4294967358 + 1)) := by
  have hs0 : hbB16.1 = 129 := rfl
  have sl0 : hbB16.2.1 = 650610 := rfl
  obtain ⟨L1, eL1⟩ : ∃ x : Nat, x = zput 0 2 (w + 1) := ⟨_, rfl⟩
  obtain ⟨L2, eL2⟩ : ∃ x : Nat, x = zput L1 1 (v + 1) := ⟨_, rfl⟩
  obtain ⟨L3, eL3⟩ : ∃ x : Nat, x = zput L2 0 (4294967297 + 1) := ⟨_, rfl⟩
  have lL3_0 : zlane L3 0 = 4294967297 + 1 := by rw [eL3]; exact zlane_same (by decide)
  have v0_2_0 : zcv haA0_c0 2 = 4294967299 := by decide +kernel
  have g0_0 : zget 8 hbB16.2.2 0 = haA0_c0 := rfl
  have st0_0 : haA0_c0.1 = 11 := rfl
  have ln0_0 : haA0_c0.2.1 = 18 := rfl
  have lL2_1 : zlane L2 1 = v + 1 := by rw [eL2]; exact zlane_same (Nat.lt_of_le_of_lt (Nat.succ_le_of_lt hv) (by decide))
  have lL3_1 : zlane L3 1 = v + 1 := by rw [eL3]; exact (zlane_ne (by decide) (by decide)).trans lL2_1
  obtain ⟨L4, eL4⟩ : ∃ x : Nat, x = zput 0 1 (v + 1) := ⟨_, rfl⟩
  obtain ⟨L5, eL5⟩ : ∃ x : Nat, x = zput L4 0 (4294967299 + 1) := ⟨_, rfl⟩
  have lL4_1 : zlane L4 1 = v + 1 := by rw [eL4]; exact zlane_same (Nat.lt_of_le_of_lt (Nat.succ_le_of_lt hv) (by decide))
  have lL5_1 : zlane L5 1 = v + 1 := by rw [eL5]; exact (zlane_ne (by decide) (by decide)).trans lL4_1
  have lL5_0 : zlane L5 0 = 4294967299 + 1 := by rw [eL5]; exact zlane_same (by decide)
  have v2_0_0 : zcv haA0_c2 0 = 4294967301 := by decide +kernel
  have g2_0 : zget 8 hbB16.2.2 2 = haA0_c2 := rfl
  have st2_0 : haA0_c2.1 = 3 := rfl
  have ln2_0 : haA0_c2.2.1 = 7 := rfl
  have g4_0 : zget 8 hbB16.2.2 4 = haA0_c4 := rfl
  have st4_0 : haA0_c4.1 = 100 := rfl
  have ln4_0 : haA0_c4.2.1 = 4096 := rfl
  obtain ⟨L7, eL7⟩ : ∃ x : Nat, x = zput 0 2 (w + 1) := ⟨_, rfl⟩
  obtain ⟨L8, eL8⟩ : ∃ x : Nat, x = zput L7 1 (v + 1) := ⟨_, rfl⟩
  obtain ⟨L9, eL9⟩ : ∃ x : Nat, x = zput L8 0 (4294967358 + 1) := ⟨_, rfl⟩
  have lL8_1 : zlane L8 1 = v + 1 := by rw [eL8]; exact zlane_same (Nat.lt_of_le_of_lt (Nat.succ_le_of_lt hv) (by decide))
  have lL9_1 : zlane L9 1 = v + 1 := by rw [eL9]; exact (zlane_ne (by decide) (by decide)).trans lL8_1
  obtain ⟨L10, eL10⟩ : ∃ x : Nat, x = zput 0 0 (v + 1) := ⟨_, rfl⟩
  have lL10_0 : zlane L10 0 = v + 1 := by rw [eL10]; exact zlane_same (Nat.lt_of_le_of_lt (Nat.succ_le_of_lt hv) (by decide))
  obtain ⟨L12, eL12⟩ : ∃ x : Nat, x = zput 0 2 (8191 + 1) := ⟨_, rfl⟩
  obtain ⟨L13, eL13⟩ : ∃ x : Nat, x = zput L12 1 (0 + 1) := ⟨_, rfl⟩
  obtain ⟨L14, eL14⟩ : ∃ x : Nat, x = zput L13 0 (v + 1) := ⟨_, rfl⟩
  have lL14_0 : zlane L14 0 = v + 1 := by rw [eL14]; exact zlane_same (Nat.lt_of_le_of_lt (Nat.succ_le_of_lt hv) (by decide))
  have lL13_1 : zlane L13 1 = 0 + 1 := by rw [eL13]; exact zlane_same (by decide)
  have lL14_1 : zlane L14 1 = 0 + 1 := by rw [eL14]; exact (zlane_ne (Nat.lt_of_le_of_lt (Nat.succ_le_of_lt hv) (by decide)) (by decide)).trans lL13_1
  have lL12_2 : zlane L12 2 = 8191 + 1 := by rw [eL12]; exact zlane_same (by decide)
  have lL13_2 : zlane L13 2 = 8191 + 1 := by rw [eL13]; exact (zlane_ne (by decide) (by decide)).trans lL12_2
  have lL14_2 : zlane L14 2 = 8191 + 1 := by rw [eL14]; exact (zlane_ne (Nat.lt_of_le_of_lt (Nat.succ_le_of_lt hv) (by decide)) (by decide)).trans lL13_2
  have g61_0 : zget 8 hbB16.2.2 61 = hbB15_c61 := rfl
  have st61_0 : hbB15_c61.1 = 12 := rfl
  have MS : (zget 8 hbB16.2.2 61).1 = 12 := by rw [g61_0]; exact st61_0
  have A1 : zrunX zXt 9 ztc (n + 60) 1679 161 L3 [] hbB16 = some ([0], hbB16) := by
    refine (ca_161 (n := n + 59)).trans ?_
    refine (e_aload lL3_0 (by decide)).trans ?_
    refine (f_getf (k := 0) (by rw [hs0]; decide) g0_0 st0_0 (by rw [ln0_0]; decide) v0_2_0).trans ?_
    refine (e_iload lL3_1 hv).trans ?_
    have m6 : zrunX zXt 9 ztc (n + 59) 1678 46 L5 [] hbB16 = some ([0], hbB16) := by
      refine (ca_46 (n := n + 58)).trans ?_
      refine (e_iload lL5_1 hv).trans ?_
      refine (f_if_f (f := fun a => z_lt a 0) hv (zlt_f (a := v) (b := 0) (fs_poke_heven_o0 v hv w hw i1 i2 i3))).trans ?_
      refine (e_iload lL5_1 hv).trans ?_
      refine (e_push).trans ?_
      refine (f_bin (f := z_and) (v := (v % 2)) hv (by decide) (z_and_m (k := 1) (by decide))).trans ?_
      refine (f_if_f (f := fun a => z_ne a 0) (show (v % 2) < 4294967296 from (Nat.lt_trans (Nat.mod_lt _ (by decide)) (by decide))) (zne_f (a := (v % 2)) (b := 0) i3)).trans ?_
      refine (e_iload lL5_1 hv).trans ?_
      refine (e_push).trans ?_
      refine (f_bin (f := z_shr) (v := (v / 2)) hv (by decide) (z_shr_p (k := 1) i2 (by decide))).trans ?_
      refine (e_aload lL5_0 (by decide)).trans ?_
      refine (f_getf (k := 2) (by rw [hs0]; decide) g2_0 st2_0 (by rw [ln2_0]; decide) v2_0_0).trans ?_
      refine (f_len (k := 4) (by rw [hs0]; decide) g4_0 st4_0 ln4_0).trans ?_
      refine (f_cmp_t (f := z_ge) (show (v / 2) < 4294967296 from (Nat.lt_of_le_of_lt (Nat.div_le_self _ _) hv)) (by decide) (zge_t (a := (v / 2)) (b := 4096) (fs_poke_heven_o1 v hv w hw i1 i2 i3))).trans ?_
      refine (e_push).trans ?_
      exact e_zret (R := zrunX zXt 9 ztc (n + 58)) (d := 1678) (L := L5) (h := hbB16) (v := 0) (by decide)
    refine (f_callV (k := 2) (d' := 1678) (S0 := [v, 4294967299]) (S' := []) (S2 := [0]) (fun q => by rw [zargs_s q (Nat.le_of_lt (Nat.lt_trans hv (by decide))), ← eL4, zargs_s q (by decide), ← eL5]; rfl) lL5_0 (by rw [hs0]; decide) g2_0 st2_0 (Nat.le_of_ble_eq_true rfl) m6 (hs0.trans hs0.symm) rfl).trans ?_
    refine (f_if_f (f := fun a => z_ne a 0) (by decide) (by decide +kernel)).trans ?_
    refine (e_push).trans ?_
    exact e_zret (R := zrunX zXt 9 ztc (n + 59)) (d := 1679) (L := L3) (h := hbB16) (v := 0) (by decide)
  have A2 : zrunX zXt 9 ztc (n + 60) 1679 253 L9 [] hbB16 = some ([0], hbB16) := by
    refine (ca_253 (n := n + 59)).trans ?_
    refine (e_iload lL9_1 hv).trans ?_
    have m11 : zrunX zXt 9 ztc (n + 59) 1678 220 L10 [] hbB16 = some ([0], hbB16) := by
      refine (ca_220 (n := n + 58)).trans ?_
      refine (e_iload lL10_0 hv).trans ?_
      refine (e_push).trans ?_
      refine (e_push).trans ?_
      have m15 : zrunX zXt 9 ztc (n + 58) 1677 217 L14 [] hbB16 = some ([0], hbB16) := by
        refine (ca_217 (n := n + 57)).trans ?_
        refine (e_iload lL14_0 hv).trans ?_
        refine (e_iload lL14_1 (by decide)).trans ?_
        refine (f_cmp_f (f := z_lt) hv (by decide) (zlt_f (a := v) (b := 0) (fs_poke_heven_o0 v hv w hw i1 i2 i3))).trans ?_
        refine (e_iload lL14_0 hv).trans ?_
        refine (e_iload lL14_2 (by decide)).trans ?_
        refine (f_cmp_t (f := z_gt) hv (by decide) (zgt_t (a := v) (b := 8191) (fs_poke_heven_o2 v hv w hw i1 i2 i3))).trans ?_
        refine (e_push).trans ?_
        exact e_zret (R := zrunX zXt 9 ztc (n + 57)) (d := 1677) (L := L14) (h := hbB16) (v := 0) (by decide)
      refine (f_callS (d' := 1677) (S0 := [8191, 0, v]) (S' := []) (S2 := [0]) (fun q => by rw [zargs_s q (by decide), ← eL12, zargs_s q (by decide), ← eL13, zargs_s q (Nat.le_of_lt (Nat.lt_trans hv (by decide))), ← eL14]; rfl) (Nat.le_of_ble_eq_true rfl) m15 (hs0.trans hs0.symm) rfl).trans ?_
      refine (f_if_t (f := fun a => Nat.beq a 0) (by decide) (by decide +kernel)).trans ?_
      refine (e_push).trans ?_
      exact e_zret (R := zrunX zXt 9 ztc (n + 58)) (d := 1678) (L := L10) (h := hbB16) (v := 0) (by decide)
    refine (f_callS (d' := 1678) (S0 := [v]) (S' := []) (S2 := [0]) (fun q => by rw [zargs_s q (Nat.le_of_lt (Nat.lt_trans hv (by decide))), ← eL10]; rfl) (Nat.le_of_ble_eq_true rfl) m11 (hs0.trans hs0.symm) rfl).trans ?_
    refine (f_if_f (f := fun a => z_ne a 0) (by decide) (by decide +kernel)).trans ?_
    refine (e_push).trans ?_
    exact e_zret (R := zrunX zXt 9 ztc (n + 59)) (d := 1679) (L := L9) (h := hbB16) (v := 0) (by decide)
  rw [eL3, eL2, eL1] at A1
  rw [eL9, eL8, eL7] at A2
  exact ⟨_, _, _, (by decide), A1, hs0, MS, A2, hs0, sl0⟩
theorem fs_set_neg_o0 (v : Nat) (hv : v < 4294967296) (w : Nat) (hw : w < 4294967296) (i1 : 2147483648 ≤ v) : v ≠ 8 := by omega
theorem fs_set_neg_o1 (v : Nat) (hv : v < 4294967296) (w : Nat) (hw : w < 4294967296) (i1 : 2147483648 ≤ v) : (v + 2147483648) % 4294967296 < (0 + 2147483648) % 4294967296 := by omega
theorem fs_set_neg (v : Nat) (hv : v < 4294967296) (w : Nat) (hw : w < 4294967296) (i1 : 2147483648 ≤ v) (n : Nat) : zFst n 167 (zput (zput (zput 0 2 (w + 1)) 1 (v + 1)) 0 (4294967297 + 1)) 269 (zput (zput (zput 0 2 (w + 1)) 1 (v + 1)) 0 (4294967358 + 1)) := by
  have hs0 : hbB16.1 = 129 := rfl
  have sl0 : hbB16.2.1 = 650610 := rfl
  obtain ⟨L1, eL1⟩ : ∃ x : Nat, x = zput 0 2 (w + 1) := ⟨_, rfl⟩
  obtain ⟨L2, eL2⟩ : ∃ x : Nat, x = zput L1 1 (v + 1) := ⟨_, rfl⟩
  obtain ⟨L3, eL3⟩ : ∃ x : Nat, x = zput L2 0 (4294967297 + 1) := ⟨_, rfl⟩
  have lL2_1 : zlane L2 1 = v + 1 := by rw [eL2]; exact zlane_same (Nat.lt_of_le_of_lt (Nat.succ_le_of_lt hv) (by decide))
  have lL3_1 : zlane L3 1 = v + 1 := by rw [eL3]; exact (zlane_ne (by decide) (by decide)).trans lL2_1
  obtain ⟨L4, eL4⟩ : ∃ x : Nat, x = zput 0 2 (w + 1) := ⟨_, rfl⟩
  obtain ⟨L5, eL5⟩ : ∃ x : Nat, x = zput L4 1 (v + 1) := ⟨_, rfl⟩
  obtain ⟨L6, eL6⟩ : ∃ x : Nat, x = zput L5 0 (4294967358 + 1) := ⟨_, rfl⟩
  have lL5_1 : zlane L5 1 = v + 1 := by rw [eL5]; exact zlane_same (Nat.lt_of_le_of_lt (Nat.succ_le_of_lt hv) (by decide))
  have lL6_1 : zlane L6 1 = v + 1 := by rw [eL6]; exact (zlane_ne (by decide) (by decide)).trans lL5_1
  obtain ⟨L7, eL7⟩ : ∃ x : Nat, x = zput 0 2 (8 + 1) := ⟨_, rfl⟩
  obtain ⟨L8, eL8⟩ : ∃ x : Nat, x = zput L7 1 (0 + 1) := ⟨_, rfl⟩
  obtain ⟨L9, eL9⟩ : ∃ x : Nat, x = zput L8 0 (v + 1) := ⟨_, rfl⟩
  have lL9_0 : zlane L9 0 = v + 1 := by rw [eL9]; exact zlane_same (Nat.lt_of_le_of_lt (Nat.succ_le_of_lt hv) (by decide))
  have lL8_1 : zlane L8 1 = 0 + 1 := by rw [eL8]; exact zlane_same (by decide)
  have lL9_1 : zlane L9 1 = 0 + 1 := by rw [eL9]; exact (zlane_ne (Nat.lt_of_le_of_lt (Nat.succ_le_of_lt hv) (by decide)) (by decide)).trans lL8_1
  have g61_0 : zget 8 hbB16.2.2 61 = hbB15_c61 := rfl
  have st61_0 : hbB15_c61.1 = 12 := rfl
  have MS : (zget 8 hbB16.2.2 61).1 = 12 := by rw [g61_0]; exact st61_0
  have A1 : zrunX zXt 9 ztc (n + 60) 1679 167 L3 [] hbB16 = some ([0], hbB16) := by
    refine (ca_167 (n := n + 59)).trans ?_
    refine (e_iload lL3_1 hv).trans ?_
    refine (e_push).trans ?_
    refine (f_cmp_t (f := z_ne) hv (by decide) (zne_t (a := v) (b := 8) (fs_set_neg_o0 v hv w hw i1))).trans ?_
    refine (e_iload lL3_1 hv).trans ?_
    refine (f_if_t (f := fun a => z_lt a 0) hv (zlt_t (a := v) (b := 0) (fs_set_neg_o1 v hv w hw i1))).trans ?_
    refine (e_push).trans ?_
    exact e_zret (R := zrunX zXt 9 ztc (n + 59)) (d := 1679) (L := L3) (h := hbB16) (v := 0) (by decide)
  have A2 : zrunX zXt 9 ztc (n + 60) 1679 269 L6 [] hbB16 = some ([0], hbB16) := by
    refine (ca_269 (n := n + 59)).trans ?_
    refine (e_iload lL6_1 hv).trans ?_
    refine (e_push).trans ?_
    refine (e_push).trans ?_
    have m10 : zrunX zXt 9 ztc (n + 59) 1678 217 L9 [] hbB16 = some ([0], hbB16) := by
      refine (ca_217 (n := n + 58)).trans ?_
      refine (e_iload lL9_0 hv).trans ?_
      refine (e_iload lL9_1 (by decide)).trans ?_
      refine (f_cmp_t (f := z_lt) hv (by decide) (zlt_t (a := v) (b := 0) (fs_set_neg_o1 v hv w hw i1))).trans ?_
      refine (e_push).trans ?_
      exact e_zret (R := zrunX zXt 9 ztc (n + 58)) (d := 1678) (L := L9) (h := hbB16) (v := 0) (by decide)
    refine (f_callS (d' := 1678) (S0 := [8, 0, v]) (S' := []) (S2 := [0]) (fun q => by rw [zargs_s q (by decide), ← eL7, zargs_s q (by decide), ← eL8, zargs_s q (Nat.le_of_lt (Nat.lt_trans hv (by decide))), ← eL9]; rfl) (Nat.le_of_ble_eq_true rfl) m10 (hs0.trans hs0.symm) rfl).trans ?_
    refine (f_if_f (f := fun a => z_ne a 0) (by decide) (by decide +kernel)).trans ?_
    refine (e_push).trans ?_
    exact e_zret (R := zrunX zXt 9 ztc (n + 59)) (d := 1679) (L := L6) (h := hbB16) (v := 0) (by decide)
  rw [eL3, eL2, eL1] at A1
  rw [eL6, eL5, eL4] at A2
  exact ⟨_, _, _, (by decide), A1, hs0, MS, A2, hs0, sl0⟩
theorem fs_set_big_o0 (v : Nat) (hv : v < 4294967296) (w : Nat) (hw : w < 4294967296) (i1 : 9 ≤ v) (i2 : v < 2147483648) : v ≠ 8 := by omega
theorem fs_set_big_o1 (v : Nat) (hv : v < 4294967296) (w : Nat) (hw : w < 4294967296) (i1 : 9 ≤ v) (i2 : v < 2147483648) : (0 + 2147483648) % 4294967296 ≤ (v + 2147483648) % 4294967296 := by omega
theorem fs_set_big_o2 (v : Nat) (hv : v < 4294967296) (w : Nat) (hw : w < 4294967296) (i1 : 9 ≤ v) (i2 : v < 2147483648) : (7 + 2147483648) % 4294967296 < (v + 2147483648) % 4294967296 := by omega
theorem fs_set_big_o3 (v : Nat) (hv : v < 4294967296) (w : Nat) (hw : w < 4294967296) (i1 : 9 ≤ v) (i2 : v < 2147483648) : (8 + 2147483648) % 4294967296 < (v + 2147483648) % 4294967296 := by omega
theorem fs_set_big (v : Nat) (hv : v < 4294967296) (w : Nat) (hw : w < 4294967296) (i1 : 9 ≤ v) (i2 : v < 2147483648) (n : Nat) : zFst n 167 (zput (zput (zput 0 2 (w + 1)) 1 (v + 1)) 0 (4294967297 + 1)) 269 (zput (zput (zput 0 2 (w + 1)) 1 (v + 1)) 0 (4294967358 + 1)) := by
  have hs0 : hbB16.1 = 129 := rfl
  have sl0 : hbB16.2.1 = 650610 := rfl
  obtain ⟨L1, eL1⟩ : ∃ x : Nat, x = zput 0 2 (w + 1) := ⟨_, rfl⟩
  obtain ⟨L2, eL2⟩ : ∃ x : Nat, x = zput L1 1 (v + 1) := ⟨_, rfl⟩
  obtain ⟨L3, eL3⟩ : ∃ x : Nat, x = zput L2 0 (4294967297 + 1) := ⟨_, rfl⟩
  have lL2_1 : zlane L2 1 = v + 1 := by rw [eL2]; exact zlane_same (Nat.lt_of_le_of_lt (Nat.succ_le_of_lt hv) (by decide))
  have lL3_1 : zlane L3 1 = v + 1 := by rw [eL3]; exact (zlane_ne (by decide) (by decide)).trans lL2_1
  obtain ⟨L4, eL4⟩ : ∃ x : Nat, x = zput 0 2 (w + 1) := ⟨_, rfl⟩
  obtain ⟨L5, eL5⟩ : ∃ x : Nat, x = zput L4 1 (v + 1) := ⟨_, rfl⟩
  obtain ⟨L6, eL6⟩ : ∃ x : Nat, x = zput L5 0 (4294967358 + 1) := ⟨_, rfl⟩
  have lL5_1 : zlane L5 1 = v + 1 := by rw [eL5]; exact zlane_same (Nat.lt_of_le_of_lt (Nat.succ_le_of_lt hv) (by decide))
  have lL6_1 : zlane L6 1 = v + 1 := by rw [eL6]; exact (zlane_ne (by decide) (by decide)).trans lL5_1
  obtain ⟨L7, eL7⟩ : ∃ x : Nat, x = zput 0 2 (8 + 1) := ⟨_, rfl⟩
  obtain ⟨L8, eL8⟩ : ∃ x : Nat, x = zput L7 1 (0 + 1) := ⟨_, rfl⟩
  obtain ⟨L9, eL9⟩ : ∃ x : Nat, x = zput L8 0 (v + 1) := ⟨_, rfl⟩
  have lL9_0 : zlane L9 0 = v + 1 := by rw [eL9]; exact zlane_same (Nat.lt_of_le_of_lt (Nat.succ_le_of_lt hv) (by decide))
  have lL8_1 : zlane L8 1 = 0 + 1 := by rw [eL8]; exact zlane_same (by decide)
  have lL9_1 : zlane L9 1 = 0 + 1 := by rw [eL9]; exact (zlane_ne (Nat.lt_of_le_of_lt (Nat.succ_le_of_lt hv) (by decide)) (by decide)).trans lL8_1
  have lL7_2 : zlane L7 2 = 8 + 1 := by rw [eL7]; exact zlane_same (by decide)
  have lL8_2 : zlane L8 2 = 8 + 1 := by rw [eL8]; exact (zlane_ne (by decide) (by decide)).trans lL7_2
  have lL9_2 : zlane L9 2 = 8 + 1 := by rw [eL9]; exact (zlane_ne (Nat.lt_of_le_of_lt (Nat.succ_le_of_lt hv) (by decide)) (by decide)).trans lL8_2
  have g61_0 : zget 8 hbB16.2.2 61 = hbB15_c61 := rfl
  have st61_0 : hbB15_c61.1 = 12 := rfl
  have MS : (zget 8 hbB16.2.2 61).1 = 12 := by rw [g61_0]; exact st61_0
  have A1 : zrunX zXt 9 ztc (n + 60) 1679 167 L3 [] hbB16 = some ([0], hbB16) := by
    refine (ca_167 (n := n + 59)).trans ?_
    refine (e_iload lL3_1 hv).trans ?_
    refine (e_push).trans ?_
    refine (f_cmp_t (f := z_ne) hv (by decide) (zne_t (a := v) (b := 8) (fs_set_big_o0 v hv w hw i1 i2))).trans ?_
    refine (e_iload lL3_1 hv).trans ?_
    refine (f_if_f (f := fun a => z_lt a 0) hv (zlt_f (a := v) (b := 0) (fs_set_big_o1 v hv w hw i1 i2))).trans ?_
    refine (e_iload lL3_1 hv).trans ?_
    refine (e_push).trans ?_
    refine (f_cmp_f (f := z_le) hv (by decide) (zle_f (a := v) (b := 7) (fs_set_big_o2 v hv w hw i1 i2))).trans ?_
    refine (e_push).trans ?_
    exact e_zret (R := zrunX zXt 9 ztc (n + 59)) (d := 1679) (L := L3) (h := hbB16) (v := 0) (by decide)
  have A2 : zrunX zXt 9 ztc (n + 60) 1679 269 L6 [] hbB16 = some ([0], hbB16) := by
    refine (ca_269 (n := n + 59)).trans ?_
    refine (e_iload lL6_1 hv).trans ?_
    refine (e_push).trans ?_
    refine (e_push).trans ?_
    have m10 : zrunX zXt 9 ztc (n + 59) 1678 217 L9 [] hbB16 = some ([0], hbB16) := by
      refine (ca_217 (n := n + 58)).trans ?_
      refine (e_iload lL9_0 hv).trans ?_
      refine (e_iload lL9_1 (by decide)).trans ?_
      refine (f_cmp_f (f := z_lt) hv (by decide) (zlt_f (a := v) (b := 0) (fs_set_big_o1 v hv w hw i1 i2))).trans ?_
      refine (e_iload lL9_0 hv).trans ?_
      refine (e_iload lL9_2 (by decide)).trans ?_
      refine (f_cmp_t (f := z_gt) hv (by decide) (zgt_t (a := v) (b := 8) (fs_set_big_o3 v hv w hw i1 i2))).trans ?_
      refine (e_push).trans ?_
      exact e_zret (R := zrunX zXt 9 ztc (n + 58)) (d := 1678) (L := L9) (h := hbB16) (v := 0) (by decide)
    refine (f_callS (d' := 1678) (S0 := [8, 0, v]) (S' := []) (S2 := [0]) (fun q => by rw [zargs_s q (by decide), ← eL7, zargs_s q (by decide), ← eL8, zargs_s q (Nat.le_of_lt (Nat.lt_trans hv (by decide))), ← eL9]; rfl) (Nat.le_of_ble_eq_true rfl) m10 (hs0.trans hs0.symm) rfl).trans ?_
    refine (f_if_f (f := fun a => z_ne a 0) (by decide) (by decide +kernel)).trans ?_
    refine (e_push).trans ?_
    exact e_zret (R := zrunX zXt 9 ztc (n + 59)) (d := 1679) (L := L6) (h := hbB16) (v := 0) (by decide)
  rw [eL3, eL2, eL1] at A1
  rw [eL6, eL5, eL4] at A2
  exact ⟨_, _, _, (by decide), A1, hs0, MS, A2, hs0, sl0⟩
theorem fs_set_0 (w : Nat) (hw : w < 4294967296) (n : Nat) : zFst n 167 (zput (zput (zput 0 2 (w + 1)) 1 (0 + 1)) 0 (4294967297 + 1)) 269 (zput (zput (zput 0 2 (w + 1)) 1 (0 + 1)) 0 (4294967358 + 1)) := by
  have hs0 : hbB16.1 = 129 := rfl
  have sl0 : hbB16.2.1 = 650610 := rfl
  obtain ⟨L1, eL1⟩ : ∃ x : Nat, x = zput 0 2 (w + 1) := ⟨_, rfl⟩
  obtain ⟨L2, eL2⟩ : ∃ x : Nat, x = zput L1 1 (0 + 1) := ⟨_, rfl⟩
  obtain ⟨L3, eL3⟩ : ∃ x : Nat, x = zput L2 0 (4294967297 + 1) := ⟨_, rfl⟩
  have lL2_1 : zlane L2 1 = 0 + 1 := by rw [eL2]; exact zlane_same (by decide)
  have lL3_1 : zlane L3 1 = 0 + 1 := by rw [eL3]; exact (zlane_ne (by decide) (by decide)).trans lL2_1
  have lL3_0 : zlane L3 0 = 4294967297 + 1 := by rw [eL3]; exact zlane_same (by decide)
  have v0_2_0 : zcv haA0_c0 2 = 4294967299 := by decide +kernel
  have g0_0 : zget 8 hbB16.2.2 0 = haA0_c0 := rfl
  have st0_0 : haA0_c0.1 = 11 := rfl
  have ln0_0 : haA0_c0.2.1 = 18 := rfl
  have v2_1_0 : zcv haA0_c2 1 = 4294967300 := by decide +kernel
  have g2_0 : zget 8 hbB16.2.2 2 = haA0_c2 := rfl
  have st2_0 : haA0_c2.1 = 3 := rfl
  have ln2_0 : haA0_c2.2.1 = 7 := rfl
  have lL1_2 : zlane L1 2 = w + 1 := by rw [eL1]; exact zlane_same (Nat.lt_of_le_of_lt (Nat.succ_le_of_lt hw) (by decide))
  have lL2_2 : zlane L2 2 = w + 1 := by rw [eL2]; exact (zlane_ne (by decide) (by decide)).trans lL1_2
  have lL3_2 : zlane L3 2 = w + 1 := by rw [eL3]; exact (zlane_ne (by decide) (by decide)).trans lL2_2
  have g3_0 : zget 8 hbB16.2.2 3 = haA0_c3 := rfl
  have st3_0 : haA0_c3.1 = 100 := rfl
  have ln3_0 : haA0_c3.2.1 = 8 := rfl
  obtain ⟨h1, eh1⟩ : ∃ x : zH, x = (hbB16.1, hbB16.2.1, zst 8 hbB16.2.2 3 (fun c => zcst c 0 (w % 65536))) := ⟨_, rfl⟩
  have hs1 : h1.1 = 129 := by rw [eh1]; exact hs0
  have sl1 : h1.2.1 = 650610 := by rw [eh1]; exact sl0
  obtain ⟨L4, eL4⟩ : ∃ x : Nat, x = zput 0 2 (w + 1) := ⟨_, rfl⟩
  obtain ⟨L5, eL5⟩ : ∃ x : Nat, x = zput L4 1 (0 + 1) := ⟨_, rfl⟩
  obtain ⟨L6, eL6⟩ : ∃ x : Nat, x = zput L5 0 (4294967358 + 1) := ⟨_, rfl⟩
  have lL5_1 : zlane L5 1 = 0 + 1 := by rw [eL5]; exact zlane_same (by decide)
  have lL6_1 : zlane L6 1 = 0 + 1 := by rw [eL6]; exact (zlane_ne (by decide) (by decide)).trans lL5_1
  obtain ⟨L7, eL7⟩ : ∃ x : Nat, x = zput 0 2 (8 + 1) := ⟨_, rfl⟩
  obtain ⟨L8, eL8⟩ : ∃ x : Nat, x = zput L7 1 (0 + 1) := ⟨_, rfl⟩
  obtain ⟨L9, eL9⟩ : ∃ x : Nat, x = zput L8 0 (0 + 1) := ⟨_, rfl⟩
  have lL9_0 : zlane L9 0 = 0 + 1 := by rw [eL9]; exact zlane_same (by decide)
  have lL8_1 : zlane L8 1 = 0 + 1 := by rw [eL8]; exact zlane_same (by decide)
  have lL9_1 : zlane L9 1 = 0 + 1 := by rw [eL9]; exact (zlane_ne (by decide) (by decide)).trans lL8_1
  have lL7_2 : zlane L7 2 = 8 + 1 := by rw [eL7]; exact zlane_same (by decide)
  have lL8_2 : zlane L8 2 = 8 + 1 := by rw [eL8]; exact (zlane_ne (by decide) (by decide)).trans lL7_2
  have lL9_2 : zlane L9 2 = 8 + 1 := by rw [eL9]; exact (zlane_ne (by decide) (by decide)).trans lL8_2
  have lL6_0 : zlane L6 0 = 4294967358 + 1 := by rw [eL6]; exact zlane_same (by decide)
  have v61_1_0 : zcv hbB15_c61 1 = 4294967362 := by decide +kernel
  have g61_0 : zget 8 hbB16.2.2 61 = hbB15_c61 := rfl
  have g61_1 : zget 8 h1.2.2 61 = hbB15_c61 := by rw [eh1]; exact zg_n (by decide) (by decide) (by decide) g61_0
  have st61_0 : hbB15_c61.1 = 12 := rfl
  have ln61_0 : hbB15_c61.2.1 = 114 := rfl
  have v65_1_0 : zcv haB6_c65 1 = 4294967364 := by decide +kernel
  have g65_0 : zget 8 hbB16.2.2 65 = haB6_c65 := rfl
  have g65_1 : zget 8 h1.2.2 65 = haB6_c65 := by rw [eh1]; exact zg_n (by decide) (by decide) (by decide) g65_0
  have st65_0 : haB6_c65.1 = 102 := rfl
  have ln65_0 : haB6_c65.2.1 = 2 := rfl
  have lL4_2 : zlane L4 2 = w + 1 := by rw [eL4]; exact zlane_same (Nat.lt_of_le_of_lt (Nat.succ_le_of_lt hw) (by decide))
  have lL5_2 : zlane L5 2 = w + 1 := by rw [eL5]; exact (zlane_ne (by decide) (by decide)).trans lL4_2
  have lL6_2 : zlane L6 2 = w + 1 := by rw [eL6]; exact (zlane_ne (by decide) (by decide)).trans lL5_2
  have g67_0 : zget 8 hbB16.2.2 67 = haA0_c3 := rfl
  have g67_1 : zget 8 h1.2.2 67 = haA0_c3 := by rw [eh1]; exact zg_n (by decide) (by decide) (by decide) g67_0
  have st67_0 : haA0_c3.1 = 100 := rfl
  have ln67_0 : haA0_c3.2.1 = 8 := rfl
  obtain ⟨h2, eh2⟩ : ∃ x : zH, x = (h1.1, h1.2.1, zst 8 h1.2.2 67 (fun c => zcst c 0 (w % 65536))) := ⟨_, rfl⟩
  have hs2 : h2.1 = 129 := by rw [eh2]; exact hs1
  have sl2 : h2.2.1 = 650610 := by rw [eh2]; exact sl1
  have MS : (zget 8 h1.2.2 61).1 = 12 := by rw [g61_1]; exact st61_0
  have A1 : zrunX zXt 9 ztc (n + 60) 1679 167 L3 [] hbB16 = some ([1], h1) := by
    refine (ca_167 (n := n + 59)).trans ?_
    refine (e_iload lL3_1 (by decide)).trans ?_
    refine (e_push).trans ?_
    refine (f_cmp_t (f := z_ne) (by decide) (by decide) (by decide +kernel)).trans ?_
    refine (e_iload lL3_1 (by decide)).trans ?_
    refine (f_if_f (f := fun a => z_lt a 0) (by decide) (by decide +kernel)).trans ?_
    refine (e_iload lL3_1 (by decide)).trans ?_
    refine (e_push).trans ?_
    refine (f_cmp_t (f := z_le) (by decide) (by decide) (by decide +kernel)).trans ?_
    refine (e_aload lL3_0 (by decide)).trans ?_
    refine (f_getf (k := 0) (by rw [hs0]; decide) g0_0 st0_0 (by rw [ln0_0]; decide) v0_2_0).trans ?_
    refine (f_getf (k := 2) (by rw [hs0]; decide) g2_0 st2_0 (by rw [ln2_0]; decide) v2_1_0).trans ?_
    refine (e_iload lL3_1 (by decide)).trans ?_
    refine (e_iload lL3_2 hw).trans ?_
    refine (e_push).trans ?_
    refine (f_bin (f := z_and) (v := (w % 65536)) hw (by decide) (z_and_m (k := 16) (by decide))).trans ?_
    refine (f_iast (k := 3) (show (w % 65536) < 4294967296 from (Nat.lt_trans (Nat.mod_lt _ (by decide)) (by decide))) (by decide) (by rw [hs0]; decide) g3_0 st3_0 (by rw [ln3_0]; decide) eh1.symm).trans ?_
    refine (e_push).trans ?_
    exact e_zret (R := zrunX zXt 9 ztc (n + 59)) (d := 1679) (L := L3) (h := h1) (v := 1) (by decide)
  have A2 : zrunX zXt 9 ztc (n + 60) 1679 269 L6 [] h1 = some ([1], h2) := by
    refine (ca_269 (n := n + 59)).trans ?_
    refine (e_iload lL6_1 (by decide)).trans ?_
    refine (e_push).trans ?_
    refine (e_push).trans ?_
    have m10 : zrunX zXt 9 ztc (n + 59) 1678 217 L9 [] h1 = some ([1], h1) := by
      refine (ca_217 (n := n + 58)).trans ?_
      refine (e_iload lL9_0 (by decide)).trans ?_
      refine (e_iload lL9_1 (by decide)).trans ?_
      refine (f_cmp_f (f := z_lt) (by decide) (by decide) (by decide +kernel)).trans ?_
      refine (e_iload lL9_0 (by decide)).trans ?_
      refine (e_iload lL9_2 (by decide)).trans ?_
      refine (f_cmp_f (f := z_gt) (by decide) (by decide) (by decide +kernel)).trans ?_
      refine (e_push).trans ?_
      show q_X12_in_15 _ _ _ _ _ = _
      exact e_zret (R := zrunX zXt 9 ztc (n + 58)) (d := 1678) (L := L9) (h := h1) (v := 1) (by decide)
    refine (f_callS (d' := 1678) (S0 := [8, 0, 0]) (S' := []) (S2 := [1]) (fun q => by rw [zargs_s q (by decide), ← eL7, zargs_s q (by decide), ← eL8, zargs_s q (by decide), ← eL9]; rfl) (Nat.le_of_ble_eq_true rfl) m10 (hs1.trans hs1.symm) rfl).trans ?_
    refine (f_if_t (f := fun a => z_ne a 0) (by decide) (by decide +kernel)).trans ?_
    refine (e_iload lL6_1 (by decide)).trans ?_
    refine (e_push).trans ?_
    refine (f_cmp_f (f := z_ge) (by decide) (by decide) (by decide +kernel)).trans ?_
    refine (e_aload lL6_0 (by decide)).trans ?_
    refine (f_getf (k := 61) (by rw [hs1]; decide) g61_1 st61_0 (by rw [ln61_0]; decide) v61_1_0).trans ?_
    refine (e_push).trans ?_
    refine (e_aald (k := 65) (by decide) (by rw [hs1]; decide) g65_1 st65_0 (by rw [ln65_0]; decide) v65_1_0 (by decide)).trans ?_
    refine (e_iload lL6_1 (by decide)).trans ?_
    refine (e_iload lL6_2 hw).trans ?_
    refine (e_push).trans ?_
    refine (f_bin (f := z_and) (v := (w % 65536)) hw (by decide) (z_and_m (k := 16) (by decide))).trans ?_
    refine (f_iast (k := 67) (show (w % 65536) < 4294967296 from (Nat.lt_trans (Nat.mod_lt _ (by decide)) (by decide))) (by decide) (by rw [hs1]; decide) g67_1 st67_0 (by rw [ln67_0]; decide) eh2.symm).trans ?_
    show q_X12_set_61 _ _ _ _ _ = _
    refine (e_push).trans ?_
    exact e_zret (R := zrunX zXt 9 ztc (n + 59)) (d := 1679) (L := L6) (h := h2) (v := 1) (by decide)
  rw [eL3, eL2, eL1] at A1
  rw [eL6, eL5, eL4] at A2
  exact ⟨_, _, _, (by decide), A1, hs1, MS, A2, hs2, sl2⟩
