/-! the law, gone through -/
theorem f_slen {nS : Nat} {nx : zK} {R : zRec} {d L : Nat} {S : List Nat} {h : zH} : o_slen nS nx R d L (8589934656 :: S) h = nx R d L (nS :: S) h := by
  show cond (Nat.beq 8589934656 8589934656) (nx R d L (nS :: S) h) none = _
  rw [Nat.beq_refl]
  rfl
theorem f_sld {nS : Nat} {xn : Nat → Nat} {nx : zK} {R : zRec} {d L i : Nat} {S : List Nat} {h : zH} (hi : i < nS) : o_sld nS xn nx R d L (i :: 8589934656 :: S) h = nx R d L (xn i :: S) h := by
  show cond (Nat.beq 8589934656 8589934656) (cond (Nat.ble nS i) none (nx R d L (xn i :: S) h)) none = _
  rw [Nat.beq_refl, cond_true, zble_f hi, cond_false]
noncomputable def hL0 : zH := (0, 0, zfill zc0 8)
noncomputable def hL1 : zH := (hL0.1 + 1, hL0.2.1 + zcl_11.2.1, zst 8 hL0.2.2 hL0.1 (fun _ => zcl_11))
noncomputable def hL2 : zH := (hbA5.1 + 1, hbA5.2.1 + zcl_12.2.1, zst 8 hbA5.2.2 hbA5.1 (fun _ => zcl_12))
theorem lw_pre (nS : Nat) (xn : Nat → Nat) : qL_0 nS xn (zrunX zXt 9 ztc 100000) 1680 (zput 0 0 (8589934656 + 1)) [] hL0 = qL_18 nS xn (zrunX zXt 9 ztc 100000) 1680 (zput (zput (zput (zput 0 0 (8589934656 + 1)) 1 (4294967297 + 1)) 2 (4294967358 + 1)) 3 (0 + 1)) [] hbB16 := by
  refine (f_new (c := zcl_11) (h' := hL1) (v := 4294967297) (by decide +kernel) (by decide +kernel) (by decide +kernel) (by decide +kernel) rfl (by decide +kernel)).trans ?_
  refine (e_dup).trans ?_
  refine (f_callI (R := (zrunX zXt 9 ztc 100000)) (d' := 1679) (S0 := [4294967297, 4294967297]) (S' := [4294967297]) (S2 := [4294967297]) (k := 0) (L' := zput 0 0 (4294967297 + 1)) (fun q => by rw [zargs_s q (by decide)]; rfl) (by decide +kernel) (by decide +kernel) (by decide +kernel) (Nat.le_of_ble_eq_true rfl) (zrun_hit (n := 99999) (hit_A (by decide +kernel))) rfl).trans ?_
  refine (f_astore (L' := (zput (zput 0 0 (8589934656 + 1)) 1 (4294967297 + 1))) (by decide) (by decide) rfl).trans ?_
  refine (f_new (c := zcl_12) (h' := hL2) (v := 4294967358) (by decide +kernel) (by decide +kernel) (by decide +kernel) (by decide +kernel) rfl (by decide +kernel)).trans ?_
  refine (e_dup).trans ?_
  refine (f_callI (R := (zrunX zXt 9 ztc 100000)) (d' := 1679) (S0 := [4294967358, 4294967358]) (S' := [4294967358]) (S2 := [4294967358]) (k := 61) (L' := zput 0 0 (4294967358 + 1)) (fun q => by rw [zargs_s q (by decide)]; rfl) (by decide +kernel) (by decide +kernel) (by decide +kernel) (Nat.le_of_ble_eq_true rfl) (zrun_hit (n := 99999) (hit_B (by decide +kernel))) rfl).trans ?_
  refine (f_astore (L' := (zput (zput (zput 0 0 (8589934656 + 1)) 1 (4294967297 + 1)) 2 (4294967358 + 1))) (by decide) (by decide) rfl).trans ?_
  refine (e_push).trans ?_
  refine (f_istore (L' := (zput (zput (zput (zput 0 0 (8589934656 + 1)) 1 (4294967297 + 1)) 2 (4294967358 + 1)) 3 (0 + 1))) (by decide) rfl).trans ?_
  rfl
theorem lw_l0 : zlane (zput (zput (zput (zput 0 0 (8589934656 + 1)) 1 (4294967297 + 1)) 2 (4294967358 + 1)) 3 (0 + 1)) 0 = 8589934656 + 1 := by decide +kernel
theorem lw_l1 : zlane (zput (zput (zput (zput 0 0 (8589934656 + 1)) 1 (4294967297 + 1)) 2 (4294967358 + 1)) 3 (0 + 1)) 1 = 4294967297 + 1 := by decide +kernel
theorem lw_l2 : zlane (zput (zput (zput (zput 0 0 (8589934656 + 1)) 1 (4294967297 + 1)) 2 (4294967358 + 1)) 3 (0 + 1)) 2 = 4294967358 + 1 := by decide +kernel
theorem lw_l3 : zlane (zput (zput (zput (zput 0 0 (8589934656 + 1)) 1 (4294967297 + 1)) 2 (4294967358 + 1)) 3 (0 + 1)) 3 = 0 + 1 := by decide +kernel
theorem lw_short (nS : Nat) (xn : Nat → Nat) (h6 : nS < 6) : qL_18 nS xn (zrunX zXt 9 ztc 100000) 1680 (zput (zput (zput (zput 0 0 (8589934656 + 1)) 1 (4294967297 + 1)) 2 (4294967358 + 1)) 3 (0 + 1)) [] hbB16 = some ([1], hbB16) := by
  have e : z_sub nS 6 = nS + 4294967290 := by show (nS + (4294967296 - 6)) % 4294967296 = nS + 4294967290; omega
  refine (e_iload lw_l3 (by decide)).trans ?_
  refine (e_aload lw_l0 (by decide)).trans ?_
  refine (f_slen).trans ?_
  refine (e_push).trans ?_
  refine (f_bin (f := z_sub) (by omega) (by decide) e).trans ?_
  refine (f_cmp_t (f := z_gt) (by decide) (by omega) (zgt_t (by omega))).trans ?_
  refine (e_push).trans ?_
  exact e_zret (v := 1) (by decide)
theorem lw_tail (xn : Nat → Nat) (h : zH) : qL_582 6 xn (zrunX zXt 9 ztc 100000) 1680 (zput (zput (zput (zput 0 0 (8589934656 + 1)) 1 (4294967297 + 1)) 2 (4294967358 + 1)) 3 (0 + 1)) [] h = some ([1], h) := by
  refine (f_iinc (L' := (zput (zput (zput (zput (zput 0 0 (8589934656 + 1)) 1 (4294967297 + 1)) 2 (4294967358 + 1)) 3 (0 + 1)) 3 (6 + 1))) lw_l3 (by decide) (by decide) rfl).trans ?_
  show qM_18 6 xn _ _ _ _ _ = _
  refine (e_iload (v := 6) (by decide +kernel) (by decide)).trans ?_
  refine (e_aload (v := 8589934656) (by decide +kernel) (by decide)).trans ?_
  refine (f_slen).trans ?_
  refine (e_push).trans ?_
  refine (f_bin (f := z_sub) (v := 0) (by decide) (by decide) (by decide +kernel)).trans ?_
  refine (f_cmp_t (f := z_gt) (by decide) (by decide) (by decide +kernel)).trans ?_
  refine (e_push).trans ?_
  exact e_zret (v := 1) (by decide)
theorem lw_case_0 (xn : Nat → Nat) (hb : ∀ j, j < 6 → xn j < 4294967296) : ∃ h, qL_120 6 xn (zrunX zXt 9 ztc 100000) 1680 (zput (zput (zput (zput 0 0 (8589934656 + 1)) 1 (4294967297 + 1)) 2 (4294967358 + 1)) 3 (0 + 1)) [] hbB16 = some ([1], h) ∧ h.1 = 129 ∧ h.2.1 = 650610 := by
  obtain ⟨r, h1, h2, hr, A1, n1, s1, A2, n2, n3⟩ := fc_feed (xn 1) (hb 1 (by decide)) (xn 2) (hb 2 (by decide)) (xn 3) (hb 3 (by decide)) (xn 4) (hb 4 (by decide)) (xn 5) (hb 5 (by decide))
  refine ⟨h2, ?_, n2, n3⟩
  refine (e_aload lw_l1 (by decide)).trans ?_
  refine (e_aload lw_l0 (by decide)).trans ?_
  refine (e_iload lw_l3 (by decide)).trans ?_
  refine (e_push).trans ?_
  refine (f_bin (f := z_add) (v := 1) (by decide) (by decide) (by decide +kernel)).trans ?_
  refine (f_sld (i := 1) (by decide)).trans ?_
  refine (e_aload lw_l0 (by decide)).trans ?_
  refine (e_iload lw_l3 (by decide)).trans ?_
  refine (e_push).trans ?_
  refine (f_bin (f := z_add) (v := 2) (by decide) (by decide) (by decide +kernel)).trans ?_
  refine (f_sld (i := 2) (by decide)).trans ?_
  refine (e_aload lw_l0 (by decide)).trans ?_
  refine (e_iload lw_l3 (by decide)).trans ?_
  refine (e_push).trans ?_
  refine (f_bin (f := z_add) (v := 3) (by decide) (by decide) (by decide +kernel)).trans ?_
  refine (f_sld (i := 3) (by decide)).trans ?_
  refine (e_aload lw_l0 (by decide)).trans ?_
  refine (e_iload lw_l3 (by decide)).trans ?_
  refine (e_push).trans ?_
  refine (f_bin (f := z_add) (v := 4) (by decide) (by decide) (by decide +kernel)).trans ?_
  refine (f_sld (i := 4) (by decide)).trans ?_
  refine (e_aload lw_l0 (by decide)).trans ?_
  refine (e_iload lw_l3 (by decide)).trans ?_
  refine (e_push).trans ?_
  refine (f_bin (f := z_add) (v := 5) (by decide) (by decide) (by decide +kernel)).trans ?_
  refine (f_sld (i := 5) (by decide)).trans ?_
  refine (f_callV (R := (zrunX zXt 9 ztc 100000)) (k := 0) (d' := 1679) (S0 := [(xn 5), (xn 4), (xn 3), (xn 2), (xn 1), 4294967297]) (S' := []) (S2 := [r]) (L' := (zput (zput (zput (zput (zput (zput 0 5 ((xn 5) + 1)) 4 ((xn 4) + 1)) 3 ((xn 3) + 1)) 2 ((xn 2) + 1)) 1 ((xn 1) + 1)) 0 (4294967297 + 1))) (fun q => by rw [zargs_s q (Nat.le_of_lt (Nat.lt_trans (show (xn 5) < 4294967296 from (hb 5 (by decide))) (by decide))), zargs_s q (Nat.le_of_lt (Nat.lt_trans (show (xn 4) < 4294967296 from (hb 4 (by decide))) (by decide))), zargs_s q (Nat.le_of_lt (Nat.lt_trans (show (xn 3) < 4294967296 from (hb 3 (by decide))) (by decide))), zargs_s q (Nat.le_of_lt (Nat.lt_trans (show (xn 2) < 4294967296 from (hb 2 (by decide))) (by decide))), zargs_s q (Nat.le_of_lt (Nat.lt_trans (show (xn 1) < 4294967296 from (hb 1 (by decide))) (by decide))), zargs_s q (by decide)]; rfl) (zlane_same (by decide)) (by decide +kernel) rfl (by decide +kernel) (Nat.le_of_ble_eq_true rfl) A1 (n1.trans (by decide +kernel)) rfl).trans ?_
  refine (e_aload lw_l2 (by decide)).trans ?_
  refine (e_aload lw_l0 (by decide)).trans ?_
  refine (e_iload lw_l3 (by decide)).trans ?_
  refine (e_push).trans ?_
  refine (f_bin (f := z_add) (v := 1) (by decide) (by decide) (by decide +kernel)).trans ?_
  refine (f_sld (i := 1) (by decide)).trans ?_
  refine (e_aload lw_l0 (by decide)).trans ?_
  refine (e_iload lw_l3 (by decide)).trans ?_
  refine (e_push).trans ?_
  refine (f_bin (f := z_add) (v := 2) (by decide) (by decide) (by decide +kernel)).trans ?_
  refine (f_sld (i := 2) (by decide)).trans ?_
  refine (e_aload lw_l0 (by decide)).trans ?_
  refine (e_iload lw_l3 (by decide)).trans ?_
  refine (e_push).trans ?_
  refine (f_bin (f := z_add) (v := 3) (by decide) (by decide) (by decide +kernel)).trans ?_
  refine (f_sld (i := 3) (by decide)).trans ?_
  refine (e_aload lw_l0 (by decide)).trans ?_
  refine (e_iload lw_l3 (by decide)).trans ?_
  refine (e_push).trans ?_
  refine (f_bin (f := z_add) (v := 4) (by decide) (by decide) (by decide +kernel)).trans ?_
  refine (f_sld (i := 4) (by decide)).trans ?_
  refine (e_aload lw_l0 (by decide)).trans ?_
  refine (e_iload lw_l3 (by decide)).trans ?_
  refine (e_push).trans ?_
  refine (f_bin (f := z_add) (v := 5) (by decide) (by decide) (by decide +kernel)).trans ?_
  refine (f_sld (i := 5) (by decide)).trans ?_
  refine (f_callV (R := (zrunX zXt 9 ztc 100000)) (k := 61) (d' := 1679) (S0 := [(xn 5), (xn 4), (xn 3), (xn 2), (xn 1), 4294967358, r]) (S' := [r]) (S2 := [r, r]) (L' := (zput (zput (zput (zput (zput (zput 0 5 ((xn 5) + 1)) 4 ((xn 4) + 1)) 3 ((xn 3) + 1)) 2 ((xn 2) + 1)) 1 ((xn 1) + 1)) 0 (4294967358 + 1))) (fun q => by rw [zargs_s q (Nat.le_of_lt (Nat.lt_trans (show (xn 5) < 4294967296 from (hb 5 (by decide))) (by decide))), zargs_s q (Nat.le_of_lt (Nat.lt_trans (show (xn 4) < 4294967296 from (hb 4 (by decide))) (by decide))), zargs_s q (Nat.le_of_lt (Nat.lt_trans (show (xn 3) < 4294967296 from (hb 3 (by decide))) (by decide))), zargs_s q (Nat.le_of_lt (Nat.lt_trans (show (xn 2) < 4294967296 from (hb 2 (by decide))) (by decide))), zargs_s q (Nat.le_of_lt (Nat.lt_trans (show (xn 1) < 4294967296 from (hb 1 (by decide))) (by decide))), zargs_s q (by decide)]; rfl) (zlane_same (by decide)) (by rw [n1]; decide) rfl s1 (Nat.le_of_ble_eq_true rfl) A2 (n2.trans n1.symm) rfl).trans ?_
  refine (f_cmp_t (f := Nat.beq) hr hr (Nat.beq_refl r)).trans ?_
  exact lw_tail xn _
theorem lw_case_1 (xn : Nat → Nat) (hb : ∀ j, j < 6 → xn j < 4294967296) : ∃ h, qL_183 6 xn (zrunX zXt 9 ztc 100000) 1680 (zput (zput (zput (zput 0 0 (8589934656 + 1)) 1 (4294967297 + 1)) 2 (4294967358 + 1)) 3 (0 + 1)) [] hbB16 = some ([1], h) ∧ h.1 = 129 ∧ h.2.1 = 650610 := by
  obtain ⟨r, h1, h2, hr, A1, n1, s1, A2, n2, n3⟩ := fc_end (xn 1) (hb 1 (by decide))
  refine ⟨h2, ?_, n2, n3⟩
  refine (e_aload lw_l1 (by decide)).trans ?_
  refine (e_aload lw_l0 (by decide)).trans ?_
  refine (e_iload lw_l3 (by decide)).trans ?_
  refine (e_push).trans ?_
  refine (f_bin (f := z_add) (v := 1) (by decide) (by decide) (by decide +kernel)).trans ?_
  refine (f_sld (i := 1) (by decide)).trans ?_
  refine (f_callV (R := (zrunX zXt 9 ztc 100000)) (k := 0) (d' := 1679) (S0 := [(xn 1), 4294967297]) (S' := []) (S2 := [r]) (L' := (zput (zput 0 1 ((xn 1) + 1)) 0 (4294967297 + 1))) (fun q => by rw [zargs_s q (Nat.le_of_lt (Nat.lt_trans (show (xn 1) < 4294967296 from (hb 1 (by decide))) (by decide))), zargs_s q (by decide)]; rfl) (zlane_same (by decide)) (by decide +kernel) rfl (by decide +kernel) (Nat.le_of_ble_eq_true rfl) A1 (n1.trans (by decide +kernel)) rfl).trans ?_
  refine (e_aload lw_l2 (by decide)).trans ?_
  refine (e_aload lw_l0 (by decide)).trans ?_
  refine (e_iload lw_l3 (by decide)).trans ?_
  refine (e_push).trans ?_
  refine (f_bin (f := z_add) (v := 1) (by decide) (by decide) (by decide +kernel)).trans ?_
  refine (f_sld (i := 1) (by decide)).trans ?_
  refine (f_callV (R := (zrunX zXt 9 ztc 100000)) (k := 61) (d' := 1679) (S0 := [(xn 1), 4294967358, r]) (S' := [r]) (S2 := [r, r]) (L' := (zput (zput 0 1 ((xn 1) + 1)) 0 (4294967358 + 1))) (fun q => by rw [zargs_s q (Nat.le_of_lt (Nat.lt_trans (show (xn 1) < 4294967296 from (hb 1 (by decide))) (by decide))), zargs_s q (by decide)]; rfl) (zlane_same (by decide)) (by rw [n1]; decide) rfl s1 (Nat.le_of_ble_eq_true rfl) A2 (n2.trans n1.symm) rfl).trans ?_
  refine (f_cmp_t (f := Nat.beq) hr hr (Nat.beq_refl r)).trans ?_
  exact lw_tail xn _
theorem lw_case_2 (xn : Nat → Nat) (hb : ∀ j, j < 6 → xn j < 4294967296) : ∃ h, qL_206 6 xn (zrunX zXt 9 ztc 100000) 1680 (zput (zput (zput (zput 0 0 (8589934656 + 1)) 1 (4294967297 + 1)) 2 (4294967358 + 1)) 3 (0 + 1)) [] hbB16 = some ([1], h) ∧ h.1 = 129 ∧ h.2.1 = 650610 := by
  obtain ⟨r, h1, h2, hr, A1, n1, s1, A2, n2, n3⟩ := fc_load 
  refine ⟨h2, ?_, n2, n3⟩
  refine (e_aload lw_l1 (by decide)).trans ?_
  refine (f_callV (R := (zrunX zXt 9 ztc 100000)) (k := 0) (d' := 1679) (S0 := [4294967297]) (S' := []) (S2 := [r]) (L' := (zput 0 0 (4294967297 + 1))) (fun q => by rw [zargs_s q (by decide)]; rfl) (zlane_same (by decide)) (by decide +kernel) rfl (by decide +kernel) (Nat.le_of_ble_eq_true rfl) A1 (n1.trans (by decide +kernel)) rfl).trans ?_
  refine (e_aload lw_l2 (by decide)).trans ?_
  refine (f_callV (R := (zrunX zXt 9 ztc 100000)) (k := 61) (d' := 1679) (S0 := [4294967358, r]) (S' := [r]) (S2 := [r, r]) (L' := (zput 0 0 (4294967358 + 1))) (fun q => by rw [zargs_s q (by decide)]; rfl) (zlane_same (by decide)) (by rw [n1]; decide) rfl s1 (Nat.le_of_ble_eq_true rfl) A2 (n2.trans n1.symm) rfl).trans ?_
  refine (f_cmp_t (f := Nat.beq) hr hr (Nat.beq_refl r)).trans ?_
  exact lw_tail xn _
theorem lw_case_3 (xn : Nat → Nat) (hb : ∀ j, j < 6 → xn j < 4294967296) : ∃ h, qL_219 6 xn (zrunX zXt 9 ztc 100000) 1680 (zput (zput (zput (zput 0 0 (8589934656 + 1)) 1 (4294967297 + 1)) 2 (4294967358 + 1)) 3 (0 + 1)) [] hbB16 = some ([1], h) ∧ h.1 = 129 ∧ h.2.1 = 650610 := by
  obtain ⟨r, h1, h2, hr, A1, n1, s1, A2, n2, n3⟩ := fc_fault (xn 1) (hb 1 (by decide))
  refine ⟨h2, ?_, n2, n3⟩
  refine (e_aload lw_l1 (by decide)).trans ?_
  refine (e_aload lw_l0 (by decide)).trans ?_
  refine (e_iload lw_l3 (by decide)).trans ?_
  refine (e_push).trans ?_
  refine (f_bin (f := z_add) (v := 1) (by decide) (by decide) (by decide +kernel)).trans ?_
  refine (f_sld (i := 1) (by decide)).trans ?_
  refine (f_callV (R := (zrunX zXt 9 ztc 100000)) (k := 0) (d' := 1679) (S0 := [(xn 1), 4294967297]) (S' := []) (S2 := [r]) (L' := (zput (zput 0 1 ((xn 1) + 1)) 0 (4294967297 + 1))) (fun q => by rw [zargs_s q (Nat.le_of_lt (Nat.lt_trans (show (xn 1) < 4294967296 from (hb 1 (by decide))) (by decide))), zargs_s q (by decide)]; rfl) (zlane_same (by decide)) (by decide +kernel) rfl (by decide +kernel) (Nat.le_of_ble_eq_true rfl) A1 (n1.trans (by decide +kernel)) rfl).trans ?_
  refine (e_aload lw_l2 (by decide)).trans ?_
  refine (e_aload lw_l0 (by decide)).trans ?_
  refine (e_iload lw_l3 (by decide)).trans ?_
  refine (e_push).trans ?_
  refine (f_bin (f := z_add) (v := 1) (by decide) (by decide) (by decide +kernel)).trans ?_
  refine (f_sld (i := 1) (by decide)).trans ?_
  refine (f_callV (R := (zrunX zXt 9 ztc 100000)) (k := 61) (d' := 1679) (S0 := [(xn 1), 4294967358, r]) (S' := [r]) (S2 := [r, r]) (L' := (zput (zput 0 1 ((xn 1) + 1)) 0 (4294967358 + 1))) (fun q => by rw [zargs_s q (Nat.le_of_lt (Nat.lt_trans (show (xn 1) < 4294967296 from (hb 1 (by decide))) (by decide))), zargs_s q (by decide)]; rfl) (zlane_same (by decide)) (by rw [n1]; decide) rfl s1 (Nat.le_of_ble_eq_true rfl) A2 (n2.trans n1.symm) rfl).trans ?_
  refine (f_cmp_t (f := Nat.beq) hr hr (Nat.beq_refl r)).trans ?_
  exact lw_tail xn _
theorem lw_case_4 (xn : Nat → Nat) (hb : ∀ j, j < 6 → xn j < 4294967296) : ∃ h, qL_242 6 xn (zrunX zXt 9 ztc 100000) 1680 (zput (zput (zput (zput 0 0 (8589934656 + 1)) 1 (4294967297 + 1)) 2 (4294967358 + 1)) 3 (0 + 1)) [] hbB16 = some ([1], h) ∧ h.1 = 129 ∧ h.2.1 = 650610 := by
  obtain ⟨r, h1, h2, hr, A1, n1, s1, A2, n2, n3⟩ := fc_run (xn 1) (hb 1 (by decide))
  refine ⟨h2, ?_, n2, n3⟩
  refine (e_aload lw_l1 (by decide)).trans ?_
  refine (e_aload lw_l0 (by decide)).trans ?_
  refine (e_iload lw_l3 (by decide)).trans ?_
  refine (e_push).trans ?_
  refine (f_bin (f := z_add) (v := 1) (by decide) (by decide) (by decide +kernel)).trans ?_
  refine (f_sld (i := 1) (by decide)).trans ?_
  refine (f_callV (R := (zrunX zXt 9 ztc 100000)) (k := 0) (d' := 1679) (S0 := [(xn 1), 4294967297]) (S' := []) (S2 := [r]) (L' := (zput (zput 0 1 ((xn 1) + 1)) 0 (4294967297 + 1))) (fun q => by rw [zargs_s q (Nat.le_of_lt (Nat.lt_trans (show (xn 1) < 4294967296 from (hb 1 (by decide))) (by decide))), zargs_s q (by decide)]; rfl) (zlane_same (by decide)) (by decide +kernel) rfl (by decide +kernel) (Nat.le_of_ble_eq_true rfl) A1 (n1.trans (by decide +kernel)) rfl).trans ?_
  refine (e_aload lw_l2 (by decide)).trans ?_
  refine (e_aload lw_l0 (by decide)).trans ?_
  refine (e_iload lw_l3 (by decide)).trans ?_
  refine (e_push).trans ?_
  refine (f_bin (f := z_add) (v := 1) (by decide) (by decide) (by decide +kernel)).trans ?_
  refine (f_sld (i := 1) (by decide)).trans ?_
  refine (f_callV (R := (zrunX zXt 9 ztc 100000)) (k := 61) (d' := 1679) (S0 := [(xn 1), 4294967358, r]) (S' := [r]) (S2 := [r, r]) (L' := (zput (zput 0 1 ((xn 1) + 1)) 0 (4294967358 + 1))) (fun q => by rw [zargs_s q (Nat.le_of_lt (Nat.lt_trans (show (xn 1) < 4294967296 from (hb 1 (by decide))) (by decide))), zargs_s q (by decide)]; rfl) (zlane_same (by decide)) (by rw [n1]; decide) rfl s1 (Nat.le_of_ble_eq_true rfl) A2 (n2.trans n1.symm) rfl).trans ?_
  refine (f_cmp_t (f := Nat.beq) hr hr (Nat.beq_refl r)).trans ?_
  exact lw_tail xn _
theorem lw_case_5 (xn : Nat → Nat) (hb : ∀ j, j < 6 → xn j < 4294967296) : ∃ h, qL_265 6 xn (zrunX zXt 9 ztc 100000) 1680 (zput (zput (zput (zput 0 0 (8589934656 + 1)) 1 (4294967297 + 1)) 2 (4294967358 + 1)) 3 (0 + 1)) [] hbB16 = some ([1], h) ∧ h.1 = 129 ∧ h.2.1 = 650610 := by
  obtain ⟨r, h1, h2, hr, A1, n1, s1, A2, n2, n3⟩ := fc_look (xn 1) (hb 1 (by decide))
  refine ⟨h2, ?_, n2, n3⟩
  refine (e_aload lw_l1 (by decide)).trans ?_
  refine (e_aload lw_l0 (by decide)).trans ?_
  refine (e_iload lw_l3 (by decide)).trans ?_
  refine (e_push).trans ?_
  refine (f_bin (f := z_add) (v := 1) (by decide) (by decide) (by decide +kernel)).trans ?_
  refine (f_sld (i := 1) (by decide)).trans ?_
  refine (f_callV (R := (zrunX zXt 9 ztc 100000)) (k := 0) (d' := 1679) (S0 := [(xn 1), 4294967297]) (S' := []) (S2 := [r]) (L' := (zput (zput 0 1 ((xn 1) + 1)) 0 (4294967297 + 1))) (fun q => by rw [zargs_s q (Nat.le_of_lt (Nat.lt_trans (show (xn 1) < 4294967296 from (hb 1 (by decide))) (by decide))), zargs_s q (by decide)]; rfl) (zlane_same (by decide)) (by decide +kernel) rfl (by decide +kernel) (Nat.le_of_ble_eq_true rfl) A1 (n1.trans (by decide +kernel)) rfl).trans ?_
  refine (e_aload lw_l2 (by decide)).trans ?_
  refine (e_aload lw_l0 (by decide)).trans ?_
  refine (e_iload lw_l3 (by decide)).trans ?_
  refine (e_push).trans ?_
  refine (f_bin (f := z_add) (v := 1) (by decide) (by decide) (by decide +kernel)).trans ?_
  refine (f_sld (i := 1) (by decide)).trans ?_
  refine (f_callV (R := (zrunX zXt 9 ztc 100000)) (k := 61) (d' := 1679) (S0 := [(xn 1), 4294967358, r]) (S' := [r]) (S2 := [r, r]) (L' := (zput (zput 0 1 ((xn 1) + 1)) 0 (4294967358 + 1))) (fun q => by rw [zargs_s q (Nat.le_of_lt (Nat.lt_trans (show (xn 1) < 4294967296 from (hb 1 (by decide))) (by decide))), zargs_s q (by decide)]; rfl) (zlane_same (by decide)) (by rw [n1]; decide) rfl s1 (Nat.le_of_ble_eq_true rfl) A2 (n2.trans n1.symm) rfl).trans ?_
  refine (f_cmp_t (f := Nat.beq) hr hr (Nat.beq_refl r)).trans ?_
  exact lw_tail xn _
theorem lw_case_6 (xn : Nat → Nat) (hb : ∀ j, j < 6 → xn j < 4294967296) : ∃ h, qL_288 6 xn (zrunX zXt 9 ztc 100000) 1680 (zput (zput (zput (zput 0 0 (8589934656 + 1)) 1 (4294967297 + 1)) 2 (4294967358 + 1)) 3 (0 + 1)) [] hbB16 = some ([1], h) ∧ h.1 = 129 ∧ h.2.1 = 650610 := by
  obtain ⟨r, h1, h2, hr, A1, n1, s1, A2, n2, n3⟩ := fc_word (xn 1) (hb 1 (by decide))
  refine ⟨h2, ?_, n2, n3⟩
  refine (e_aload lw_l1 (by decide)).trans ?_
  refine (e_aload lw_l0 (by decide)).trans ?_
  refine (e_iload lw_l3 (by decide)).trans ?_
  refine (e_push).trans ?_
  refine (f_bin (f := z_add) (v := 1) (by decide) (by decide) (by decide +kernel)).trans ?_
  refine (f_sld (i := 1) (by decide)).trans ?_
  refine (f_callV (R := (zrunX zXt 9 ztc 100000)) (k := 0) (d' := 1679) (S0 := [(xn 1), 4294967297]) (S' := []) (S2 := [r]) (L' := (zput (zput 0 1 ((xn 1) + 1)) 0 (4294967297 + 1))) (fun q => by rw [zargs_s q (Nat.le_of_lt (Nat.lt_trans (show (xn 1) < 4294967296 from (hb 1 (by decide))) (by decide))), zargs_s q (by decide)]; rfl) (zlane_same (by decide)) (by decide +kernel) rfl (by decide +kernel) (Nat.le_of_ble_eq_true rfl) A1 (n1.trans (by decide +kernel)) rfl).trans ?_
  refine (e_aload lw_l2 (by decide)).trans ?_
  refine (e_aload lw_l0 (by decide)).trans ?_
  refine (e_iload lw_l3 (by decide)).trans ?_
  refine (e_push).trans ?_
  refine (f_bin (f := z_add) (v := 1) (by decide) (by decide) (by decide +kernel)).trans ?_
  refine (f_sld (i := 1) (by decide)).trans ?_
  refine (f_callV (R := (zrunX zXt 9 ztc 100000)) (k := 61) (d' := 1679) (S0 := [(xn 1), 4294967358, r]) (S' := [r]) (S2 := [r, r]) (L' := (zput (zput 0 1 ((xn 1) + 1)) 0 (4294967358 + 1))) (fun q => by rw [zargs_s q (Nat.le_of_lt (Nat.lt_trans (show (xn 1) < 4294967296 from (hb 1 (by decide))) (by decide))), zargs_s q (by decide)]; rfl) (zlane_same (by decide)) (by rw [n1]; decide) rfl s1 (Nat.le_of_ble_eq_true rfl) A2 (n2.trans n1.symm) rfl).trans ?_
  refine (f_cmp_t (f := Nat.beq) hr hr (Nat.beq_refl r)).trans ?_
  exact lw_tail xn _
theorem lw_case_7 (xn : Nat → Nat) (hb : ∀ j, j < 6 → xn j < 4294967296) : ∃ h, qL_311 6 xn (zrunX zXt 9 ztc 100000) 1680 (zput (zput (zput (zput 0 0 (8589934656 + 1)) 1 (4294967297 + 1)) 2 (4294967358 + 1)) 3 (0 + 1)) [] hbB16 = some ([1], h) ∧ h.1 = 129 ∧ h.2.1 = 650610 := by
  obtain ⟨r, h1, h2, hr, A1, n1, s1, A2, n2, n3⟩ := fc_register (xn 1) (hb 1 (by decide))
  refine ⟨h2, ?_, n2, n3⟩
  refine (e_aload lw_l1 (by decide)).trans ?_
  refine (e_aload lw_l0 (by decide)).trans ?_
  refine (e_iload lw_l3 (by decide)).trans ?_
  refine (e_push).trans ?_
  refine (f_bin (f := z_add) (v := 1) (by decide) (by decide) (by decide +kernel)).trans ?_
  refine (f_sld (i := 1) (by decide)).trans ?_
  refine (f_callV (R := (zrunX zXt 9 ztc 100000)) (k := 0) (d' := 1679) (S0 := [(xn 1), 4294967297]) (S' := []) (S2 := [r]) (L' := (zput (zput 0 1 ((xn 1) + 1)) 0 (4294967297 + 1))) (fun q => by rw [zargs_s q (Nat.le_of_lt (Nat.lt_trans (show (xn 1) < 4294967296 from (hb 1 (by decide))) (by decide))), zargs_s q (by decide)]; rfl) (zlane_same (by decide)) (by decide +kernel) rfl (by decide +kernel) (Nat.le_of_ble_eq_true rfl) A1 (n1.trans (by decide +kernel)) rfl).trans ?_
  refine (e_aload lw_l2 (by decide)).trans ?_
  refine (e_aload lw_l0 (by decide)).trans ?_
  refine (e_iload lw_l3 (by decide)).trans ?_
  refine (e_push).trans ?_
  refine (f_bin (f := z_add) (v := 1) (by decide) (by decide) (by decide +kernel)).trans ?_
  refine (f_sld (i := 1) (by decide)).trans ?_
  refine (f_callV (R := (zrunX zXt 9 ztc 100000)) (k := 61) (d' := 1679) (S0 := [(xn 1), 4294967358, r]) (S' := [r]) (S2 := [r, r]) (L' := (zput (zput 0 1 ((xn 1) + 1)) 0 (4294967358 + 1))) (fun q => by rw [zargs_s q (Nat.le_of_lt (Nat.lt_trans (show (xn 1) < 4294967296 from (hb 1 (by decide))) (by decide))), zargs_s q (by decide)]; rfl) (zlane_same (by decide)) (by rw [n1]; decide) rfl s1 (Nat.le_of_ble_eq_true rfl) A2 (n2.trans n1.symm) rfl).trans ?_
  refine (f_cmp_t (f := Nat.beq) hr hr (Nat.beq_refl r)).trans ?_
  exact lw_tail xn _
theorem lw_case_8 (xn : Nat → Nat) (hb : ∀ j, j < 6 → xn j < 4294967296) : ∃ h, qL_334 6 xn (zrunX zXt 9 ztc 100000) 1680 (zput (zput (zput (zput 0 0 (8589934656 + 1)) 1 (4294967297 + 1)) 2 (4294967358 + 1)) 3 (0 + 1)) [] hbB16 = some ([1], h) ∧ h.1 = 129 ∧ h.2.1 = 650610 := by
  obtain ⟨r, h1, h2, hr, A1, n1, s1, A2, n2, n3⟩ := fc_shown (xn 1) (hb 1 (by decide))
  refine ⟨h2, ?_, n2, n3⟩
  refine (e_aload lw_l1 (by decide)).trans ?_
  refine (e_aload lw_l0 (by decide)).trans ?_
  refine (e_iload lw_l3 (by decide)).trans ?_
  refine (e_push).trans ?_
  refine (f_bin (f := z_add) (v := 1) (by decide) (by decide) (by decide +kernel)).trans ?_
  refine (f_sld (i := 1) (by decide)).trans ?_
  refine (f_callV (R := (zrunX zXt 9 ztc 100000)) (k := 0) (d' := 1679) (S0 := [(xn 1), 4294967297]) (S' := []) (S2 := [r]) (L' := (zput (zput 0 1 ((xn 1) + 1)) 0 (4294967297 + 1))) (fun q => by rw [zargs_s q (Nat.le_of_lt (Nat.lt_trans (show (xn 1) < 4294967296 from (hb 1 (by decide))) (by decide))), zargs_s q (by decide)]; rfl) (zlane_same (by decide)) (by decide +kernel) rfl (by decide +kernel) (Nat.le_of_ble_eq_true rfl) A1 (n1.trans (by decide +kernel)) rfl).trans ?_
  refine (e_aload lw_l2 (by decide)).trans ?_
  refine (e_aload lw_l0 (by decide)).trans ?_
  refine (e_iload lw_l3 (by decide)).trans ?_
  refine (e_push).trans ?_
  refine (f_bin (f := z_add) (v := 1) (by decide) (by decide) (by decide +kernel)).trans ?_
  refine (f_sld (i := 1) (by decide)).trans ?_
  refine (f_callV (R := (zrunX zXt 9 ztc 100000)) (k := 61) (d' := 1679) (S0 := [(xn 1), 4294967358, r]) (S' := [r]) (S2 := [r, r]) (L' := (zput (zput 0 1 ((xn 1) + 1)) 0 (4294967358 + 1))) (fun q => by rw [zargs_s q (Nat.le_of_lt (Nat.lt_trans (show (xn 1) < 4294967296 from (hb 1 (by decide))) (by decide))), zargs_s q (by decide)]; rfl) (zlane_same (by decide)) (by rw [n1]; decide) rfl s1 (Nat.le_of_ble_eq_true rfl) A2 (n2.trans n1.symm) rfl).trans ?_
  refine (f_cmp_t (f := Nat.beq) hr hr (Nat.beq_refl r)).trans ?_
  exact lw_tail xn _
theorem lw_case_9 (xn : Nat → Nat) (hb : ∀ j, j < 6 → xn j < 4294967296) : ∃ h, qL_357 6 xn (zrunX zXt 9 ztc 100000) 1680 (zput (zput (zput (zput 0 0 (8589934656 + 1)) 1 (4294967297 + 1)) 2 (4294967358 + 1)) 3 (0 + 1)) [] hbB16 = some ([1], h) ∧ h.1 = 129 ∧ h.2.1 = 650610 := by
  obtain ⟨r, h1, h2, hr, A1, n1, s1, A2, n2, n3⟩ := fc_out (xn 1) (hb 1 (by decide))
  refine ⟨h2, ?_, n2, n3⟩
  refine (e_aload lw_l1 (by decide)).trans ?_
  refine (e_aload lw_l0 (by decide)).trans ?_
  refine (e_iload lw_l3 (by decide)).trans ?_
  refine (e_push).trans ?_
  refine (f_bin (f := z_add) (v := 1) (by decide) (by decide) (by decide +kernel)).trans ?_
  refine (f_sld (i := 1) (by decide)).trans ?_
  refine (f_callV (R := (zrunX zXt 9 ztc 100000)) (k := 0) (d' := 1679) (S0 := [(xn 1), 4294967297]) (S' := []) (S2 := [r]) (L' := (zput (zput 0 1 ((xn 1) + 1)) 0 (4294967297 + 1))) (fun q => by rw [zargs_s q (Nat.le_of_lt (Nat.lt_trans (show (xn 1) < 4294967296 from (hb 1 (by decide))) (by decide))), zargs_s q (by decide)]; rfl) (zlane_same (by decide)) (by decide +kernel) rfl (by decide +kernel) (Nat.le_of_ble_eq_true rfl) A1 (n1.trans (by decide +kernel)) rfl).trans ?_
  refine (e_aload lw_l2 (by decide)).trans ?_
  refine (e_aload lw_l0 (by decide)).trans ?_
  refine (e_iload lw_l3 (by decide)).trans ?_
  refine (e_push).trans ?_
  refine (f_bin (f := z_add) (v := 1) (by decide) (by decide) (by decide +kernel)).trans ?_
  refine (f_sld (i := 1) (by decide)).trans ?_
  refine (f_callV (R := (zrunX zXt 9 ztc 100000)) (k := 61) (d' := 1679) (S0 := [(xn 1), 4294967358, r]) (S' := [r]) (S2 := [r, r]) (L' := (zput (zput 0 1 ((xn 1) + 1)) 0 (4294967358 + 1))) (fun q => by rw [zargs_s q (Nat.le_of_lt (Nat.lt_trans (show (xn 1) < 4294967296 from (hb 1 (by decide))) (by decide))), zargs_s q (by decide)]; rfl) (zlane_same (by decide)) (by rw [n1]; decide) rfl s1 (Nat.le_of_ble_eq_true rfl) A2 (n2.trans n1.symm) rfl).trans ?_
  refine (f_cmp_t (f := Nat.beq) hr hr (Nat.beq_refl r)).trans ?_
  exact lw_tail xn _
theorem lw_case_10 (xn : Nat → Nat) (hb : ∀ j, j < 6 → xn j < 4294967296) : ∃ h, qL_380 6 xn (zrunX zXt 9 ztc 100000) 1680 (zput (zput (zput (zput 0 0 (8589934656 + 1)) 1 (4294967297 + 1)) 2 (4294967358 + 1)) 3 (0 + 1)) [] hbB16 = some ([1], h) ∧ h.1 = 129 ∧ h.2.1 = 650610 := by
  obtain ⟨r, h1, h2, hr, A1, n1, s1, A2, n2, n3⟩ := fc_input (xn 1) (hb 1 (by decide))
  refine ⟨h2, ?_, n2, n3⟩
  refine (e_aload lw_l1 (by decide)).trans ?_
  refine (e_aload lw_l0 (by decide)).trans ?_
  refine (e_iload lw_l3 (by decide)).trans ?_
  refine (e_push).trans ?_
  refine (f_bin (f := z_add) (v := 1) (by decide) (by decide) (by decide +kernel)).trans ?_
  refine (f_sld (i := 1) (by decide)).trans ?_
  refine (f_callV (R := (zrunX zXt 9 ztc 100000)) (k := 0) (d' := 1679) (S0 := [(xn 1), 4294967297]) (S' := []) (S2 := [r]) (L' := (zput (zput 0 1 ((xn 1) + 1)) 0 (4294967297 + 1))) (fun q => by rw [zargs_s q (Nat.le_of_lt (Nat.lt_trans (show (xn 1) < 4294967296 from (hb 1 (by decide))) (by decide))), zargs_s q (by decide)]; rfl) (zlane_same (by decide)) (by decide +kernel) rfl (by decide +kernel) (Nat.le_of_ble_eq_true rfl) A1 (n1.trans (by decide +kernel)) rfl).trans ?_
  refine (e_aload lw_l2 (by decide)).trans ?_
  refine (e_aload lw_l0 (by decide)).trans ?_
  refine (e_iload lw_l3 (by decide)).trans ?_
  refine (e_push).trans ?_
  refine (f_bin (f := z_add) (v := 1) (by decide) (by decide) (by decide +kernel)).trans ?_
  refine (f_sld (i := 1) (by decide)).trans ?_
  refine (f_callV (R := (zrunX zXt 9 ztc 100000)) (k := 61) (d' := 1679) (S0 := [(xn 1), 4294967358, r]) (S' := [r]) (S2 := [r, r]) (L' := (zput (zput 0 1 ((xn 1) + 1)) 0 (4294967358 + 1))) (fun q => by rw [zargs_s q (Nat.le_of_lt (Nat.lt_trans (show (xn 1) < 4294967296 from (hb 1 (by decide))) (by decide))), zargs_s q (by decide)]; rfl) (zlane_same (by decide)) (by rw [n1]; decide) rfl s1 (Nat.le_of_ble_eq_true rfl) A2 (n2.trans n1.symm) rfl).trans ?_
  refine (f_cmp_t (f := Nat.beq) hr hr (Nat.beq_refl r)).trans ?_
  exact lw_tail xn _
theorem lw_case_11 (xn : Nat → Nat) (hb : ∀ j, j < 6 → xn j < 4294967296) : ∃ h, qL_403 6 xn (zrunX zXt 9 ztc 100000) 1680 (zput (zput (zput (zput 0 0 (8589934656 + 1)) 1 (4294967297 + 1)) 2 (4294967358 + 1)) 3 (0 + 1)) [] hbB16 = some ([1], h) ∧ h.1 = 129 ∧ h.2.1 = 650610 := by
  obtain ⟨r, h1, h2, hr, A1, n1, s1, A2, n2, n3⟩ := fc_letter (xn 1) (hb 1 (by decide)) (xn 2) (hb 2 (by decide))
  refine ⟨h2, ?_, n2, n3⟩
  refine (e_aload lw_l1 (by decide)).trans ?_
  refine (e_aload lw_l0 (by decide)).trans ?_
  refine (e_iload lw_l3 (by decide)).trans ?_
  refine (e_push).trans ?_
  refine (f_bin (f := z_add) (v := 1) (by decide) (by decide) (by decide +kernel)).trans ?_
  refine (f_sld (i := 1) (by decide)).trans ?_
  refine (e_aload lw_l0 (by decide)).trans ?_
  refine (e_iload lw_l3 (by decide)).trans ?_
  refine (e_push).trans ?_
  refine (f_bin (f := z_add) (v := 2) (by decide) (by decide) (by decide +kernel)).trans ?_
  refine (f_sld (i := 2) (by decide)).trans ?_
  refine (f_callV (R := (zrunX zXt 9 ztc 100000)) (k := 0) (d' := 1679) (S0 := [(xn 2), (xn 1), 4294967297]) (S' := []) (S2 := [r]) (L' := (zput (zput (zput 0 2 ((xn 2) + 1)) 1 ((xn 1) + 1)) 0 (4294967297 + 1))) (fun q => by rw [zargs_s q (Nat.le_of_lt (Nat.lt_trans (show (xn 2) < 4294967296 from (hb 2 (by decide))) (by decide))), zargs_s q (Nat.le_of_lt (Nat.lt_trans (show (xn 1) < 4294967296 from (hb 1 (by decide))) (by decide))), zargs_s q (by decide)]; rfl) (zlane_same (by decide)) (by decide +kernel) rfl (by decide +kernel) (Nat.le_of_ble_eq_true rfl) A1 (n1.trans (by decide +kernel)) rfl).trans ?_
  refine (e_aload lw_l2 (by decide)).trans ?_
  refine (e_aload lw_l0 (by decide)).trans ?_
  refine (e_iload lw_l3 (by decide)).trans ?_
  refine (e_push).trans ?_
  refine (f_bin (f := z_add) (v := 1) (by decide) (by decide) (by decide +kernel)).trans ?_
  refine (f_sld (i := 1) (by decide)).trans ?_
  refine (e_aload lw_l0 (by decide)).trans ?_
  refine (e_iload lw_l3 (by decide)).trans ?_
  refine (e_push).trans ?_
  refine (f_bin (f := z_add) (v := 2) (by decide) (by decide) (by decide +kernel)).trans ?_
  refine (f_sld (i := 2) (by decide)).trans ?_
  refine (f_callV (R := (zrunX zXt 9 ztc 100000)) (k := 61) (d' := 1679) (S0 := [(xn 2), (xn 1), 4294967358, r]) (S' := [r]) (S2 := [r, r]) (L' := (zput (zput (zput 0 2 ((xn 2) + 1)) 1 ((xn 1) + 1)) 0 (4294967358 + 1))) (fun q => by rw [zargs_s q (Nat.le_of_lt (Nat.lt_trans (show (xn 2) < 4294967296 from (hb 2 (by decide))) (by decide))), zargs_s q (Nat.le_of_lt (Nat.lt_trans (show (xn 1) < 4294967296 from (hb 1 (by decide))) (by decide))), zargs_s q (by decide)]; rfl) (zlane_same (by decide)) (by rw [n1]; decide) rfl s1 (Nat.le_of_ble_eq_true rfl) A2 (n2.trans n1.symm) rfl).trans ?_
  refine (f_cmp_t (f := Nat.beq) hr hr (Nat.beq_refl r)).trans ?_
  exact lw_tail xn _
theorem lw_case_12 (xn : Nat → Nat) (hb : ∀ j, j < 6 → xn j < 4294967296) : ∃ h, qL_436 6 xn (zrunX zXt 9 ztc 100000) 1680 (zput (zput (zput (zput 0 0 (8589934656 + 1)) 1 (4294967297 + 1)) 2 (4294967358 + 1)) 3 (0 + 1)) [] hbB16 = some ([1], h) ∧ h.1 = 129 ∧ h.2.1 = 650610 := by
  refine ⟨hbF36, ?_, by decide +kernel, by decide +kernel⟩
  refine (e_aload lw_l1 (by decide)).trans ?_
  refine (f_callV (R := (zrunX zXt 9 ztc 100000)) (k := 0) (d' := 1679) (S0 := [4294967297]) (S' := []) (S2 := []) (L' := zput 0 0 (4294967297 + 1)) (fun q => by rw [zargs_s q (by decide)]; rfl) (by decide +kernel) (by decide +kernel) rfl (by decide +kernel) (Nat.le_of_ble_eq_true rfl) (zrun_hit (n := 99999) (hit_E (by decide +kernel))) (by decide +kernel) rfl).trans ?_
  refine (e_aload lw_l2 (by decide)).trans ?_
  refine (f_callV (R := (zrunX zXt 9 ztc 100000)) (k := 61) (d' := 1679) (S0 := [4294967358]) (S' := []) (S2 := []) (L' := zput 0 0 (4294967358 + 1)) (fun q => by rw [zargs_s q (by decide)]; rfl) (by decide +kernel) (by decide +kernel) rfl (by decide +kernel) (Nat.le_of_ble_eq_true rfl) (zrun_hit (n := 99999) (hit_F (by decide +kernel))) (by decide +kernel) rfl).trans ?_
  exact lw_tail xn _
theorem lw_case_13 (xn : Nat → Nat) (hb : ∀ j, j < 6 → xn j < 4294967296) : ∃ h, qL_447 6 xn (zrunX zXt 9 ztc 100000) 1680 (zput (zput (zput (zput 0 0 (8589934656 + 1)) 1 (4294967297 + 1)) 2 (4294967358 + 1)) 3 (0 + 1)) [] hbB16 = some ([1], h) ∧ h.1 = 129 ∧ h.2.1 = 650610 := by
  obtain ⟨r, h1, h2, hr, A1, n1, s1, A2, n2, n3⟩ := fc_poke (xn 1) (hb 1 (by decide)) (xn 2) (hb 2 (by decide))
  refine ⟨h2, ?_, n2, n3⟩
  refine (e_aload lw_l1 (by decide)).trans ?_
  refine (e_aload lw_l0 (by decide)).trans ?_
  refine (e_iload lw_l3 (by decide)).trans ?_
  refine (e_push).trans ?_
  refine (f_bin (f := z_add) (v := 1) (by decide) (by decide) (by decide +kernel)).trans ?_
  refine (f_sld (i := 1) (by decide)).trans ?_
  refine (e_aload lw_l0 (by decide)).trans ?_
  refine (e_iload lw_l3 (by decide)).trans ?_
  refine (e_push).trans ?_
  refine (f_bin (f := z_add) (v := 2) (by decide) (by decide) (by decide +kernel)).trans ?_
  refine (f_sld (i := 2) (by decide)).trans ?_
  refine (f_callV (R := (zrunX zXt 9 ztc 100000)) (k := 0) (d' := 1679) (S0 := [(xn 2), (xn 1), 4294967297]) (S' := []) (S2 := [r]) (L' := (zput (zput (zput 0 2 ((xn 2) + 1)) 1 ((xn 1) + 1)) 0 (4294967297 + 1))) (fun q => by rw [zargs_s q (Nat.le_of_lt (Nat.lt_trans (show (xn 2) < 4294967296 from (hb 2 (by decide))) (by decide))), zargs_s q (Nat.le_of_lt (Nat.lt_trans (show (xn 1) < 4294967296 from (hb 1 (by decide))) (by decide))), zargs_s q (by decide)]; rfl) (zlane_same (by decide)) (by decide +kernel) rfl (by decide +kernel) (Nat.le_of_ble_eq_true rfl) A1 (n1.trans (by decide +kernel)) rfl).trans ?_
  refine (e_aload lw_l2 (by decide)).trans ?_
  refine (e_aload lw_l0 (by decide)).trans ?_
  refine (e_iload lw_l3 (by decide)).trans ?_
  refine (e_push).trans ?_
  refine (f_bin (f := z_add) (v := 1) (by decide) (by decide) (by decide +kernel)).trans ?_
  refine (f_sld (i := 1) (by decide)).trans ?_
  refine (e_aload lw_l0 (by decide)).trans ?_
  refine (e_iload lw_l3 (by decide)).trans ?_
  refine (e_push).trans ?_
  refine (f_bin (f := z_add) (v := 2) (by decide) (by decide) (by decide +kernel)).trans ?_
  refine (f_sld (i := 2) (by decide)).trans ?_
  refine (f_callV (R := (zrunX zXt 9 ztc 100000)) (k := 61) (d' := 1679) (S0 := [(xn 2), (xn 1), 4294967358, r]) (S' := [r]) (S2 := [r, r]) (L' := (zput (zput (zput 0 2 ((xn 2) + 1)) 1 ((xn 1) + 1)) 0 (4294967358 + 1))) (fun q => by rw [zargs_s q (Nat.le_of_lt (Nat.lt_trans (show (xn 2) < 4294967296 from (hb 2 (by decide))) (by decide))), zargs_s q (Nat.le_of_lt (Nat.lt_trans (show (xn 1) < 4294967296 from (hb 1 (by decide))) (by decide))), zargs_s q (by decide)]; rfl) (zlane_same (by decide)) (by rw [n1]; decide) rfl s1 (Nat.le_of_ble_eq_true rfl) A2 (n2.trans n1.symm) rfl).trans ?_
  refine (f_cmp_t (f := Nat.beq) hr hr (Nat.beq_refl r)).trans ?_
  exact lw_tail xn _
theorem lw_case_14 (xn : Nat → Nat) (hb : ∀ j, j < 6 → xn j < 4294967296) : ∃ h, qL_480 6 xn (zrunX zXt 9 ztc 100000) 1680 (zput (zput (zput (zput 0 0 (8589934656 + 1)) 1 (4294967297 + 1)) 2 (4294967358 + 1)) 3 (0 + 1)) [] hbB16 = some ([1], h) ∧ h.1 = 129 ∧ h.2.1 = 650610 := by
  obtain ⟨r, h1, h2, hr, A1, n1, s1, A2, n2, n3⟩ := fc_set (xn 1) (hb 1 (by decide)) (xn 2) (hb 2 (by decide))
  refine ⟨h2, ?_, n2, n3⟩
  refine (e_aload lw_l1 (by decide)).trans ?_
  refine (e_aload lw_l0 (by decide)).trans ?_
  refine (e_iload lw_l3 (by decide)).trans ?_
  refine (e_push).trans ?_
  refine (f_bin (f := z_add) (v := 1) (by decide) (by decide) (by decide +kernel)).trans ?_
  refine (f_sld (i := 1) (by decide)).trans ?_
  refine (e_aload lw_l0 (by decide)).trans ?_
  refine (e_iload lw_l3 (by decide)).trans ?_
  refine (e_push).trans ?_
  refine (f_bin (f := z_add) (v := 2) (by decide) (by decide) (by decide +kernel)).trans ?_
  refine (f_sld (i := 2) (by decide)).trans ?_
  refine (f_callV (R := (zrunX zXt 9 ztc 100000)) (k := 0) (d' := 1679) (S0 := [(xn 2), (xn 1), 4294967297]) (S' := []) (S2 := [r]) (L' := (zput (zput (zput 0 2 ((xn 2) + 1)) 1 ((xn 1) + 1)) 0 (4294967297 + 1))) (fun q => by rw [zargs_s q (Nat.le_of_lt (Nat.lt_trans (show (xn 2) < 4294967296 from (hb 2 (by decide))) (by decide))), zargs_s q (Nat.le_of_lt (Nat.lt_trans (show (xn 1) < 4294967296 from (hb 1 (by decide))) (by decide))), zargs_s q (by decide)]; rfl) (zlane_same (by decide)) (by decide +kernel) rfl (by decide +kernel) (Nat.le_of_ble_eq_true rfl) A1 (n1.trans (by decide +kernel)) rfl).trans ?_
  refine (e_aload lw_l2 (by decide)).trans ?_
  refine (e_aload lw_l0 (by decide)).trans ?_
  refine (e_iload lw_l3 (by decide)).trans ?_
  refine (e_push).trans ?_
  refine (f_bin (f := z_add) (v := 1) (by decide) (by decide) (by decide +kernel)).trans ?_
  refine (f_sld (i := 1) (by decide)).trans ?_
  refine (e_aload lw_l0 (by decide)).trans ?_
  refine (e_iload lw_l3 (by decide)).trans ?_
  refine (e_push).trans ?_
  refine (f_bin (f := z_add) (v := 2) (by decide) (by decide) (by decide +kernel)).trans ?_
  refine (f_sld (i := 2) (by decide)).trans ?_
  refine (f_callV (R := (zrunX zXt 9 ztc 100000)) (k := 61) (d' := 1679) (S0 := [(xn 2), (xn 1), 4294967358, r]) (S' := [r]) (S2 := [r, r]) (L' := (zput (zput (zput 0 2 ((xn 2) + 1)) 1 ((xn 1) + 1)) 0 (4294967358 + 1))) (fun q => by rw [zargs_s q (Nat.le_of_lt (Nat.lt_trans (show (xn 2) < 4294967296 from (hb 2 (by decide))) (by decide))), zargs_s q (Nat.le_of_lt (Nat.lt_trans (show (xn 1) < 4294967296 from (hb 1 (by decide))) (by decide))), zargs_s q (by decide)]; rfl) (zlane_same (by decide)) (by rw [n1]; decide) rfl s1 (Nat.le_of_ble_eq_true rfl) A2 (n2.trans n1.symm) rfl).trans ?_
  refine (f_cmp_t (f := Nat.beq) hr hr (Nat.beq_refl r)).trans ?_
  exact lw_tail xn _
theorem lw_case_15 (xn : Nat → Nat) (hb : ∀ j, j < 6 → xn j < 4294967296) : ∃ h, qL_513 6 xn (zrunX zXt 9 ztc 100000) 1680 (zput (zput (zput (zput 0 0 (8589934656 + 1)) 1 (4294967297 + 1)) 2 (4294967358 + 1)) 3 (0 + 1)) [] hbB16 = some ([1], h) ∧ h.1 = 129 ∧ h.2.1 = 650610 := by
  obtain ⟨r, h1, h2, hr, A1, n1, s1, A2, n2, n3⟩ := fc_go (xn 1) (hb 1 (by decide))
  refine ⟨h2, ?_, n2, n3⟩
  refine (e_aload lw_l1 (by decide)).trans ?_
  refine (e_aload lw_l0 (by decide)).trans ?_
  refine (e_iload lw_l3 (by decide)).trans ?_
  refine (e_push).trans ?_
  refine (f_bin (f := z_add) (v := 1) (by decide) (by decide) (by decide +kernel)).trans ?_
  refine (f_sld (i := 1) (by decide)).trans ?_
  refine (f_callV (R := (zrunX zXt 9 ztc 100000)) (k := 0) (d' := 1679) (S0 := [(xn 1), 4294967297]) (S' := []) (S2 := [r]) (L' := (zput (zput 0 1 ((xn 1) + 1)) 0 (4294967297 + 1))) (fun q => by rw [zargs_s q (Nat.le_of_lt (Nat.lt_trans (show (xn 1) < 4294967296 from (hb 1 (by decide))) (by decide))), zargs_s q (by decide)]; rfl) (zlane_same (by decide)) (by decide +kernel) rfl (by decide +kernel) (Nat.le_of_ble_eq_true rfl) A1 (n1.trans (by decide +kernel)) rfl).trans ?_
  refine (e_aload lw_l2 (by decide)).trans ?_
  refine (e_aload lw_l0 (by decide)).trans ?_
  refine (e_iload lw_l3 (by decide)).trans ?_
  refine (e_push).trans ?_
  refine (f_bin (f := z_add) (v := 1) (by decide) (by decide) (by decide +kernel)).trans ?_
  refine (f_sld (i := 1) (by decide)).trans ?_
  refine (f_callV (R := (zrunX zXt 9 ztc 100000)) (k := 61) (d' := 1679) (S0 := [(xn 1), 4294967358, r]) (S' := [r]) (S2 := [r, r]) (L' := (zput (zput 0 1 ((xn 1) + 1)) 0 (4294967358 + 1))) (fun q => by rw [zargs_s q (Nat.le_of_lt (Nat.lt_trans (show (xn 1) < 4294967296 from (hb 1 (by decide))) (by decide))), zargs_s q (by decide)]; rfl) (zlane_same (by decide)) (by rw [n1]; decide) rfl s1 (Nat.le_of_ble_eq_true rfl) A2 (n2.trans n1.symm) rfl).trans ?_
  refine (f_cmp_t (f := Nat.beq) hr hr (Nat.beq_refl r)).trans ?_
  exact lw_tail xn _
theorem lw_case_16 (xn : Nat → Nat) (hb : ∀ j, j < 6 → xn j < 4294967296) : ∃ h, qL_536 6 xn (zrunX zXt 9 ztc 100000) 1680 (zput (zput (zput (zput 0 0 (8589934656 + 1)) 1 (4294967297 + 1)) 2 (4294967358 + 1)) 3 (0 + 1)) [] hbB16 = some ([1], h) ∧ h.1 = 129 ∧ h.2.1 = 650610 := by
  obtain ⟨r, h1, h2, hr, A1, n1, s1, A2, n2, n3⟩ := fc_peek (xn 1) (hb 1 (by decide))
  refine ⟨h2, ?_, n2, n3⟩
  refine (e_aload lw_l1 (by decide)).trans ?_
  refine (e_aload lw_l0 (by decide)).trans ?_
  refine (e_iload lw_l3 (by decide)).trans ?_
  refine (e_push).trans ?_
  refine (f_bin (f := z_add) (v := 1) (by decide) (by decide) (by decide +kernel)).trans ?_
  refine (f_sld (i := 1) (by decide)).trans ?_
  refine (f_callV (R := (zrunX zXt 9 ztc 100000)) (k := 0) (d' := 1679) (S0 := [(xn 1), 4294967297]) (S' := []) (S2 := [r]) (L' := (zput (zput 0 1 ((xn 1) + 1)) 0 (4294967297 + 1))) (fun q => by rw [zargs_s q (Nat.le_of_lt (Nat.lt_trans (show (xn 1) < 4294967296 from (hb 1 (by decide))) (by decide))), zargs_s q (by decide)]; rfl) (zlane_same (by decide)) (by decide +kernel) rfl (by decide +kernel) (Nat.le_of_ble_eq_true rfl) A1 (n1.trans (by decide +kernel)) rfl).trans ?_
  refine (e_aload lw_l2 (by decide)).trans ?_
  refine (e_aload lw_l0 (by decide)).trans ?_
  refine (e_iload lw_l3 (by decide)).trans ?_
  refine (e_push).trans ?_
  refine (f_bin (f := z_add) (v := 1) (by decide) (by decide) (by decide +kernel)).trans ?_
  refine (f_sld (i := 1) (by decide)).trans ?_
  refine (f_callV (R := (zrunX zXt 9 ztc 100000)) (k := 61) (d' := 1679) (S0 := [(xn 1), 4294967358, r]) (S' := [r]) (S2 := [r, r]) (L' := (zput (zput 0 1 ((xn 1) + 1)) 0 (4294967358 + 1))) (fun q => by rw [zargs_s q (Nat.le_of_lt (Nat.lt_trans (show (xn 1) < 4294967296 from (hb 1 (by decide))) (by decide))), zargs_s q (by decide)]; rfl) (zlane_same (by decide)) (by rw [n1]; decide) rfl s1 (Nat.le_of_ble_eq_true rfl) A2 (n2.trans n1.symm) rfl).trans ?_
  refine (f_cmp_t (f := Nat.beq) hr hr (Nat.beq_refl r)).trans ?_
  exact lw_tail xn _
theorem lw_case_17 (xn : Nat → Nat) (hb : ∀ j, j < 6 → xn j < 4294967296) : ∃ h, qL_559 6 xn (zrunX zXt 9 ztc 100000) 1680 (zput (zput (zput (zput 0 0 (8589934656 + 1)) 1 (4294967297 + 1)) 2 (4294967358 + 1)) 3 (0 + 1)) [] hbB16 = some ([1], h) ∧ h.1 = 129 ∧ h.2.1 = 650610 := by
  obtain ⟨r, h1, h2, hr, A1, n1, s1, A2, n2, n3⟩ := fc_held (xn 1) (hb 1 (by decide))
  refine ⟨h2, ?_, n2, n3⟩
  refine (e_aload lw_l1 (by decide)).trans ?_
  refine (e_aload lw_l0 (by decide)).trans ?_
  refine (e_iload lw_l3 (by decide)).trans ?_
  refine (e_push).trans ?_
  refine (f_bin (f := z_add) (v := 1) (by decide) (by decide) (by decide +kernel)).trans ?_
  refine (f_sld (i := 1) (by decide)).trans ?_
  refine (f_callV (R := (zrunX zXt 9 ztc 100000)) (k := 0) (d' := 1679) (S0 := [(xn 1), 4294967297]) (S' := []) (S2 := [r]) (L' := (zput (zput 0 1 ((xn 1) + 1)) 0 (4294967297 + 1))) (fun q => by rw [zargs_s q (Nat.le_of_lt (Nat.lt_trans (show (xn 1) < 4294967296 from (hb 1 (by decide))) (by decide))), zargs_s q (by decide)]; rfl) (zlane_same (by decide)) (by decide +kernel) rfl (by decide +kernel) (Nat.le_of_ble_eq_true rfl) A1 (n1.trans (by decide +kernel)) rfl).trans ?_
  refine (e_aload lw_l2 (by decide)).trans ?_
  refine (e_aload lw_l0 (by decide)).trans ?_
  refine (e_iload lw_l3 (by decide)).trans ?_
  refine (e_push).trans ?_
  refine (f_bin (f := z_add) (v := 1) (by decide) (by decide) (by decide +kernel)).trans ?_
  refine (f_sld (i := 1) (by decide)).trans ?_
  refine (f_callV (R := (zrunX zXt 9 ztc 100000)) (k := 61) (d' := 1679) (S0 := [(xn 1), 4294967358, r]) (S' := [r]) (S2 := [r, r]) (L' := (zput (zput 0 1 ((xn 1) + 1)) 0 (4294967358 + 1))) (fun q => by rw [zargs_s q (Nat.le_of_lt (Nat.lt_trans (show (xn 1) < 4294967296 from (hb 1 (by decide))) (by decide))), zargs_s q (by decide)]; rfl) (zlane_same (by decide)) (by rw [n1]; decide) rfl s1 (Nat.le_of_ble_eq_true rfl) A2 (n2.trans n1.symm) rfl).trans ?_
  refine (f_cmp_t (f := Nat.beq) hr hr (Nat.beq_refl r)).trans ?_
  exact lw_tail xn _
theorem lw_six (xn : Nat → Nat) (hb : ∀ j, j < 6 → xn j < 4294967296) : ∃ h, qL_18 6 xn (zrunX zXt 9 ztc 100000) 1680 (zput (zput (zput (zput 0 0 (8589934656 + 1)) 1 (4294967297 + 1)) 2 (4294967358 + 1)) 3 (0 + 1)) [] hbB16 = some ([1], h) ∧ h.1 = 129 ∧ h.2.1 = 650610 := by
  have key : ∃ h, qL_33 6 xn (zrunX zXt 9 ztc 100000) 1680 (zput (zput (zput (zput 0 0 (8589934656 + 1)) 1 (4294967297 + 1)) 2 (4294967358 + 1)) 3 (0 + 1)) [xn 0 % 32] hbB16 = some ([1], h) ∧ h.1 = 129 ∧ h.2.1 = 650610 := by
    have hlt : xn 0 % 32 < 32 := Nat.mod_lt _ (by decide)
    generalize xn 0 % 32 = a at hlt ⊢
    by_cases k0 : a = 0
    · subst k0
      obtain ⟨h, e, e2⟩ := lw_case_0 xn hb
      exact ⟨h, (f_tsw_in (k := qL_120 6 xn) (by decide) (by rfl)).trans e, e2⟩
    by_cases k1 : a = 1
    · subst k1
      obtain ⟨h, e, e2⟩ := lw_case_1 xn hb
      exact ⟨h, (f_tsw_in (k := qL_183 6 xn) (by decide) (by rfl)).trans e, e2⟩
    by_cases k2 : a = 2
    · subst k2
      obtain ⟨h, e, e2⟩ := lw_case_2 xn hb
      exact ⟨h, (f_tsw_in (k := qL_206 6 xn) (by decide) (by rfl)).trans e, e2⟩
    by_cases k3 : a = 3
    · subst k3
      obtain ⟨h, e, e2⟩ := lw_case_3 xn hb
      exact ⟨h, (f_tsw_in (k := qL_219 6 xn) (by decide) (by rfl)).trans e, e2⟩
    by_cases k4 : a = 4
    · subst k4
      obtain ⟨h, e, e2⟩ := lw_case_4 xn hb
      exact ⟨h, (f_tsw_in (k := qL_242 6 xn) (by decide) (by rfl)).trans e, e2⟩
    by_cases k5 : a = 5
    · subst k5
      obtain ⟨h, e, e2⟩ := lw_case_5 xn hb
      exact ⟨h, (f_tsw_in (k := qL_265 6 xn) (by decide) (by rfl)).trans e, e2⟩
    by_cases k6 : a = 6
    · subst k6
      obtain ⟨h, e, e2⟩ := lw_case_6 xn hb
      exact ⟨h, (f_tsw_in (k := qL_288 6 xn) (by decide) (by rfl)).trans e, e2⟩
    by_cases k7 : a = 7
    · subst k7
      obtain ⟨h, e, e2⟩ := lw_case_7 xn hb
      exact ⟨h, (f_tsw_in (k := qL_311 6 xn) (by decide) (by rfl)).trans e, e2⟩
    by_cases k8 : a = 8
    · subst k8
      obtain ⟨h, e, e2⟩ := lw_case_8 xn hb
      exact ⟨h, (f_tsw_in (k := qL_334 6 xn) (by decide) (by rfl)).trans e, e2⟩
    by_cases k9 : a = 9
    · subst k9
      obtain ⟨h, e, e2⟩ := lw_case_9 xn hb
      exact ⟨h, (f_tsw_in (k := qL_357 6 xn) (by decide) (by rfl)).trans e, e2⟩
    by_cases k10 : a = 10
    · subst k10
      obtain ⟨h, e, e2⟩ := lw_case_10 xn hb
      exact ⟨h, (f_tsw_in (k := qL_380 6 xn) (by decide) (by rfl)).trans e, e2⟩
    by_cases k11 : a = 11
    · subst k11
      obtain ⟨h, e, e2⟩ := lw_case_11 xn hb
      exact ⟨h, (f_tsw_in (k := qL_403 6 xn) (by decide) (by rfl)).trans e, e2⟩
    by_cases k12 : a = 12
    · subst k12
      obtain ⟨h, e, e2⟩ := lw_case_12 xn hb
      exact ⟨h, (f_tsw_in (k := qL_436 6 xn) (by decide) (by rfl)).trans e, e2⟩
    by_cases k13 : a = 13
    · subst k13
      obtain ⟨h, e, e2⟩ := lw_case_13 xn hb
      exact ⟨h, (f_tsw_in (k := qL_447 6 xn) (by decide) (by rfl)).trans e, e2⟩
    by_cases k14 : a = 14
    · subst k14
      obtain ⟨h, e, e2⟩ := lw_case_14 xn hb
      exact ⟨h, (f_tsw_in (k := qL_480 6 xn) (by decide) (by rfl)).trans e, e2⟩
    by_cases k15 : a = 15
    · subst k15
      obtain ⟨h, e, e2⟩ := lw_case_15 xn hb
      exact ⟨h, (f_tsw_in (k := qL_513 6 xn) (by decide) (by rfl)).trans e, e2⟩
    by_cases k16 : a = 16
    · subst k16
      obtain ⟨h, e, e2⟩ := lw_case_16 xn hb
      exact ⟨h, (f_tsw_in (k := qL_536 6 xn) (by decide) (by rfl)).trans e, e2⟩
    by_cases k17 : a = 17
    · subst k17
      obtain ⟨h, e, e2⟩ := lw_case_17 xn hb
      exact ⟨h, (f_tsw_in (k := qL_559 6 xn) (by decide) (by rfl)).trans e, e2⟩
    exact ⟨_, (f_tsw_out (by omega) (by show 18 ≤ a; omega)).trans (lw_tail xn _), by decide +kernel, by decide +kernel⟩
  obtain ⟨h, e, e2⟩ := key
  refine ⟨h, ?_, e2⟩
  refine (e_iload lw_l3 (by decide)).trans ?_
  refine (e_aload lw_l0 (by decide)).trans ?_
  refine (f_slen).trans ?_
  refine (e_push).trans ?_
  refine (f_bin (f := z_sub) (v := 0) (by decide) (by decide) (by decide +kernel)).trans ?_
  refine (f_cmp_f (f := z_gt) (by decide) (by decide) (by decide +kernel)).trans ?_
  refine (e_aload lw_l0 (by decide)).trans ?_
  refine (e_iload lw_l3 (by decide)).trans ?_
  refine (f_sld (i := 0) (by decide)).trans ?_
  refine (e_push).trans ?_
  refine (f_bin (f := z_and) (v := xn 0 % 32) (hb 0 (by decide)) (by decide) (z_and_m (k := 5) (by decide))).trans ?_
  exact e
theorem lw_run (nS : Nat) (xn : Nat → Nat) (h6 : nS ≤ 6) (hb : ∀ j, j < nS → xn j < 4294967296) : ∃ h, qL_0 nS xn (zrunX zXt 9 ztc 100000) 1680 (zput 0 0 (8589934656 + 1)) [] hL0 = some ([1], h) ∧ h.1 = 129 ∧ h.2.1 = 650610 := by
  by_cases h : nS < 6
  · exact ⟨_, (lw_pre nS xn).trans (lw_short nS xn h), by decide +kernel, by decide +kernel⟩
  · have e : nS = 6 := by omega
    subst e
    obtain ⟨h, e, e2⟩ := lw_six xn hb
    exact ⟨h, (lw_pre 6 xn).trans e, e2⟩
