/-- place sp on of cs to place dp on of c, k times -/
noncomputable def zcpc (cs : zC) (sp dp k : Nat) : Nat → zC → zC := Nat.rec (motive := fun _ => Nat → zC → zC) (fun _ c => c) (fun _ ih j c => ih (j + 1) (zcst c (dp + j) (zcv cs (sp + j)))) k
noncomputable def zcp (cs : zC) (sp dp k : Nat) : Nat → zC → (zC → zR) → zR := Nat.rec (motive := fun _ => Nat → zC → (zC → zR) → zR) (fun _ c q => q c) (fun _ ih j c q => zf (Nat.add sp j) (fun sj => zcget cs sj (fun v => zint v (zf (Nat.add dp j) (fun dj => zcset c dj v (fun c' => zf (Nat.succ j) (fun j' => ih j' c' q))))))) k
/-- the values that are copied are ints -/
theorem zcp_some (cs : zC) (sp dp k : Nat) : ∀ (j : Nat) (c : zC) (q : zC → zR) (b : List Nat × zH), zcp cs sp dp k j c q = some b → q (zcpc cs sp dp k j c) = some b ∧ ∀ i, j ≤ i → i < j + k → zcv cs (sp + i) < 4294967296 := by
  induction k with
  | zero => intro j c q b e; exact ⟨e, fun i h1 h2 => by omega⟩
  | succ k ih =>
    intro j c q b e
    have e : zf (sp + j) (fun sj => zcget cs sj (fun v => zint v (zf (dp + j) (fun dj => zcset c dj v (fun c' => zf (j + 1) (fun j' => zcp cs sp dp k j' c' q)))))) = some b := e
    rw [zf_eq, zcget_eq] at e
    obtain ⟨hv, e⟩ := zint_some e
    rw [zf_eq, zcset_eq, zf_eq] at e
    obtain ⟨h1, h2⟩ := ih (j + 1) _ q b e
    refine ⟨h1, fun i a1 a2 => ?_⟩
    by_cases ei : i = j
    · subst ei; exact hv
    · exact h2 i (by omega) (by omega)
noncomputable def zUc (nx : zK) (k : Nat) : zK := Nat.rec (motive := fun _ => zK) (o_iload 5 (o_iload 4 (o_cmp z_ge nx o_none))) (fun _ u => o_iload 5 (o_iload 4 (o_cmp z_ge nx (o_aload 2 (o_iload 3 (o_iload 5 (o_bin z_add (o_aload 0 (o_iload 1 (o_iload 5 (o_bin z_add (o_iald 100 (o_iast 100 (o_iinc 5 1 u)))))))))))))) k
noncomputable def o_cpyL (nx : zK) : zK := fun R d L S h => zpr (zlane L 0) (fun a => zpr (zlane L 1) (fun sp => zpr (zlane L 2) (fun b => zpr (zlane L 3) (fun dp => zpr (zlane L 4) (fun n => zpr (zlane L 5) (fun j => cond (Nat.ble j n) (cond (Nat.ble n 65536) (cond (Nat.beq a b) none (zat h a (fun cs => zat h b (fun cd => cond (Nat.beq (Prod.fst cs) 100) (cond (Nat.beq (Prod.fst cd) 100) (cond (Nat.ble (Nat.add sp n) (Prod.fst (Prod.snd cs))) (cond (Nat.ble (Nat.add dp n) (Prod.fst (Prod.snd cd))) (cond (Nat.ble (Prod.fst (Prod.snd cs)) 65536) (cond (Nat.ble (Prod.fst (Prod.snd cd)) 65536) (cond (Nat.ble (Prod.fst h) 256) (zcp cs sp dp (Nat.sub n j) j cd (fun c' => zupdc h b c' (fun h' => zf (zput L 5 (Nat.succ n)) (fun L' => nx R d L' S h')))) none) none) none) none) none) none) none)))) none) none))))))
theorem zUc_run {nx : zK} {R : zRec} {d : Nat} {S : List Nat} {a b sp dp n : Nat} {cs : zC} (hab : a ≠ b) (ha : a < 256) (hb : b < 256) (hn : n ≤ 65536) (hs : sp + n ≤ cs.2.1) (hcs : cs.1 = 100) (hcl : cs.2.1 ≤ 65536) (k : Nat) : ∀ (j L : Nat) (h : zH) (c : zC), zlane L 0 = 4294967297 + a + 1 → zlane L 1 = sp + 1 → zlane L 2 = 4294967297 + b + 1 → zlane L 3 = dp + 1 → zlane L 4 = n + 1 → zlane L 5 = j + 1 → j + k = n → (∀ i, j ≤ i → i < n → zcv cs (sp + i) < 4294967296) → a < h.1 → b < h.1 → zget 8 h.2.2 a = cs → zget 8 h.2.2 b = c → c.1 = 100 → dp + n ≤ c.2.1 → c.2.1 ≤ 65536 → zUc nx k R d L S h = nx R d (zput L 5 (n + 1)) S (h.1, h.2.1, zst 8 h.2.2 b (fun _ => zcpc cs sp dp k j c)) := by
  induction k with
  | zero =>
    intro j L h c l0 l1 l2 l3 l4 l5 hj hval hah hbh hca hcb h100 hle h16
    show o_iload 5 (o_iload 4 (o_cmp z_ge nx o_none)) R d L S h = _
    rw [e_iload l5 (by omega), e_iload l4 (by omega), e_cmp (by omega) (by omega), z_ge_t (by omega) (by omega), cond_true, zput_self (by rw [l5]; omega)]
    rw [zst_self _ 8 _ _ (show zget 8 h.2.2 b = zcpc cs sp dp 0 j c from hcb)]
  | succ k ih =>
    intro j L h c l0 l1 l2 l3 l4 l5 hj hval hah hbh hca hcb h100 hle h16
    have hv := hval j (Nat.le_refl _) (by omega)
    have a1 : z_add dp j = dp + j := by show (dp + j) % 4294967296 = _; omega
    have a2 : z_add sp j = sp + j := by show (sp + j) % 4294967296 = _; omega
    show o_iload 5 (o_iload 4 (o_cmp z_ge nx (o_aload 2 (o_iload 3 (o_iload 5 (o_bin z_add (o_aload 0 (o_iload 1 (o_iload 5 (o_bin z_add (o_iald 100 (o_iast 100 (o_iinc 5 1 (zUc nx k)))))))))))))) R d L S h = _
    rw [e_iload l5 (by omega), e_iload l4 (by omega), e_cmp (by omega) (by omega), z_ge_f (by omega) (by omega), cond_false, e_aload (v := 4294967297 + b) l2 (by omega), e_iload l3 (by omega), e_iload l5 (by omega), e_bin (by omega) (by omega), a1, e_aload (v := 4294967297 + a) l0 (by omega), e_iload l1 (by omega), e_iload l5 (by omega), e_bin (by omega) (by omega), a2, e_iald (by omega) hah hca hcs (by omega) rfl hv, e_iast hv (by omega) hbh hcb h100 (by omega), e_iinc l5 (by omega), show (j + 1) % 4294967296 = j + 1 by omega]
    have m0 : zlane (zput L 5 (j + 1 + 1)) 0 = 4294967297 + a + 1 := (zlane_ne (by omega) (by decide)).trans l0
    have m1 : zlane (zput L 5 (j + 1 + 1)) 1 = sp + 1 := (zlane_ne (by omega) (by decide)).trans l1
    have m2 : zlane (zput L 5 (j + 1 + 1)) 2 = 4294967297 + b + 1 := (zlane_ne (by omega) (by decide)).trans l2
    have m3 : zlane (zput L 5 (j + 1 + 1)) 3 = dp + 1 := (zlane_ne (by omega) (by decide)).trans l3
    have m4 : zlane (zput L 5 (j + 1 + 1)) 4 = n + 1 := (zlane_ne (by omega) (by decide)).trans l4
    have m5 : zlane (zput L 5 (j + 1 + 1)) 5 = j + 1 + 1 := zlane_same (by omega)
    have ma : zget 8 (zst 8 h.2.2 b (fun c => zcst c (dp + j) (zcv cs (sp + j)))) a = cs := by
      rw [zget_st _ 8 h.2.2 b a (by show b < 256; exact hb) (by show a < 256; exact ha), if_neg (fun z => hab z.symm), hca]
    have mb : zget 8 (zst 8 h.2.2 b (fun c => zcst c (dp + j) (zcv cs (sp + j)))) b = zcst c (dp + j) (zcv cs (sp + j)) := by
      rw [zget_st _ 8 h.2.2 b b (by show b < 256; exact hb) (by show b < 256; exact hb), if_pos rfl, hcb]
    have m6 : (zcst c (dp + j) (zcv cs (sp + j))).1 = 100 := (zcst_1 c _ _).1.trans h100
    have m7 : dp + n ≤ (zcst c (dp + j) (zcv cs (sp + j))).2.1 := by rw [(zcst_1 c _ _).2]; exact hle
    have m8 : (zcst c (dp + j) (zcv cs (sp + j))).2.1 ≤ 65536 := by rw [(zcst_1 c _ _).2]; exact h16
    have q := ih (j + 1) (zput L 5 (j + 1 + 1)) (h.1, h.2.1, zst 8 h.2.2 b (fun c => zcst c (dp + j) (zcv cs (sp + j)))) (zcst c (dp + j) (zcv cs (sp + j))) m0 m1 m2 m3 m4 m5 (by omega) (fun i h1 h2 => hval i (by omega) h2) hah hbh ma mb m6 m7 m8
    refine q.trans ?_
    rw [zput_put (by omega)]
    show nx R d (zput L 5 (n + 1)) S (h.1, h.2.1, zst 8 (zst 8 h.2.2 b (fun c => zcst c (dp + j) (zcv cs (sp + j)))) b (fun _ => zcpc cs sp dp k (j + 1) (zcst c (dp + j) (zcv cs (sp + j))))) = _
    rw [zst_st]
    rfl
theorem o_cpyL_some {nx : zK} {R : zRec} {d L : Nat} {S : List Nat} {h : zH} {q : List Nat × zH} (e : o_cpyL nx R d L S h = some q) : ∃ k, zUc nx k R d L S h = some q := by
  obtain ⟨a0, l0, k1⟩ := zpr_some e
  clear e
  obtain ⟨sp, l1, k2⟩ := zpr_some k1
  clear k1
  obtain ⟨b0, l2, k3⟩ := zpr_some k2
  clear k2
  obtain ⟨dp, l3, k4⟩ := zpr_some k3
  clear k3
  obtain ⟨n, l4, k5⟩ := zpr_some k4
  clear k4
  obtain ⟨j, l5, k6⟩ := zpr_some k5
  clear k5
  obtain ⟨hj, k7⟩ := zcond_some k6
  clear k6
  obtain ⟨hn, k8⟩ := zcond_some k7
  clear k7
  have hj := Nat.le_of_ble_eq_true hj
  have hn := Nat.le_of_ble_eq_true hn
  cases hab : Nat.beq a0 b0 with
  | true => rw [hab] at k8; cases k8
  | false =>
    rw [hab, cond_false] at k8
    obtain ⟨g1, g2, k9⟩ := zat_some k8
    clear k8
    obtain ⟨g3, g4, ka⟩ := zat_some k9
    clear k9
    obtain ⟨a, rfl⟩ : ∃ a, a0 = 4294967297 + a := ⟨a0 - 4294967297, by omega⟩
    obtain ⟨b, rfl⟩ : ∃ b, b0 = 4294967297 + b := ⟨b0 - 4294967297, by omega⟩
    rw [Nat.add_sub_cancel_left] at g2 g4
    rw [Nat.add_sub_cancel_left, Nat.add_sub_cancel_left] at ka
    have hne : a ≠ b := fun z => by
      subst z
      rw [Nat.beq_refl] at hab
      cases hab
    obtain ⟨c1, kb⟩ := zcond_some ka
    clear ka
    obtain ⟨c2, kc⟩ := zcond_some kb
    clear kb
    obtain ⟨c3, kd⟩ := zcond_some kc
    clear kc
    obtain ⟨c4, ke⟩ := zcond_some kd
    clear kd
    obtain ⟨c5, kf⟩ := zcond_some ke
    clear ke
    obtain ⟨c6, kg⟩ := zcond_some kf
    clear kf
    obtain ⟨c7, kh⟩ := zcond_some kg
    clear kg
    obtain ⟨ki, hval⟩ := zcp_some _ _ _ _ _ _ _ _ kh
    rw [zupdc_eq, zf_eq, Nat.add_sub_cancel_left] at ki
    have c1 := Nat.eq_of_beq_eq_true c1
    have c2 := Nat.eq_of_beq_eq_true c2
    have c3 : sp + n ≤ _ := Nat.le_of_ble_eq_true c3
    have c4 : dp + n ≤ _ := Nat.le_of_ble_eq_true c4
    have c5 := Nat.le_of_ble_eq_true c5
    have c6 := Nat.le_of_ble_eq_true c6
    have c7 := Nat.le_of_ble_eq_true c7
    have hsub : ∀ i, j ≤ i → i < n → zcv (zget 8 h.2.2 a) (sp + i) < 4294967296 := fun i h1 h2 => hval i h1 (by show i < j + (n - j); omega)
    refine ⟨n - j, ?_⟩
    rw [zUc_run hne (by omega) (by omega) hn c3 c1 c5 (n - j) j L h _ l0 l1 l2 l3 l4 l5 (by omega) hsub g2 g4 rfl rfl c2 c4 c6]
    exact ki
/-- the reference's memory becomes 0 -/
noncomputable def zUz (nx : zK) (k : Nat) : zK := Nat.rec (motive := fun _ => zK) (o_iload 1 (o_push 65536 (o_cmp z_ge nx o_none))) (fun _ u => o_iload 1 (o_push 65536 (o_cmp z_ge nx (o_aload 0 (o_getf 12 0 (o_push 0 (o_aald (o_iload 1 (o_push 0 (o_iast 100 (o_iinc 1 1 u))))))))))) k
noncomputable def o_zerL (nx : zK) : zK := fun R d L S h => zpr (zlane L 0) (fun o => zpr (zlane L 1) (fun i => cond (Nat.ble i 65536) (zat h o (fun co => zis 12 co 0 (zcget co 0 (fun m => zat h m (fun cm => zis 102 cm 0 (zcget cm 0 (fun r => zat h r (fun c => cond (Nat.beq (Prod.fst c) 100) (cond (Nat.beq (Prod.fst (Prod.snd c)) 65536) (cond (Nat.ble (Prod.fst h) 256) (zfl 0 (Nat.sub 65536 i) i c (fun c' => zupdc h r c' (fun h' => zf (zput L 1 65537) (fun L' => nx R d L' S h')))) none) none) none)))))))) none))
theorem zUz_run {nx : zK} {R : zRec} {d : Nat} {S : List Nat} {o m r : Nat} {co cm : zC} (ho : o < 256) (hm : m < 256) (hr : r < 256) (hor : o ≠ r) (hmr : m ≠ r) (c1 : co.1 = 12) (c2 : 0 < co.2.1) (c3 : zcv co 0 = 4294967297 + m) (c4 : cm.1 = 102) (c5 : 0 < cm.2.1) (c6 : zcv cm 0 = 4294967297 + r) (k : Nat) : ∀ (i L : Nat) (h : zH) (c : zC), zlane L 0 = 4294967297 + o + 1 → zlane L 1 = i + 1 → i + k = 65536 → o < h.1 → m < h.1 → r < h.1 → zget 8 h.2.2 o = co → zget 8 h.2.2 m = cm → zget 8 h.2.2 r = c → c.1 = 100 → c.2.1 = 65536 → zUz nx k R d L S h = nx R d (zput L 1 65537) S (h.1, h.2.1, zst 8 h.2.2 r (fun _ => zflc 0 k i c)) := by
  induction k with
  | zero =>
    intro i L h c l0 l1 hi hoh hmh hrh hco hcm hc h100 hle
    show o_iload 1 (o_push 65536 (o_cmp z_ge nx o_none)) R d L S h = _
    rw [e_iload l1 (by omega), e_push, e_cmp (by omega) (by omega), z_ge_t (by omega) (by omega), cond_true, zput_self (by rw [l1]; omega)]
    rw [zst_self _ 8 _ _ (show zget 8 h.2.2 r = zflc 0 0 i c from hc)]
  | succ k ih =>
    intro i L h c l0 l1 hi hoh hmh hrh hco hcm hc h100 hle
    show o_iload 1 (o_push 65536 (o_cmp z_ge nx (o_aload 0 (o_getf 12 0 (o_push 0 (o_aald (o_iload 1 (o_push 0 (o_iast 100 (o_iinc 1 1 (zUz nx k))))))))))) R d L S h = _
    rw [e_iload l1 (by omega), e_push, e_cmp (by omega) (by omega), z_ge_f (by omega) (by omega), cond_false, e_aload (v := 4294967297 + o) l0 (by omega), e_getf hoh hco c1 c2, c3, e_push, e_aald (by omega) hmh hcm c4 c5 c6 (by omega), e_iload l1 (by omega), e_push, e_iast (by omega) (by omega) hrh hc h100 (by omega), e_iinc l1 (by omega), show (i + 1) % 4294967296 = i + 1 by omega]
    have m0 : zlane (zput L 1 (i + 1 + 1)) 0 = 4294967297 + o + 1 := (zlane_ne (by omega) (by decide)).trans l0
    have m1 : zlane (zput L 1 (i + 1 + 1)) 1 = i + 1 + 1 := zlane_same (by omega)
    have mo : zget 8 (zst 8 h.2.2 r (fun c => zcst c i 0)) o = co := by
      rw [zget_st _ 8 h.2.2 r o (by show r < 256; exact hr) (by show o < 256; exact ho), if_neg (fun z => hor z.symm), hco]
    have mm : zget 8 (zst 8 h.2.2 r (fun c => zcst c i 0)) m = cm := by
      rw [zget_st _ 8 h.2.2 r m (by show r < 256; exact hr) (by show m < 256; exact hm), if_neg (fun z => hmr z.symm), hcm]
    have mr : zget 8 (zst 8 h.2.2 r (fun c => zcst c i 0)) r = zcst c i 0 := by
      rw [zget_st _ 8 h.2.2 r r (by show r < 256; exact hr) (by show r < 256; exact hr), if_pos rfl, hc]
    have q := ih (i + 1) (zput L 1 (i + 1 + 1)) (h.1, h.2.1, zst 8 h.2.2 r (fun c => zcst c i 0)) (zcst c i 0) m0 m1 (by omega) hoh hmh hrh mo mm mr ((zcst_1 c i 0).1.trans h100) ((zcst_1 c i 0).2.trans hle)
    refine q.trans ?_
    rw [zput_put (by omega)]
    show nx R d (zput L 1 65537) S (h.1, h.2.1, zst 8 (zst 8 h.2.2 r (fun c => zcst c i 0)) r (fun _ => zflc 0 k (i + 1) (zcst c i 0))) = _
    rw [zst_st]
    rfl
theorem o_zerL_some {nx : zK} {R : zRec} {d L : Nat} {S : List Nat} {h : zH} {q : List Nat × zH} (e : o_zerL nx R d L S h = some q) : ∃ k, zUz nx k R d L S h = some q := by
  obtain ⟨o0, l0, k1⟩ := zpr_some e
  clear e
  obtain ⟨i, l1, k2⟩ := zpr_some k1
  clear k1
  obtain ⟨hi, k3⟩ := zcond_some k2
  clear k2
  have hi := Nat.le_of_ble_eq_true hi
  obtain ⟨g1, g2, k4⟩ := zat_some k3
  clear k3
  obtain ⟨o, rfl⟩ : ∃ o, o0 = 4294967297 + o := ⟨o0 - 4294967297, by omega⟩
  rw [Nat.add_sub_cancel_left] at g2 k4
  obtain ⟨c1, c2, k5⟩ := zis_some k4
  clear k4
  rw [zcget_eq] at k5
  obtain ⟨g3, g4, k6⟩ := zat_some k5
  clear k5
  obtain ⟨m, hm⟩ : ∃ m, zcv (zget 8 h.2.2 o) 0 = 4294967297 + m := ⟨zcv (zget 8 h.2.2 o) 0 - 4294967297, by omega⟩
  rw [hm, Nat.add_sub_cancel_left] at g4 k6
  obtain ⟨c4, c5, k7⟩ := zis_some k6
  clear k6
  rw [zcget_eq] at k7
  obtain ⟨g5, g6, k8⟩ := zat_some k7
  clear k7
  obtain ⟨r, hr⟩ : ∃ r, zcv (zget 8 h.2.2 m) 0 = 4294967297 + r := ⟨zcv (zget 8 h.2.2 m) 0 - 4294967297, by omega⟩
  rw [hr, Nat.add_sub_cancel_left] at g6 k8
  obtain ⟨d1, k9⟩ := zcond_some k8
  clear k8
  obtain ⟨d2, ka⟩ := zcond_some k9
  clear k9
  obtain ⟨d3, kb⟩ := zcond_some ka
  clear ka
  rw [zfl_eq, zupdc_eq, zf_eq, Nat.add_sub_cancel_left] at kb
  have d1 := Nat.eq_of_beq_eq_true d1
  have d2 := Nat.eq_of_beq_eq_true d2
  have d3 := Nat.le_of_ble_eq_true d3
  have hor : o ≠ r := fun z => by
    subst z
    rw [c1] at d1
    cases d1
  have hmr : m ≠ r := fun z => by
    subst z
    rw [c4] at d1
    cases d1
  refine ⟨65536 - i, ?_⟩
  rw [zUz_run (by omega) (by omega) (by omega) hor hmr c1 c2 hm c4 c5 hr (65536 - i) i L h _ l0 l1 (by omega) g2 g4 g6 rfl rfl rfl d1 d2]
  exact kb
