section ZCallN
variable {l : Launch} {D : va_G} {cl : List vw_C} {tc : Nat → ClassId} {tys : List (ClassId × FieldType)} {A : Nat → Prop} {E : State → (Nat → Nat) → Prop} {Tw : List Cond} {lab : Nat → zM × Nat} {M M2 : zM} {pc : Nat} {nx tg : zK}
theorem s_callSN (hE : zEok A E) {lbl na index : Nat} {host : String} (hN : ∀ U f, E U f → va_Nw (.methodLinkNest M.1.cls index M2.1 host) U) (hm : lab lbl = (M2, 0)) (hy : plainName M2.1.cls = true) (hG : GoodIn Tw (Cond.code M2.1 M2.2.1 M2.2.2.1 M2.2.2.2 :: Tw)) (hini : Cond.initialized M2.1.cls ∈ Tw) (hst : Cond.static M2.1 ∈ Tw) (hdd : M2.1.cls ≠ "java/lang/invoke/MethodHandle" ∧ M2.1.cls ≠ "java/lang/invoke/VarHandle" ∧ (parseMethodDescriptor M2.1.desc).map (fun d => d.parameters.length) = some na) (hna : na ≤ M2.2.2.1) (hL : M2.2.2.1 ≤ 31) (hd : decode M.2.1 pc = .ok (.invokestatic index, 3)) (hn : zS l D cl tc tys A E Tw lab M (pc + 3) nx) : zS l D cl tc tys A E Tw lab M pc (o_callS lbl na nx) := by
  intro Rc hR
  obtain ⟨h1, h2⟩ := hn Rc hR
  refine ⟨?_, fun d L S h r h' hk => ?_⟩
  · intro d L S h r h' hk p e R s m args below meth c ad0 n0 s0 hA ad ls H locs cells slots hS hl
    obtain ⟨as, S', L', rfl, hlen, k1, hlane, hrest⟩ := zargs_some na hk
    clear hk
    obtain ⟨hsh, k2⟩ := zshort_some k1
    obtain ⟨d', rfl, k3⟩ := zpr_some k2
    clear k1 k2
    obtain ⟨r1, hh, k4, k5⟩ := zans_some k3
    obtain ⟨k6, k7⟩ := zcond_some k5
    clear k3 k5
    have hsame := Nat.eq_of_beq_eq_true k6
    have hmono := (hR lbl).2 d' L' [] h r1 hh k4
    have hmono2 := h2 _ _ _ _ _ _ k7
    have hM := zMet hR hm hy k4 (as := as) (by omega) hlane (fun i hi => by rw [hrest i (by omega), zlane_0]) hS.2.2.2.2.2.2.1 hS.2.2.2.2.2.2.2 ad H.size (fun q hq => hA.2.2.2.2.2.2.2.2.2.1 q (Nat.le_trans hS.2.2.1.1 hq))
    obtain ⟨x1, x2, x3, x4, x5, x6, x7, x8, x9, x10, x11, x12, x13, x14, x15⟩ := hA
    obtain ⟨b1, b2, b3, b4, b5, b6, b7, b8⟩ := hS
    refine z_after (va_runSN (host := host) (g := F0 m pc ls ((as.reverse ++ S').map (zv ad))) (As := as.map (zv ad)) (rest := S'.map (zv ad)) ⟨x1, x2, x3, x4, x5⟩ hM ⟨va_cnB na x5 hG rfl rfl rfl (hN s ad0 x15) (x5 _ hini) hdd ⟨by show d' + 1 ≤ R.frames; omega, by show 8 + (M2.2.2.1 + 11) + 50 * d' ≤ R.locals; omega⟩, x5 _ hst, trivial⟩ ⟨zblind hE, fun U hU hW => ⟨rfl, by rw [hU], by rw [hU]; exact b1, va_K.moved hW.alike x9, b2, hE.2.2 U ad0 ad (fun k hk => b4 k (Or.inr (Nat.le_trans b7 hk))) (hE.2.1 s U ad0 hW (by rw [hU]; exact b3.1) (fun q z1 z2 => by rw [hU]; exact b3.2.1 q z1 z2) x15)⟩⟩ rfl (by rw [List.length_map]; exact hlen) hl.1 (by show (as.reverse ++ S').map (zv ad) = _; rw [List.map_append, List.map_reverse]) (lv_room (by rw [zcat_sum]; exact hsh)) hd ⟨by omega, by omega⟩) ⟨b1, b2, b3, b4, b5, b6, b7, b8⟩ hsame hmono.2 (fun H1 locs1 slots1 hS1 => ?_)
    have q := h1 _ L (zapp r1 S') hh r h' k7 p e R s m args below meth c ad0 n0 s0 ⟨x1, x2, x3, x4, x5, x6, x7, x8, x9, x10, x11, x12, x13, x14, x15⟩ ad ls H1 locs1 cells slots1 hS1 hl
    rw [zapp_map] at q
    exact q
  · obtain ⟨as, S', L', rfl, hlen, k1, hlane, hrest⟩ := zargs_some na hk
    clear hk
    obtain ⟨hsh, k2⟩ := zshort_some k1
    obtain ⟨d', rfl, k3⟩ := zpr_some k2
    clear k1 k2
    obtain ⟨r1, hh, k4, k5⟩ := zans_some k3
    obtain ⟨k6, k7⟩ := zcond_some k5
    have hmono := (hR lbl).2 d' L' [] h r1 hh k4
    have hmono2 := h2 _ _ _ _ _ _ k7
    exact ⟨Nat.le_trans hmono.1 hmono2.1, Nat.le_trans hmono.2 hmono2.2⟩
theorem s_callVN (hE : zEok A E) {g N lbl na index : Nat} {host : String} (hN : ∀ U f, E U f → va_Nw (.methodLinkNest M.1.cls index M2.1 host) U) {C : String} {T : u_T} (hg : g < 100) (hc : cl[g]? = some (C, T, N)) (hm : lab lbl = (M2, 0)) (hy : plainName M2.1.cls = true) (hG : GoodIn Tw (Cond.code M2.1 M2.2.1 M2.2.2.1 M2.2.2.2 :: Tw)) (hini : Cond.initialized M2.1.cls ∈ Tw) (hst : Cond.instanceMethod M2.1 ∈ Tw) (hsel : Cond.selects C M2.1 M2.1 ∈ Tw) (hdd : M2.1.cls ≠ "java/lang/invoke/MethodHandle" ∧ M2.1.cls ≠ "java/lang/invoke/VarHandle" ∧ (parseMethodDescriptor M2.1.desc).map (fun d => d.parameters.length) = some na) (hna : na + 1 ≤ M2.2.2.1) (hL : M2.2.2.1 ≤ 31) (hd : decode M.2.1 pc = .ok (.invokevirtual index, 3)) (hn : zS l D cl tc tys A E Tw lab M (pc + 3) nx) : zS l D cl tc tys A E Tw lab M pc (o_callV g lbl (na + 1) nx) := by
  intro Rc hR
  obtain ⟨h1, h2⟩ := hn Rc hR
  refine ⟨?_, fun d L S h r h' hk => ?_⟩
  · intro d L S h r h' hk p e R s m args below meth c ad0 n0 s0 hA ad ls H locs cells slots hS hl
    obtain ⟨as, S', L', rfl, hlen, k1, hlane, hrest⟩ := zargs_some (na + 1) hk
    clear hk
    obtain ⟨r0, hr0, ka⟩ := zpr_some k1
    obtain ⟨g1, g2, kb⟩ := zat_some ka
    obtain ⟨g3, kc⟩ := zcond_some kb
    have g3 := Nat.eq_of_beq_eq_true g3
    clear k1 ka kb
    obtain ⟨hsh, k2⟩ := zshort_some kc
    obtain ⟨d', rfl, k3⟩ := zpr_some k2
    clear kc k2
    obtain ⟨r1, hh, k4, k5⟩ := zans_some k3
    obtain ⟨k6, k7⟩ := zcond_some k5
    clear k3 k5
    have hsame := Nat.eq_of_beq_eq_true k6
    have hmono := (hR lbl).2 d' L' [] h r1 hh k4
    have hmono2 := h2 _ _ _ _ _ _ k7
    have hM := zMet hR hm hy k4 (as := as) (by omega) hlane (fun i hi => by rw [hrest i (by omega), zlane_0]) hS.2.2.2.2.2.2.1 hS.2.2.2.2.2.2.2 ad H.size (fun q hq => hA.2.2.2.2.2.2.2.2.2.1 q (Nat.le_trans hS.2.2.1.1 hq))
    obtain ⟨x1, x2, x3, x4, x5, x6, x7, x8, x9, x10, x11, x12, x13, x14, x15⟩ := hA
    obtain ⟨b1, b2, b3, b4, b5, b6, b7, b8⟩ := hS
    cases as with
    | nil => simp at hlen
    | cons a0 as =>
      have e0 : a0 = r0 := by
        have z := hlane 0 a0 rfl
        omega
      subst e0
      rw [List.map_cons, zv_ref ad g1] at hM
      have he : (zW ad tc h)[a0 - 4294967297]? = some (ad (a0 - 4294967297), .inr (g, (List.range (zget 8 h.2.2 (a0 - 4294967297)).2.1).map (fun i => zv ad (zcv (zget 8 h.2.2 (a0 - 4294967297)) i)))) := by
        rw [zW_get g2]
        unfold zE
        rw [if_pos (by rw [g3]; exact hg), g3]
      refine z_after (va_runVN (host := host) (g := F0 m pc ls (((a0 :: as).reverse ++ S').map (zv ad))) (C := C) (b := ad (a0 - 4294967297)) (As := as.map (zv ad)) (rest := S'.map (zv ad)) ⟨x1, x2, x3, x4, x5⟩ hM ⟨va_cnB na x5 hG rfl rfl rfl (hN s ad0 x15) (x5 _ hini) hdd ⟨by show d' + 1 ≤ R.frames; omega, by show 8 + (M2.2.2.1 + 11) + 50 * d' ≤ R.locals; omega⟩, x5 _ hst, x5 _ hsel⟩ ⟨zblind hE, va_recv x9 b1 hc he, fun U hU hW => ⟨rfl, by rw [hU], by rw [hU]; exact b1, va_K.moved hW.alike x9, b2, hE.2.2 U ad0 ad (fun k hk => b4 k (Or.inr (Nat.le_trans b7 hk))) (hE.2.1 s U ad0 hW (by rw [hU]; exact b3.1) (fun q z1 z2 => by rw [hU]; exact b3.2.1 q z1 z2) x15)⟩⟩ rfl (by rw [List.length_map]; simpa using hlen) hl.1 (by show ((a0 :: as).reverse ++ S').map (zv ad) = _; rw [List.map_append, List.map_reverse, List.map_cons, List.reverse_cons, zv_ref ad g1, List.append_assoc]; rfl) (lv_room (by rw [zcat_sum]; exact hsh)) hd ⟨by omega, by omega⟩) ⟨b1, b2, b3, b4, b5, b6, b7, b8⟩ hsame hmono.2 (fun H1 locs1 slots1 hS1 => ?_)
      have q := h1 _ L (zapp r1 S') hh r h' k7 p e R s m args below meth c ad0 n0 s0 ⟨x1, x2, x3, x4, x5, x6, x7, x8, x9, x10, x11, x12, x13, x14, x15⟩ ad ls H1 locs1 cells slots1 hS1 hl
      rw [zapp_map] at q
      exact q
  · obtain ⟨as, S', L', rfl, hlen, k1, hlane, hrest⟩ := zargs_some (na + 1) hk
    clear hk
    obtain ⟨r0, hr0, ka⟩ := zpr_some k1
    obtain ⟨g1, g2, kb⟩ := zat_some ka
    obtain ⟨g3, kc⟩ := zcond_some kb
    clear k1 ka kb
    obtain ⟨hsh, k2⟩ := zshort_some kc
    obtain ⟨d', rfl, k3⟩ := zpr_some k2
    clear kc k2
    obtain ⟨r1, hh, k4, k5⟩ := zans_some k3
    obtain ⟨k6, k7⟩ := zcond_some k5
    have hmono := (hR lbl).2 d' L' [] h r1 hh k4
    have hmono2 := h2 _ _ _ _ _ _ k7
    exact ⟨Nat.le_trans hmono.1 hmono2.1, Nat.le_trans hmono.2 hmono2.2⟩
theorem r_callSN (hE : zEok A E) (hT : zGd Tw) {lbl na index : Nat} {own host : String} {y : MethodName} (hm : lab lbl = (M2, 0)) (K : zCalS Tw M2 na) (hown : M.1.cls = own) (hy : M2.1 = y) (hN : ∀ U f, E U f → va_Nw (.methodLinkNest own index y host) U) (hd : decode M.2.1 pc = .ok (.invokestatic index, 3)) (hn : zS l D cl tc tys A E Tw lab M (pc + 3) nx) : zS l D cl tc tys A E Tw lab M pc (o_callS lbl na nx) :=
  s_callSN hE (fun U f h => by rw [hown, hy]; exact hN U f h) hm K.1 (zGd_in hT K.2.1) K.2.2.1 K.2.2.2.1 K.2.2.2.2.1 K.2.2.2.2.2.1 K.2.2.2.2.2.2 hd hn
theorem r_callVN (hE : zEok A E) (hT : zGd Tw) {g N lbl na index : Nat} {own host C : String} {T : u_T} {ty0 : Nat → FieldType} {y : MethodName} (KC : zKls cl Tw g C T N ty0) (hm : lab lbl = (M2, 0)) (K : zCalV Tw C M2 na) (hown : M.1.cls = own) (hy : M2.1 = y) (hN : ∀ U f, E U f → va_Nw (.methodLinkNest own index y host) U) (hd : decode M.2.1 pc = .ok (.invokevirtual index, 3)) (hn : zS l D cl tc tys A E Tw lab M (pc + 3) nx) : zS l D cl tc tys A E Tw lab M pc (o_callV g lbl (na + 1) nx) :=
  s_callVN hE (fun U f h => by rw [hown, hy]; exact hN U f h) KC.1 KC.2.1 hm K.1 (zGd_in hT K.2.1) K.2.2.1 K.2.2.2.1 K.2.2.2.2.1 K.2.2.2.2.2.1 K.2.2.2.2.2.2.1 K.2.2.2.2.2.2.2 hd hn
end ZCallN
