section ZNest
variable {l : Launch} {D : va_G} {cl : List vw_C} {tc : Nat → ClassId} {tys : List (ClassId × FieldType)} {A : Nat → Prop} {E : State → (Nat → Nat) → Prop} {Tw : List Cond} {lab : Nat → zM × Nat} {M M2 : zM} {pc : Nat} {nx tg : zK}
/-- a nest mate's constructor -/
theorem s_callIN (hE : zEok A E) {lbl na index : Nat} {host : String} (hN : ∀ U f, E U f → va_Nw (.methodLinkNest M.1.cls index M2.1 host) U) (hm : lab lbl = (M2, 0)) (hy : plainName M2.1.cls = true) (hr : M2.2.2.2 = none) (hini2 : M2.1.name = "<init>") (hG : GoodIn Tw (Cond.code M2.1 M2.2.1 M2.2.2.1 M2.2.2.2 :: Tw)) (hini : Cond.initialized M2.1.cls ∈ Tw) (hst : Cond.instanceMethod M2.1 ∈ Tw) (hdd : M2.1.cls ≠ "java/lang/invoke/MethodHandle" ∧ M2.1.cls ≠ "java/lang/invoke/VarHandle" ∧ (parseMethodDescriptor M2.1.desc).map (fun d => d.parameters.length) = some na) (hna : na + 1 ≤ M2.2.2.1) (hL : M2.2.2.1 ≤ 31) (hd : decode M.2.1 pc = .ok (.invokespecial index, 3)) (hn : zS l D cl tc tys A E Tw lab M (pc + 3) nx) : zS l D cl tc tys A E Tw lab M pc (o_callI M.2.2.1 lbl (na + 1) nx) := by
  intro Rc hR
  obtain ⟨h1, h2⟩ := hn Rc hR
  refine ⟨?_, fun d L S h r h' hk => ?_⟩
  · intro d L S h r h' hk p e R s m args below meth c ad0 n0 s0 hA ad ls H locs cells slots hS hl
    obtain ⟨as, S', L', rfl, hlen, k1, hlane, hrest⟩ := zargs_some (na + 1) hk
    clear hk
    obtain ⟨r0, hr0, ka⟩ := zpr_some k1
    obtain ⟨g1, kb⟩ := zref_some ka
    obtain ⟨g2, kc⟩ := zcond_some kb
    obtain ⟨g3, kd⟩ := zcond_some kc
    clear k1 ka kb kc
    obtain ⟨hsh, k2⟩ := zshort_some kd
    obtain ⟨d', rfl, k3⟩ := zpr_some k2
    clear kd k2
    obtain ⟨r1, hh, k4, k7⟩ := zans_some k3
    clear k3
    have hmono := (hR lbl).2 d' L' [] h r1 hh k4
    have hmono2 := h2 _ _ _ _ _ _ k7
    have hM := zMet hR hm hy k4 (as := as) (by omega) hlane (fun i hi => by rw [hrest i (by omega), zlane_0]) hS.2.2.2.2.2.2.1 hS.2.2.2.2.2.2.2 ad H.size (fun q hq => hA.2.2.2.2.2.2.2.2.2.1 q (Nat.le_trans hS.2.2.1.1 hq))
    rw [hr] at hM hG
    obtain ⟨x1, x2, x3, x4, x5, x6, x7, x8, x9, x10, x11, x12, x13, x14, x15⟩ := hA
    obtain ⟨b1, b2, b3, b4, b5, b6, b7, b8⟩ := hS
    cases as with
    | nil => simp at hlen
    | cons a0 as =>
      have e0 : a0 = r0 := by
        have z := hlane 0 a0 rfl
        omega
      subst e0
      rw [List.map_cons, zv_ref ad g1] at hM
      refine z_afterA (va_runIN (host := host) (g := F0 m pc ls (((a0 :: as).reverse ++ S').map (zv ad))) (b := ad (a0 - 4294967297)) (As := as.map (zv ad)) (rest := S'.map (zv ad)) ⟨x1, x2, x3, x4, x5⟩ hM ⟨va_cnB na x5 hG rfl rfl rfl (hN s ad0 x15) (x5 _ hini) hdd ⟨by show d' + 1 ≤ R.frames; omega, by show 8 + (M2.2.2.1 + 11) + 50 * d' ≤ R.locals; omega⟩, hini2, x5 _ hst⟩ ⟨zblind hE, fun U hU hW => ⟨rfl, by rw [hU], by rw [hU]; exact b1, va_K.moved hW.alike x9, b2, hE.2.2 U ad0 ad (fun k hk => b4 k (Or.inr (Nat.le_trans b7 hk))) (hE.2.1 s U ad0 hW (by rw [hU]; exact b3.1) (fun q z1 z2 => by rw [hU]; exact b3.2.1 q z1 z2) x15)⟩⟩ rfl (by rw [List.length_map]; simpa using hlen) hl.1 (by show ((a0 :: as).reverse ++ S').map (zv ad) = _; rw [List.map_append, List.map_reverse, List.map_cons, List.reverse_cons, zv_ref ad g1, List.append_assoc]; rfl) (lv_room (by rw [zcat_sum]; exact hsh)) hd ⟨by omega, by omega⟩) ⟨b1, b2, b3, b4, b5, b6, b7, b8⟩ hmono (fun ad' H1 locs1 had hS1 => ?_)
      have q := h1 _ L (zapp r1 S') hh r h' k7 p e R s m args below meth c ad0 n0 s0 ⟨x1, x2, x3, x4, x5, x6, x7, x8, x9, x10, x11, x12, x13, x14, x15⟩ ad' ls H1 locs1 _ _ hS1 (zl_ck2 g2 had hl)
      rw [zapp_map, zS_ck2 g3 had] at q
      exact q
  · obtain ⟨as, S', L', rfl, hlen, k1, hlane, hrest⟩ := zargs_some (na + 1) hk
    clear hk
    obtain ⟨r0, hr0, ka⟩ := zpr_some k1
    obtain ⟨g1, kb⟩ := zref_some ka
    obtain ⟨g2, kc⟩ := zcond_some kb
    obtain ⟨g3, kd⟩ := zcond_some kc
    clear k1 ka kb kc
    obtain ⟨hsh, k2⟩ := zshort_some kd
    obtain ⟨d', rfl, k3⟩ := zpr_some k2
    clear kd k2
    obtain ⟨r1, hh, k4, k7⟩ := zans_some k3
    have hmono := (hR lbl).2 d' L' [] h r1 hh k4
    have hmono2 := h2 _ _ _ _ _ _ k7
    exact ⟨Nat.le_trans hmono.1 hmono2.1, Nat.le_trans hmono.2 hmono2.2⟩
/-- a nest mate's field written -/
theorem s_putN {ck : Nat → Bool} {g k N index : Nat} {C ref host : String} {T : u_T} {ty0 : Nat → FieldType} (hN : ∀ U f, E U f → va_Nw (.fieldLinkNest M.1.cls index ref (T k).2.1 (T k).2.2.1 host) U) (hck : ∀ (ad : Nat → Nat) (v : Nat), ck v = true → v < 17179869185 ∧ narrow (ty0 k) (zv ad v) = zv ad v ∧ fits (ty0 k) (zv ad v) = true) (hg : g < 100) (hc : cl[g]? = some (C, T, N)) (hin : ∀ w ∈ u_ws C T N, w ∈ Tw) (hty : ∀ k, k < N → parseFieldDescriptor (T k).2.2.1 = some (ty0 k)) (hnm : ∀ a, a < N → ∀ b, b < N → a ≠ b → (T a).2.1 ≠ (T b).2.1) (hkN : k < N) (hrf : (T k).1 = ref) (hfin : (T k).2.2.2 = false) (hd : decode M.2.1 pc = .ok (.putfield index, 3)) (hn : zS l D cl tc tys A E Tw lab M (pc + 3) nx) : zS l D cl tc tys A E Tw lab M pc (o_putf ck g k nx) := by
  intro Rc hR
  obtain ⟨h1, h2⟩ := hn Rc hR
  refine ⟨?_, fun d L S h r h' hk => ?_⟩
  · intro d L S h r h' hk p e R s m args below meth c ad0 n0 s0 hA ad ls H locs cells slots hS hl
    obtain ⟨v, S', rfl, k1⟩ := zpop_some hk
    clear hk
    have hk := k1
    clear k1
    cases hv : ck v with
    | false => rw [hv] at hk; cases hk
    | true =>
      rw [hv] at hk
      obtain ⟨c1, c2, c3⟩ := hck ad v hv
      obtain ⟨a, S'', rfl, k1⟩ := zpop_some hk
      obtain ⟨g1, g2, k2⟩ := zat_some k1
      clear hk k1
      have hk := k2
      clear k2
      obtain ⟨g3, g4, hk⟩ := zis_some hk
      rw [zupd_eq] at hk
      rw [List.map_cons, List.map_cons, zv_ref ad g1]
      have he : (zW ad tc h)[a - 4294967297]? = some (ad (a - 4294967297), .inr (g, (List.range (zget 8 h.2.2 (a - 4294967297)).2.1).map (fun i => zv ad (zcv (zget 8 h.2.2 (a - 4294967297)) i)))) := by
        rw [zW_get g2]
        unfold zE
        rw [if_pos (by rw [g3]; exact hg), g3]
      refine va_putN (host := host) (D := D) (ci := g) (v := zv ad v) (ty := ty0 k) (C := C) (T := T) (N := N) hA.1 hA.2.1 hA.2.2.2.2.1 hin ty0 hty hnm hA.2.2.2.1 hA.2.2.2.2.2.2.2.2.1 hS.1 hS.2.1 hS.2.2.1 _ he hc k hkN (va_Nw.use rfl (hN s ad0 hA.2.2.2.2.2.2.2.2.2.2.2.2.2.2)) (fun _ z => hrf ▸ z) hfin (hty k hkN) c2 c3 (by simpa using g4) hd (fun H1 locs1 hP hD hs => ?_)
      have eE := zE_obj (ad := ad) (tc := tc) (c := zget 8 h.2.2 (a - 4294967297)) (k := k) (v := v) (by rw [g3]; exact hg) g4 (hS.2.2.2.2.2.2.2 _ g2) c1
      rw [g3] at eE
      rw [← eE] at hP hD
      exact h1 d L S'' _ r h' hk p e R s m args below meth c ad0 n0 s0 hA ad ls H1 locs1 cells slots (zSt_put hS g2 hP hD hs) hl
  · obtain ⟨v, S', rfl, k1⟩ := zpop_some hk
    clear hk
    have hk := k1
    clear k1
    cases hv : ck v with
    | false => rw [hv] at hk; cases hk
    | true =>
      rw [hv] at hk
      obtain ⟨a, S'', rfl, k1⟩ := zpop_some hk
      obtain ⟨g1, g2, k2⟩ := zat_some k1
      clear hk k1
      have hk := k2
      clear k2
      obtain ⟨g3, g4, hk⟩ := zis_some hk
      rw [zupd_eq] at hk
      exact zMn_put h2 hk
end ZNest
