theorem zv_ck2 {ad ad' : Nat → Nat} {n x : Nat} (h : zck n x = true) (ha : ∀ k, k < n ∨ 256 ≤ k → ad' k = ad k) : zv ad' x = zv ad x := by
  unfold zv
  split
  · rfl
  · split
    · rfl
    · have := zck_of h
      rw [ha _ (by omega)]
theorem zS_ck2 {ad ad' : Nat → Nat} {n : Nat} {S : List Nat} (h : zckS n S = true) (ha : ∀ k, k < n ∨ 256 ≤ k → ad' k = ad k) : S.map (zv ad') = S.map (zv ad) := List.map_congr_left fun x hx => zv_ck2 (zckS_get h x hx) ha
theorem zl_ck2 {ad ad' : Nat → Nat} {n L nL : Nat} {ls : Array Slot} (h : zckL n L nL = true) (ha : ∀ k, k < n ∨ 256 ≤ k → ad' k = ad k) (hl : lv_has ls nL (zl ad L nL)) : lv_has ls nL (zl ad' L nL) := by
  refine lv_has_sub hl (fun q hq => ?_)
  obtain ⟨i, v, hi, hz, rfl⟩ := zl_mem.mp hq
  have hc : zck n (Nat.pred (zlane L i)) = true := zall_get h i hi
  rw [hz] at hc
  have hc : zck n v = true := hc
  rw [zv_ck2 hc ha]
  exact zl_mem.mpr ⟨i, v, hi, hz, rfl⟩
section ZCtor
variable {l : Launch} {D : va_G} {cl : List vw_C} {tc : Nat → ClassId} {tys : List (ClassId × FieldType)} {A : Nat → Prop} {E : State → (Nat → Nat) → Prop} {Tw : List Cond} {lab : Nat → zM × Nat} {M M2 : zM} {pc : Nat} {nx tg : zK}
/-- behind a call that may have made cells -/
theorem z_afterA {p : Program} {e : Env} {R : Room} {s : State} {m : MethodId} {args av : Array Value} {below : List Frame} {meth : Method} {c : Code} {ad0 ad : Nat → Nat} {n0 s0 : Nat} {h h1 : zH} {H : Heap} {locs : List Loc} {cells slots : Nat} {r : List Nat} {ls : Array Slot} {st0 rest : List Value} {Q : State → Prop}
    (hr : va_Run p l e R s m args below meth c H locs cells slots (h1.1 - h.1) (h1.2.1 - h.2.1) (F0 m pc ls st0) rest (zQ D cl tc tys r h1 ad h.1 A av) A)
    (hS : zSt D cl tc s A ad0 n0 s0 ad h H locs cells slots) (hmono : h.1 ≤ h1.1 ∧ h.2.1 ≤ h1.2.1)
    (kk : ∀ (ad' : Nat → Nat) (H1 : Heap) (locs1 : List Loc), (∀ k, k < h.1 ∨ 256 ≤ k → ad' k = ad k) → zSt D cl tc s A ad0 n0 s0 ad' h1 H1 locs1 (cells + (h1.1 - h.1)) (slots + (h1.2.1 - h.2.1)) → W p l e R s m args below meth c H1 locs1 (cells + (h1.1 - h.1)) (slots + (h1.2.1 - h.2.1)) Q (F0 m (pc + 3) ls ((r.head?.map (zv ad')).toList ++ rest))) : W p l e R s m args below meth c H locs cells slots Q (F0 m pc ls st0) := by
  intro T hT X
  obtain ⟨v, st₀, t, T', L, h0, X', hL, e1, e2, ⟨⟨ad', q1, q2, q3, q4, q5, q6, q7⟩, hz, hkp⟩, st⟩ := hr T hT X
  obtain ⟨b1, b2, b3, b4, b5, b6, b7, b8⟩ := hS
  rw [h0] at hz hkp
  have hv : v = r.head?.map (zv ad') := by cases q2; rfl
  subst hv
  obtain ⟨t2, a1, a2⟩ := kk ad' T'.heap (locs ++ L) (fun k hk => q1 k (by omega)) ⟨by rw [e1]; exact q3, q5, ⟨Nat.le_trans b3.1 (by rw [e1]; exact hz), fun q z1 z2 => by rw [e1, hkp q (Nat.lt_of_lt_of_le z1 b3.1) z2]; exact b3.2.1 q z1 z2, fun q hq => by
      rcases List.mem_append.mp hq with z | z
      · exact b3.2.2 q z
      · exact hL q z⟩, fun k hk => by rw [q1 k (by omega)]; exact b4 k (by omega), by omega, by omega, q6, q7⟩ T' rfl X'
  exact ⟨t2, st t2 a1, a2⟩
theorem s_callI (hE : zEok A E) {lbl na index : Nat} (hm : lab lbl = (M2, 0)) (hy : plainName M2.1.cls = true) (hr : M2.2.2.2 = none) (hini2 : M2.1.name = "<init>") (hG : GoodIn Tw (Cond.code M2.1 M2.2.1 M2.2.2.1 M2.2.2.2 :: Tw)) (hini : Cond.initialized M2.1.cls ∈ Tw) (hlink : Cond.methodLink M.1.cls index M2.1 ∈ Tw) (hst : Cond.instanceMethod M2.1 ∈ Tw) (hdd : M2.1.cls ≠ "java/lang/invoke/MethodHandle" ∧ M2.1.cls ≠ "java/lang/invoke/VarHandle" ∧ (parseMethodDescriptor M2.1.desc).map (fun d => d.parameters.length) = some na) (hna : na + 1 ≤ M2.2.2.1) (hL : M2.2.2.1 ≤ 31) (hd : decode M.2.1 pc = .ok (.invokespecial index, 3)) (hn : zS l D cl tc tys A E Tw lab M (pc + 3) nx) : zS l D cl tc tys A E Tw lab M pc (o_callI M.2.2.1 lbl (na + 1) nx) := by
  intro Rc hR
  obtain ⟨h1, h2⟩ := hn Rc hR
  refine ⟨?_, fun d L S h r h' hk => ?_⟩
  · intro d L S h r h' hk p e R s m args below meth c ad0 n0 s0 hA ad ls H locs cells slots hS hl
    obtain ⟨as, S', L', rfl, hlen, k1, hlane, hrest⟩ := zargs_some (na + 1) hk
    clear hk
    obtain ⟨r0, hr0, ka⟩ := zpr_some k1
    obtain ⟨g1, kb⟩ := zref_some ka
    obtain ⟨g2, kc⟩ := zcond_some kb
    obtain ⟨g3, kd⟩ := zcond_some kc
    clear k1 ka kb kc
    obtain ⟨hsh, k2⟩ := zshort_some kd
    obtain ⟨d', rfl, k3⟩ := zpr_some k2
    clear kd k2
    obtain ⟨r1, hh, k4, k7⟩ := zans_some k3
    clear k3
    have hmono := (hR lbl).2 d' L' [] h r1 hh k4
    have hmono2 := h2 _ _ _ _ _ _ k7
    have hM := zMet hR hm hy k4 (as := as) (by omega) hlane (fun i hi => by rw [hrest i (by omega), zlane_0]) hS.2.2.2.2.2.2.1 hS.2.2.2.2.2.2.2 ad H.size (fun q hq => hA.2.2.2.2.2.2.2.2.2.1 q (Nat.le_trans hS.2.2.1.1 hq))
    rw [hr] at hM hG
    obtain ⟨x1, x2, x3, x4, x5, x6, x7, x8, x9, x10, x11, x12, x13, x14, x15⟩ := hA
    obtain ⟨b1, b2, b3, b4, b5, b6, b7, b8⟩ := hS
    cases as with
    | nil => simp at hlen
    | cons a0 as =>
      have e0 : a0 = r0 := by
        have z := hlane 0 a0 rfl
        omega
      subst e0
      rw [List.map_cons, zv_ref ad g1] at hM
      refine z_afterA (va_runI (g := F0 m pc ls (((a0 :: as).reverse ++ S').map (zv ad))) (b := ad (a0 - 4294967297)) (As := as.map (zv ad)) (rest := S'.map (zv ad)) ⟨x1, x2, x3, x4, x5⟩ hM ⟨callB_of na x5 hG rfl rfl rfl (x5 _ hini) (x5 _ hlink) hdd ⟨by show d' + 1 ≤ R.frames; omega, by show 8 + (M2.2.2.1 + 11) + 50 * d' ≤ R.locals; omega⟩, hini2, x5 _ hst⟩ ⟨zblind hE, fun U hU hW => ⟨rfl, by rw [hU], by rw [hU]; exact b1, va_K.moved hW.alike x9, b2, hE.2.2 U ad0 ad (fun k hk => b4 k (Or.inr (Nat.le_trans b7 hk))) (hE.2.1 s U ad0 hW (by rw [hU]; exact b3.1) (fun q z1 z2 => by rw [hU]; exact b3.2.1 q z1 z2) x15)⟩⟩ rfl (by rw [List.length_map]; simpa using hlen) hl.1 (by show ((a0 :: as).reverse ++ S').map (zv ad) = _; rw [List.map_append, List.map_reverse, List.map_cons, List.reverse_cons, zv_ref ad g1, List.append_assoc]; rfl) (lv_room (by rw [zcat_sum]; exact hsh)) hd ⟨by omega, by omega⟩) ⟨b1, b2, b3, b4, b5, b6, b7, b8⟩ hmono (fun ad' H1 locs1 had hS1 => ?_)
      have q := h1 _ L (zapp r1 S') hh r h' k7 p e R s m args below meth c ad0 n0 s0 ⟨x1, x2, x3, x4, x5, x6, x7, x8, x9, x10, x11, x12, x13, x14, x15⟩ ad' ls H1 locs1 _ _ hS1 (zl_ck2 g2 had hl)
      rw [zapp_map, zS_ck2 g3 had] at q
      exact q
  · obtain ⟨as, S', L', rfl, hlen, k1, hlane, hrest⟩ := zargs_some (na + 1) hk
    clear hk
    obtain ⟨r0, hr0, ka⟩ := zpr_some k1
    obtain ⟨g1, kb⟩ := zref_some ka
    obtain ⟨g2, kc⟩ := zcond_some kb
    obtain ⟨g3, kd⟩ := zcond_some kc
    clear k1 ka kb kc
    obtain ⟨hsh, k2⟩ := zshort_some kd
    obtain ⟨d', rfl, k3⟩ := zpr_some k2
    clear kd k2
    obtain ⟨r1, hh, k4, k7⟩ := zans_some k3
    have hmono := (hR lbl).2 d' L' [] h r1 hh k4
    have hmono2 := h2 _ _ _ _ _ _ k7
    exact ⟨Nat.le_trans hmono.1 hmono2.1, Nat.le_trans hmono.2 hmono2.2⟩
end ZCtor
