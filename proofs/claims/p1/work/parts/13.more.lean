section ZMore
variable {l : Launch} {D : va_G} {cl : List vw_C} {tc : Nat → ClassId} {tys : List (ClassId × FieldType)} {A : Nat → Prop} {E : State → (Nat → Nat) → Prop} {Tw : List Cond} {lab : Nat → zM × Nat} {M : zM} {pc : Nat} {nx tg : zK}
theorem s_ldc {v index : Nat} (hlt : v < 4294967296) (hc : Cond.constant M.1.cls index (nI v) ∈ Tw) (hd : decode M.2.1 pc = .ok (.ldc index, 2)) (hn : zS l D cl tc tys A E Tw lab M (pc + 2) nx) : zS l D cl tc tys A E Tw lab M pc (o_push v nx) := by
  intro Rc hR
  obtain ⟨h1, h2⟩ := hn Rc hR
  refine ⟨?_, fun d L S h r h' hk => h2 d L (v :: S) h r h' hk⟩
  intro d L S h r h' hk p e R s m args below meth c ad0 n0 s0 hA ad ls H locs cells slots hS hl
  refine lv_ldc hA.1 hA.2.1 hA.2.2.2.1 (hA.2.2.2.2.1 _ hc) hd ?_
  have q := h1 d L (v :: S) h r h' hk p e R s m args below meth c ad0 n0 s0 hA ad ls H locs cells slots hS hl
  rw [List.map_cons, zv_int ad hlt] at q
  exact q
theorem s_ldcw {v index : Nat} (hlt : v < 4294967296) (hc : Cond.constant M.1.cls index (nI v) ∈ Tw) (hd : decode M.2.1 pc = .ok (.ldc_w index, 3)) (hn : zS l D cl tc tys A E Tw lab M (pc + 3) nx) : zS l D cl tc tys A E Tw lab M pc (o_push v nx) := by
  intro Rc hR
  obtain ⟨h1, h2⟩ := hn Rc hR
  refine ⟨?_, fun d L S h r h' hk => h2 d L (v :: S) h r h' hk⟩
  intro d L S h r h' hk p e R s m args below meth c ad0 n0 s0 hA ad ls H locs cells slots hS hl
  refine lv_ldcw hA.1 hA.2.1 hA.2.2.2.1 (hA.2.2.2.2.1 _ hc) hd ?_
  have q := h1 d L (v :: S) h r h' hk p e R s m args below meth c ad0 n0 s0 hA ad ls H locs cells slots hS hl
  rw [List.map_cons, zv_int ad hlt] at q
  exact q
/-- a final field, in a constructor -/
theorem s_putF {ck : Nat → Bool} {g k N index : Nat} {C ref : String} {T : u_T} {ty0 : Nat → FieldType} (hck : ∀ (ad : Nat → Nat) (v : Nat), ck v = true → v < 17179869185 ∧ narrow (ty0 k) (zv ad v) = zv ad v ∧ fits (ty0 k) (zv ad v) = true) (hg : g < 100) (hc : cl[g]? = some (C, T, N)) (hin : ∀ w ∈ u_ws C T N, w ∈ Tw) (hty : ∀ k, k < N → parseFieldDescriptor (T k).2.2.1 = some (ty0 k)) (hnm : ∀ a, a < N → ∀ b, b < N → a ≠ b → (T a).2.1 ≠ (T b).2.1) (hkN : k < N) (hlink : Cond.fieldLink M.1.cls index ref (T k).2.1 (T k).2.2.1 ∈ Tw) (hrf : (T k).1 = ref) (hfin : (T k).2.2.2 = true) (hini : M.1.name = "<init>") (hdecl : (T k).1 = M.1.cls) (hd : decode M.2.1 pc = .ok (.putfield index, 3)) (hn : zS l D cl tc tys A E Tw lab M (pc + 3) nx) : zS l D cl tc tys A E Tw lab M pc (o_putf ck g k nx) := by
  intro Rc hR
  obtain ⟨h1, h2⟩ := hn Rc hR
  refine ⟨?_, fun d L S h r h' hk => ?_⟩
  · intro d L S h r h' hk p e R s m args below meth c ad0 n0 s0 hA ad ls H locs cells slots hS hl
    obtain ⟨v, S', rfl, k1⟩ := zpop_some hk
    clear hk
    cases hv : ck v with
    | false => rw [hv] at k1; cases k1
    | true =>
      rw [hv] at k1
      obtain ⟨c1, c2, c3⟩ := hck ad v hv
      obtain ⟨a, S'', rfl, k2⟩ := zpop_some k1
      clear k1
      obtain ⟨g1, g2, k3⟩ := zat_some k2
      clear k2
      obtain ⟨g3, g4, hk⟩ := zis_some k3
      clear k3
      rw [zupd_eq] at hk
      rw [List.map_cons, List.map_cons, zv_ref ad g1]
      have he : (zW ad tc h)[a - 4294967297]? = some (ad (a - 4294967297), .inr (g, (List.range (zget 8 h.2.2 (a - 4294967297)).2.1).map (fun i => zv ad (zcv (zget 8 h.2.2 (a - 4294967297)) i)))) := by
        rw [zW_get g2]
        unfold zE
        rw [if_pos (by rw [g3]; exact hg), g3]
      refine va_putF (D := D) (ci := g) (v := zv ad v) (ty := ty0 k) (C := C) (T := T) (N := N) hA.1 hA.2.1 hA.2.2.2.2.1 hin ty0 hty hnm hA.2.2.2.1 hA.2.2.2.2.2.2.2.2.1 hS.1 hS.2.1 hS.2.2.1 _ he hc k hkN (hA.2.2.2.2.1 _ hlink) (fun _ z => hrf ▸ z) hfin (hA.2.2.2.2.2.2.2.1.trans hini) hdecl (hty k hkN) c2 c3 (by simpa using g4) hd (fun H1 locs1 hP hD hs => ?_)
      have eE := zE_obj (ad := ad) (tc := tc) (c := zget 8 h.2.2 (a - 4294967297)) (k := k) (v := v) (by rw [g3]; exact hg) g4 (hS.2.2.2.2.2.2.2 _ g2) c1
      rw [g3] at eE
      rw [← eE] at hP hD
      exact h1 d L S'' _ r h' hk p e R s m args below meth c ad0 n0 s0 hA ad ls H1 locs1 cells slots (zSt_put hS g2 hP hD hs) hl
  · obtain ⟨v, S', rfl, k1⟩ := zpop_some hk
    clear hk
    cases hv : ck v with
    | false => rw [hv] at k1; cases k1
    | true =>
      rw [hv] at k1
      obtain ⟨a, S'', rfl, k2⟩ := zpop_some k1
      clear k1
      obtain ⟨g1, g2, k3⟩ := zat_some k2
      clear k2
      obtain ⟨g3, g4, hk⟩ := zis_some k3
      rw [zupd_eq] at hk
      exact zMn_put h2 hk
/-- a nest mate's field -/
theorem s_getN {g k N index : Nat} {C ref host : String} {T : u_T} (hE : ∀ U f, E U f → va_Nw (.fieldLinkNest M.1.cls index ref (T k).2.1 (T k).2.2.1 host) U) (hg : g < 100) (hc : cl[g]? = some (C, T, N)) (hin : ∀ w ∈ u_ws C T N, w ∈ Tw) (hkN : k < N) (hrf : (T k).1 = ref) (hd : decode M.2.1 pc = .ok (.getfield index, 3)) (hn : zS l D cl tc tys A E Tw lab M (pc + 3) nx) : zS l D cl tc tys A E Tw lab M pc (o_getf g k nx) := by
  intro Rc hR
  obtain ⟨h1, h2⟩ := hn Rc hR
  refine ⟨?_, fun d L S h r h' hk => ?_⟩
  · intro d L S h r h' hk p e R s m args below meth c ad0 n0 s0 hA ad ls H locs cells slots hS hl
    obtain ⟨a, S', rfl, k1⟩ := zpop_some hk
    clear hk
    obtain ⟨g1, g2, k2⟩ := zat_some k1
    clear k1
    obtain ⟨g3, g4, hk⟩ := zis_some k2
    rw [zcget_eq] at hk
    rw [List.map_cons, zv_ref ad g1]
    have he : (zW ad tc h)[a - 4294967297]? = some (ad (a - 4294967297), .inr (g, (List.range (zget 8 h.2.2 (a - 4294967297)).2.1).map (fun i => zv ad (zcv (zget 8 h.2.2 (a - 4294967297)) i)))) := by
      rw [zW_get g2]
      unfold zE
      rw [if_pos (by rw [g3]; exact hg), g3]
    refine va_getN (D := D) (ci := g) (v := zv ad (zcv (zget 8 h.2.2 (a - 4294967297)) k)) (C := C) (T := T) (N := N) hA.1 hA.2.1 hA.2.2.2.2.1 hin hA.2.2.2.1 hA.2.2.2.2.2.2.2.2.1 hS.1 _ he hc k hkN (va_Nw.use rfl (hE s ad0 hA.2.2.2.2.2.2.2.2.2.2.2.2.2.2)) (fun _ z => hrf ▸ z) ?_ hd ?_
    · rw [List.getElem?_map, List.getElem?_range g4]
      rfl
    · exact h1 d L (_ :: S') h r h' hk p e R s m args below meth c ad0 n0 s0 hA ad ls H locs cells slots hS hl
  · obtain ⟨a, S', rfl, k1⟩ := zpop_some hk
    clear hk
    obtain ⟨g1, g2, k2⟩ := zat_some k1
    clear k1
    obtain ⟨g3, g4, hk⟩ := zis_some k2
    rw [zcget_eq] at hk
    exact h2 d L _ h r h' hk
end ZMore
