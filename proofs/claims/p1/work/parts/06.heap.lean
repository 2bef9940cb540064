theorem zat_some {β : Type} {h : zH} {r : Nat} {k : zC → Option β} {b : β} (e : zat h r k = some b) : 4294967296 < r ∧ r - 4294967297 < h.1 ∧ k (zget 8 h.2.2 (r - 4294967297)) = some b := by
  obtain ⟨h1, e⟩ := zref_some e
  obtain ⟨n, sl, t⟩ := h
  have e : cond (Nat.ble (4294967297 + n) r) none (k (zget 8 t (r - 4294967297))) = some b := e
  cases q : Nat.ble (4294967297 + n) r with
  | true => rw [q] at e; cases e
  | false =>
    rw [q] at e
    refine ⟨h1, ?_, e⟩
    show r - 4294967297 < n
    rcases Nat.lt_or_ge (r - 4294967297) n with z | z
    · exact z
    · rw [Nat.ble_eq_true_of_le (show 4294967297 + n ≤ r by omega)] at q; cases q
theorem zis_some {β : Type} {g : Nat} {c : zC} {i : Nat} {k : Option β} {b : β} (e : zis g c i k = some b) : c.1 = g ∧ i < c.2.1 ∧ k = some b := by
  have e : cond (Nat.beq c.1 g) (cond (Nat.ble c.2.1 i) none k) none = some b := e
  cases q : Nat.beq c.1 g with
  | false => rw [q] at e; cases e
  | true =>
    rw [q] at e
    have e : cond (Nat.ble c.2.1 i) none k = some b := e
    cases q2 : Nat.ble c.2.1 i with
    | true => rw [q2] at e; cases e
    | false =>
      rw [q2] at e
      refine ⟨Nat.eq_of_beq_eq_true q, ?_, e⟩
      rcases Nat.lt_or_ge i c.2.1 with z | z
      · exact z
      · rw [Nat.ble_eq_true_of_le z] at q2; cases q2
theorem zupd_eq {β : Type} (h : zH) (r i v : Nat) (k : zH → Option β) : zupd h r (fun c q => zcset c i v q) k = k (h.1, h.2.1, zst 8 h.2.2 (r - 4294967297) (fun c => zcst c i v)) := by
  obtain ⟨n, sl, t⟩ := h
  show zset 8 t (r - 4294967297) (fun c q => zcset c i v q) (fun t' => k (n, sl, t')) = _
  rw [zset_eq (g := fun c => zcst c i v) (fun a q => zcset_eq a i v q)]
theorem zcst_1 (c : zC) (i v : Nat) : (zcst c i v).1 = c.1 ∧ (zcst c i v).2.1 = c.2.1 := by
  unfold zcst
  cases Nat.ble c.2.1 512 <;> exact ⟨rfl, rfl⟩
/-- an object's field anew -/
theorem zE_obj {ad : Nat → Nat} {tc : Nat → ClassId} {c : zC} {k v : Nat} (hc : c.1 < 100) (hk : k < c.2.1) (hn : c.2.1 ≤ 65536) (hv : v < 17179869185) : zE ad tc (zcst c k v) = .inr (c.1, ((List.range c.2.1).map (fun i => zv ad (zcv c i))).set k (zv ad v)) := by
  obtain ⟨e1, e2⟩ := zcst_1 c k v
  unfold zE
  rw [if_pos (by rw [e1]; exact hc), e1, e2]
  congr 2
  apply List.ext_getElem?
  intro j
  by_cases hj : j < c.2.1
  · rw [List.getElem?_map, List.getElem?_range hj]
    show some (zv ad (zcv (zcst c k v) j)) = _
    rw [zcv_st hv hk hj hn]
    by_cases e : k = j
    · subst e
      rw [if_pos rfl, List.getElem?_set_self (by simpa using hk)]
    · rw [if_neg e, List.getElem?_set_ne e, List.getElem?_map, List.getElem?_range hj]
      rfl
  · rw [List.getElem?_eq_none (by simpa using hj), List.getElem?_eq_none (by simpa using hj)]
/-- an int array's place anew -/
theorem zE_arr {ad : Nat → Nat} {tc : Nat → ClassId} {c : zC} {k v : Nat} (hc : ¬ c.1 < 100) (hc2 : ¬ c.1 = 102) (hk : k < c.2.1) (hn : c.2.1 ≤ 65536) (hv : v < 17179869185) : zE ad tc (zcst c k v) = .inl (tc c.1, c.2.1, .inl (upd (fun j => if j < c.2.1 then nI (zcv c j) else 0) k (nI v))) := by
  obtain ⟨e1, e2⟩ := zcst_1 c k v
  unfold zE
  rw [if_neg (by rw [e1]; exact hc), if_neg (by rw [e1]; exact hc2), e1, e2]
  congr 4
  funext j
  unfold upd
  by_cases hj : j < c.2.1
  · rw [if_pos hj, zcv_st hv hk hj hn]
    by_cases e : k = j
    · rw [if_pos e, if_pos e.symm]
    · rw [if_neg e, if_neg (fun z => e z.symm)]
      exact (if_pos hj).symm
  · rw [if_neg hj, if_neg (fun z => hj (by omega))]
    exact (if_neg hj).symm
theorem zMn_put {k : Nat → Nat → List Nat → zH → zR} (hm : zMn k) {d L : Nat} {S : List Nat} {n sl : Nat} {t : zT zC 8} {r : List Nat} {h' : zH} (e : k d L S (n, sl, t) = some (r, h')) : n ≤ h'.1 ∧ sl ≤ h'.2.1 := hm d L S (n, sl, t) r h' e
section ZHeap
variable {l : Launch} {D : va_G} {cl : List vw_C} {tc : Nat → ClassId} {tys : List (ClassId × FieldType)} {A : Nat → Prop} {E : State → (Nat → Nat) → Prop} {Tw : List Cond} {lab : Nat → zM × Nat} {M : zM} {pc : Nat} {nx tg : zK}
theorem s_getf {g k N index : Nat} {C ref : String} {T : u_T} (hg : g < 100) (hc : cl[g]? = some (C, T, N)) (hin : ∀ w ∈ u_ws C T N, w ∈ Tw) (hkN : k < N) (hlink : Cond.fieldLink M.1.cls index ref (T k).2.1 (T k).2.2.1 ∈ Tw) (hrf : (T k).1 = ref) (hd : decode M.2.1 pc = .ok (.getfield index, 3)) (hn : zS l D cl tc tys A E Tw lab M (pc + 3) nx) : zS l D cl tc tys A E Tw lab M pc (o_getf g k nx) := by
  intro Rc hR
  obtain ⟨h1, h2⟩ := hn Rc hR
  refine ⟨?_, fun d L S h r h' hk => ?_⟩
  · intro d L S h r h' hk p e R s m args below meth c ad0 n0 s0 hA ad ls H locs cells slots hS hl
    obtain ⟨a, S', rfl, k1⟩ := zpop_some hk
    obtain ⟨g1, g2, k2⟩ := zat_some k1
    clear hk k1
    have hk := k2
    clear k2
    obtain ⟨g3, g4, hk⟩ := zis_some hk
    rw [zcget_eq] at hk
    rw [List.map_cons, zv_ref ad g1]
    have he : (zW ad tc h)[a - 4294967297]? = some (ad (a - 4294967297), .inr (g, (List.range (zget 8 h.2.2 (a - 4294967297)).2.1).map (fun i => zv ad (zcv (zget 8 h.2.2 (a - 4294967297)) i)))) := by
      rw [zW_get g2]
      unfold zE
      rw [if_pos (by rw [g3]; exact hg), g3]
    refine va_get (D := D) (ci := g) (v := zv ad (zcv (zget 8 h.2.2 (a - 4294967297)) k)) (C := C) (T := T) (N := N) hA.1 hA.2.1 hA.2.2.2.2.1 hin hA.2.2.2.1 hA.2.2.2.2.2.2.2.2.1 hS.1 _ he hc k hkN (hA.2.2.2.2.1 _ hlink) (fun _ z => hrf ▸ z) ?_ hd ?_
    · rw [List.getElem?_map, List.getElem?_range g4]
      rfl
    · exact h1 d L (_ :: S') h r h' hk p e R s m args below meth c ad0 n0 s0 hA ad ls H locs cells slots hS hl
  · obtain ⟨a, S', rfl, k1⟩ := zpop_some hk
    obtain ⟨g1, g2, k2⟩ := zat_some k1
    clear hk k1
    have hk := k2
    clear k2
    obtain ⟨g3, g4, hk⟩ := zis_some hk
    rw [zcget_eq] at hk
    exact h2 d L _ h r h' hk
/-- the state behind a write of one place -/
theorem zSt_put {s : State} {ad0 ad : Nat → Nat} {n0 s0 : Nat} {h : zH} {H H1 : Heap} {locs locs1 : List Loc} {cells slots q i v : Nat} (hS : zSt D cl tc s A ad0 n0 s0 ad h H locs cells slots) (hq : q < h.1) (hP : va_P D cl ((zW ad tc h).set q (ad q, zE ad tc (zcst (zget 8 h.2.2 q) i v))) H1) (hD : va_D A ((zW ad tc h).set q (ad q, zE ad tc (zcst (zget 8 h.2.2 q) i v)))) (hs : va_S A s.heap H1 locs1) : zSt D cl tc s A ad0 n0 s0 ad (h.1, h.2.1, zst 8 h.2.2 q (fun c => zcst c i v)) H1 locs1 cells slots := by
  obtain ⟨n, sl, t⟩ := h
  obtain ⟨a1, a2, a3, a4, a5, a6, a7, a8⟩ := hS
  have hq : q < n := hq
  have a7 : n ≤ 256 := a7
  have e := zW_set (ad := ad) (tc := tc) (sl := sl) (t := t) (g := fun c => zcst c i v) hq a7
  have hP : va_P D cl ((zW ad tc (n, sl, t)).set q (ad q, zE ad tc ((fun c => zcst c i v) (zget 8 t q)))) H1 := hP
  have hD : va_D A ((zW ad tc (n, sl, t)).set q (ad q, zE ad tc ((fun c => zcst c i v) (zget 8 t q)))) := hD
  rw [e] at hP hD
  refine ⟨hP, hD, hs, a4, a5, a6, a7, fun k hk => ?_⟩
  show (zget 8 (zst 8 t q (fun c => zcst c i v)) k).2.1 ≤ 65536
  have hk : k < n := hk
  rw [zget_st _ 8 t q k (by show q < 256; omega) (by show k < 256; omega)]
  have := a8 k hk
  by_cases z : q = k
  · rw [if_pos z]
    show (zcst (zget 8 t k) i v).2.1 ≤ 65536
    rw [(zcst_1 _ i v).2]
    exact this
  · rw [if_neg z]
    exact this
theorem s_putf {ck : Nat → Bool} {g k N index : Nat} {C ref : String} {T : u_T} {ty0 : Nat → FieldType} (hck : ∀ (ad : Nat → Nat) (v : Nat), ck v = true → v < 17179869185 ∧ narrow (ty0 k) (zv ad v) = zv ad v ∧ fits (ty0 k) (zv ad v) = true) (hg : g < 100) (hc : cl[g]? = some (C, T, N)) (hin : ∀ w ∈ u_ws C T N, w ∈ Tw) (hty : ∀ k, k < N → parseFieldDescriptor (T k).2.2.1 = some (ty0 k)) (hnm : ∀ a, a < N → ∀ b, b < N → a ≠ b → (T a).2.1 ≠ (T b).2.1) (hkN : k < N) (hlink : Cond.fieldLink M.1.cls index ref (T k).2.1 (T k).2.2.1 ∈ Tw) (hrf : (T k).1 = ref) (hfin : (T k).2.2.2 = false) (hd : decode M.2.1 pc = .ok (.putfield index, 3)) (hn : zS l D cl tc tys A E Tw lab M (pc + 3) nx) : zS l D cl tc tys A E Tw lab M pc (o_putf ck g k nx) := by
  intro Rc hR
  obtain ⟨h1, h2⟩ := hn Rc hR
  refine ⟨?_, fun d L S h r h' hk => ?_⟩
  · intro d L S h r h' hk p e R s m args below meth c ad0 n0 s0 hA ad ls H locs cells slots hS hl
    obtain ⟨v, S', rfl, k1⟩ := zpop_some hk
    clear hk
    have hk := k1
    clear k1
    cases hv : ck v with
    | false => rw [hv] at hk; cases hk
    | true =>
      rw [hv] at hk
      obtain ⟨c1, c2, c3⟩ := hck ad v hv
      obtain ⟨a, S'', rfl, k1⟩ := zpop_some hk
      obtain ⟨g1, g2, k2⟩ := zat_some k1
      clear hk k1
      have hk := k2
      clear k2
      obtain ⟨g3, g4, hk⟩ := zis_some hk
      rw [zupd_eq] at hk
      rw [List.map_cons, List.map_cons, zv_ref ad g1]
      have he : (zW ad tc h)[a - 4294967297]? = some (ad (a - 4294967297), .inr (g, (List.range (zget 8 h.2.2 (a - 4294967297)).2.1).map (fun i => zv ad (zcv (zget 8 h.2.2 (a - 4294967297)) i)))) := by
        rw [zW_get g2]
        unfold zE
        rw [if_pos (by rw [g3]; exact hg), g3]
      refine va_put (D := D) (ci := g) (v := zv ad v) (ty := ty0 k) (C := C) (T := T) (N := N) hA.1 hA.2.1 hA.2.2.2.2.1 hin ty0 hty hnm hA.2.2.2.1 hA.2.2.2.2.2.2.2.2.1 hS.1 hS.2.1 hS.2.2.1 _ he hc k hkN (hA.2.2.2.2.1 _ hlink) (fun _ z => hrf ▸ z) hfin (hty k hkN) c2 c3 (by simpa using g4) hd (fun H1 locs1 hP hD hs => ?_)
      have eE := zE_obj (ad := ad) (tc := tc) (c := zget 8 h.2.2 (a - 4294967297)) (k := k) (v := v) (by rw [g3]; exact hg) g4 (hS.2.2.2.2.2.2.2 _ g2) c1
      rw [g3] at eE
      rw [← eE] at hP hD
      exact h1 d L S'' _ r h' hk p e R s m args below meth c ad0 n0 s0 hA ad ls H1 locs1 cells slots (zSt_put hS g2 hP hD hs) hl
  · obtain ⟨v, S', rfl, k1⟩ := zpop_some hk
    clear hk
    have hk := k1
    clear k1
    cases hv : ck v with
    | false => rw [hv] at hk; cases hk
    | true =>
      rw [hv] at hk
      obtain ⟨a, S'', rfl, k1⟩ := zpop_some hk
      obtain ⟨g1, g2, k2⟩ := zat_some k1
      clear hk k1
      have hk := k2
      clear k2
      obtain ⟨g3, g4, hk⟩ := zis_some hk
      rw [zupd_eq] at hk
      exact zMn_put h2 hk
theorem s_iald {t0 g : Nat} (hg : ¬ g < 100) (hg2 : ¬ g = 102) (hty : tys[t0]? = some (tc g, .int)) (hd : decode M.2.1 pc = .ok (.iaload, 1)) (hn : zS l D cl tc tys A E Tw lab M (pc + 1) nx) : zS l D cl tc tys A E Tw lab M pc (o_iald g nx) := by
  intro Rc hR
  obtain ⟨h1, h2⟩ := hn Rc hR
  refine ⟨?_, fun d L S h r h' hk => ?_⟩
  · intro d L S h r h' hk p e R s m args below meth c ad0 n0 s0 hA ad ls H locs cells slots hS hl
    obtain ⟨i, S', rfl, k1⟩ := zpop_some hk
    obtain ⟨hi, k2⟩ := zint_some k1
    clear hk k1
    obtain ⟨a, S'', rfl, k3⟩ := zpop_some k2
    obtain ⟨g1, g2, k4⟩ := zat_some k3
    clear k2 k3
    obtain ⟨g3, g4, k5⟩ := zis_some k4
    clear k4
    rw [zcget_eq] at k5
    obtain ⟨hv, k6⟩ := zint_some k5
    clear k5
    rw [List.map_cons, List.map_cons, zv_ref ad g1, zv_int ad hi]
    have he : (zW ad tc h)[a - 4294967297]? = some (ad (a - 4294967297), .inl (tc g, (zget 8 h.2.2 (a - 4294967297)).2.1, .inl (fun j => if j < (zget 8 h.2.2 (a - 4294967297)).2.1 then nI (zcv (zget 8 h.2.2 (a - 4294967297)) j) else 0))) := by
      rw [zW_get g2]
      unfold zE
      rw [if_neg (by rw [g3]; exact hg), if_neg (by rw [g3]; exact hg2), g3]
    have hn2 := hS.2.2.2.2.2.2.2 _ g2
    refine va_iald hA.1 hA.2.1 hA.2.2.2.2.2.2.2.2.1 hS.1 _ t0 he hty (vp_in_nI g4 (by omega)) hd ?_
    rw [nI_clamp (show i < 2 ^ 31 by omega)]
    have q := h1 d L (_ :: S'') h r h' k6 p e R s m args below meth c ad0 n0 s0 hA ad ls H locs cells slots hS hl
    rw [List.map_cons, zv_int ad hv] at q
    show W p l e R s m args below meth c H locs cells slots _ (F0 m (pc + 1) ls (.int (if i < (zget 8 h.2.2 (a - 4294967297)).2.1 then nI (zcv (zget 8 h.2.2 (a - 4294967297)) i) else 0) :: _))
    rw [if_pos g4]
    exact q
  · obtain ⟨i, S', rfl, k1⟩ := zpop_some hk
    obtain ⟨hi, k2⟩ := zint_some k1
    clear hk k1
    obtain ⟨a, S'', rfl, k3⟩ := zpop_some k2
    obtain ⟨g1, g2, k4⟩ := zat_some k3
    clear k2 k3
    obtain ⟨g3, g4, k5⟩ := zis_some k4
    clear k4
    rw [zcget_eq] at k5
    obtain ⟨hv, k6⟩ := zint_some k5
    exact h2 d L _ h r h' k6
theorem s_iast {t0 g : Nat} (hg : ¬ g < 100) (hg2 : ¬ g = 102) (hty : tys[t0]? = some (tc g, .int)) (hd : decode M.2.1 pc = .ok (.iastore, 1)) (hn : zS l D cl tc tys A E Tw lab M (pc + 1) nx) : zS l D cl tc tys A E Tw lab M pc (o_iast g nx) := by
  intro Rc hR
  obtain ⟨h1, h2⟩ := hn Rc hR
  refine ⟨?_, fun d L S h r h' hk => ?_⟩
  · intro d L S h r h' hk p e R s m args below meth c ad0 n0 s0 hA ad ls H locs cells slots hS hl
    obtain ⟨v, S', rfl, k1⟩ := zpop_some hk
    obtain ⟨hv, k2⟩ := zint_some k1
    clear hk k1
    obtain ⟨i, S2, rfl, k3⟩ := zpop_some k2
    obtain ⟨hi, k4⟩ := zint_some k3
    clear k2 k3
    obtain ⟨a, S'', rfl, k5⟩ := zpop_some k4
    obtain ⟨g1, g2, k6⟩ := zat_some k5
    clear k4 k5
    obtain ⟨g3, g4, k7⟩ := zis_some k6
    clear k6
    rw [zupd_eq] at k7
    rw [List.map_cons, List.map_cons, List.map_cons, zv_ref ad g1, zv_int ad hi, zv_int ad hv]
    have he : (zW ad tc h)[a - 4294967297]? = some (ad (a - 4294967297), .inl (tc g, (zget 8 h.2.2 (a - 4294967297)).2.1, .inl (fun j => if j < (zget 8 h.2.2 (a - 4294967297)).2.1 then nI (zcv (zget 8 h.2.2 (a - 4294967297)) j) else 0))) := by
      rw [zW_get g2]
      unfold zE
      rw [if_neg (by rw [g3]; exact hg), if_neg (by rw [g3]; exact hg2), g3]
    have hn2 := hS.2.2.2.2.2.2.2 _ g2
    refine va_iast hA.1 hA.2.1 hA.2.2.2.2.2.2.2.2.1 hS.1 hS.2.1 hS.2.2.1 _ t0 he hty (vp_in_nI g4 (by omega)) hd (fun H1 locs1 hP hD hs => ?_)
    rw [nI_clamp (show i < 2 ^ 31 by omega)] at hP hD
    have eE := zE_arr (ad := ad) (tc := tc) (c := zget 8 h.2.2 (a - 4294967297)) (k := i) (v := v) (by rw [g3]; exact hg) (by rw [g3]; exact hg2) g4 hn2 (by omega)
    rw [g3] at eE
    rw [← eE] at hP hD
    exact h1 d L S'' _ r h' k7 p e R s m args below meth c ad0 n0 s0 hA ad ls H1 locs1 cells slots (zSt_put hS g2 hP hD hs) hl
  · obtain ⟨v, S', rfl, k1⟩ := zpop_some hk
    obtain ⟨hv, k2⟩ := zint_some k1
    clear hk k1
    obtain ⟨i, S2, rfl, k3⟩ := zpop_some k2
    obtain ⟨hi, k4⟩ := zint_some k3
    clear k2 k3
    obtain ⟨a, S'', rfl, k5⟩ := zpop_some k4
    obtain ⟨g1, g2, k6⟩ := zat_some k5
    clear k4 k5
    obtain ⟨g3, g4, k7⟩ := zis_some k6
    clear k6
    rw [zupd_eq] at k7
    exact zMn_put h2 k7
end ZHeap
