theorem znew_some {β : Type} {nL L : Nat} {S : List Nat} {h : zH} {c : zC} {k : Nat → zH → Option β} {b : β} (e : znew nL L S h c k = some b) : h.1 < 256 ∧ zckL h.1 L nL = true ∧ zckS h.1 S = true ∧ zckH h.1 h.2.2 = true ∧ k (4294967297 + h.1) (h.1 + 1, h.2.1 + c.2.1, zst 8 h.2.2 h.1 (fun _ => c)) = some b := by
  obtain ⟨n, sl, t⟩ := h
  have e : cond (Nat.ble 256 n) none (cond (zckL n L nL) (cond (zckS n S) (cond (zckH n t) (zset 8 t n (fun _ q => q c) (fun t' => zf (sl + c.2.1) (fun sl' => zf (n + 1) (fun n' => k (4294967297 + n) (n', sl', t'))))) none) none) none) = some b := e
  cases q : Nat.ble 256 n with
  | true => rw [q] at e; cases e
  | false =>
    rw [q] at e
    have e : cond (zckL n L nL) (cond (zckS n S) (cond (zckH n t) (zset 8 t n (fun _ q => q c) (fun t' => zf (sl + c.2.1) (fun sl' => zf (n + 1) (fun n' => k (4294967297 + n) (n', sl', t'))))) none) none) none = some b := e
    obtain ⟨e1, e⟩ := zcond_some e
    obtain ⟨e2, e⟩ := zcond_some e
    obtain ⟨e3, e⟩ := zcond_some e
    rw [zset_eq (g := fun _ => c) (fun _ _ => rfl), zf_eq, zf_eq] at e
    refine ⟨?_, e1, e2, e3, e⟩
    show n < 256
    rcases Nat.lt_or_ge n 256 with z | z
    · exact z
    · rw [Nat.ble_eq_true_of_le z] at q; cases q
theorem zE_new {ad : Nat → Nat} {tc : Nat → ClassId} {c : zC} (hg : c.1 < 100) (hs : ∀ j, j < c.2.1 → zcv c j ≤ 4294967296) : zE ad tc c = .inr (c.1, (List.range c.2.1).map (fun i => zv (fun _ => 0) (zcv c i))) := by
  unfold zE
  rw [if_pos hg]
  congr 2
  refine List.map_congr_left fun i hi => ?_
  have := hs i (List.mem_range.mp hi)
  unfold zv
  by_cases z : zcv c i < 4294967296
  · rw [if_pos z, if_pos z]
  · rw [if_neg z, if_neg z, if_pos (by omega), if_pos (by omega)]
section ZNew
variable {l : Launch} {D : va_G} {cl : List vw_C} {tc : Nat → ClassId} {tys : List (ClassId × FieldType)} {A : Nat → Prop} {E : State → (Nat → Nat) → Prop} {Tw : List Cond} {lab : Nat → zM × Nat} {M : zM} {pc : Nat} {nx tg : zK}
/-- the state with a new cell -/
theorem zSt_new {s : State} {ad0 ad : Nat → Nat} {n0 s0 : Nat} {h : zH} {H H1 : Heap} {locs locs1 : List Loc} {cells slots q : Nat} {c : zC} (hS : zSt D cl tc s A ad0 n0 s0 ad h H locs cells slots) (hn : h.1 < 256) (hc : c.2.1 ≤ 65536) (hH : zckH h.1 h.2.2 = true) (hP : va_P D cl (zW ad tc h ++ [(q, zE (fun k => if k = h.1 then q else ad k) tc c)]) H1) (hD : va_D A (zW ad tc h ++ [(q, zE (fun k => if k = h.1 then q else ad k) tc c)])) (hs : va_S A s.heap H1 locs1) : zSt D cl tc s A ad0 n0 s0 (fun k => if k = h.1 then q else ad k) (h.1 + 1, h.2.1 + c.2.1, zst 8 h.2.2 h.1 (fun _ => c)) H1 locs1 (cells + 1) (slots + c.2.1) := by
  obtain ⟨n, sl, t⟩ := h
  obtain ⟨a1, a2, a3, a4, a5, a6, a7, a8⟩ := hS
  have hn : n < 256 := hn
  have e := zW_new (ad := ad) (ad' := fun k => if k = n then q else ad k) (tc := tc) (sl := sl) (sl' := sl + c.2.1) (t := t) (c := c) hn hH (fun k hk => if_neg hk)
  rw [show (if n = n then q else ad n) = q from if_pos rfl] at e
  have hP : va_P D cl (zW ad tc (n, sl, t) ++ [(q, zE (fun k => if k = n then q else ad k) tc c)]) H1 := hP
  have hD : va_D A (zW ad tc (n, sl, t) ++ [(q, zE (fun k => if k = n then q else ad k) tc c)]) := hD
  rw [← e] at hP hD
  have a5 : n = n0 + cells := a5
  have a6 : sl = s0 + slots := a6
  refine ⟨hP, hD, hs, fun k hk => ?_, ?_, ?_, ?_, fun k hk => ?_⟩
  · have hk : k < n0 ∨ n + 1 ≤ k := hk
    show (if k = n then q else ad k) = ad0 k
    rw [if_neg (by omega)]
    exact a4 k (by show k < n0 ∨ n ≤ k; omega)
  · show n + 1 = n0 + (cells + 1); omega
  · show sl + c.2.1 = s0 + (slots + c.2.1); omega
  · show n + 1 ≤ 256; omega
  · have hk : k < n + 1 := hk
    show (zget 8 (zst 8 t n (fun _ => c)) k).2.1 ≤ 65536
    rw [zget_st _ 8 t n k (by show n < 256; omega) (by show k < 256; omega)]
    by_cases z : n = k
    · rw [if_pos z]; exact hc
    · rw [if_neg z]; exact a8 k (by show k < n; omega)
theorem s_new {index N : Nat} {C : String} {T : u_T} {ty0 : Nat → FieldType} {c : zC} (hg : c.1 < 100) (hN : c.2.1 = N) (hN2 : N ≤ 65536) (hs : ∀ j, j < N → zcv c j ≤ 4294967296) (hdef : ∀ j, j < N → defaultValue (ty0 j) = zv (fun _ => 0) (zcv c j)) (hc : cl[c.1]? = some (C, T, N)) (hin : ∀ w ∈ u_ws C T N, w ∈ Tw) (hty : ∀ k, k < N → parseFieldDescriptor (T k).2.2.1 = some (ty0 k)) (hlink : Cond.classLink M.1.cls index C ∈ Tw) (hinst : Cond.instantiable C N ∈ Tw) (hini : Cond.initialized C ∈ Tw) (hd : decode M.2.1 pc = .ok (.new index, 3)) (hn : zS l D cl tc tys A E Tw lab M (pc + 3) nx) : zS l D cl tc tys A E Tw lab M pc (o_new M.2.2.1 c nx) := by
  subst hN
  intro Rc hR
  obtain ⟨h1, h2⟩ := hn Rc hR
  refine ⟨?_, fun d L S h r h' hk => ?_⟩
  · intro d L S h r h' hk p e R s m args below meth c0 ad0 n0 s0 hA ad ls H locs cells slots hS hl
    obtain ⟨g1, g2, g3, g4, k1⟩ := znew_some hk
    clear hk
    have hmono := zMn_put h2 k1
    have y13 := hA.2.2.2.2.2.2.2.2.2.2.2.2.1
    have y14 := hA.2.2.2.2.2.2.2.2.2.2.2.2.2.1
    have b5 := hS.2.2.2.2.1
    have b6 := hS.2.2.2.2.2.1
    refine va_new (ci := c.1) (fs := (List.range c.2.1).map (fun i => zv (fun _ => 0) (zcv c i))) (C := C) (T := T) (N := c.2.1) hA.1 hA.2.1 hA.2.2.2.2.1 hin ty0 hty hA.2.2.2.1 (hA.2.2.2.2.1 _ hlink) (hA.2.2.2.2.1 _ hinst) (hA.2.2.2.2.1 _ hini) hA.2.2.2.2.2.2.2.2.1 hS.1 hS.2.1 hS.2.2.1 hA.2.2.2.2.2.2.2.2.2.1 hc (fun j hj => ?_) (by omega) (by omega) hd (fun q H1 hP hD hs1 => ?_)
    · rw [hdef j hj]
      unfold vp_V
      rw [List.getD_eq_getElem?_getD, List.getElem?_map, List.getElem?_range hj]
      rfl
    · rw [← zE_new (ad := fun k => if k = h.1 then q else ad k) (tc := tc) hg hs] at hP hD
      have hS1 := zSt_new hS g1 hN2 g4 hP hD hs1
      have q1 := h1 d L ((4294967297 + h.1) :: S) _ r h' k1 p e R s m args below meth c0 ad0 n0 s0 hA (fun k => if k = h.1 then q else ad k) ls H1 locs (cells + 1) (slots + c.2.1) hS1 (zl_ck g1 g2 (fun k hk => if_neg hk) hl)
      rw [List.map_cons, zS_ck (ad := ad) g1 g3 (fun k hk => if_neg hk), zv_ref _ (by omega), show 4294967297 + h.1 - 4294967297 = h.1 by omega, show (if h.1 = h.1 then q else ad h.1) = q from if_pos rfl] at q1
      exact q1
  · obtain ⟨g1, g2, g3, g4, k1⟩ := znew_some hk
    have hmono := zMn_put h2 k1
    exact ⟨by omega, by omega⟩
end ZNew
