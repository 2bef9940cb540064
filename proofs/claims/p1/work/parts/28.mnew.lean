section ZMnew2
variable {l : Launch} {D : va_G} {cl : List vw_C} {tc : Nat → ClassId} {tys : List (ClassId × FieldType)} {A : Nat → Prop} {E : State → (Nat → Nat) → Prop} {Tw : List Cond} {lab : Nat → zM × Nat} {M M2 : zM} {pc : Nat} {nx tg : zK}
theorem z_pl (l : List Nat) (f : Nat → va_E) (v : va_E) : va_pl ([] ++ l) (vr_up f l v) = l.map (fun a => (a, v)) := by
  rw [List.nil_append]
  unfold va_pl
  refine List.map_congr_left fun a ha => ?_
  rw [vr_up_in ha]
/-- where the new cells lie -/
noncomputable def zadm (ad : Nat → Nat) (hn n q : Nat) (r : Nat → Nat) : Nat → Nat := fun j => if j = hn then q else if hn < j ∧ j < hn + (n + 1) then r (j - (hn + 1)) else ad j
theorem zadm_0 {ad : Nat → Nat} {hn n q : Nat} {r : Nat → Nat} (j : Nat) (h : j < hn ∨ hn + (n + 1) ≤ j) : zadm ad hn n q r j = ad j := by
  unfold zadm
  rw [if_neg (by omega), if_neg (by omega)]
theorem zadm_1 {ad : Nat → Nat} {hn n q : Nat} {r : Nat → Nat} : zadm ad hn n q r hn = q := if_pos rfl
theorem zadm_2 {ad : Nat → Nat} {hn n q : Nat} {r : Nat → Nat} (i : Nat) (h : i < n) : zadm ad hn n q r (hn + 1 + i) = r i := by
  unfold zadm
  rw [if_neg (by omega), if_pos (by omega), show hn + 1 + i - (hn + 1) = i by omega]
theorem zSt_mnew {s : State} {ad0 ad : Nat → Nat} {n0 s0 : Nat} {h : zH} {H H1 : Heap} {locs locs1 : List Loc} {cells slots q n k : Nat} {r : Nat → Nat} (hS : zSt D cl tc s A ad0 n0 s0 ad h H locs cells slots) (hn : h.1 + (n + 1) ≤ 256) (hk : k ≤ 65536) (hH : zckH h.1 h.2.2 = true) (hP : va_P D cl ((zW ad tc h ++ [(q, .inl (tc 102, n, .inr (.inr (.inr (.inr (fun i => if i < n then some (r i) else none))))))]) ++ ((List.range n).map r).map (fun a => (a, .inl (tc 100, k, .inl (fun _ => 0))))) H1) (hD : va_D A ((zW ad tc h ++ [(q, .inl (tc 102, n, .inr (.inr (.inr (.inr (fun i => if i < n then some (r i) else none))))))]) ++ ((List.range n).map r).map (fun a => (a, .inl (tc 100, k, .inl (fun _ => 0)))))) (hs : va_S A s.heap H1 locs1) : zSt D cl tc s A ad0 n0 s0 (zadm ad h.1 n q r) (h.1 + (n + 1), h.2.1 + (n + n * k), zrw k (h.1 + 1) n (zst 8 h.2.2 h.1 (fun _ => (102, n, zrefs (4294967298 + h.1) n, zfill 0 11)))) H1 locs1 (cells + 1 + n) (slots + n + n * k) := by
  obtain ⟨hn0, sl, t⟩ := h
  obtain ⟨a1, a2, a3, a4, a5, a6, a7, a8⟩ := hS
  have hn : hn0 + (n + 1) ≤ 256 := hn
  have e := zW_mnew (tc := tc) (ad := ad) (ad' := zadm ad hn0 n q r) (sl := sl) (sl' := sl + (n + n * k)) (k := k) (q := q) (r := r) (t := t) hn hH (fun j hj => zadm_0 j hj) zadm_1 (fun i hi => zadm_2 i hi)
  have hP : va_P D cl ((zW ad tc (hn0, sl, t) ++ [(q, .inl (tc 102, n, .inr (.inr (.inr (.inr (fun i => if i < n then some (r i) else none))))))]) ++ ((List.range n).map r).map (fun a => (a, .inl (tc 100, k, .inl (fun _ => 0))))) H1 := hP
  have hD : va_D A ((zW ad tc (hn0, sl, t) ++ [(q, .inl (tc 102, n, .inr (.inr (.inr (.inr (fun i => if i < n then some (r i) else none))))))]) ++ ((List.range n).map r).map (fun a => (a, .inl (tc 100, k, .inl (fun _ => 0))))) := hD
  rw [← e] at hP hD
  have a5 : hn0 = n0 + cells := a5
  have a6 : sl = s0 + slots := a6
  refine ⟨hP, hD, hs, fun k hk => ?_, ?_, ?_, hn, fun j hj => ?_⟩
  · have hk : k < n0 ∨ hn0 + (n + 1) ≤ k := hk
    show zadm ad hn0 n q r k = ad0 k
    rw [zadm_0 k (by omega)]
    exact a4 k (by show k < n0 ∨ hn0 ≤ k; omega)
  · show hn0 + (n + 1) = n0 + (cells + 1 + n); omega
  · show sl + (n + n * k) = s0 + (slots + n + n * k)
    generalize n * k = w
    omega
  · have hj : j < hn0 + (n + 1) := hj
    show (zget 8 (zrw k (hn0 + 1) n (zst 8 t hn0 (fun _ => (102, n, zrefs (4294967298 + hn0) n, zfill 0 11)))) j).2.1 ≤ 65536
    rw [zget_rw k (hn0 + 1) n _ (by omega) j (by omega), zget_st _ 8 _ _ _ (by show hn0 < 256; omega) (by show j < 256; omega)]
    by_cases h1 : hn0 + 1 ≤ j ∧ j < hn0 + 1 + n
    · rw [if_pos h1]; exact hk
    · rw [if_neg h1]
      by_cases h2 : hn0 = j
      · rw [if_pos h2]; show n ≤ 65536; omega
      · rw [if_neg h2]; exact a8 j (by show j < hn0; omega)
theorem zck_m {ad : Nat → Nat} {hn n q : Nat} {r : Nat → Nat} (hle : hn + (n + 1) ≤ 256) {x : Nat} (hx : zck hn x = true) : zv (zadm ad hn n q r) x = zv ad x := by
  have hx2 := zck_of hx
  unfold zv
  split
  · rfl
  · split
    · rfl
    · rw [zadm_0 _ (by omega)]
theorem s_mnew {index t0 t1 n k : Nat} (hk1 : k ≤ 65536) (hE : ∀ U f, E U f → va_AOA .int U) (harr : Cond.arrayClass .int ∈ Tw) (hty : tys[t0]? = some (tc 102, .array .int)) (hty1 : tys[t1]? = some (tc 100, .int)) (hclink : Cond.classLink M.1.cls index ("[" ++ (FieldType.array .int).toString) ∈ Tw) (hd : decode M.2.1 pc = .ok (.multianewarray index 2, 4)) (hn : zS l D cl tc tys A E Tw lab M (pc + 4) nx) : zS l D cl tc tys A E Tw lab M pc (o_mnew M.2.2.1 n k nx) := by
  intro Rc hR
  obtain ⟨h1, h2⟩ := hn Rc hR
  refine ⟨?_, fun d L S h r h' hk => ?_⟩
  · intro d L S h r h' hk p e R s m args below meth c0 ad0 n0 s0 hA ad ls H locs cells slots hS hl
    obtain ⟨S', rfl, g1, g2, g3, g4, q1⟩ := zmnew_some hk
    clear hk
    have hmono := zMn_put h2 q1
    have y13 := hA.2.2.2.2.2.2.2.2.2.2.2.2.1
    have y14 := hA.2.2.2.2.2.2.2.2.2.2.2.2.2.1
    have b5 := hS.2.2.2.2.1
    have b6 := hS.2.2.2.2.2.1
    have hnk : n * k = n * k := rfl
    have hP0 : va_P D cl (zW ad tc h ++ va_pl [] (fun _ => Sum.inr (0, []))) H := by
      rw [show va_pl [] (fun _ => Sum.inr (0, [])) = [] from rfl, List.append_nil]; exact hS.1
    have hD0 : va_D A (zW ad tc h ++ va_pl [] (fun _ => Sum.inr (0, []))) := by
      rw [show va_pl [] (fun _ => Sum.inr (0, [])) = [] from rfl, List.append_nil]; exact hS.2.1
    rw [List.map_cons, List.map_cons, zv_int ad (show k < 4294967296 by omega), zv_int ad (show n < 4294967296 by omega)]
    refine va_mna (X := zW ad tc h) (L := []) (f := fun _ => Sum.inr (0, [])) (ty := .int) (cy := tc 100) (N' := n) (K' := k) (z := (k, .inl (fun _ => 0))) hA.1 hA.2.1 hA.2.2.2.1 (hA.2.2.2.2.1 _ hclink) (hE s ad0 hA.2.2.2.2.2.2.2.2.2.2.2.2.2.2) (hA.2.2.2.2.1 _ harr) ((hA.2.2.2.2.2.2.2.2.1.2 t1 _ hty1).2) hA.2.2.2.2.2.2.2.2.1 hP0 hD0 hS.2.2.1 hA.2.2.2.2.2.2.2.2.2.1 (nI_pos (by omega)) (nI_pos (by omega)) (nI_clamp (by omega)) (nI_clamp (by omega)) (by omega) (Nat.le_trans (Nat.mul_le_mul_left k (show componentBytes .int ≤ 8 by decide)) (by omega)) (by omega) rfl rfl (by omega) (by omega) (fun c => by rw [vp_cell_i]; exact arrV_new c k (.int 0)) hd (fun q r1 cA H1 hinj hnot hK1 hP1 hD1 hs1 => ?_)
    have hcA : cA = tc 102 := by
      have z1 := (hK1.2 tys.length (cA, .array .int) (by rw [List.getElem?_append_right (Nat.le_refl _), Nat.sub_self]; rfl)).2
      have z2 := (hA.2.2.2.2.2.2.2.2.1.2 t0 _ hty).2
      exact Option.some.inj (Eq.trans (Eq.symm z1) z2)
    subst hcA
    rw [z_pl] at hP1 hD1
    have hS1 := zSt_mnew (r := r1) hS g1 hk1 g4 hP1 hD1 hs1
    have q2 := h1 d L ((4294967297 + h.1) :: S') _ r h' q1 p e R s m args below meth c0 ad0 n0 s0 hA (zadm ad h.1 n q r1) ls H1 locs (cells + 1 + n) (slots + n + n * k) hS1 (lv_has_sub hl (fun x hx => by
      obtain ⟨i, v, hi, hz, rfl⟩ := zl_mem.mp hx
      have hc : zck h.1 (Nat.pred (zlane L i)) = true := zall_get g2 i hi
      rw [hz] at hc
      have hc : zck h.1 v = true := hc
      rw [zck_m g1 hc]
      exact zl_mem.mpr ⟨i, v, hi, hz, rfl⟩))
    rw [List.map_cons, show S'.map (zv (zadm ad h.1 n q r1)) = S'.map (zv ad) from List.map_congr_left fun x hx => zck_m g1 (zckS_get g3 x hx), zv_ref _ (by omega), show 4294967297 + h.1 - 4294967297 = h.1 by omega, zadm_1] at q2
    exact q2
  · obtain ⟨S', rfl, g1, g2, g3, g4, q1⟩ := zmnew_some hk
    have hmono := zMn_put h2 q1
    exact ⟨by omega, by omega⟩
end ZMnew2
