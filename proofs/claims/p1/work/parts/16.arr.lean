theorem zget_fill {α : Type} (a : α) (d : Nat) : ∀ i, zget d (zfill a d) i = a := by
  induction d with
  | zero => intro i; rfl
  | succ n ih =>
    intro i
    show cond (Nat.ble (Nat.pow 2 n) i) (zget n (zfill a n) (Nat.sub i (Nat.pow 2 n))) (zget n (zfill a n) i) = a
    rw [ih, ih]
    cases Nat.ble (Nat.pow 2 n) i <;> rfl
theorem zcv_0 (g n j : Nat) : zcv (g, n, 0, zfill 0 11) j = 0 := by
  show cond (Nat.ble n 512) (zlane 0 j) (zlane (zget 11 (zfill 0 11) (j / 32)) (j % 32)) = 0
  rw [zget_fill, zlane_0, zlane_0]
  cases Nat.ble n 512 <;> rfl
theorem zE_0 {ad : Nat → Nat} {tc : Nat → ClassId} {g n : Nat} (hg : ¬ g < 100) (hg2 : ¬ g = 102) : zE ad tc (g, n, 0, zfill 0 11) = .inl (tc g, n, .inl (fun _ => 0)) := by
  unfold zE
  rw [if_neg hg, if_neg hg2]
  congr 4
  funext j
  rw [zcv_0]
  split
  · exact nI_0
  · rfl
section ZArr
variable {l : Launch} {D : va_G} {cl : List vw_C} {tc : Nat → ClassId} {tys : List (ClassId × FieldType)} {A : Nat → Prop} {E : State → (Nat → Nat) → Prop} {Tw : List Cond} {lab : Nat → zM × Nat} {M : zM} {pc : Nat} {nx tg : zK}
theorem s_newa {g t0 : Nat} {atype : ArrayType} {ty : FieldType} (hg : ¬ g < 100) (hg2 : ¬ g = 102) (hta : newarray.typeOf atype = ty) (hty : tys[t0]? = some (tc g, ty)) (hu : ∀ (U : State) (c1 c2 : ClassId), va_RA U c1 ty → va_RA U c2 ty → c1 = c2) (hdv : defaultValue ty = .int 0) (hbt : componentBytes ty ≤ 8) (harr : Cond.arrayClass ty ∈ Tw) (hd : decode M.2.1 pc = .ok (.newarray atype, 2)) (hn : zS l D cl tc tys A E Tw lab M (pc + 2) nx) : zS l D cl tc tys A E Tw lab M pc (o_newa M.2.2.1 g nx) := by
  intro Rc hR
  obtain ⟨h1, h2⟩ := hn Rc hR
  refine ⟨?_, fun d L S h r h' hk => ?_⟩
  · intro d L S h r h' hk p e R s m args below meth c0 ad0 n0 s0 hA ad ls H locs cells slots hS hl
    obtain ⟨n, S', rfl, k0⟩ := zpop_some hk
    clear hk
    obtain ⟨hle, k00⟩ := zcond_some k0
    have hle := Nat.le_of_ble_eq_true hle
    clear k0
    obtain ⟨g1, g2, g3, g4, k1⟩ := znew_some k00
    clear k00
    have hmono := zMn_put h2 k1
    have y13 := hA.2.2.2.2.2.2.2.2.2.2.2.2.1
    have y14 := hA.2.2.2.2.2.2.2.2.2.2.2.2.2.1
    have b5 := hS.2.2.2.2.1
    have b6 := hS.2.2.2.2.2.1
    have hmono1 : h.1 + 1 ≤ h'.1 := hmono.1
    have hmono2 : h.2.1 + n ≤ h'.2.1 := hmono.2
    rw [List.map_cons, zv_int ad (by omega)]
    refine va_newa (N' := n) (a0 := (n, .inl (fun _ => 0))) hA.1 hA.2.1 (by rw [hta]; exact hA.2.2.2.2.1 _ harr) hta hA.2.2.2.2.2.2.2.2.1 hS.1 hS.2.1 hS.2.2.1 hA.2.2.2.2.2.2.2.2.2.1 (fun cA => by rw [vp_cell_i, hdv]) (nI_pos (by omega)) (nI_clamp (by omega)) (Nat.le_trans (Nat.mul_le_mul_left n hbt) (by omega)) (by omega) (by omega) hd (fun q cA H1 hK1 hP hD hs1 => ?_)
    have hcA : cA = tc g := by
      have z1 := (hK1.2 tys.length (cA, ty) (by rw [List.getElem?_append_right (Nat.le_refl _), Nat.sub_self]; rfl)).2
      have z2 := (hA.2.2.2.2.2.2.2.2.1.2 t0 _ hty).2
      exact hu s _ _ z1 z2
    subst hcA
    rw [← zE_0 (ad := fun k => if k = h.1 then q else ad k) (tc := tc) hg hg2] at hP hD
    have hS1 := zSt_new (c := (g, n, 0, zfill 0 11)) hS g1 hle g4 hP hD hs1
    have q1 := h1 d L ((4294967297 + h.1) :: S') _ r h' k1 p e R s m args below meth c0 ad0 n0 s0 hA (fun k => if k = h.1 then q else ad k) ls H1 locs (cells + 1) (slots + n) hS1 (zl_ck g1 g2 (fun k hk => if_neg hk) hl)
    rw [List.map_cons, zS_ck (ad := ad) g1 g3 (fun k hk => if_neg hk), zv_ref _ (by omega), show 4294967297 + h.1 - 4294967297 = h.1 by omega, show (if h.1 = h.1 then q else ad h.1) = q from if_pos rfl] at q1
    exact q1
  · obtain ⟨n, S', rfl, k0⟩ := zpop_some hk
    clear hk
    obtain ⟨hle, k00⟩ := zcond_some k0
    clear k0
    obtain ⟨g1, g2, g3, g4, k1⟩ := znew_some k00
    have hmono := zMn_put h2 k1
    have hmono1 : h.1 + 1 ≤ h'.1 := hmono.1
    have hmono2 : h.2.1 + n ≤ h'.2.1 := hmono.2
    exact ⟨by omega, by omega⟩
theorem s_oinit {index : Nat} (hlink : Cond.methodLink M.1.cls index objectInit ∈ Tw) (hinst : Cond.instanceMethod objectInit ∈ Tw) (hcode : Cond.code objectInit ⟨#[0xb1]⟩ 1 none ∈ Tw) (hd : decode M.2.1 pc = .ok (.invokespecial index, 3)) (hn : zS l D cl tc tys A E Tw lab M (pc + 3) nx) : zS l D cl tc tys A E Tw lab M pc (o_oinit nx) := by
  intro Rc hR
  obtain ⟨h1, h2⟩ := hn Rc hR
  refine ⟨?_, fun d L S h r h' hk => ?_⟩
  · intro d L S h r h' hk p e R s m args below meth c0 ad0 n0 s0 hA ad ls H locs cells slots hS hl
    obtain ⟨a, S', rfl, k1⟩ := zpop_some hk
    clear hk
    obtain ⟨g1, k2⟩ := zref_some k1
    obtain ⟨g2, k3⟩ := zshort_some k2
    obtain ⟨d', rfl, k4⟩ := zpr_some k3
    clear k1 k2 k3
    have y11 := hA.2.2.2.2.2.2.2.2.2.2.1
    have y12 := hA.2.2.2.2.2.2.2.2.2.2.2.1
    have hr := lv_room (m := m) (pc := pc) (ls := ls) (rest := zv ad a :: S'.map (zv ad)) (st := S'.map (zv ad)) (by rw [zcat_sum]; exact g2)
    rw [List.map_cons, zv_ref ad g1] at *
    refine W.objInit hA.1 hA.2.1 hA.2.2.2.1 (hA.2.2.2.2.1 _ hlink) (hA.2.2.2.2.1 _ hinst) (hA.2.2.2.2.1 _ hcode) rfl (by rw [hA.2.2.1]; exact hl.1) rfl hd (by omega) (by omega) ?_
    exact h1 _ L S' h r h' k4 p e R s m args below meth c0 ad0 n0 s0 hA ad ls H locs cells slots hS hl
  · obtain ⟨a, S', rfl, k1⟩ := zpop_some hk
    clear hk
    obtain ⟨g1, k2⟩ := zref_some k1
    obtain ⟨g2, k3⟩ := zshort_some k2
    obtain ⟨d', rfl, k4⟩ := zpr_some k3
    exact h2 _ L S' h r h' k4
end ZArr
