noncomputable def z_max (a b : Nat) : Nat := cond (z_lt a b) b a
noncomputable def z_min (a b : Nat) : Nat := cond (z_lt b a) b a
noncomputable def o_math (f : Nat → Nat → Nat) (nx : zK) : zK := fun R d L S h => zpop S (fun b S => zint b (zpop S (fun a S => zint a (zshort S (zpr d (fun _ => zf (f a b) (fun v => nx R d L (v :: S) h)))))))
theorem zmath_some {f : Nat → Nat → Nat} {nx : zK} {Rc : zRec} {d L : Nat} {S : List Nat} {h : zH} {q : List Nat × zH} (e : o_math f nx Rc d L S h = some q) : ∃ a b S' d', S = b :: a :: S' ∧ b < 4294967296 ∧ a < 4294967296 ∧ S'.length ≤ 8 ∧ d = d' + 1 ∧ nx Rc d L (f a b :: S') h = some q := by
  obtain ⟨b, S1, rfl, k1⟩ := zpop_some e
  clear e
  obtain ⟨hb, k2⟩ := zint_some k1
  clear k1
  obtain ⟨a, S', rfl, k3⟩ := zpop_some k2
  clear k2
  obtain ⟨ha, k4⟩ := zint_some k3
  clear k3
  obtain ⟨hs, k5⟩ := zshort_some k4
  clear k4
  obtain ⟨d', hd, k6⟩ := zpr_some k5
  rw [zf_eq] at k6
  exact ⟨a, b, S', d', rfl, hb, ha, hs, hd, k6⟩
theorem z_max_ok {a b : Nat} (ha : a < 4294967296) (hb : b < 4294967296) : z_max a b < 4294967296 ∧ (if nI a < nI b then nI b else nI a) = nI (z_max a b) := by
  unfold z_max
  have key := zI_lt ha hb
  cases q : z_lt a b with
  | true => rw [q] at key; exact ⟨hb, if_pos (key.mpr rfl)⟩
  | false =>
    rw [q] at key
    exact ⟨ha, if_neg (fun z => by cases key.mp z)⟩
theorem z_min_ok {a b : Nat} (ha : a < 4294967296) (hb : b < 4294967296) : z_min a b < 4294967296 ∧ (if nI b < nI a then nI b else nI a) = nI (z_min a b) := by
  unfold z_min
  have key := zI_lt hb ha
  cases q : z_lt b a with
  | true => rw [q] at key; exact ⟨hb, if_pos (key.mpr rfl)⟩
  | false =>
    rw [q] at key
    exact ⟨ha, if_neg (fun z => by cases key.mp z)⟩
section ZMath
variable {l : Launch} {D : va_G} {cl : List vw_C} {tc : Nat → ClassId} {tys : List (ClassId × FieldType)} {A : Nat → Prop} {E : State → (Nat → Nat) → Prop} {Tw : List Cond} {lab : Nat → zM × Nat} {M M2 : zM} {pc : Nat} {nx tg : zK}
theorem s_mmax {index : Nat} (hlink : Cond.methodLink M.1.cls index Lib.Math.max.name ∈ Tw) (hstat : Cond.static Lib.Math.max.name ∈ Tw) (hini : Cond.initialized "java/lang/Math" ∈ Tw) (hcode : Cond.code Lib.Math.max.name Lib.Math.max.code 2 (some .int) ∈ Tw) (hd : decode M.2.1 pc = .ok (.invokestatic index, 3)) (hn : zS l D cl tc tys A E Tw lab M (pc + 3) nx) : zS l D cl tc tys A E Tw lab M pc (o_math z_max nx) := by
  intro Rc hR
  obtain ⟨h1, h2⟩ := hn Rc hR
  refine ⟨?_, fun d L S h r h' hk => ?_⟩
  · intro d L S h r h' hk p e R s m args below meth c ad0 n0 s0 hA ad ls H locs cells slots hS hl
    obtain ⟨a, b, S', d', rfl, hb, ha, hs, rfl, k⟩ := zmath_some hk
    have hmono := h2 _ _ _ _ _ _ k
    obtain ⟨g1, g2⟩ := z_max_ok ha hb
    have y11 := hA.2.2.2.2.2.2.2.2.2.2.1
    have y12 := hA.2.2.2.2.2.2.2.2.2.2.2.1
    have y13 := hA.2.2.2.2.2.2.2.2.2.2.2.2.1
    have y14 := hA.2.2.2.2.2.2.2.2.2.2.2.2.2.1
    have b5 := hS.2.2.2.2.1
    have b6 := hS.2.2.2.2.2.1
    have q := h1 _ L (z_max a b :: S') h r h' k p e R s m args below meth c ad0 n0 s0 hA ad ls H locs cells slots hS hl
    rw [List.map_cons, zv_int ad g1, ← g2] at q
    rw [List.map_cons, List.map_cons, zv_int ad hb, zv_int ad ha]
    exact va_mmax hA.1 hA.2.1 (hA.2.2.1.trans hl.1.symm) hA.2.2.2.1 (hA.2.2.2.2.1 _ hlink) (hA.2.2.2.2.1 _ hstat) (hA.2.2.2.2.1 _ hini) (hA.2.2.2.2.1 _ hcode) (by omega) (by rw [zcat_sum]; omega) (by omega) (by omega) hd q
  · obtain ⟨a, b, S', d', rfl, hb, ha, hs, rfl, k⟩ := zmath_some hk
    exact h2 _ _ _ _ _ _ k
theorem s_mmin {index : Nat} (hlink : Cond.methodLink M.1.cls index Lib.Math.min.name ∈ Tw) (hstat : Cond.static Lib.Math.min.name ∈ Tw) (hini : Cond.initialized "java/lang/Math" ∈ Tw) (hcode : Cond.code Lib.Math.min.name Lib.Math.min.code 2 (some .int) ∈ Tw) (hd : decode M.2.1 pc = .ok (.invokestatic index, 3)) (hn : zS l D cl tc tys A E Tw lab M (pc + 3) nx) : zS l D cl tc tys A E Tw lab M pc (o_math z_min nx) := by
  intro Rc hR
  obtain ⟨h1, h2⟩ := hn Rc hR
  refine ⟨?_, fun d L S h r h' hk => ?_⟩
  · intro d L S h r h' hk p e R s m args below meth c ad0 n0 s0 hA ad ls H locs cells slots hS hl
    obtain ⟨a, b, S', d', rfl, hb, ha, hs, rfl, k⟩ := zmath_some hk
    have hmono := h2 _ _ _ _ _ _ k
    obtain ⟨g1, g2⟩ := z_min_ok ha hb
    have y11 := hA.2.2.2.2.2.2.2.2.2.2.1
    have y12 := hA.2.2.2.2.2.2.2.2.2.2.2.1
    have y13 := hA.2.2.2.2.2.2.2.2.2.2.2.2.1
    have y14 := hA.2.2.2.2.2.2.2.2.2.2.2.2.2.1
    have b5 := hS.2.2.2.2.1
    have b6 := hS.2.2.2.2.2.1
    have q := h1 _ L (z_min a b :: S') h r h' k p e R s m args below meth c ad0 n0 s0 hA ad ls H locs cells slots hS hl
    rw [List.map_cons, zv_int ad g1, ← g2] at q
    rw [List.map_cons, List.map_cons, zv_int ad hb, zv_int ad ha]
    exact va_mmin hA.1 hA.2.1 (hA.2.2.1.trans hl.1.symm) hA.2.2.2.1 (hA.2.2.2.2.1 _ hlink) (hA.2.2.2.2.1 _ hstat) (hA.2.2.2.2.1 _ hini) (hA.2.2.2.2.1 _ hcode) (by omega) (by rw [zcat_sum]; omega) (by omega) (by omega) hd q
  · obtain ⟨a, b, S', d', rfl, hb, ha, hs, rfl, k⟩ := zmath_some hk
    exact h2 _ _ _ _ _ _ k
end ZMath
