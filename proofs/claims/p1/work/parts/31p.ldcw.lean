section ZLdcw
variable {l : Launch} {D : va_G} {cl : List vw_C} {tc : Nat → ClassId} {tys : List (ClassId × FieldType)} {A : Nat → Prop} {E : State → (Nat → Nat) → Prop} {Tw : List Cond} {lab : Nat → zM × Nat} {M M2 : zM} {pc : Nat} {nx tg : zK}
theorem z_ldcwS0 {p : Program} {e : Env} {R : Room} {s : State} {m : MethodId} {args : Array Value} {below : List Frame} {meth : Method} {c : Code} {T : State} {locs : List Loc} {cells slots : Nat} (X : Stand p l e R s m args below meth c T locs cells slots) (hexec : p.tables.exec = Jvm.exec) {own text : String} {index : Nat} {a : Addr} (hown : s.vm.findClass own = some m.cls)
    (hconst : (Cond.stringRef own index text).before args s = true) (hev : (Term.string own index).eval args s none [] s = some (.ref a)) {g : JFrame} (hg : g.method = m) (hdg : decode c.code g.pc = .ok (.ldc_w index, 3)) :
    ∀ target, Steps p.tables e below (T.setTop { g with pc := g.pc + 3, stack := .ref a :: g.stack }) target → Steps p.tables e below (T.setTop g) target := by
  obtain ⟨k, cf, i, a', hk, hcf, hcp, -, hr, hev'⟩ := Cond.stringRef_spec hown hconst
  cases hev.symm.trans hev'
  obtain ⟨k', hk', he⟩ := X.warmed.alike.2.2 _ _ hk
  have hr' : k'.resolved[index]? = some (some (.string a)) := by
    rcases X.warmed.entry hk hk' index with h | ⟨h, -⟩
    · rw [h]; exact hr
    · rw [hr] at h; cases h
  intro target hrest
  subst hg
  jvm_step X.here [hexec, hdg, ldc_w.wp_string (e := e) (s := T) (f := g) X.here.top hk' (by rw [he]; exact hcf) hcp hr']
  exact hrest
theorem s_ldcwS {v j index : Nat} (hv : v = 8589934592 + j) (hE : ∀ U f, E U f → ∃ tx, vk_R M.1.cls index tx (f (4294967295 + j)) U) (hd : decode M.2.1 pc = .ok (.ldc_w index, 3)) (hn : zS l D cl tc tys A E Tw lab M (pc + 3) nx) : zS l D cl tc tys A E Tw lab M pc (o_push v nx) := by
  subst hv
  intro Rc hR
  obtain ⟨h1, h2⟩ := hn Rc hR
  refine ⟨?_, fun d L S h r h' hk => h2 d L (_ :: S) h r h' hk⟩
  intro d L S h r h' hk p e R s m args below meth c ad0 n0 s0 hA ad ls H locs cells slots hS hl
  obtain ⟨tx, hz⟩ := hE s ad0 hA.2.2.2.2.2.2.2.2.2.2.2.2.2.2
  have q := h1 d L (_ :: S) h r h' hk p e R s m args below meth c ad0 n0 s0 hA ad ls H locs cells slots hS hl
  rw [List.map_cons, zv_far, zad hS (by omega)] at q
  intro T hT X
  obtain ⟨t, a1, b1⟩ := q T hT X
  exact ⟨t, z_ldcwS0 X hA.1 hA.2.2.2.1 (text := tx) hz.1 hz.2 (g := F0 m pc ls (S.map (zv ad))) rfl (by rw [hA.2.1]; exact hd) t a1, b1⟩
end ZLdcw
section ZLdcw2
variable {l : Launch} {D : va_G} {cl : List vw_C} {tc : Nat → ClassId} {tys : List (ClassId × FieldType)} {A : Nat → Prop} {E : State → (Nat → Nat) → Prop} {Tw : List Cond} {lab : Nat → zM × Nat} {M M2 : zM} {pc : Nat} {nx tg : zK}
theorem r_ldcS {v j index : Nat} {own : String} (hv : v = 8589934592 + j) (hown : M.1.cls = own) (hE : ∀ U f, E U f → ∃ tx, vk_R own index tx (f (4294967295 + j)) U) (hd : decode M.2.1 pc = .ok (.ldc index, 2)) (hn : zS l D cl tc tys A E Tw lab M (pc + 2) nx) : zS l D cl tc tys A E Tw lab M pc (o_push v nx) := s_ldcS hv (by rw [hown]; exact hE) hd hn
theorem r_ldcwS {v j index : Nat} {own : String} (hv : v = 8589934592 + j) (hown : M.1.cls = own) (hE : ∀ U f, E U f → ∃ tx, vk_R own index tx (f (4294967295 + j)) U) (hd : decode M.2.1 pc = .ok (.ldc_w index, 3)) (hn : zS l D cl tc tys A E Tw lab M (pc + 3) nx) : zS l D cl tc tys A E Tw lab M pc (o_push v nx) := s_ldcwS hv (by rw [hown]; exact hE) hd hn
end ZLdcw2
