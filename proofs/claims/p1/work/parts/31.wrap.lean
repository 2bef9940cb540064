/-! rows as the printed text calls them -/
/-- good words alone -/
def zGd (Tw : List Cond) : Prop := ∀ w ∈ Tw, (w.onTables && w.keeps) = true ∨ ∃ ty, w = .arrayClass ty
theorem zGd_in {Tw : List Cond} (hT : zGd Tw) {w : Cond} (h : w ∈ Tw) : GoodIn Tw (w :: Tw) := fun v hv => (List.mem_cons.mp hv).elim (fun e => by rw [e]; exact ⟨h, hT _ h⟩) (fun h => ⟨h, hT _ h⟩)
def zCk (ck : Nat → Bool) (F : FieldType) : Prop := ∀ (ad : Nat → Nat) (v : Nat), ck v = true → v < 17179869185 ∧ narrow F (zv ad v) = zv ad v ∧ fits F (zv ad v) = true
theorem zck_int : zCk ck_int .int := fun ad v h => by
  have h1 : v ≤ 4294967295 := Nat.le_of_ble_eq_true h
  rw [zv_int ad (by omega)]
  exact ⟨by omega, rfl, rfl⟩
theorem zck_bool : zCk ck_bool .boolean := fun ad v h => by
  have h1 : v ≤ 1 := Nat.le_of_ble_eq_true h
  rw [zv_int ad (by omega)]
  have key : ∀ v, v < 2 → narrow .boolean (.int (nI v)) = .int (nI v) ∧ fits .boolean (.int (nI v)) = true := by decide +kernel
  exact ⟨by omega, key v (by omega)⟩
theorem zck_ref0 {v : Nat} (h : ck_ref v = true) : 4294967296 < v ∧ v ≤ 8589934591 := by
  have h : cond (Nat.ble v 4294967296) false (Nat.ble v 8589934591) = true := h
  cases q : Nat.ble v 4294967296 with
  | true => rw [q] at h; cases h
  | false =>
    rw [q] at h
    refine ⟨?_, Nat.le_of_ble_eq_true h⟩
    rcases Nat.lt_or_ge 4294967296 v with z | z
    · exact z
    · rw [Nat.ble_eq_true_of_le z] at q; cases q
theorem zck_obj (C : String) : zCk ck_ref (.object C) := fun ad v h => by
  obtain ⟨h1, h2⟩ := zck_ref0 h
  rw [zv_ref ad h1]
  exact ⟨by omega, rfl, rfl⟩
theorem zck_arr (t : FieldType) : zCk ck_ref (.array t) := fun ad v h => by
  obtain ⟨h1, h2⟩ := zck_ref0 h
  rw [zv_ref ad h1]
  exact ⟨by omega, rfl, rfl⟩
/-- a class, as the rows want it -/
def zKls (cl : List vw_C) (Tw : List Cond) (g : Nat) (C : String) (T : u_T) (N : Nat) (ty0 : Nat → FieldType) : Prop := g < 100 ∧ cl[g]? = some (C, T, N) ∧ (∀ w ∈ u_ws C T N, w ∈ Tw) ∧ (∀ k, k < N → parseFieldDescriptor (T k).2.2.1 = some (ty0 k)) ∧ ∀ a, a < N → ∀ b, b < N → a ≠ b → (T a).2.1 ≠ (T b).2.1
def zDd (y : MethodName) (na : Nat) : Prop := y.cls ≠ "java/lang/invoke/MethodHandle" ∧ y.cls ≠ "java/lang/invoke/VarHandle" ∧ (parseMethodDescriptor y.desc).map (fun d => d.parameters.length) = some na
def zCalS (Tw : List Cond) (M2 : zM) (na : Nat) : Prop := plainName M2.1.cls = true ∧ Cond.code M2.1 M2.2.1 M2.2.2.1 M2.2.2.2 ∈ Tw ∧ Cond.initialized M2.1.cls ∈ Tw ∧ Cond.static M2.1 ∈ Tw ∧ zDd M2.1 na ∧ na ≤ M2.2.2.1 ∧ M2.2.2.1 ≤ 31
def zCalV (Tw : List Cond) (C : String) (M2 : zM) (na : Nat) : Prop := plainName M2.1.cls = true ∧ Cond.code M2.1 M2.2.1 M2.2.2.1 M2.2.2.2 ∈ Tw ∧ Cond.initialized M2.1.cls ∈ Tw ∧ Cond.instanceMethod M2.1 ∈ Tw ∧ Cond.selects C M2.1 M2.1 ∈ Tw ∧ zDd M2.1 na ∧ na + 1 ≤ M2.2.2.1 ∧ M2.2.2.1 ≤ 31
def zCalI (Tw : List Cond) (M2 : zM) (na : Nat) : Prop := plainName M2.1.cls = true ∧ M2.2.2.2 = none ∧ M2.1.name = "<init>" ∧ Cond.code M2.1 M2.2.1 M2.2.2.1 M2.2.2.2 ∈ Tw ∧ Cond.initialized M2.1.cls ∈ Tw ∧ Cond.instanceMethod M2.1 ∈ Tw ∧ zDd M2.1 na ∧ na + 1 ≤ M2.2.2.1 ∧ M2.2.2.1 ≤ 31
section ZWrap
variable {l : Launch} {D : va_G} {cl : List vw_C} {tc : Nat → ClassId} {tys : List (ClassId × FieldType)} {A : Nat → Prop} {E : State → (Nat → Nat) → Prop} {Tw : List Cond} {lab : Nat → zM × Nat} {M M2 : zM} {pc : Nat} {nx tg : zK}
theorem r_getf {g k N index : Nat} {C fo fn fd own : String} {T : u_T} {ty0 : Nat → FieldType} {fin : Bool} (K : zKls cl Tw g C T N ty0) (hkN : k < N) (htx : T k = (fo, fn, fd, fin)) (hown : M.1.cls = own) (hlink : Cond.fieldLink own index fo fn fd ∈ Tw) (hd : decode M.2.1 pc = .ok (.getfield index, 3)) (hn : zS l D cl tc tys A E Tw lab M (pc + 3) nx) : zS l D cl tc tys A E Tw lab M pc (o_getf g k nx) :=
  s_getf (ref := fo) K.1 K.2.1 K.2.2.1 hkN (by rw [htx, hown]; exact hlink) (by rw [htx]) hd hn
theorem r_getN {g k N index : Nat} {C fo fn fd own host : String} {T : u_T} {ty0 : Nat → FieldType} {fin : Bool} (K : zKls cl Tw g C T N ty0) (hkN : k < N) (htx : T k = (fo, fn, fd, fin)) (hown : M.1.cls = own) (hN : ∀ U f, E U f → va_Nw (.fieldLinkNest own index fo fn fd host) U) (hd : decode M.2.1 pc = .ok (.getfield index, 3)) (hn : zS l D cl tc tys A E Tw lab M (pc + 3) nx) : zS l D cl tc tys A E Tw lab M pc (o_getf g k nx) :=
  s_getN (ref := fo) (host := host) (fun U f h => by rw [htx, hown]; exact hN U f h) K.1 K.2.1 K.2.2.1 hkN (by rw [htx]) hd hn
theorem r_putf {ck : Nat → Bool} {g k N index : Nat} {C fo fn fd own : String} {T : u_T} {ty0 : Nat → FieldType} {F : FieldType} (K : zKls cl Tw g C T N ty0) (hF : ty0 k = F) (hck : zCk ck F) (hkN : k < N) (htx : T k = (fo, fn, fd, false)) (hown : M.1.cls = own) (hlink : Cond.fieldLink own index fo fn fd ∈ Tw) (hd : decode M.2.1 pc = .ok (.putfield index, 3)) (hn : zS l D cl tc tys A E Tw lab M (pc + 3) nx) : zS l D cl tc tys A E Tw lab M pc (o_putf ck g k nx) :=
  s_putf (ref := fo) (ty0 := ty0) (fun ad v h => by rw [hF]; exact hck ad v h) K.1 K.2.1 K.2.2.1 K.2.2.2.1 K.2.2.2.2 hkN (by rw [htx, hown]; exact hlink) (by rw [htx]) (by rw [htx]) hd hn
theorem r_putF {ck : Nat → Bool} {g k N index : Nat} {C fo fn fd own : String} {T : u_T} {ty0 : Nat → FieldType} {F : FieldType} (K : zKls cl Tw g C T N ty0) (hF : ty0 k = F) (hck : zCk ck F) (hkN : k < N) (htx : T k = (fo, fn, fd, true)) (hown : M.1.cls = own) (hfo : fo = own) (hini : M.1.name = "<init>") (hlink : Cond.fieldLink own index fo fn fd ∈ Tw) (hd : decode M.2.1 pc = .ok (.putfield index, 3)) (hn : zS l D cl tc tys A E Tw lab M (pc + 3) nx) : zS l D cl tc tys A E Tw lab M pc (o_putf ck g k nx) :=
  s_putF (ref := fo) (ty0 := ty0) (fun ad v h => by rw [hF]; exact hck ad v h) K.1 K.2.1 K.2.2.1 K.2.2.2.1 K.2.2.2.2 hkN (by rw [htx, hown]; exact hlink) (by rw [htx]) (by rw [htx]) hini (by rw [htx, hown]; exact hfo) hd hn
theorem r_putN {ck : Nat → Bool} {g k N index : Nat} {C fo fn fd own host : String} {T : u_T} {ty0 : Nat → FieldType} {F : FieldType} (K : zKls cl Tw g C T N ty0) (hF : ty0 k = F) (hck : zCk ck F) (hkN : k < N) (htx : T k = (fo, fn, fd, false)) (hown : M.1.cls = own) (hN : ∀ U f, E U f → va_Nw (.fieldLinkNest own index fo fn fd host) U) (hd : decode M.2.1 pc = .ok (.putfield index, 3)) (hn : zS l D cl tc tys A E Tw lab M (pc + 3) nx) : zS l D cl tc tys A E Tw lab M pc (o_putf ck g k nx) :=
  s_putN (ref := fo) (ty0 := ty0) (host := host) (fun U f h => by rw [htx, hown]; exact hN U f h) (fun ad v h => by rw [hF]; exact hck ad v h) K.1 K.2.1 K.2.2.1 K.2.2.2.1 K.2.2.2.2 hkN (by rw [htx]) (by rw [htx]) hd hn
theorem r_callS (hE : zEok A E) (hT : zGd Tw) {lbl na index : Nat} {own : String} {y : MethodName} (hm : lab lbl = (M2, 0)) (K : zCalS Tw M2 na) (hown : M.1.cls = own) (hy : M2.1 = y) (hlink : Cond.methodLink own index y ∈ Tw) (hd : decode M.2.1 pc = .ok (.invokestatic index, 3)) (hn : zS l D cl tc tys A E Tw lab M (pc + 3) nx) : zS l D cl tc tys A E Tw lab M pc (o_callS lbl na nx) :=
  s_callS hE hm K.1 (zGd_in hT K.2.1) K.2.2.1 (by rw [hown, hy]; exact hlink) K.2.2.2.1 K.2.2.2.2.1 K.2.2.2.2.2.1 K.2.2.2.2.2.2 hd hn
theorem r_callV (hE : zEok A E) (hT : zGd Tw) {g N lbl na index : Nat} {own C : String} {T : u_T} {ty0 : Nat → FieldType} {y : MethodName} (KC : zKls cl Tw g C T N ty0) (hm : lab lbl = (M2, 0)) (K : zCalV Tw C M2 na) (hown : M.1.cls = own) (hy : M2.1 = y) (hlink : Cond.methodLink own index y ∈ Tw) (hd : decode M.2.1 pc = .ok (.invokevirtual index, 3)) (hn : zS l D cl tc tys A E Tw lab M (pc + 3) nx) : zS l D cl tc tys A E Tw lab M pc (o_callV g lbl (na + 1) nx) :=
  s_callV hE KC.1 KC.2.1 hm K.1 (zGd_in hT K.2.1) K.2.2.1 (by rw [hown, hy]; exact hlink) K.2.2.2.1 K.2.2.2.2.1 K.2.2.2.2.2.1 K.2.2.2.2.2.2.1 K.2.2.2.2.2.2.2 hd hn
theorem r_callT (hE : zEok A E) (hT : zGd Tw) {len : List Nat} {byt : List (List Int32)} (hEt : ∀ U f, E U f → zTx len byt A U f) {lbl na index : Nat} {own : String} {y : MethodName} (hm : lab lbl = (M2, 0)) (K : zCalV Tw "java/lang/String" M2 na) (hown : M.1.cls = own) (hy : M2.1 = y) (hlink : Cond.methodLink own index y ∈ Tw) (hd : decode M.2.1 pc = .ok (.invokevirtual index, 3)) (hn : zS l D cl tc tys A E Tw lab M (pc + 3) nx) : zS l D cl tc tys A E Tw lab M pc (o_callT lbl (na + 1) nx) :=
  s_callT hE hEt hm K.1 (zGd_in hT K.2.1) K.2.2.1 (by rw [hown, hy]; exact hlink) K.2.2.2.1 K.2.2.2.2.1 K.2.2.2.2.2.1 K.2.2.2.2.2.2.1 K.2.2.2.2.2.2.2 hd hn
theorem r_callI (hE : zEok A E) (hT : zGd Tw) {lbl na index nL : Nat} {own : String} {y : MethodName} (hnL : M.2.2.1 = nL) (hm : lab lbl = (M2, 0)) (K : zCalI Tw M2 na) (hown : M.1.cls = own) (hy : M2.1 = y) (hlink : Cond.methodLink own index y ∈ Tw) (hd : decode M.2.1 pc = .ok (.invokespecial index, 3)) (hn : zS l D cl tc tys A E Tw lab M (pc + 3) nx) : zS l D cl tc tys A E Tw lab M pc (o_callI nL lbl (na + 1) nx) := by
  subst hnL
  exact s_callI hE hm K.1 K.2.1 K.2.2.1 (zGd_in hT K.2.2.2.1) K.2.2.2.2.1 (by rw [hown, hy]; exact hlink) K.2.2.2.2.2.1 K.2.2.2.2.2.2.1 K.2.2.2.2.2.2.2.1 K.2.2.2.2.2.2.2.2 hd hn
theorem r_callIN (hE : zEok A E) (hT : zGd Tw) {lbl na index nL : Nat} {own host : String} {y : MethodName} (hnL : M.2.2.1 = nL) (hm : lab lbl = (M2, 0)) (K : zCalI Tw M2 na) (hown : M.1.cls = own) (hy : M2.1 = y) (hN : ∀ U f, E U f → va_Nw (.methodLinkNest own index y host) U) (hd : decode M.2.1 pc = .ok (.invokespecial index, 3)) (hn : zS l D cl tc tys A E Tw lab M (pc + 3) nx) : zS l D cl tc tys A E Tw lab M pc (o_callI nL lbl (na + 1) nx) := by
  subst hnL
  exact s_callIN hE (fun U f h => by rw [hown, hy]; exact hN U f h) hm K.1 K.2.1 K.2.2.1 (zGd_in hT K.2.2.2.1) K.2.2.2.2.1 K.2.2.2.2.2.1 K.2.2.2.2.2.2.1 K.2.2.2.2.2.2.2.1 K.2.2.2.2.2.2.2.2 hd hn
theorem r_new {index N nL : Nat} {C own : String} {T : u_T} {ty0 : Nat → FieldType} {c : zC} {g : Nat} (hnL : M.2.2.1 = nL) (K : zKls cl Tw g C T N ty0) (hg : c.1 = g) (hN : c.2.1 = N) (hN2 : N ≤ 65536) (hs : ∀ j, j < N → zcv c j ≤ 4294967296 ∧ defaultValue (ty0 j) = zv (fun _ => 0) (zcv c j)) (hown : M.1.cls = own) (hlink : Cond.classLink own index C ∈ Tw) (hinst : Cond.instantiable C N ∈ Tw) (hini : Cond.initialized C ∈ Tw) (hd : decode M.2.1 pc = .ok (.new index, 3)) (hn : zS l D cl tc tys A E Tw lab M (pc + 3) nx) : zS l D cl tc tys A E Tw lab M pc (o_new nL c nx) := by
  subst hnL
  subst hg
  exact s_new K.1 hN hN2 (fun j hj => (hs j hj).1) (fun j hj => (hs j hj).2) K.2.1 K.2.2.1 K.2.2.2.1 (by rw [hown]; exact hlink) hinst hini hd hn
theorem r_newa {g t0 nL : Nat} {atype : ArrayType} {ty : FieldType} (hnL : M.2.2.1 = nL) (hg : ¬ g < 100 ∧ ¬ g = 102) (hta : newarray.typeOf atype = ty) (hty : tys[t0]? = some (tc g, ty)) (hu : ∀ (U : State) (c1 c2 : ClassId), va_RA U c1 ty → va_RA U c2 ty → c1 = c2) (hdv : defaultValue ty = .int 0) (hbt : componentBytes ty ≤ 8) (harr : Cond.arrayClass ty ∈ Tw) (hd : decode M.2.1 pc = .ok (.newarray atype, 2)) (hn : zS l D cl tc tys A E Tw lab M (pc + 2) nx) : zS l D cl tc tys A E Tw lab M pc (o_newa nL g nx) := by
  subst hnL
  exact s_newa hg.1 hg.2 hta hty hu hdv hbt harr hd hn
theorem r_anew {index t0 nL : Nat} {own : String} {k : zC} (hnL : M.2.2.1 = nL) (hk1 : k.1 = 102) (hk2 : k.2.1 ≤ 65536) (hnull : ∀ j, j < k.2.1 → zcv k j = 4294967296) (hE : ∀ U f, E U f → va_AOA .int U) (hty : tys[t0]? = some (tc 102, .array .int)) (hown : M.1.cls = own) (hclink : Cond.classLink own index "[I" ∈ Tw) (hd : decode M.2.1 pc = .ok (.anewarray index, 3)) (hn : zS l D cl tc tys A E Tw lab M (pc + 3) nx) : zS l D cl tc tys A E Tw lab M pc (o_anew nL k nx) := by
  subst hnL
  exact s_anew hk1 hk2 hnull hE hty (by rw [hown]; exact hclink) hd hn
theorem r_mnew {index t0 t1 n k nL : Nat} {own : String} (hnL : M.2.2.1 = nL) (hk1 : k ≤ 65536) (hE : ∀ U f, E U f → va_AOA .int U) (harr : Cond.arrayClass .int ∈ Tw) (hty : tys[t0]? = some (tc 102, .array .int)) (hty1 : tys[t1]? = some (tc 100, .int)) (hown : M.1.cls = own) (hclink : Cond.classLink own index "[[I" ∈ Tw) (hd : decode M.2.1 pc = .ok (.multianewarray index 2, 4)) (hn : zS l D cl tc tys A E Tw lab M (pc + 4) nx) : zS l D cl tc tys A E Tw lab M pc (o_mnew nL n k nx) := by
  subst hnL
  exact s_mnew hk1 hE harr hty hty1 (by rw [hown, show ("[" ++ (FieldType.array .int).toString) = "[[I" by decide +kernel]; exact hclink) hd hn
theorem z_RA_int (U : State) (c1 c2 : ClassId) (h1 : va_RA U c1 .int) (h2 : va_RA U c2 .int) : c1 = c2 := Option.some.inj (Eq.trans (Eq.symm h1) h2)
theorem z_RA_bool (U : State) (c1 c2 : ClassId) (h1 : va_RA U c1 .boolean) (h2 : va_RA U c2 .boolean) : c1 = c2 := Option.some.inj (Eq.trans (Eq.symm h1) h2)
theorem r_ldc {v index : Nat} {own : String} {x : Int32} (hlt : v < 4294967296) (hx : x = nI v) (hown : M.1.cls = own) (hc : Cond.constant own index x ∈ Tw) (hd : decode M.2.1 pc = .ok (.ldc index, 2)) (hn : zS l D cl tc tys A E Tw lab M (pc + 2) nx) : zS l D cl tc tys A E Tw lab M pc (o_push v nx) := s_ldc hlt (by rw [hown, ← hx]; exact hc) hd hn
theorem r_ldcw {v index : Nat} {own : String} {x : Int32} (hlt : v < 4294967296) (hx : x = nI v) (hown : M.1.cls = own) (hc : Cond.constant own index x ∈ Tw) (hd : decode M.2.1 pc = .ok (.ldc_w index, 3)) (hn : zS l D cl tc tys A E Tw lab M (pc + 3) nx) : zS l D cl tc tys A E Tw lab M pc (o_push v nx) := s_ldcw hlt (by rw [hown, ← hx]; exact hc) hd hn
end ZWrap
