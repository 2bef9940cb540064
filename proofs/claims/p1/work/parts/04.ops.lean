/-! One activation, and what an operation is worth there -/
/-- a method: its name, its code, how many locals, what it returns -/
abbrev zM : Type := MethodName × ByteArray × Nat × Option FieldType
/-- the ending: the world holds the heap h', the answer is r -/
def zQ (D : va_G) (cl : List vw_C) (tc : Nat → ClassId) (tys : List (ClassId × FieldType)) (r : List Nat) (h' : zH) (ad0 : Nat → Nat) (n0 : Nat) (A : Nat → Prop) : Array Value → State → Outcome → State → Prop := fun _ st o t =>
  (∃ ad' : Nat → Nat, (∀ k, k < n0 ∨ h'.1 ≤ k → ad' k = ad0 k) ∧ o = .returned (r.head?.map (zv ad')) ∧ va_P D cl (zW ad' tc h') t.heap ∧ va_K D cl tys t ∧ va_D A (zW ad' tc h') ∧ h'.1 ≤ 256 ∧ ∀ k, k < h'.1 → (zget 8 h'.2.2 k).2.1 ≤ 65536) ∧ va_F A st t
/-- what stays through an activation -/
def zAct (D : va_G) (cl : List vw_C) (tys : List (ClassId × FieldType)) (E : State → (Nat → Nat) → Prop) (Tw : List Cond) (M : zM) (d : Nat) (h' : zH) (p : Program) (R : Room) (s : State) (m : MethodId) (args : Array Value) (meth : Method) (c : Code) (A : Nat → Prop) (n0 s0 : Nat) (ad0 : Nat → Nat) : Prop :=
  p.tables.exec = Jvm.exec ∧ c.code = M.2.1 ∧ c.maxLocals = M.2.2.1 ∧ s.vm.findClass M.1.cls = some m.cls ∧ (∀ w ∈ Tw, w.before args s = true) ∧ meth.sig.returnType = M.2.2.2 ∧ meth.locks = false ∧ meth.name = M.1.name ∧ va_K D cl tys s ∧ (∀ q, s.heap.size ≤ q → A q) ∧ d ≤ R.frames ∧ 50 * d ≤ R.locals ∧ h'.1 ≤ n0 + R.cells ∧ h'.2.1 ≤ s0 + R.slots ∧ E s ad0
/-- what changes in it -/
def zSt (D : va_G) (cl : List vw_C) (tc : Nat → ClassId) (s : State) (A : Nat → Prop) (ad0 : Nat → Nat) (n0 s0 : Nat) (ad : Nat → Nat) (h : zH) (H : Heap) (locs : List Loc) (cells slots : Nat) : Prop :=
  va_P D cl (zW ad tc h) H ∧ va_D A (zW ad tc h) ∧ va_S A s.heap H locs ∧ (∀ k, k < n0 ∨ h.1 ≤ k → ad k = ad0 k) ∧ h.1 = n0 + cells ∧ h.2.1 = s0 + slots ∧ h.1 ≤ 256 ∧ ∀ k, k < h.1 → (zget 8 h.2.2 k).2.1 ≤ 65536
/-- from pc on the method does what k tells -/
def zG (l : Launch) (D : va_G) (cl : List vw_C) (tc : Nat → ClassId) (tys : List (ClassId × FieldType)) (A : Nat → Prop) (E : State → (Nat → Nat) → Prop) (Tw : List Cond) (M : zM) (pc : Nat) (k : Nat → Nat → List Nat → zH → zR) : Prop :=
  ∀ (d L : Nat) (S : List Nat) (h : zH) (r : List Nat) (h' : zH), k d L S h = some (r, h') →
  ∀ (p : Program) (e : Env) (R : Room) (s : State) (m : MethodId) (args : Array Value) (below : List Frame) (meth : Method) (c : Code) (ad0 : Nat → Nat) (n0 s0 : Nat), zAct D cl tys E Tw M d h' p R s m args meth c A n0 s0 ad0 →
  ∀ (ad : Nat → Nat) (ls : Array Slot) (H : Heap) (locs : List Loc) (cells slots : Nat), zSt D cl tc s A ad0 n0 s0 ad h H locs cells slots → lv_has ls M.2.2.1 (zl ad L M.2.2.1) →
  W p l e R s m args below meth c H locs cells slots (MQ below (zQ D cl tc tys r h' ad0 n0 A) args s (h'.1 - n0) (h'.2.1 - s0) A) (F0 m pc ls (S.map (zv ad)))
/-- heaps grow -/
def zMn (k : Nat → Nat → List Nat → zH → zR) : Prop := ∀ (d L : Nat) (S : List Nat) (h : zH) (r : List Nat) (h' : zH), k d L S h = some (r, h') → h.1 ≤ h'.1 ∧ h.2.1 ≤ h'.2.1
section ZOps
variable {l : Launch} {D : va_G} {cl : List vw_C} {tc : Nat → ClassId} {tys : List (ClassId × FieldType)} {A : Nat → Prop} {E : State → (Nat → Nat) → Prop} {Tw : List Cond} {lab : Nat → zM × Nat} {M : zM} {pc : Nat} {nx tg : zK}
/-- what is known of the labels -/
def zOkR (l : Launch) (D : va_G) (cl : List vw_C) (tc : Nat → ClassId) (tys : List (ClassId × FieldType)) (A : Nat → Prop) (E : State → (Nat → Nat) → Prop) (Tw : List Cond) (lab : Nat → zM × Nat) (Rc : zRec) : Prop := ∀ lbl, zG l D cl tc tys A E Tw (lab lbl).1 (lab lbl).2 (fun d L S h => Rc d lbl L S h) ∧ zMn (fun d L S h => Rc d lbl L S h)
/-- a piece of code is worth what it says -/
def zS (l : Launch) (D : va_G) (cl : List vw_C) (tc : Nat → ClassId) (tys : List (ClassId × FieldType)) (A : Nat → Prop) (E : State → (Nat → Nat) → Prop) (Tw : List Cond) (lab : Nat → zM × Nat) (M : zM) (pc : Nat) (k : zK) : Prop := ∀ Rc : zRec, zOkR l D cl tc tys A E Tw lab Rc → zG l D cl tc tys A E Tw M pc (k Rc) ∧ zMn (k Rc)
theorem s_iconst {n : Int} {v : Nat} (hlt : v < 4294967296) (hv : Int32.ofInt n = nI v) (hd : decode M.2.1 pc = .ok (.iconst n, 1)) (hn : zS l D cl tc tys A E Tw lab M (pc + 1) nx) : zS l D cl tc tys A E Tw lab M pc (o_push v nx) := by
  intro Rc hR
  obtain ⟨h1, h2⟩ := hn Rc hR
  refine ⟨?_, fun d L S h r h' hk => h2 d L (v :: S) h r h' hk⟩
  intro d L S h r h' hk p e R s m args below meth c ad0 n0 s0 hA ad ls H locs cells slots hS hl
  refine lv_iconst hA.1 hA.2.1 hd hv ?_
  have q := h1 d L (v :: S) h r h' hk p e R s m args below meth c ad0 n0 s0 hA ad ls H locs cells slots hS hl
  rw [List.map_cons, zv_int ad hlt] at q
  exact q
theorem s_bipush {n : Int} {v : Nat} (hlt : v < 4294967296) (hv : (Int8.ofInt n).toInt32 = nI v) (hd : decode M.2.1 pc = .ok (.bipush n, 2)) (hn : zS l D cl tc tys A E Tw lab M (pc + 2) nx) : zS l D cl tc tys A E Tw lab M pc (o_push v nx) := by
  intro Rc hR
  obtain ⟨h1, h2⟩ := hn Rc hR
  refine ⟨?_, fun d L S h r h' hk => h2 d L (v :: S) h r h' hk⟩
  intro d L S h r h' hk p e R s m args below meth c ad0 n0 s0 hA ad ls H locs cells slots hS hl
  refine lv_bipush hA.1 hA.2.1 hd hv ?_
  have q := h1 d L (v :: S) h r h' hk p e R s m args below meth c ad0 n0 s0 hA ad ls H locs cells slots hS hl
  rw [List.map_cons, zv_int ad hlt] at q
  exact q
theorem s_sipush {n : Int} {v : Nat} (hlt : v < 4294967296) (hv : (Int16.ofInt n).toInt32 = nI v) (hd : decode M.2.1 pc = .ok (.sipush n, 3)) (hn : zS l D cl tc tys A E Tw lab M (pc + 3) nx) : zS l D cl tc tys A E Tw lab M pc (o_push v nx) := by
  intro Rc hR
  obtain ⟨h1, h2⟩ := hn Rc hR
  refine ⟨?_, fun d L S h r h' hk => h2 d L (v :: S) h r h' hk⟩
  intro d L S h r h' hk p e R s m args below meth c ad0 n0 s0 hA ad ls H locs cells slots hS hl
  refine lv_sipush hA.1 hA.2.1 hd hv ?_
  have q := h1 d L (v :: S) h r h' hk p e R s m args below meth c ad0 n0 s0 hA ad ls H locs cells slots hS hl
  rw [List.map_cons, zv_int ad hlt] at q
  exact q
theorem zpr_some {β : Type} {w : Nat} {k : Nat → Option β} {b : β} (h : zpr w k = some b) : ∃ v, w = v + 1 ∧ k v = some b := by
  cases w with
  | zero => cases h
  | succ v => exact ⟨v, rfl, h⟩
theorem zint_some {β : Type} {v : Nat} {k : Option β} {b : β} (h : zint v k = some b) : v < 4294967296 ∧ k = some b := by
  unfold zint at h
  cases q : Nat.ble 4294967296 v with
  | true => rw [q] at h; cases h
  | false =>
    rw [q] at h
    refine ⟨?_, h⟩
    rcases Nat.lt_or_ge v 4294967296 with z | z
    · exact z
    · rw [Nat.ble_eq_true_of_le z] at q; cases q
theorem zref_some {β : Type} {v : Nat} {k : Option β} {b : β} (h : zref v k = some b) : 4294967296 < v ∧ k = some b := by
  unfold zref at h
  cases q : Nat.ble v 4294967296 with
  | true => rw [q] at h; cases h
  | false =>
    rw [q] at h
    refine ⟨?_, h⟩
    rcases Nat.lt_or_ge 4294967296 v with z | z
    · exact z
    · rw [Nat.ble_eq_true_of_le z] at q; cases q
theorem zpop_some {β : Type} {S : List Nat} {k : Nat → List Nat → Option β} {b : β} (h : zpop S k = some b) : ∃ v S', S = v :: S' ∧ k v S' = some b := by
  cases S with
  | nil => cases h
  | cons v S' => exact ⟨v, S', rfl, h⟩
theorem s_iload_n {q : Fin 4} {i : Nat} (hq : (q : Nat) = i) (hi : i < M.2.2.1) (hd : decode M.2.1 pc = .ok (.iload_n q, 1)) (hn : zS l D cl tc tys A E Tw lab M (pc + 1) nx) : zS l D cl tc tys A E Tw lab M pc (o_iload i nx) := by
  intro Rc hR
  obtain ⟨h1, h2⟩ := hn Rc hR
  refine ⟨?_, fun d L S h r h' hk => ?_⟩
  · intro d L S h r h' hk p e R s m args below meth c ad0 n0 s0 hA ad ls H locs cells slots hS hl
    obtain ⟨v, hz, hk⟩ := zpr_some hk
    obtain ⟨hlt, hk⟩ := zint_some hk
    have hloc := zl_at hl hi hz
    rw [zv_int ad hlt] at hloc
    refine lv_iload_n hA.1 hA.2.1 hd hq hloc ?_
    have q := h1 d L (v :: S) h r h' hk p e R s m args below meth c ad0 n0 s0 hA ad ls H locs cells slots hS hl
    rw [List.map_cons, zv_int ad hlt] at q
    exact q
  · obtain ⟨v, hz, hk⟩ := zpr_some hk
    exact h2 d L (v :: S) h r h' (zint_some hk).2
theorem s_iload {i : Nat} (hi : i < M.2.2.1) (hd : decode M.2.1 pc = .ok (.iload i, 2)) (hn : zS l D cl tc tys A E Tw lab M (pc + 2) nx) : zS l D cl tc tys A E Tw lab M pc (o_iload i nx) := by
  intro Rc hR
  obtain ⟨h1, h2⟩ := hn Rc hR
  refine ⟨?_, fun d L S h r h' hk => ?_⟩
  · intro d L S h r h' hk p e R s m args below meth c ad0 n0 s0 hA ad ls H locs cells slots hS hl
    obtain ⟨v, hz, hk⟩ := zpr_some hk
    obtain ⟨hlt, hk⟩ := zint_some hk
    have hloc := zl_at hl hi hz
    rw [zv_int ad hlt] at hloc
    refine lv_iload hA.1 hA.2.1 hd hloc ?_
    have q := h1 d L (v :: S) h r h' hk p e R s m args below meth c ad0 n0 s0 hA ad ls H locs cells slots hS hl
    rw [List.map_cons, zv_int ad hlt] at q
    exact q
  · obtain ⟨v, hz, hk⟩ := zpr_some hk
    exact h2 d L (v :: S) h r h' (zint_some hk).2
theorem s_aload_n {q : Fin 4} {i : Nat} (hq : (q : Nat) = i) (hi : i < M.2.2.1) (hd : decode M.2.1 pc = .ok (.aload_n q, 1)) (hn : zS l D cl tc tys A E Tw lab M (pc + 1) nx) : zS l D cl tc tys A E Tw lab M pc (o_aload i nx) := by
  intro Rc hR
  obtain ⟨h1, h2⟩ := hn Rc hR
  refine ⟨?_, fun d L S h r h' hk => ?_⟩
  · intro d L S h r h' hk p e R s m args below meth c ad0 n0 s0 hA ad ls H locs cells slots hS hl
    obtain ⟨v, hz, hk⟩ := zpr_some hk
    obtain ⟨hlt, hk⟩ := zref_some hk
    have hloc := zl_at hl hi hz
    rw [zv_ref ad hlt] at hloc
    refine lv_aload_n hA.1 hA.2.1 hd hq hloc ?_
    have q := h1 d L (v :: S) h r h' hk p e R s m args below meth c ad0 n0 s0 hA ad ls H locs cells slots hS hl
    rw [List.map_cons, zv_ref ad hlt] at q
    exact q
  · obtain ⟨v, hz, hk⟩ := zpr_some hk
    exact h2 d L (v :: S) h r h' (zref_some hk).2
theorem s_aload {i : Nat} (hi : i < M.2.2.1) (hd : decode M.2.1 pc = .ok (.aload i, 2)) (hn : zS l D cl tc tys A E Tw lab M (pc + 2) nx) : zS l D cl tc tys A E Tw lab M pc (o_aload i nx) := by
  intro Rc hR
  obtain ⟨h1, h2⟩ := hn Rc hR
  refine ⟨?_, fun d L S h r h' hk => ?_⟩
  · intro d L S h r h' hk p e R s m args below meth c ad0 n0 s0 hA ad ls H locs cells slots hS hl
    obtain ⟨v, hz, hk⟩ := zpr_some hk
    obtain ⟨hlt, hk⟩ := zref_some hk
    have hloc := zl_at hl hi hz
    rw [zv_ref ad hlt] at hloc
    refine lv_aload hA.1 hA.2.1 hd hloc ?_
    have q := h1 d L (v :: S) h r h' hk p e R s m args below meth c ad0 n0 s0 hA ad ls H locs cells slots hS hl
    rw [List.map_cons, zv_ref ad hlt] at q
    exact q
  · obtain ⟨v, hz, hk⟩ := zpr_some hk
    exact h2 d L (v :: S) h r h' (zref_some hk).2
theorem s_istore_n {q : Fin 4} {i : Nat} (hq : (q : Nat) = i) (hi : i < M.2.2.1) (hd : decode M.2.1 pc = .ok (.istore_n q, 1)) (hn : zS l D cl tc tys A E Tw lab M (pc + 1) nx) : zS l D cl tc tys A E Tw lab M pc (o_istore i nx) := by
  intro Rc hR
  obtain ⟨h1, h2⟩ := hn Rc hR
  refine ⟨?_, fun d L S h r h' hk => ?_⟩
  · intro d L S h r h' hk p e R s m args below meth c ad0 n0 s0 hA ad ls H locs cells slots hS hl
    obtain ⟨v, S', rfl, hk⟩ := zpop_some hk
    obtain ⟨hlt, hk⟩ := zint_some hk
    rw [zf_eq] at hk
    rw [List.map_cons, zv_int ad hlt]
    refine lv_istore_n hA.1 hA.2.1 hd hq hl hi rfl ?_
    intro ls' hl'
    rw [← zv_int ad hlt] at hl'
    exact h1 d _ S' h r h' hk p e R s m args below meth c ad0 n0 s0 hA ad ls' H locs cells slots hS (zl_put (by omega) hl')
  · obtain ⟨v, S', rfl, hk⟩ := zpop_some hk
    have hk := (zint_some hk).2
    rw [zf_eq] at hk
    exact h2 d _ S' h r h' hk
end ZOps
