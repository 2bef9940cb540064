section ZOps2
variable {l : Launch} {D : va_G} {cl : List vw_C} {tc : Nat → ClassId} {tys : List (ClassId × FieldType)} {A : Nat → Prop} {E : State → (Nat → Nat) → Prop} {Tw : List Cond} {lab : Nat → zM × Nat} {M : zM} {pc : Nat} {nx tg : zK}
theorem s_istore {i : Nat} (hi : i < M.2.2.1) (hd : decode M.2.1 pc = .ok (.istore i, 2)) (hn : zS l D cl tc tys A E Tw lab M (pc + 2) nx) : zS l D cl tc tys A E Tw lab M pc (o_istore i nx) := by
  intro Rc hR
  obtain ⟨h1, h2⟩ := hn Rc hR
  refine ⟨?_, fun d L S h r h' hk => ?_⟩
  · intro d L S h r h' hk p e R s m args below meth c ad0 n0 s0 hA ad ls H locs cells slots hS hl
    obtain ⟨v, S', rfl, hk⟩ := zpop_some hk
    obtain ⟨hlt, hk⟩ := zint_some hk
    rw [zf_eq] at hk
    rw [List.map_cons, zv_int ad hlt]
    refine lv_istore hA.1 hA.2.1 hd hl hi rfl ?_
    intro ls' hl'
    rw [← zv_int ad hlt] at hl'
    exact h1 d _ S' h r h' hk p e R s m args below meth c ad0 n0 s0 hA ad ls' H locs cells slots hS (zl_put (by omega) hl')
  · obtain ⟨v, S', rfl, hk⟩ := zpop_some hk
    have hk := (zint_some hk).2
    rw [zf_eq] at hk
    exact h2 d _ S' h r h' hk
theorem zl_pos {ad : Nat → Nat} {L nL i v : Nat} (hi : i < nL) (hz : zlane L i = v + 1) : ∃ k : Nat, (zl ad L nL)[k]? = some (i, zv ad v) := by
  obtain ⟨k, hk, e⟩ := List.getElem_of_mem (zl_mem.mpr ⟨i, v, hi, hz, rfl⟩ : (i, zv ad v) ∈ zl ad L nL)
  exact ⟨k, by rw [List.getElem?_eq_getElem hk, e]⟩
theorem s_iinc {i w : Nat} {n : Int} (hi : i < M.2.2.1) (hw : Int32.ofInt n = nI w) (hd : decode M.2.1 pc = .ok (.iinc i n, 3)) (hn : zS l D cl tc tys A E Tw lab M (pc + 3) nx) : zS l D cl tc tys A E Tw lab M pc (o_iinc i w nx) := by
  intro Rc hR
  obtain ⟨h1, h2⟩ := hn Rc hR
  refine ⟨?_, fun d L S h r h' hk => ?_⟩
  · intro d L S h r h' hk p e R s m args below meth c ad0 n0 s0 hA ad ls H locs cells slots hS hl
    obtain ⟨v, hz, hk⟩ := zpr_some hk
    obtain ⟨hlt, hk⟩ := zint_some hk
    rw [zf_eq] at hk
    obtain ⟨k, hk0⟩ := zl_pos (ad := ad) hi hz
    rw [zv_int ad hlt] at hk0
    have hm : Nat.mod (Nat.add v w) 4294967296 < 4294967296 := Nat.mod_lt _ (by decide)
    have hv : nI v + Int32.ofInt n = nI (Nat.mod (Nat.add v w) 4294967296) := by
      rw [hw, nI_add]
      show Int32.ofNat (v + w) = Int32.ofNat ((v + w) % 4294967296)
      apply Int32.toBitVec_inj.mp
      apply BitVec.eq_of_toNat_eq
      show (v + w) % 4294967296 = ((v + w) % 4294967296) % 4294967296
      omega
    refine lv_iinc hA.1 hA.2.1 hd hl hk0 hv hi rfl ?_
    intro ls' hl'
    rw [← zv_int ad hm] at hl'
    exact h1 d _ S h r h' hk p e R s m args below meth c ad0 n0 s0 hA ad ls' H locs cells slots hS (zl_put (by omega) hl')
  · obtain ⟨v, hz, hk⟩ := zpr_some hk
    have hk := (zint_some hk).2
    rw [zf_eq] at hk
    exact h2 d _ S h r h' hk
/-- a reckoning of two ints -/
theorem s_bin {f : Nat → Nat → Nat} {F : Int32 → Int32 → Int32} (hf : ∀ a b, a < 4294967296 → b < 4294967296 → f a b < 4294967296 ∧ F (nI a) (nI b) = nI (f a b))
    (hw : ∀ (p : Program) (e : Env) (R : Room) (s : State) (m : MethodId) (args : Array Value) (below : List Frame) (meth : Method) (c : Code) (H : Heap) (locs : List Loc) (cells slots : Nat) (Q : State → Prop) (ls : Array Slot) (rest : List Value) (x y : Int32), p.tables.exec = Jvm.exec → c.code = M.2.1 → W p l e R s m args below meth c H locs cells slots Q (F0 m (pc + 1) ls (.int (F x y) :: rest)) → W p l e R s m args below meth c H locs cells slots Q (F0 m pc ls (.int y :: .int x :: rest)))
    (hn : zS l D cl tc tys A E Tw lab M (pc + 1) nx) : zS l D cl tc tys A E Tw lab M pc (o_bin f nx) := by
  intro Rc hR
  obtain ⟨h1, h2⟩ := hn Rc hR
  refine ⟨?_, fun d L S h r h' hk => ?_⟩
  · intro d L S h r h' hk p e R s m args below meth c ad0 n0 s0 hA ad ls H locs cells slots hS hl
    obtain ⟨b, S', rfl, hk⟩ := zpop_some hk
    obtain ⟨hb, hk⟩ := zint_some hk
    obtain ⟨a, S'', rfl, hk⟩ := zpop_some hk
    obtain ⟨ha, hk⟩ := zint_some hk
    rw [zf_eq] at hk
    obtain ⟨g1, g2⟩ := hf a b ha hb
    rw [List.map_cons, List.map_cons, zv_int ad hb, zv_int ad ha]
    refine hw p e R s m args below meth c H locs cells slots _ ls _ _ _ hA.1 hA.2.1 ?_
    have q := h1 d L (f a b :: S'') h r h' hk p e R s m args below meth c ad0 n0 s0 hA ad ls H locs cells slots hS hl
    rw [List.map_cons, zv_int ad g1] at q
    rw [g2]
    exact q
  · obtain ⟨b, S', rfl, hk⟩ := zpop_some hk
    obtain ⟨-, hk⟩ := zint_some hk
    obtain ⟨a, S'', rfl, hk⟩ := zpop_some hk
    obtain ⟨-, hk⟩ := zint_some hk
    rw [zf_eq] at hk
    exact h2 d L _ h r h' hk
/-- a branch by two ints -/
theorem s_cmp {f : Nat → Nat → Bool} {F : Int32 → Int32 → Prop} {tgt : Nat} (hf : ∀ a b, a < 4294967296 → b < 4294967296 → (F (nI a) (nI b) ↔ f a b = true))
    (hw : ∀ (p : Program) (e : Env) (R : Room) (s : State) (m : MethodId) (args : Array Value) (below : List Frame) (meth : Method) (c : Code) (H : Heap) (locs : List Loc) (cells slots : Nat) (Q : State → Prop) (ls : Array Slot) (rest : List Value) (x y : Int32), p.tables.exec = Jvm.exec → c.code = M.2.1 → (F x y → W p l e R s m args below meth c H locs cells slots Q (F0 m tgt ls rest)) → (¬ F x y → W p l e R s m args below meth c H locs cells slots Q (F0 m (pc + 3) ls rest)) → W p l e R s m args below meth c H locs cells slots Q (F0 m pc ls (.int y :: .int x :: rest)))
    (ht : zS l D cl tc tys A E Tw lab M tgt tg) (hn : zS l D cl tc tys A E Tw lab M (pc + 3) nx) : zS l D cl tc tys A E Tw lab M pc (o_cmp f tg nx) := by
  intro Rc hR
  obtain ⟨h1, h2⟩ := hn Rc hR
  obtain ⟨t1, t2⟩ := ht Rc hR
  refine ⟨?_, fun d L S h r h' hk => ?_⟩
  · intro d L S h r h' hk p e R s m args below meth c ad0 n0 s0 hA ad ls H locs cells slots hS hl
    obtain ⟨b, S', rfl, hk⟩ := zpop_some hk
    obtain ⟨hb, hk⟩ := zint_some hk
    obtain ⟨a, S'', rfl, hk⟩ := zpop_some hk
    obtain ⟨ha, hk⟩ := zint_some hk
    rw [List.map_cons, List.map_cons, zv_int ad hb, zv_int ad ha]
    refine hw p e R s m args below meth c H locs cells slots _ ls _ _ _ hA.1 hA.2.1 (fun hF => ?_) (fun hF => ?_)
    · rw [(hf a b ha hb).mp hF] at hk
      exact t1 d L S'' h r h' hk p e R s m args below meth c ad0 n0 s0 hA ad ls H locs cells slots hS hl
    · have e0 : f a b = false := by
        cases q : f a b with
        | true => exact absurd ((hf a b ha hb).mpr q) hF
        | false => rfl
      rw [e0] at hk
      exact h1 d L S'' h r h' hk p e R s m args below meth c ad0 n0 s0 hA ad ls H locs cells slots hS hl
  · obtain ⟨b, S', rfl, hk⟩ := zpop_some hk
    obtain ⟨-, hk⟩ := zint_some hk
    obtain ⟨a, S'', rfl, hk⟩ := zpop_some hk
    obtain ⟨-, hk⟩ := zint_some hk
    cases q : f a b with
    | true => rw [q] at hk; exact t2 d L S'' h r h' hk
    | false => rw [q] at hk; exact h2 d L S'' h r h' hk
/-- a branch by an int -/
theorem s_if {f : Nat → Bool} {F : Int32 → Prop} {tgt : Nat} (hf : ∀ a, a < 4294967296 → (F (nI a) ↔ f a = true))
    (hw : ∀ (p : Program) (e : Env) (R : Room) (s : State) (m : MethodId) (args : Array Value) (below : List Frame) (meth : Method) (c : Code) (H : Heap) (locs : List Loc) (cells slots : Nat) (Q : State → Prop) (ls : Array Slot) (rest : List Value) (x : Int32), p.tables.exec = Jvm.exec → c.code = M.2.1 → (F x → W p l e R s m args below meth c H locs cells slots Q (F0 m tgt ls rest)) → (¬ F x → W p l e R s m args below meth c H locs cells slots Q (F0 m (pc + 3) ls rest)) → W p l e R s m args below meth c H locs cells slots Q (F0 m pc ls (.int x :: rest)))
    (ht : zS l D cl tc tys A E Tw lab M tgt tg) (hn : zS l D cl tc tys A E Tw lab M (pc + 3) nx) : zS l D cl tc tys A E Tw lab M pc (o_if f tg nx) := by
  intro Rc hR
  obtain ⟨h1, h2⟩ := hn Rc hR
  obtain ⟨t1, t2⟩ := ht Rc hR
  refine ⟨?_, fun d L S h r h' hk => ?_⟩
  · intro d L S h r h' hk p e R s m args below meth c ad0 n0 s0 hA ad ls H locs cells slots hS hl
    obtain ⟨a, S'', rfl, hk⟩ := zpop_some hk
    obtain ⟨ha, hk⟩ := zint_some hk
    rw [List.map_cons, zv_int ad ha]
    refine hw p e R s m args below meth c H locs cells slots _ ls _ _ hA.1 hA.2.1 (fun hF => ?_) (fun hF => ?_)
    · rw [(hf a ha).mp hF] at hk
      exact t1 d L S'' h r h' hk p e R s m args below meth c ad0 n0 s0 hA ad ls H locs cells slots hS hl
    · have e0 : f a = false := by
        cases q : f a with
        | true => exact absurd ((hf a ha).mpr q) hF
        | false => rfl
      rw [e0] at hk
      exact h1 d L S'' h r h' hk p e R s m args below meth c ad0 n0 s0 hA ad ls H locs cells slots hS hl
  · obtain ⟨a, S'', rfl, hk⟩ := zpop_some hk
    have hk := (zint_some hk).2
    cases q : f a with
    | true => rw [q] at hk; exact t2 d L S'' h r h' hk
    | false => rw [q] at hk; exact h2 d L S'' h r h' hk
theorem s_goto {off : Int} {tgt : Nat} (hd : decode M.2.1 pc = .ok (.goto off, 3)) (ht : (pc : Int) + off = (tgt : Int)) (hn : zS l D cl tc tys A E Tw lab M tgt nx) : zS l D cl tc tys A E Tw lab M pc nx := by
  intro Rc hR
  obtain ⟨h1, h2⟩ := hn Rc hR
  refine ⟨?_, h2⟩
  intro d L S h r h' hk p e R s m args below meth c ad0 n0 s0 hA ad ls H locs cells slots hS hl
  exact lv_goto hA.1 hA.2.1 hd ht (h1 d L S h r h' hk p e R s m args below meth c ad0 n0 s0 hA ad ls H locs cells slots hS hl)
theorem s_dup (hd : decode M.2.1 pc = .ok (.dup, 1)) (hn : zS l D cl tc tys A E Tw lab M (pc + 1) nx) : zS l D cl tc tys A E Tw lab M pc (o_dup nx) := by
  intro Rc hR
  obtain ⟨h1, h2⟩ := hn Rc hR
  refine ⟨?_, fun d L S h r h' hk => ?_⟩
  · intro d L S h r h' hk p e R s m args below meth c ad0 n0 s0 hA ad ls H locs cells slots hS hl
    obtain ⟨a, S'', rfl, hk⟩ := zpop_some hk
    exact lv_dup hA.1 hA.2.1 hd (zv_cat ad a) (h1 d L (a :: a :: S'') h r h' hk p e R s m args below meth c ad0 n0 s0 hA ad ls H locs cells slots hS hl)
  · obtain ⟨a, S'', rfl, hk⟩ := zpop_some hk
    exact h2 d L _ h r h' hk
theorem s_pop (hd : decode M.2.1 pc = .ok (.pop, 1)) (hn : zS l D cl tc tys A E Tw lab M (pc + 1) nx) : zS l D cl tc tys A E Tw lab M pc (o_pop nx) := by
  intro Rc hR
  obtain ⟨h1, h2⟩ := hn Rc hR
  refine ⟨?_, fun d L S h r h' hk => ?_⟩
  · intro d L S h r h' hk p e R s m args below meth c ad0 n0 s0 hA ad ls H locs cells slots hS hl
    obtain ⟨a, S'', rfl, hk⟩ := zpop_some hk
    exact lv_pop hA.1 hA.2.1 hd (zv_cat ad a) (h1 d L S'' h r h' hk p e R s m args below meth c ad0 n0 s0 hA ad ls H locs cells slots hS hl)
  · obtain ⟨a, S'', rfl, hk⟩ := zpop_some hk
    exact h2 d L _ h r h' hk
/-- back to a label of this method -/
theorem s_back {lbl : Nat} (hm : lab lbl = (M, pc)) : zS l D cl tc tys A E Tw lab M pc (o_back lbl) := by
  intro Rc hR
  have := hR lbl
  rw [hm] at this
  exact this
end ZOps2
