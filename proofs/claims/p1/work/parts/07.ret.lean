theorem zemp_some {β : Type} {S : List Nat} {k : Option β} {b : β} (h : zemp S k = some b) : S = [] ∧ k = some b := by
  cases S with
  | nil => exact ⟨rfl, h⟩
  | cons v S' => cases h
section ZRet
variable {l : Launch} {D : va_G} {cl : List vw_C} {tc : Nat → ClassId} {tys : List (ClassId × FieldType)} {A : Nat → Prop} {E : State → (Nat → Nat) → Prop} {Tw : List Cond} {lab : Nat → zM × Nat} {M : zM} {pc : Nat}
theorem zQ_of {p : Program} {R : Room} {s : State} {m : MethodId} {args : Array Value} {meth : Method} {c : Code} {ad0 ad : Nat → Nat} {n0 s0 d : Nat} {h h' : zH} {H : Heap} {locs : List Loc} {cells slots : Nat} {r : List Nat} {t : State} (hA : zAct D cl tys E Tw M d h' p R s m args meth c A n0 s0 ad0) (hS : zSt D cl tc s A ad0 n0 s0 ad h H locs cells slots) (ht : t.heap = H) (hW : s.WarmedH t.vm) : zQ D cl tc tys r h ad0 n0 A args s (.returned (r.head?.map (zv ad))) t :=
  ⟨⟨ad, hS.2.2.2.1, rfl, by rw [ht]; exact hS.1, va_K.moved hW.alike hA.2.2.2.2.2.2.2.2.1, hS.2.1, hS.2.2.2.2.2.2⟩, hS.2.2.1.F ht⟩
theorem s_iret (hr : M.2.2.2 = some .int) (hd : decode M.2.1 pc = .ok (.ireturn, 1)) : zS l D cl tc tys A E Tw lab M pc o_ret := by
  intro Rc hR
  refine ⟨?_, fun d L S h r h' hk => ?_⟩
  · intro d L S h r h' hk p e R s m args below meth c ad0 n0 s0 hA ad ls H locs cells slots hS hl
    obtain ⟨v, S', rfl, k1⟩ := zpop_some hk
    obtain ⟨hv, k2⟩ := zint_some k1
    obtain ⟨rfl, k3⟩ := zemp_some k2
    clear hk k1 k2
    cases k3
    have e1 : h.1 - n0 = cells := by have := hS.2.2.2.2.1; omega
    have e2 : h.2.1 - s0 = slots := by have := hS.2.2.2.2.2.1; omega
    rw [e1, e2]
    have q : ∀ t : State, t.heap = H → s.WarmedH t.vm → zQ D cl tc tys [v] h ad0 n0 A args s (.returned (some (.int (nI v)))) t := fun t ht hW => by
      have z := zQ_of (r := [v]) hA hS ht hW
      rw [show ([v].head?.map (zv ad)) = some (.int (nI v)) from congrArg some (zv_int ad hv)] at z
      exact z
    show W p l e R s m args below meth c H locs cells slots _ (F0 m pc ls [zv ad v])
    rw [zv_int ad hv]
    exact W.iret hA.1 hA.2.1 (hA.2.2.2.2.2.1.trans hr) q hS.2.2.1.2.2 hd hA.2.2.2.2.2.2.1
  · obtain ⟨v, S', rfl, k1⟩ := zpop_some hk
    obtain ⟨hv, k2⟩ := zint_some k1
    obtain ⟨rfl, k3⟩ := zemp_some k2
    clear hk k1 k2
    cases k3
    exact ⟨Nat.le_refl _, Nat.le_refl _⟩
theorem z_bool : ∀ v, v < 2 → narrow .boolean (.int (nI v)) = .int (nI v) := by decide +kernel
theorem s_zret (hr : M.2.2.2 = some .boolean) (hd : decode M.2.1 pc = .ok (.ireturn, 1)) : zS l D cl tc tys A E Tw lab M pc o_zret := by
  intro Rc hR
  have key : ∀ {d L : Nat} {S : List Nat} {h : zH} {r : List Nat} {h' : zH}, o_zret Rc d L S h = some (r, h') → ∃ v, v < 2 ∧ S = [v] ∧ r = [v] ∧ h' = h := by
    intro d L S h r h' hk
    obtain ⟨v, S', rfl, k1⟩ := zpop_some hk
    clear hk
    cases q : Nat.ble 2 v with
    | true => rw [q] at k1; cases k1
    | false =>
      rw [q] at k1
      obtain ⟨rfl, k3⟩ := zemp_some k1
      cases k3
      refine ⟨v, ?_, rfl, rfl, rfl⟩
      rcases Nat.lt_or_ge v 2 with z | z
      · exact z
      · rw [Nat.ble_eq_true_of_le z] at q; cases q
  refine ⟨?_, fun d L S h r h' hk => ?_⟩
  · intro d L S h r h' hk p e R s m args below meth c ad0 n0 s0 hA ad ls H locs cells slots hS hl
    obtain ⟨v, hv, rfl, rfl, rfl⟩ := key hk
    clear hk
    have e1 : h'.1 - n0 = cells := by have := hS.2.2.2.2.1; omega
    have e2 : h'.2.1 - s0 = slots := by have := hS.2.2.2.2.2.1; omega
    rw [e1, e2]
    have hv2 : v < 4294967296 := by omega
    have q : ∀ t : State, t.heap = H → s.WarmedH t.vm → zQ D cl tc tys [v] h' ad0 n0 A args s (.returned (some (.int (nI v)))) t := fun t ht hW => by
      have z := zQ_of (r := [v]) hA hS ht hW
      rw [show ([v].head?.map (zv ad)) = some (.int (nI v)) from congrArg some (zv_int ad hv2)] at z
      exact z
    show W p l e R s m args below meth c H locs cells slots _ (F0 m pc ls [zv ad v])
    rw [zv_int ad hv2]
    exact W.zret hA.1 hA.2.1 (hA.2.2.2.2.2.1.trans hr) (z_bool v hv) q hS.2.2.1.2.2 hd hA.2.2.2.2.2.2.1
  · obtain ⟨v, hv, rfl, rfl, rfl⟩ := key hk
    exact ⟨Nat.le_refl _, Nat.le_refl _⟩
theorem s_vret (hr : M.2.2.2 = none) (hd : decode M.2.1 pc = .ok (.return_, 1)) : zS l D cl tc tys A E Tw lab M pc o_vret := by
  intro Rc hR
  refine ⟨?_, fun d L S h r h' hk => ?_⟩
  · intro d L S h r h' hk p e R s m args below meth c ad0 n0 s0 hA ad ls H locs cells slots hS hl
    obtain ⟨rfl, k3⟩ := zemp_some hk
    clear hk
    cases k3
    have e1 : h.1 - n0 = cells := by have := hS.2.2.2.2.1; omega
    have e2 : h.2.1 - s0 = slots := by have := hS.2.2.2.2.2.1; omega
    rw [e1, e2]
    exact W.vret hA.1 hA.2.1 (hA.2.2.2.2.2.1.trans hr) (fun t ht hW => zQ_of (r := []) hA hS ht hW) hS.2.2.1.2.2 hd hA.2.2.2.2.2.2.1
  · obtain ⟨rfl, k3⟩ := zemp_some hk
    cases k3
    exact ⟨Nat.le_refl _, Nat.le_refl _⟩
end ZRet
