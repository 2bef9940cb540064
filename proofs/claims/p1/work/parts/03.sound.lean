/-! What my machine's numbers mean -/
noncomputable def zv (ad : Nat → Nat) (x : Nat) : Value := if x < 4294967296 then .int (nI x) else if x = 4294967296 then .null else .ref (ad (x - 4294967297))
theorem zv_int (ad : Nat → Nat) {x : Nat} (h : x < 4294967296) : zv ad x = .int (nI x) := if_pos h
theorem zv_ref (ad : Nat → Nat) {x : Nat} (h : 4294967296 < x) : zv ad x = .ref (ad (x - 4294967297)) := by
  unfold zv
  rw [if_neg (by omega), if_neg (by omega)]
theorem zv_cat (ad : Nat → Nat) (x : Nat) : (zv ad x).category = 1 := by
  unfold zv
  split
  · rfl
  · split <;> rfl
noncomputable def zo (ad : Nat → Nat) (x : Nat) : Option Nat := if x = 4294967296 then none else some (ad (x - 4294967297))
/-- the locals that are set -/
noncomputable def zl (ad : Nat → Nat) (L nL : Nat) : List (Nat × Value) := (List.range nL).filterMap (fun i => match zlane L i with | 0 => none | v + 1 => some (i, zv ad v))
theorem zl_mem {ad : Nat → Nat} {L nL : Nat} {q : Nat × Value} : q ∈ zl ad L nL ↔ ∃ i v, i < nL ∧ zlane L i = v + 1 ∧ q = (i, zv ad v) := by
  unfold zl
  rw [List.mem_filterMap]
  constructor
  · rintro ⟨i, hi, h⟩
    rw [List.mem_range] at hi
    cases hz : zlane L i with
    | zero => rw [hz] at h; cases h
    | succ v => rw [hz] at h; exact ⟨i, v, hi, hz, (Option.some.inj h).symm⟩
  · rintro ⟨i, v, hi, hz, rfl⟩
    exact ⟨i, List.mem_range.mpr hi, by rw [hz]⟩
theorem lv_has_sub {ls : Array Slot} {n : Nat} {l l' : List (Nat × Value)} (h : lv_has ls n l) (hs : ∀ q ∈ l', q ∈ l) : lv_has ls n l' := ⟨h.1, h.2.1, fun q hq => h.2.2 q (hs q hq)⟩
theorem zl_at {ad : Nat → Nat} {L nL i v : Nat} {ls : Array Slot} (h : lv_has ls nL (zl ad L nL)) (hi : i < nL) (hz : zlane L i = v + 1) : ls[i]? = some (.val (zv ad v)) := h.2.2 (i, zv ad v) (zl_mem.mpr ⟨i, v, hi, hz, rfl⟩)
theorem zl_put {ad : Nat → Nat} {L nL i v : Nat} {ls : Array Slot} (hv : v + 1 < 17179869185) (h : lv_has ls nL ((i, zv ad v) :: (zl ad L nL).filter (fun q => !(q.1 == i) && !(q.1 + 1 == i && q.2.category == 2)))) : lv_has ls nL (zl ad (zput L i (v + 1)) nL) := by
  refine lv_has_sub h (fun q hq => ?_)
  obtain ⟨j, u, hj, hz, rfl⟩ := zl_mem.mp hq
  by_cases e : i = j
  · subst e
    rw [zlane_same hv] at hz
    have : u = v := by omega
    subst this
    exact List.mem_cons_self
  · rw [zlane_ne hv e] at hz
    refine List.mem_cons_of_mem _ (List.mem_filter.mpr ⟨zl_mem.mpr ⟨j, u, hj, hz, rfl⟩, ?_⟩)
    have e2 : ¬ j = i := fun z => e z.symm
    simp [e2, zv_cat]
/-- a cell as the kit's worlds have it; tc: the classes of the arrays -/
noncomputable def zE (ad : Nat → Nat) (tc : Nat → ClassId) (c : zC) : va_E :=
  if c.1 < 100 then .inr (c.1, (List.range c.2.1).map (fun i => zv ad (zcv c i)))
  else if c.1 = 102 then .inl (tc c.1, c.2.1, .inr (.inr (.inr (.inr (fun j => if j < c.2.1 then zo ad (zcv c j) else none)))))
  else .inl (tc c.1, c.2.1, .inl (fun j => if j < c.2.1 then nI (zcv c j) else 0))
/-- a heap as the kit's worlds have it -/
noncomputable def zW (ad : Nat → Nat) (tc : Nat → ClassId) (h : zH) : va_W := (List.range h.1).map (fun k => (ad k, zE ad tc (zget 8 h.2.2 k)))
theorem zW_get {ad : Nat → Nat} {tc : Nat → ClassId} {h : zH} {k : Nat} (hk : k < h.1) : (zW ad tc h)[k]? = some (ad k, zE ad tc (zget 8 h.2.2 k)) := by
  unfold zW
  rw [List.getElem?_map, List.getElem?_range hk]
  rfl
/-- another cell at k -/
theorem zW_set {ad : Nat → Nat} {tc : Nat → ClassId} {n sl k : Nat} {t : zT zC 8} {g : zC → zC} (hk : k < n) (hn : n ≤ 256) : (zW ad tc (n, sl, t)).set k (ad k, zE ad tc (g (zget 8 t k))) = zW ad tc (n, sl, zst 8 t k g) := by
  apply List.ext_getElem?
  intro j
  by_cases hj : j < n
  · rw [zW_get (h := (n, sl, zst 8 t k g)) hj]
    have e := zget_st g 8 t k j (by show k < 256; omega) (by show j < 256; omega)
    show _ = some (ad j, zE ad tc (zget 8 (zst 8 t k g) j))
    rw [e]
    by_cases hkj : k = j
    · subst hkj
      rw [if_pos rfl, List.getElem?_set_self (by unfold zW; simpa using hk)]
    · rw [if_neg hkj, List.getElem?_set_ne hkj, zW_get (h := (n, sl, t)) hj]
  · have l1 : ((zW ad tc (n, sl, t)).set k (ad k, zE ad tc (g (zget 8 t k)))).length = n := by unfold zW; simp
    have l2 : (zW ad tc (n, sl, zst 8 t k g)).length = n := by unfold zW; simp
    rw [List.getElem?_eq_none (by omega), List.getElem?_eq_none (by omega)]
