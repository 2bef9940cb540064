theorem zall_get {p : Nat → Bool} {n : Nat} (h : zall p n = true) : ∀ i, i < n → p i = true := by
  induction n with
  | zero => intro i hi; omega
  | succ n ih =>
    have h : cond (p n) (zall p n) false = true := h
    intro i hi
    cases q : p n with
    | false => rw [q] at h; cases h
    | true =>
      rw [q] at h
      by_cases e : i = n
      · rw [e]; exact q
      · exact ih h i (by omega)
theorem zck_of {n x : Nat} (h : zck n x = true) : x < 4294967297 + n ∨ 8589934592 ≤ x := by
  have h : cond (Nat.ble (4294967297 + n) x) (Nat.ble 8589934592 x) true = true := h
  cases q : Nat.ble (4294967297 + n) x with
  | true => rw [q] at h; exact Or.inr (Nat.le_of_ble_eq_true h)
  | false =>
    left
    rcases Nat.lt_or_ge x (4294967297 + n) with z | z
    · exact z
    · rw [Nat.ble_eq_true_of_le z] at q; cases q
/-- where a new cell k = n comes, what was told stays -/
theorem zv_ck {ad ad' : Nat → Nat} {n x : Nat} (hn : n < 256) (h : zck n x = true) (ha : ∀ k, k ≠ n → ad' k = ad k) : zv ad' x = zv ad x := by
  unfold zv
  split
  · rfl
  · split
    · rfl
    · have := zck_of h
      rw [ha _ (by omega)]
theorem zo_ck {ad ad' : Nat → Nat} {n x : Nat} (hn : n < 256) (h0 : 0 < n) (h : zck n x = true) (ha : ∀ k, k ≠ n → ad' k = ad k) : zo ad' x = zo ad x := by
  unfold zo
  split
  · rfl
  · have := zck_of h
    rw [ha _ (by omega)]
theorem zckS_get {n : Nat} {S : List Nat} (h : zckS n S = true) : ∀ x ∈ S, zck n x = true := by
  induction S with
  | nil => intro x hx; cases hx
  | cons y S ih =>
    have h : cond (zck n y) (zckS n S) false = true := h
    cases q : zck n y with
    | false => rw [q] at h; cases h
    | true =>
      rw [q] at h
      intro x hx
      rcases List.mem_cons.mp hx with rfl | hx
      · exact q
      · exact ih h x hx
theorem zS_ck {ad ad' : Nat → Nat} {n : Nat} {S : List Nat} (hn : n < 256) (h : zckS n S = true) (ha : ∀ k, k ≠ n → ad' k = ad k) : S.map (zv ad') = S.map (zv ad) := List.map_congr_left fun x hx => zv_ck hn (zckS_get h x hx) ha
theorem zl_ck {ad ad' : Nat → Nat} {n L nL : Nat} {ls : Array Slot} (hn : n < 256) (h : zckL n L nL = true) (ha : ∀ k, k ≠ n → ad' k = ad k) (hl : lv_has ls nL (zl ad L nL)) : lv_has ls nL (zl ad' L nL) := by
  refine lv_has_sub hl (fun q hq => ?_)
  obtain ⟨i, v, hi, hz, rfl⟩ := zl_mem.mp hq
  have hc : zck n (Nat.pred (zlane L i)) = true := zall_get h i hi
  rw [hz] at hc
  have hc : zck n v = true := hc
  rw [zv_ck hn hc ha]
  exact zl_mem.mpr ⟨i, v, hi, hz, rfl⟩
theorem zE_ck {ad ad' : Nat → Nat} {tc : Nat → ClassId} {n : Nat} {c : zC} (hn : n < 256) (h0 : 0 < n) (h : zckC n c = true) (ha : ∀ k, k ≠ n → ad' k = ad k) : zE ad' tc c = zE ad tc c := by
  have h : cond (Nat.ble 100 c.1) (cond (Nat.beq c.1 102) (zall (fun i => zcget c i (fun v => zck n v)) c.2.1) true) (zall (fun i => zcget c i (fun v => zck n v)) c.2.1) = true := h
  have key : zall (fun i => zcget c i (fun v => zck n v)) c.2.1 = true → ∀ i, i < c.2.1 → zck n (zcv c i) = true := fun z i hi => by
    have := zall_get z i hi
    rw [zcget_eq] at this
    exact this
  unfold zE
  by_cases c1 : c.1 < 100
  · rw [if_pos c1, if_pos c1]
    have e : Nat.ble 100 c.1 = false := by
      cases q : Nat.ble 100 c.1 with
      | true => have := Nat.le_of_ble_eq_true q; omega
      | false => rfl
    rw [e] at h
    congr 2
    refine List.map_congr_left fun i hi => ?_
    exact zv_ck hn (key h i (List.mem_range.mp hi)) ha
  · rw [if_neg c1, if_neg c1]
    by_cases c2 : c.1 = 102
    · rw [if_pos c2, if_pos c2]
      rw [Nat.ble_eq_true_of_le (show 100 ≤ c.1 by omega), c2] at h
      have h : zall (fun i => zcget c i (fun v => zck n v)) c.2.1 = true := h
      congr 7
      funext j
      by_cases hj : j < c.2.1
      · rw [if_pos hj, if_pos hj, zo_ck hn h0 (key h j hj) ha]
      · rw [if_neg hj, if_neg hj]
    · rw [if_neg c2, if_neg c2]
theorem zW_new {ad ad' : Nat → Nat} {tc : Nat → ClassId} {n sl sl' : Nat} {t : zT zC 8} {c : zC} (hn : n < 256) (h : zckH n t = true) (ha : ∀ k, k ≠ n → ad' k = ad k) : zW ad' tc (n + 1, sl', zst 8 t n (fun _ => c)) = zW ad tc (n, sl, t) ++ [(ad' n, zE ad' tc c)] := by
  have hl : (zW ad tc (n, sl, t)).length = n := by unfold zW; simp
  apply List.ext_getElem?
  intro j
  by_cases hj : j < n
  · rw [zW_get (h := (n + 1, sl', zst 8 t n (fun _ => c))) (by show j < n + 1; omega), List.getElem?_append_left (by omega), zW_get (h := (n, sl, t)) hj]
    show some (ad' j, zE ad' tc (zget 8 (zst 8 t n (fun _ => c)) j)) = some (ad j, zE ad tc (zget 8 t j))
    rw [zget_st _ 8 t n j (by show n < 256; omega) (by show j < 256; omega), if_neg (by omega), ha j (by omega), zE_ck hn (by omega) (zall_get h j hj) ha]
  · by_cases hj2 : j = n
    · subst hj2
      rw [zW_get (h := (j + 1, sl', zst 8 t j (fun _ => c))) (by show j < j + 1; omega), List.getElem?_append_right (by omega), hl, Nat.sub_self]
      show some (ad' j, zE ad' tc (zget 8 (zst 8 t j (fun _ => c)) j)) = some (ad' j, zE ad' tc c)
      rw [zget_st _ 8 t j j (by show j < 256; omega) (by show j < 256; omega), if_pos rfl]
    · have l2 : (zW ad' tc (n + 1, sl', zst 8 t n (fun _ => c))).length = n + 1 := by unfold zW; simp
      rw [List.getElem?_eq_none (by omega), List.getElem?_eq_none (by rw [List.length_append, hl]; simp; omega)]
