noncomputable def zrw (k b n : Nat) (t : zT zC 8) : zT zC 8 := Nat.rec (motive := fun _ => zT zC 8) t (fun j ih => zst 8 ih (b + j) (fun _ => (100, k, 0, zfill 0 11))) n
theorem zrows_eq {β : Type} (k b n : Nat) : ∀ (t : zT zC 8) (q : zT zC 8 → β), zrows k b n t q = q (zrw k b n t) := by
  induction n with
  | zero => intro t q; rfl
  | succ j ih =>
    intro t q
    show zrows k b j t (fun t => zset 8 t (b + j) (fun _ q => q (100, k, 0, zfill 0 11)) q) = q (zst 8 (zrw k b j t) (b + j) (fun _ => (100, k, 0, zfill 0 11)))
    rw [ih, zset_eq (g := fun _ => (100, k, 0, zfill 0 11)) (fun _ _ => rfl)]
theorem zget_rw (k b n : Nat) (t : zT zC 8) (hb : b + n ≤ 256) (i : Nat) (hi : i < 256) : zget 8 (zrw k b n t) i = if b ≤ i ∧ i < b + n then (100, k, 0, zfill 0 11) else zget 8 t i := by
  induction n with
  | zero => rw [if_neg (by omega)]; rfl
  | succ j ih =>
    show zget 8 (zst 8 (zrw k b j t) (b + j) (fun _ => (100, k, 0, zfill 0 11))) i = _
    rw [zget_st _ 8 _ _ _ (by show b + j < 256; omega) (by show i < 256; omega)]
    by_cases e : b + j = i
    · rw [if_pos e, if_pos (by omega)]
    · rw [if_neg e, ih (by omega)]
      by_cases e2 : b ≤ i ∧ i < b + j
      · rw [if_pos e2, if_pos (by omega)]
      · rw [if_neg e2, if_neg (by omega)]
theorem zrefs_lt (b n : Nat) (h : b + n ≤ 17179869185) : zrefs b n < 17179869185 ^ n := by
  induction n with
  | zero => exact Nat.zero_lt_one
  | succ j ih =>
    have h1 := ih (by omega)
    show zrefs b j + (b + j) * 17179869185 ^ j < 17179869185 ^ (j + 1)
    have h2 : (b + j + 1) * 17179869185 ^ j ≤ 17179869185 * 17179869185 ^ j := Nat.mul_le_mul_right _ (by omega)
    rw [Nat.pow_succ, Nat.mul_comm (17179869185 ^ j)]
    rw [Nat.add_mul, Nat.one_mul] at h2
    omega
theorem zrefs_s (b j : Nat) (h : b + j ≤ 17179869185) : zrefs b (j + 1) = zput (zrefs b j) j (b + j) := by
  have h1 := zrefs_lt b j h
  show zrefs b j + (b + j) * 17179869185 ^ j = zrefs b j - (zrefs b j / 17179869185 ^ j % 17179869185) * 17179869185 ^ j + (b + j) * 17179869185 ^ j
  rw [Nat.div_eq_of_lt h1, Nat.zero_mod, Nat.zero_mul, Nat.sub_zero]
theorem zrefs_lane (b n : Nat) (h : b + n ≤ 17179869185) (i : Nat) (hi : i < n) : zlane (zrefs b n) i = b + i := by
  induction n with
  | zero => omega
  | succ j ih =>
    rw [zrefs_s b j (by omega)]
    by_cases e : j = i
    · subst e
      exact zlane_same (by omega)
    · rw [zlane_ne (by omega) e]
      exact ih (by omega) (by omega)
section ZMnew
variable {l : Launch} {D : va_G} {cl : List vw_C} {tc : Nat → ClassId} {tys : List (ClassId × FieldType)} {A : Nat → Prop} {E : State → (Nat → Nat) → Prop} {Tw : List Cond} {lab : Nat → zM × Nat} {M M2 : zM} {pc : Nat} {nx tg : zK}
theorem zmnew_some {nL n k : Nat} {Rc : zRec} {d L : Nat} {S : List Nat} {h : zH} {b : List Nat × zH} (e : o_mnew nL n k nx Rc d L S h = some b) : ∃ S', S = k :: n :: S' ∧ h.1 + (n + 1) ≤ 256 ∧ zckL h.1 L nL = true ∧ zckS h.1 S' = true ∧ zckH h.1 h.2.2 = true ∧ nx Rc d L ((4294967297 + h.1) :: S') (h.1 + (n + 1), h.2.1 + (n + n * k), zrw k (h.1 + 1) n (zst 8 h.2.2 h.1 (fun _ => (102, n, zrefs (4294967298 + h.1) n, zfill 0 11)))) = some b := by
  obtain ⟨k', S1, rfl, k1⟩ := zpop_some e
  clear e
  obtain ⟨e1, k2⟩ := zcond_some k1
  clear k1
  have e1 := Nat.eq_of_beq_eq_true e1
  subst e1
  obtain ⟨n', S', rfl, k3⟩ := zpop_some k2
  clear k2
  obtain ⟨e2, k4⟩ := zcond_some k3
  clear k3
  have e2 := Nat.eq_of_beq_eq_true e2
  subst e2
  obtain ⟨hn, sl, t⟩ := h
  obtain ⟨g1, k5⟩ := zcond_some k4
  clear k4
  have g1 := Nat.le_of_ble_eq_true g1
  obtain ⟨g2, k6⟩ := zcond_some k5
  clear k5
  obtain ⟨g3, k7⟩ := zcond_some k6
  clear k6
  obtain ⟨g4, k8⟩ := zcond_some k7
  clear k7
  rw [zf_eq, zset_eq (g := fun _ => (102, n', zrefs (Nat.add 4294967298 hn) n', zfill 0 11)) (fun _ _ => rfl), zrows_eq, zf_eq, zf_eq] at k8
  exact ⟨S', rfl, g1, g2, g3, g4, k8⟩
/-- the world with an array of rows more -/
theorem zW_mnew {ad ad' : Nat → Nat} {hn sl sl' n k q : Nat} {r : Nat → Nat} {t : zT zC 8} (hle : hn + (n + 1) ≤ 256) (h : zckH hn t = true) (ha0 : ∀ j, j < hn ∨ hn + (n + 1) ≤ j → ad' j = ad j) (ha1 : ad' hn = q) (ha2 : ∀ i, i < n → ad' (hn + 1 + i) = r i) :
    zW ad' tc (hn + (n + 1), sl', zrw k (hn + 1) n (zst 8 t hn (fun _ => (102, n, zrefs (4294967298 + hn) n, zfill 0 11)))) = (zW ad tc (hn, sl, t) ++ [(q, .inl (tc 102, n, .inr (.inr (.inr (.inr (fun i => if i < n then some (r i) else none))))))]) ++ ((List.range n).map r).map (fun a => (a, .inl (tc 100, k, .inl (fun _ => 0)))) := by
  have hl : (zW ad tc (hn, sl, t)).length = hn := by unfold zW; simp
  have hck : ∀ (x : Nat), zck hn x = true → zv ad' x = zv ad x ∧ (0 < hn → zo ad' x = zo ad x) := fun x hx => by
    have hx2 := zck_of hx
    refine ⟨?_, fun h0 => ?_⟩
    · unfold zv
      split
      · rfl
      · split
        · rfl
        · rw [ha0 _ (by omega)]
    · unfold zo
      split
      · rfl
      · rw [ha0 _ (by omega)]
  have hcell : ∀ c : zC, 0 < hn → zckC hn c = true → zE ad' tc c = zE ad tc c := fun c h0 h => by
    have h : cond (Nat.ble 100 c.1) (cond (Nat.beq c.1 102) (zall (fun i => zcget c i (fun v => zck hn v)) c.2.1) true) (zall (fun i => zcget c i (fun v => zck hn v)) c.2.1) = true := h
    have key : zall (fun i => zcget c i (fun v => zck hn v)) c.2.1 = true → ∀ i, i < c.2.1 → zck hn (zcv c i) = true := fun z i hi => by
      have := zall_get z i hi
      rw [zcget_eq] at this
      exact this
    unfold zE
    by_cases c1 : c.1 < 100
    · rw [if_pos c1, if_pos c1]
      have e : Nat.ble 100 c.1 = false := by
        cases q : Nat.ble 100 c.1 with
        | true => have := Nat.le_of_ble_eq_true q; omega
        | false => rfl
      rw [e] at h
      congr 2
      refine List.map_congr_left fun i hi => ?_
      exact (hck _ (key h i (List.mem_range.mp hi))).1
    · rw [if_neg c1, if_neg c1]
      by_cases c2 : c.1 = 102
      · rw [if_pos c2, if_pos c2]
        rw [Nat.ble_eq_true_of_le (show 100 ≤ c.1 by omega), c2] at h
        have h : zall (fun i => zcget c i (fun v => zck hn v)) c.2.1 = true := h
        congr 7
        funext j
        by_cases hj : j < c.2.1
        · rw [if_pos hj, if_pos hj, (hck _ (key h j hj)).2 h0]
        · rw [if_neg hj, if_neg hj]
      · rw [if_neg c2, if_neg c2]
  apply List.ext_getElem?
  intro j
  by_cases hj : j < hn + (n + 1)
  · rw [zW_get (h := (hn + (n + 1), sl', zrw k (hn + 1) n (zst 8 t hn (fun _ => (102, n, zrefs (4294967298 + hn) n, zfill 0 11))))) hj]
    show some (ad' j, zE ad' tc (zget 8 (zrw k (hn + 1) n (zst 8 t hn (fun _ => (102, n, zrefs (4294967298 + hn) n, zfill 0 11)))) j)) = _
    rw [zget_rw k (hn + 1) n _ (by omega) j (by omega), zget_st _ 8 _ _ _ (by show hn < 256; omega) (by show j < 256; omega)]
    by_cases h1 : j < hn
    · rw [if_neg (by omega), if_neg (by omega), List.getElem?_append_left (by rw [List.length_append, hl]; simp; omega), List.getElem?_append_left (by omega), zW_get (h := (hn, sl, t)) h1, ha0 j (by omega), hcell _ (by omega) (zall_get h j h1)]
    · by_cases h2 : j = hn
      · subst h2
        rw [if_neg (by omega), if_pos rfl, List.getElem?_append_left (by rw [List.length_append, hl]; simp), List.getElem?_append_right (by omega), hl, Nat.sub_self, ha1]
        show some (q, zE ad' tc (102, n, zrefs (4294967298 + j) n, zfill 0 11)) = some (q, _)
        congr 2
        unfold zE
        rw [if_neg (show ¬ (102 : Nat) < 100 by decide), if_pos rfl]
        congr 7
        funext i
        by_cases hi : i < n
        · have e0 : (if i < n then some (r i) else none) = some (r i) := if_pos hi
          rw [if_pos hi, e0]
          have e1 : zcv (102, n, zrefs (4294967298 + j) n, zfill 0 11) i = 4294967298 + j + i := by
            show cond (Nat.ble n 512) (zlane (zrefs (4294967298 + j) n) i) _ = _
            rw [Nat.ble_eq_true_of_le (show n ≤ 512 by omega)]
            exact zrefs_lane _ _ (by omega) _ hi
          rw [e1]
          unfold zo
          rw [if_neg (by omega), show 4294967298 + j + i - 4294967297 = j + 1 + i by omega, ha2 i hi]
        · have e0 : (if i < n then some (r i) else none) = none := if_neg hi
          rw [if_neg hi, e0]
      · obtain ⟨i, rfl⟩ : ∃ i, j = hn + 1 + i := ⟨j - (hn + 1), by omega⟩
        rw [if_pos (by omega), List.getElem?_append_right (by rw [List.length_append, hl]; simp), List.length_append, hl, ha2 i (by omega)]
        rw [show hn + 1 + i - (hn + [(q, (Sum.inl (tc 102, n, .inr (.inr (.inr (.inr (fun i => if i < n then some (r i) else none))))) : va_E))].length) = i by simp]
        rw [List.getElem?_map, List.getElem?_map, List.getElem?_range (by omega)]
        show some (r i, zE ad' tc (100, k, 0, zfill 0 11)) = some (r i, _)
        rw [zE_0 (by decide) (by decide)]
  · have l1 : (zW ad' tc (hn + (n + 1), sl', zrw k (hn + 1) n (zst 8 t hn (fun _ => (102, n, zrefs (4294967298 + hn) n, zfill 0 11))))).length = hn + (n + 1) := by unfold zW; simp
    rw [List.getElem?_eq_none (by omega), List.getElem?_eq_none (by rw [List.length_append, List.length_append, hl]; simp; omega)]
end ZMnew
