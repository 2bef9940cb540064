theorem zf_eq {α : Type} (n : Nat) (k : Nat → α) : zf n k = k n := by
  cases n <;> rfl
theorem zlane_lt (x i : Nat) : zlane x i < 17179869185 := Nat.mod_lt _ (by decide)
theorem zP_pos (i : Nat) : 0 < 17179869185 ^ i := Nat.pow_pos (by decide)
theorem zput_eq (x i v : Nat) : zput x i v = 17179869185 ^ i * (17179869185 * (x / 17179869185 ^ i / 17179869185) + v) + x % 17179869185 ^ i := by
  show x - (x / 17179869185 ^ i % 17179869185) * 17179869185 ^ i + v * 17179869185 ^ i = _
  generalize hP : 17179869185 ^ i = P
  have e1 := Nat.div_add_mod x P
  have e2 := Nat.div_add_mod (x / P) 17179869185
  generalize x / P / 17179869185 = h at *
  generalize x / P % 17179869185 = o at *
  generalize x % P = r at *
  rw [← e2] at e1
  rw [Nat.mul_add] at e1
  rw [Nat.mul_add, Nat.mul_comm o P, Nat.mul_comm v P]
  generalize P * (17179869185 * h) = a at *
  generalize P * o = b at *
  omega
theorem zlane_same {x i v : Nat} (hv : v < 17179869185) : zlane (zput x i v) i = v := by
  show zput x i v / 17179869185 ^ i % 17179869185 = v
  rw [zput_eq, Nat.mul_add_div (zP_pos i), Nat.div_eq_of_lt (Nat.mod_lt _ (zP_pos i)), Nat.add_zero, Nat.mul_add_mod]
  exact Nat.mod_eq_of_lt hv
theorem zlane_ne {x i j v : Nat} (hv : v < 17179869185) (h : i ≠ j) : zlane (zput x i v) j = zlane x j := by
  show zput x i v / 17179869185 ^ j % 17179869185 = x / 17179869185 ^ j % 17179869185
  rcases Nat.lt_or_gt_of_ne h with h1 | h1
  · obtain ⟨k, rfl⟩ : ∃ k, j = i + 1 + k := ⟨j - (i + 1), by omega⟩
    have e : ∀ y : Nat, y / 17179869185 ^ (i + 1 + k) = y / 17179869185 ^ i / 17179869185 / 17179869185 ^ k := fun y => by
      rw [Nat.div_div_eq_div_mul, Nat.div_div_eq_div_mul, Nat.pow_add, Nat.pow_succ, Nat.mul_assoc]
    rw [e, e, zput_eq, Nat.mul_add_div (zP_pos i), Nat.div_eq_of_lt (Nat.mod_lt _ (zP_pos i)), Nat.add_zero, Nat.mul_add_div (by decide), Nat.div_eq_of_lt hv, Nat.add_zero]
  · have e : ∀ y : Nat, y / 17179869185 ^ j % 17179869185 = y % 17179869185 ^ i % 17179869185 ^ (j + 1) / 17179869185 ^ j := fun y => by
      rw [Nat.mod_mod_of_dvd _ (Nat.pow_dvd_pow _ (by omega)), Nat.pow_succ, Nat.mod_mul_right_div_self]
    rw [e, e, zput_eq, Nat.mul_add_mod, Nat.mod_mod]
theorem zT_s (α : Type) (d : Nat) : zT α (d + 1) = (zT α d × zT α d) := rfl
/-- the tree with g of what stands at i -/
noncomputable def zst {α : Type} (d : Nat) : zT α d → Nat → (α → α) → zT α d := Nat.rec (motive := fun d => zT α d → Nat → (α → α) → zT α d) (fun a _ g => g a) (fun j ih t i g => cond (Nat.ble (Nat.pow 2 j) i) (Prod.fst t, ih (Prod.snd t) (Nat.sub i (Nat.pow 2 j)) g) (ih (Prod.fst t) i g, Prod.snd t)) d
theorem zset_eq {α β : Type} {f : α → (α → β) → β} {g : α → α} (hf : ∀ a q, f a q = q (g a)) (d : Nat) : ∀ (t : zT α d) (i : Nat) (k : zT α d → β), zset d t i f k = k (zst d t i g) := by
  induction d with
  | zero => intro t i k; exact hf t k
  | succ j ih =>
    intro t i k
    obtain ⟨a, b⟩ := t
    show cond (Nat.ble (Nat.pow 2 j) i) (zset j b (Nat.sub i (Nat.pow 2 j)) f (fun b' => k (a, b'))) (zset j a i f (fun a' => k (a', b))) = k (cond (Nat.ble (Nat.pow 2 j) i) (a, zst j b (Nat.sub i (Nat.pow 2 j)) g) (zst j a i g, b))
    cases Nat.ble (Nat.pow 2 j) i with
    | true => exact ih b _ _
    | false => exact ih a _ _
theorem zget_st {α : Type} (g : α → α) (d : Nat) : ∀ (t : zT α d) (i j : Nat), i < 2 ^ d → j < 2 ^ d → zget d (zst d t i g) j = if i = j then g (zget d t j) else zget d t j := by
  induction d with
  | zero => intro t i j hi hj; rw [if_pos (by omega)]; rfl
  | succ n ih =>
    intro t i j hi hj
    obtain ⟨a, b⟩ := t
    have hp : 2 ^ (n + 1) = 2 ^ n + 2 ^ n := by rw [Nat.pow_succ]; omega
    show cond (Nat.ble (2 ^ n) j) (zget n (Prod.snd (cond (Nat.ble (2 ^ n) i) (a, zst n b (i - 2 ^ n) g) (zst n a i g, b))) (j - 2 ^ n)) (zget n (Prod.fst (cond (Nat.ble (2 ^ n) i) (a, zst n b (i - 2 ^ n) g) (zst n a i g, b))) j) = if i = j then g (cond (Nat.ble (2 ^ n) j) (zget n b (j - 2 ^ n)) (zget n a j)) else cond (Nat.ble (2 ^ n) j) (zget n b (j - 2 ^ n)) (zget n a j)
    by_cases h1 : 2 ^ n ≤ i <;> by_cases h2 : 2 ^ n ≤ j
    · simp only [Nat.ble_eq_true_of_le h1, Nat.ble_eq_true_of_le h2, cond_true]
      rw [ih b _ _ (by omega) (by omega)]
      by_cases e : i = j
      · rw [if_pos (by omega), if_pos e]
      · rw [if_neg (by omega), if_neg e]
    · have e2 : Nat.ble (2 ^ n) j = false := by
        cases h : Nat.ble (2 ^ n) j with
        | true => exact absurd (Nat.le_of_ble_eq_true h) h2
        | false => rfl
      simp only [Nat.ble_eq_true_of_le h1, e2, cond_true, cond_false]
      rw [if_neg (by omega)]
    · have e1 : Nat.ble (2 ^ n) i = false := by
        cases h : Nat.ble (2 ^ n) i with
        | true => exact absurd (Nat.le_of_ble_eq_true h) h1
        | false => rfl
      simp only [Nat.ble_eq_true_of_le h2, e1, cond_true, cond_false]
      rw [if_neg (by omega)]
    · have e1 : Nat.ble (2 ^ n) i = false := by
        cases h : Nat.ble (2 ^ n) i with
        | true => exact absurd (Nat.le_of_ble_eq_true h) h1
        | false => rfl
      have e2 : Nat.ble (2 ^ n) j = false := by
        cases h : Nat.ble (2 ^ n) j with
        | true => exact absurd (Nat.le_of_ble_eq_true h) h2
        | false => rfl
      simp only [e1, e2, cond_false]
      exact ih a _ _ (by omega) (by omega)
/-- what stands at place i of a cell -/
noncomputable def zcv (c : zC) (i : Nat) : Nat := cond (Nat.ble c.2.1 512) (zlane c.2.2.1 i) (zlane (zget 11 c.2.2.2 (i / 32)) (i % 32))
noncomputable def zcst (c : zC) (i v : Nat) : zC := cond (Nat.ble c.2.1 512) (c.1, c.2.1, zput c.2.2.1 i v, c.2.2.2) (c.1, c.2.1, c.2.2.1, zst 11 c.2.2.2 (i / 32) (fun a => zput a (i % 32) v))
theorem zcget_eq {β : Type} (c : zC) (i : Nat) (k : Nat → β) : zcget c i k = k (zcv c i) := by
  obtain ⟨g, n, x, t⟩ := c
  show cond (Nat.ble n 512) (zf (zlane x i) k) (zf (zlane (zget 11 t (i >>> 5)) (i % 32)) k) = k (cond (Nat.ble n 512) (zlane x i) (zlane (zget 11 t (i / 32)) (i % 32)))
  rw [zf_eq, zf_eq, Nat.shiftRight_eq_div_pow]
  cases Nat.ble n 512 <;> rfl
theorem zcset_eq {β : Type} (c : zC) (i v : Nat) (k : zC → β) : zcset c i v k = k (zcst c i v) := by
  obtain ⟨g, n, x, t⟩ := c
  show cond (Nat.ble n 512) (zf (zput x i v) (fun x' => k (g, n, x', t))) (zset 11 t (i >>> 5) (fun a q => zf (zput a (i % 32) v) q) (fun t' => k (g, n, x, t'))) = k (cond (Nat.ble n 512) (g, n, zput x i v, t) (g, n, x, zst 11 t (i / 32) (fun a => zput a (i % 32) v)))
  rw [zf_eq, zset_eq (g := fun a => zput a (i % 32) v) (fun a q => zf_eq _ _), Nat.shiftRight_eq_div_pow]
  cases Nat.ble n 512 <;> rfl
theorem zcv_st {c : zC} {i j v : Nat} (hv : v < 17179869185) (hi : i < c.2.1) (hj : j < c.2.1) (hn : c.2.1 ≤ 65536) : zcv (zcst c i v) j = if i = j then v else zcv c j := by
  obtain ⟨g, n, x, t⟩ := c
  have hi : i < n := hi
  have hj : j < n := hj
  have hn : n ≤ 65536 := hn
  show cond (Nat.ble (zcst (g, n, x, t) i v).2.1 512) _ _ = _
  unfold zcst zcv
  cases h : Nat.ble n 512 with
  | true =>
    simp only [h, cond_true]
    by_cases e : i = j
    · subst e; rw [if_pos rfl, zlane_same hv]
    · rw [if_neg e, zlane_ne hv e]
  | false =>
    simp only [h, cond_false]
    rw [zget_st _ _ _ _ _ (by show i / 32 < 2048; omega) (by show j / 32 < 2048; omega)]
    by_cases e : i = j
    · subst e; rw [if_pos rfl, if_pos rfl, zlane_same hv]
    · rw [if_neg e]
      by_cases e2 : i / 32 = j / 32
      · rw [if_pos e2, zlane_ne hv (by omega)]
      · rw [if_neg e2]
