/-! what an operation does where what it needs is known -/
theorem zref_gt {β : Type} {v : Nat} (k : Option β) (h : 4294967296 < v) : zref v k = k := by
  unfold zref
  cases q : Nat.ble v 4294967296 with
  | true => have := Nat.le_of_ble_eq_true q; omega
  | false => rfl
theorem zble_f {a b : Nat} (h : b < a) : Nat.ble a b = false := by
  cases q : Nat.ble a b with
  | true => have := Nat.le_of_ble_eq_true q; omega
  | false => rfl
theorem zsubc (c k : Nat) : Nat.sub (c + k) c = k := Nat.add_sub_cancel_left c k
theorem zsubh (c k : Nat) : c + k - c = k := Nat.add_sub_cancel_left c k
theorem zat_eq {β : Type} {h : zH} {k : Nat} (f : zC → Option β) (hk : k < h.1) : zat h (4294967297 + k) f = f (zget 8 h.2.2 k) := by
  obtain ⟨n, sl, t⟩ := h
  have hk : k < n := hk
  unfold zat
  rw [zref_gt _ (by omega)]
  show cond (Nat.ble (Nat.add 4294967297 n) (4294967297 + k)) none (f (zget 8 t (Nat.sub (4294967297 + k) 4294967297))) = f (zget 8 t k)
  rw [zble_f (show 4294967297 + k < Nat.add 4294967297 n from Nat.add_lt_add_left hk _), cond_false]
  exact congrArg (fun j => f (zget 8 t j)) (zsubc 4294967297 k)
theorem zis_eq {β : Type} {g : Nat} {c : zC} {i : Nat} (k : Option β) (hg : c.1 = g) (hi : i < c.2.1) : zis g c i k = k := by
  unfold zis
  rw [show Nat.beq (Prod.fst c) g = true by rw [hg]; exact Nat.beq_refl g, cond_true, zble_f hi, cond_false]
theorem zupd_at {β : Type} {h : zH} {k i v : Nat} (q : zH → Option β) : zupd h (4294967297 + k) (fun c q => zcset c i v q) q = q (h.1, h.2.1, zst 8 h.2.2 k (fun c => zcst c i v)) := by
  rw [zupd_eq]
  exact congrArg (fun j => q (h.1, h.2.1, zst 8 h.2.2 j (fun c => zcst c i v))) (zsubh 4294967297 k)
section ZEval
variable {nx tg : zK} {R : zRec} {d L : Nat} {S : List Nat} {h : zH}
theorem e_push {v : Nat} : o_push v nx R d L S h = nx R d L (v :: S) h := rfl
theorem e_iload {i v : Nat} (hl : zlane L i = v + 1) (hv : v < 4294967296) : o_iload i nx R d L S h = nx R d L (v :: S) h := by
  unfold o_iload
  rw [hl]
  exact zint_lt _ hv
theorem e_aload {i v : Nat} (hl : zlane L i = v + 1) (hv : 4294967296 < v) : o_aload i nx R d L S h = nx R d L (v :: S) h := by
  unfold o_aload
  rw [hl]
  exact zref_gt _ hv
theorem e_istore {i v : Nat} (hv : v < 4294967296) : o_istore i nx R d L (v :: S) h = nx R d (zput L i (v + 1)) S h := by
  show zint v (zf (zput L i (v + 1)) (fun L => nx R d L S h)) = _
  rw [zint_lt _ hv, zf_eq]
theorem e_astore {i v : Nat} (hv : 4294967296 < v) (hv2 : v ≤ 17179869183) : o_astoreT i nx R d L (v :: S) h = nx R d (zput L i (v + 1)) S h := by
  show zref v (cond (Nat.ble v 17179869183) (zf (zput L i (v + 1)) (fun L => nx R d L S h)) none) = _
  rw [zref_gt _ hv, Nat.ble_eq_true_of_le hv2, cond_true, zf_eq]
theorem e_iinc {i w v : Nat} (hl : zlane L i = v + 1) (hv : v < 4294967296) : o_iinc i w nx R d L S h = nx R d (zput L i ((v + w) % 4294967296 + 1)) S h := by
  unfold o_iinc
  rw [hl]
  show zint v (zf (zput L i ((v + w) % 4294967296 + 1)) (fun L => nx R d L S h)) = _
  rw [zint_lt _ hv, zf_eq]
theorem e_bin {f : Nat → Nat → Nat} {a b : Nat} (ha : a < 4294967296) (hb : b < 4294967296) : o_bin f nx R d L (b :: a :: S) h = nx R d L (f a b :: S) h := by
  show zint b (zint a (zf (f a b) (fun v => nx R d L (v :: S) h))) = _
  rw [zint_lt _ hb, zint_lt _ ha, zf_eq]
theorem e_un {f : Nat → Nat} {a : Nat} (ha : a < 4294967296) : o_un f nx R d L (a :: S) h = nx R d L (f a :: S) h := by
  show zint a (zf (f a) (fun v => nx R d L (v :: S) h)) = _
  rw [zint_lt _ ha, zf_eq]
theorem e_cmp {f : Nat → Nat → Bool} {a b : Nat} (ha : a < 4294967296) (hb : b < 4294967296) : o_cmp f tg nx R d L (b :: a :: S) h = cond (f a b) (tg R d L S h) (nx R d L S h) := by
  show zint b (zint a (cond (f a b) (tg R d L S h) (nx R d L S h))) = _
  rw [zint_lt _ hb, zint_lt _ ha]
theorem e_if {f : Nat → Bool} {a : Nat} (ha : a < 4294967296) : o_if f tg nx R d L (a :: S) h = cond (f a) (tg R d L S h) (nx R d L S h) := by
  show zint a (cond (f a) (tg R d L S h) (nx R d L S h)) = _
  rw [zint_lt _ ha]
theorem e_dup {a : Nat} : o_dup nx R d L (a :: S) h = nx R d L (a :: a :: S) h := rfl
theorem e_pop {a : Nat} : o_pop nx R d L (a :: S) h = nx R d L S h := rfl
theorem e_getf {g f k : Nat} {c : zC} (hk : k < h.1) (hc : zget 8 h.2.2 k = c) (hg : c.1 = g) (hf : f < c.2.1) : o_getf g f nx R d L ((4294967297 + k) :: S) h = nx R d L (zcv c f :: S) h := by
  show zat h (4294967297 + k) (fun c => zis g c f (zcget c f (fun v => nx R d L (v :: S) h))) = _
  rw [zat_eq _ hk, hc, zis_eq _ hg hf, zcget_eq]
theorem e_putf {ck : Nat → Bool} {g f k v : Nat} {c : zC} (hv : ck v = true) (hk : k < h.1) (hc : zget 8 h.2.2 k = c) (hg : c.1 = g) (hf : f < c.2.1) : o_putf ck g f nx R d L (v :: (4294967297 + k) :: S) h = nx R d L S (h.1, h.2.1, zst 8 h.2.2 k (fun c => zcst c f v)) := by
  show cond (ck v) (zat h (4294967297 + k) (fun c => zis g c f (zupd h (4294967297 + k) (fun c q => zcset c f v q) (fun h => nx R d L S h)))) none = _
  rw [hv, cond_true, zat_eq _ hk, hc, zis_eq _ hg hf, zupd_at]
theorem e_iald {g i k v : Nat} {c : zC} (hi : i < 4294967296) (hk : k < h.1) (hc : zget 8 h.2.2 k = c) (hg : c.1 = g) (hf : i < c.2.1) (hcv : zcv c i = v) (hv : v < 4294967296) : o_iald g nx R d L (i :: (4294967297 + k) :: S) h = nx R d L (v :: S) h := by
  show zint i (zat h (4294967297 + k) (fun c => zis g c i (zcget c i (fun v => zint v (nx R d L (v :: S) h))))) = _
  rw [zint_lt _ hi, zat_eq _ hk, hc, zis_eq _ hg hf, zcget_eq, hcv, zint_lt _ hv]
theorem e_iast {g i k v : Nat} {c : zC} (hv : v < 4294967296) (hi : i < 4294967296) (hk : k < h.1) (hc : zget 8 h.2.2 k = c) (hg : c.1 = g) (hf : i < c.2.1) : o_iast g nx R d L (v :: i :: (4294967297 + k) :: S) h = nx R d L S (h.1, h.2.1, zst 8 h.2.2 k (fun c => zcst c i v)) := by
  show zint v (zint i (zat h (4294967297 + k) (fun c => zis g c i (zupd h (4294967297 + k) (fun c q => zcset c i v q) (fun h => nx R d L S h))))) = _
  rw [zint_lt _ hv, zint_lt _ hi, zat_eq _ hk, hc, zis_eq _ hg hf, zupd_at]
theorem e_aald {i k v : Nat} {c : zC} (hi : i < 4294967296) (hk : k < h.1) (hc : zget 8 h.2.2 k = c) (hg : c.1 = 102) (hf : i < c.2.1) (hcv : zcv c i = v) (hv : 4294967296 < v) : o_aald nx R d L (i :: (4294967297 + k) :: S) h = nx R d L (v :: S) h := by
  show zint i (zat h (4294967297 + k) (fun c => zis 102 c i (zcget c i (fun v => zref v (nx R d L (v :: S) h))))) = _
  rw [zint_lt _ hi, zat_eq _ hk, hc, zis_eq _ hg hf, zcget_eq, hcv, zref_gt _ hv]
theorem e_len {g k : Nat} {c : zC} (hk : k < h.1) (hc : zget 8 h.2.2 k = c) (hg : c.1 = g) : o_len g nx R d L ((4294967297 + k) :: S) h = nx R d L (c.2.1 :: S) h := by
  show zat h (4294967297 + k) (fun c => cond (Nat.beq c.1 g) (zf c.2.1 (fun n => nx R d L (n :: S) h)) none) = _
  rw [zat_eq _ hk, hc, show Nat.beq c.1 g = true by rw [hg]; exact Nat.beq_refl g, cond_true, zf_eq]
theorem e_back {lbl : Nat} : o_back lbl R d L S h = R d lbl L S h := rfl
theorem e_ret {v : Nat} (hv : v < 4294967296) : o_ret R d L [v] h = some ([v], h) := by
  show zint v (some ([v], h)) = _
  rw [zint_lt _ hv]
theorem e_zret {v : Nat} (hv : v < 2) : o_zret R d L [v] h = some ([v], h) := by
  show cond (Nat.ble 2 v) none (some ([v], h)) = _
  rw [zble_f hv, cond_false]
theorem e_vret : o_vret R d L [] h = some ([], h) := rfl
/-- what a call's locals are -/
theorem zargs_1 {β : Type} {a L0 : Nat} (k : Nat → List Nat → Option β) (ha : a ≤ 17179869183) : zargs 1 (a :: S) L0 k = k (zput L0 0 (a + 1)) S := by
  show cond (Nat.ble a 17179869183) (zf (zput L0 0 (a + 1)) (fun L => k L S)) none = _
  rw [Nat.ble_eq_true_of_le ha, cond_true, zf_eq]
theorem zargs_s {β : Type} {j a L0 : Nat} (k : Nat → List Nat → Option β) (ha : a ≤ 17179869183) : zargs (j + 1) (a :: S) L0 k = zargs j S (zput L0 j (a + 1)) k := by
  show cond (Nat.ble a 17179869183) (zf (zput L0 j (a + 1)) (fun L => zargs j S L k)) none = _
  rw [Nat.ble_eq_true_of_le ha, cond_true, zf_eq]
end ZEval
