/-! evaluation with what comes named -/
section ZEv2
variable {nx tg : zK} {R : zRec} {d L : Nat} {S : List Nat} {h : zH}
theorem f_istore {i v L' : Nat} (hv : v < 4294967296) (hL : zput L i (v + 1) = L') : o_istore i nx R d L (v :: S) h = nx R d L' S h := by rw [e_istore hv, hL]
theorem f_astore {i v L' : Nat} (hv : 4294967296 < v) (hv2 : v ≤ 17179869183) (hL : zput L i (v + 1) = L') : o_astoreT i nx R d L (v :: S) h = nx R d L' S h := by rw [e_astore hv hv2, hL]
theorem f_iinc {i w v v' L' : Nat} (hl : zlane L i = v + 1) (hv : v < 4294967296) (hw : (v + w) % 4294967296 = v') (hL : zput L i (v' + 1) = L') : o_iinc i w nx R d L S h = nx R d L' S h := by rw [e_iinc hl hv, hw, hL]
theorem f_bin {f : Nat → Nat → Nat} {a b v : Nat} (ha : a < 4294967296) (hb : b < 4294967296) (hv : f a b = v) : o_bin f nx R d L (b :: a :: S) h = nx R d L (v :: S) h := by rw [e_bin ha hb, hv]
theorem f_cmp_t {f : Nat → Nat → Bool} {a b : Nat} (ha : a < 4294967296) (hb : b < 4294967296) (hf : f a b = true) : o_cmp f tg nx R d L (b :: a :: S) h = tg R d L S h := by rw [e_cmp ha hb, hf]; rfl
theorem f_cmp_f {f : Nat → Nat → Bool} {a b : Nat} (ha : a < 4294967296) (hb : b < 4294967296) (hf : f a b = false) : o_cmp f tg nx R d L (b :: a :: S) h = nx R d L S h := by rw [e_cmp ha hb, hf]; rfl
theorem f_if_t {f : Nat → Bool} {a : Nat} (ha : a < 4294967296) (hf : f a = true) : o_if f tg nx R d L (a :: S) h = tg R d L S h := by rw [e_if ha, hf]; rfl
theorem f_if_f {f : Nat → Bool} {a : Nat} (ha : a < 4294967296) (hf : f a = false) : o_if f tg nx R d L (a :: S) h = nx R d L S h := by rw [e_if ha, hf]; rfl
theorem f_getf {g f k v : Nat} {c : zC} (hk : k < h.1) (hc : zget 8 h.2.2 k = c) (hg : c.1 = g) (hf : f < c.2.1) (hv : zcv c f = v) : o_getf g f nx R d L ((4294967297 + k) :: S) h = nx R d L (v :: S) h := by rw [e_getf hk hc hg hf, hv]
theorem f_putf {ck : Nat → Bool} {g f k v : Nat} {c : zC} {h' : zH} (hv : ck v = true) (hk : k < h.1) (hc : zget 8 h.2.2 k = c) (hg : c.1 = g) (hf : f < c.2.1) (hh : (h.1, h.2.1, zst 8 h.2.2 k (fun c => zcst c f v)) = h') : o_putf ck g f nx R d L (v :: (4294967297 + k) :: S) h = nx R d L S h' := by rw [e_putf hv hk hc hg hf, hh]
theorem f_iast {i k v : Nat} {c : zC} {h' : zH} (hv : v < 4294967296) (hi : i < 4294967296) (hk : k < h.1) (hc : zget 8 h.2.2 k = c) (hg : c.1 = 100) (hf : i < c.2.1) (hh : (h.1, h.2.1, zst 8 h.2.2 k (fun c => zcst c i v)) = h') : o_iast 100 nx R d L (v :: i :: (4294967297 + k) :: S) h = nx R d L S h' := by rw [e_iast hv hi hk hc hg hf, hh]
theorem f_len {k n : Nat} {c : zC} (hk : k < h.1) (hc : zget 8 h.2.2 k = c) (hg : c.1 = 100) (hn : c.2.1 = n) : o_len 100 nx R d L ((4294967297 + k) :: S) h = nx R d L (n :: S) h := by rw [e_len hk hc hg, hn]
theorem f_callV {g lb na k d' : Nat} {S0 S' : List Nat} {L' : Nat} {S2 r : List Nat} {h1 : zH} {c : zC} (hargs : ∀ q : Nat → List Nat → zR, zargs na S0 0 q = q L' S') (hl : zlane L' 0 = 4294967297 + k + 1) (hk : k < h.1) (hc : zget 8 h.2.2 k = c) (hg : c.1 = g) (hS : S'.length ≤ 8) (hR : R d' lb L' [] h = some (r, h1)) (hn : h1.1 = h.1) (hz : zapp r S' = S2) : o_callV g lb na nx R (d' + 1) L S0 h = nx R (d' + 1) L S2 h1 := by
  subst hz
  unfold o_callV
  rw [hargs, hl]
  show zat h (4294967297 + k) (fun c => cond (Nat.beq c.1 g) (zshort S' (zans (R d' lb L' [] h) (fun r h1 => cond (Nat.beq h1.1 h.1) (nx R (d' + 1) L (zapp r S') h1) none))) none) = _
  rw [zat_eq _ hk, hc, show Nat.beq c.1 g = true by rw [hg]; exact Nat.beq_refl g, cond_true, hR]
  show cond (Nat.ble S'.length 8) (cond (Nat.beq h1.1 h.1) (nx R (d' + 1) L (zapp r S') h1) none) none = _
  rw [Nat.ble_eq_true_of_le hS, cond_true, hn, Nat.beq_refl, cond_true]
theorem f_callS {lb na d' : Nat} {S0 S' : List Nat} {L' : Nat} {S2 r : List Nat} {h1 : zH} (hargs : ∀ q : Nat → List Nat → zR, zargs na S0 0 q = q L' S') (hS : S'.length ≤ 8) (hR : R d' lb L' [] h = some (r, h1)) (hn : h1.1 = h.1) (hz : zapp r S' = S2) : o_callS lb na nx R (d' + 1) L S0 h = nx R (d' + 1) L S2 h1 := by
  subst hz
  unfold o_callS
  rw [hargs]
  show cond (Nat.ble S'.length 8) (zans (R d' lb L' [] h) (fun r h1 => cond (Nat.beq h1.1 h.1) (nx R (d' + 1) L (zapp r S') h1) none)) none = _
  rw [Nat.ble_eq_true_of_le hS, cond_true, hR]
  show cond (Nat.beq h1.1 h.1) (nx R (d' + 1) L (zapp r S') h1) none = _
  rw [hn, Nat.beq_refl, cond_true]
theorem f_callI {nL lb na k d' : Nat} {S0 S' : List Nat} {L' : Nat} {S2 r : List Nat} {h1 : zH} (hargs : ∀ q : Nat → List Nat → zR, zargs na S0 0 q = q L' S') (hl : zlane L' 0 = 4294967297 + k + 1) (hcl : zckL h.1 L nL = true) (hcs : zckS h.1 S' = true) (hS : S'.length ≤ 8) (hR : R d' lb L' [] h = some (r, h1)) (hz : zapp r S' = S2) : o_callI nL lb na nx R (d' + 1) L S0 h = nx R (d' + 1) L S2 h1 := by
  subst hz
  unfold o_callI
  rw [hargs, hl]
  show zref (4294967297 + k) (cond (zckL h.1 L nL) (cond (zckS h.1 S') (zshort S' (zans (R d' lb L' [] h) (fun r h1 => nx R (d' + 1) L (zapp r S') h1))) none) none) = _
  rw [zref_gt _ (by omega), hcl, cond_true, hcs, cond_true, hR]
  show cond (Nat.ble S'.length 8) (nx R (d' + 1) L (zapp r S') h1) none = _
  rw [Nat.ble_eq_true_of_le hS, cond_true]
theorem f_tsw_out {ks : List zK} {df : zK} {a : Nat} (ha : a < 4294967296) (hl : ks.length ≤ a) : o_tsw ks df R d L (a :: S) h = df R d L S h := by
  show zint a (zsel ks df a R d L S h) = _
  rw [zint_lt _ ha, zsel_get, List.getD_eq_getElem?_getD, List.getElem?_eq_none hl]
  rfl
theorem f_tsw_in {ks : List zK} {df k : zK} {a : Nat} (ha : a < 4294967296) (hl : ks[a]? = some k) : o_tsw ks df R d L (a :: S) h = k R d L S h := by
  show zint a (zsel ks df a R d L S h) = _
  rw [zint_lt _ ha, zsel_get, List.getD_eq_getElem?_getD, hl]
  rfl
theorem f_new {nL : Nat} {c : zC} {h' : zH} {v : Nat} (hn : h.1 < 256) (hcl : zckL h.1 L nL = true) (hcs : zckS h.1 S = true) (hch : zckH h.1 h.2.2 = true) (hh : (h.1 + 1, h.2.1 + c.2.1, zst 8 h.2.2 h.1 (fun _ => c)) = h') (hv : 4294967297 + h.1 = v) : o_new nL c nx R d L S h = nx R d L (v :: S) h' := by
  subst hv
  subst hh
  obtain ⟨n, sl, t⟩ := h
  have hn : n < 256 := hn
  show cond (Nat.ble 256 n) none (cond (zckL n L nL) (cond (zckS n S) (cond (zckH n t) (zset 8 t n (fun _ q => q c) (fun t' => zf (sl + c.2.1) (fun sl' => zf (n + 1) (fun n' => nx R d L ((4294967297 + n) :: S) (n', sl', t'))))) none) none) none) = _
  rw [zble_f hn, cond_false, show zckL n L nL = true from hcl, cond_true, show zckS n S = true from hcs, cond_true, show zckH n t = true from hch, cond_true, zset_eq (g := fun _ => c) (fun _ _ => rfl), zf_eq, zf_eq]
theorem zg_n {i j : Nat} {g : zC → zC} {c : zC} (hi : i < 256) (hj : j < 256) (hij : i ≠ j) (hc : zget 8 h.2.2 j = c) : zget 8 (h.1, h.2.1, zst 8 h.2.2 i g).2.2 j = c := by
  show zget 8 (zst 8 h.2.2 i g) j = c
  rw [zget_st _ 8 h.2.2 i j hi hj, if_neg hij, hc]
theorem zg_s {i : Nat} {g : zC → zC} {c : zC} (hi : i < 256) (hc : zget 8 h.2.2 i = c) : zget 8 (h.1, h.2.1, zst 8 h.2.2 i g).2.2 i = g c := by
  show zget 8 (zst 8 h.2.2 i g) i = g c
  rw [zget_st _ 8 h.2.2 i i hi hi, if_pos rfl, hc]
end ZEv2
theorem zcv_s {c : zC} {i v : Nat} (hv : v < 17179869185) (hi : i < c.2.1) (hn : c.2.1 ≤ 65536) : zcv (zcst c i v) i = v := by rw [zcv_st hv hi hi hn, if_pos rfl]
theorem zcv_n {c : zC} {i j v w : Nat} (hv : v < 17179869185) (hi : i < c.2.1) (hj : j < c.2.1) (hn : c.2.1 ≤ 65536) (hij : i ≠ j) (hw : zcv c j = w) : zcv (zcst c i v) j = w := by rw [zcv_st hv hi hj hn, if_neg hij, hw]
theorem zlt_t {a b : Nat} (h : (a + 2147483648) % 4294967296 < (b + 2147483648) % 4294967296) : z_lt a b = true := Nat.ble_eq_true_of_le h
theorem zlt_f {a b : Nat} (h : (b + 2147483648) % 4294967296 ≤ (a + 2147483648) % 4294967296) : z_lt a b = false := zble_f (Nat.lt_succ_of_le h)
theorem zle_t {a b : Nat} (h : (a + 2147483648) % 4294967296 ≤ (b + 2147483648) % 4294967296) : z_le a b = true := Nat.ble_eq_true_of_le h
theorem zle_f {a b : Nat} (h : (b + 2147483648) % 4294967296 < (a + 2147483648) % 4294967296) : z_le a b = false := zble_f h
theorem zgt_t {a b : Nat} (h : (b + 2147483648) % 4294967296 < (a + 2147483648) % 4294967296) : z_gt a b = true := zlt_t h
theorem zgt_f {a b : Nat} (h : (a + 2147483648) % 4294967296 ≤ (b + 2147483648) % 4294967296) : z_gt a b = false := zlt_f h
theorem zge_t {a b : Nat} (h : (b + 2147483648) % 4294967296 ≤ (a + 2147483648) % 4294967296) : z_ge a b = true := zle_t h
theorem zge_f {a b : Nat} (h : (a + 2147483648) % 4294967296 < (b + 2147483648) % 4294967296) : z_ge a b = false := zle_f h
theorem zbeq_t {a b : Nat} (h : a = b) : Nat.beq a b = true := by rw [h]; exact Nat.beq_refl b
theorem zbeq_f {a b : Nat} (h : a ≠ b) : Nat.beq a b = false := by
  cases q : Nat.beq a b with
  | true => exact absurd (Nat.eq_of_beq_eq_true q) h
  | false => rfl
theorem zne_t {a b : Nat} (h : a ≠ b) : z_ne a b = true := by unfold z_ne; rw [zbeq_f h]; rfl
theorem zne_f {a b : Nat} (h : a = b) : z_ne a b = false := by unfold z_ne; rw [zbeq_t h]; rfl
theorem z_and_m {a m k : Nat} (hm : m = 2 ^ k - 1) : z_and a m = a % 2 ^ k := by
  subst hm
  exact Nat.and_two_pow_sub_one_eq_mod a k
theorem z_shr_p {a b k : Nat} (ha : a < 2147483648) (hb : b % 32 = k) : z_shr a b = a / 2 ^ k := by
  subst hb
  have hk : b % 32 < 32 := Nat.mod_lt _ (by decide)
  obtain ⟨p1, p2, p3⟩ := z_pw (b % 32) hk
  show ((a + 2147483648) % 4294967296 / 2 ^ (b % 32) + (4294967296 - 2147483648 / 2 ^ (b % 32))) % 4294967296 = a / 2 ^ (b % 32)
  rw [Nat.mod_eq_of_lt (show a + 2147483648 < 4294967296 by omega)]
  have e : (a + 2147483648) / 2 ^ (b % 32) = a / 2 ^ (b % 32) + 2147483648 / 2 ^ (b % 32) := by
    have h1 : a + 2147483648 = a + 2 ^ (b % 32) * (2147483648 / 2 ^ (b % 32)) := by rw [Nat.mul_comm, p1]
    rw [h1, Nat.add_mul_div_left _ _ p2]
  rw [e]
  have h2 : a / 2 ^ (b % 32) ≤ a := Nat.div_le_self _ _
  generalize a / 2 ^ (b % 32) = q at *
  generalize 2147483648 / 2 ^ (b % 32) = w at *
  omega
theorem f_lsw {qs : List (Nat × zK)} {df k : zK} {R : zRec} {d L : Nat} {S : List Nat} {h : zH} {a : Nat} (ha : a < 4294967296) (hz : zlk qs df a = k) : o_lsw qs df R d L (a :: S) h = k R d L S h := by
  show zint a (zlk qs df a R d L S h) = _
  rw [zint_lt _ ha, hz]
theorem ck_int_s {v : Nat} (h : v < 4294967296) : ck_int v = true := Nat.ble_eq_true_of_le (Nat.le_of_lt_succ h)
theorem z_add_l {a b : Nat} (h : a + b < 4294967296) : z_add a b = a + b := Nat.mod_eq_of_lt h
theorem z_mul_l {a b : Nat} (h : a * b < 4294967296) : z_mul a b = a * b := Nat.mod_eq_of_lt h
theorem z_sub_l {a b : Nat} (h : b ≤ a) (ha : a < 4294967296) : z_sub a b = a - b := by
  show (a + (4294967296 - b)) % 4294967296 = a - b
  omega
