theorem zstr_some {β : Type} {r : Nat} {k : Option β} {b : β} (e : zstr r k = some b) : ∃ j, j < 17 ∧ r = 8589934592 + j ∧ k = some b := by
  have e : cond (Nat.ble 8589934592 r) (cond (Nat.ble 8589934609 r) none k) none = some b := e
  obtain ⟨h1, e⟩ := zcond_some e
  have h1 := Nat.le_of_ble_eq_true h1
  cases q : Nat.ble 8589934609 r with
  | true => rw [q] at e; cases e
  | false =>
    rw [q] at e
    refine ⟨r - 8589934592, ?_, by omega, e⟩
    rcases Nat.lt_or_ge r 8589934609 with z | z
    · omega
    · rw [Nat.ble_eq_true_of_le z] at q; cases q
theorem zf_sub {α : Type} (r c : Nat) (k : Nat → α) (h : c ≤ r) : ∃ j, r = c + j ∧ zf (Nat.sub r c) k = k j := ⟨r - c, by omega, zf_eq _ k⟩
theorem ztx_some {β : Type} {tx : zT (Nat × Nat) 5} {r : Nat} {k : Nat → Nat → Nat → Option β} {b : β} (e : ztx tx r k = some b) : ∃ j, j < 17 ∧ r = 8589934624 + j ∧ k j (zget 5 tx j).1 (zget 5 tx j).2 = some b := by
  unfold ztx at e
  obtain ⟨h1, e⟩ := zcond_some e
  have h1 := Nat.le_of_ble_eq_true h1
  cases q : Nat.ble 8589934641 r with
  | true => rw [q] at e; cases e
  | false =>
    rw [q, cond_false] at e
    have hlt : r < 8589934641 := by
      rcases Nat.lt_or_ge r 8589934641 with z | z
      · exact z
      · rw [Nat.ble_eq_true_of_le z] at q; cases q
    obtain ⟨j, e2, e3⟩ := zf_sub r 8589934624 _ h1
    have e4 := e3.symm.trans e
    exact ⟨j, by omega, e2, e4⟩
/-- what is known of the texts: 17 String constants, at the addresses that f has far out -/
def zTx (len : List Nat) (byt : List (List Int32)) (A : Nat → Prop) (U : State) (f : Nat → Nat) : Prop := vk_S 17 len byt (fun j => f (4294967295 + j)) (fun j => f (4294967327 + j)) A U U.heap
/-- tx has them -/
def zTok (tx : zT (Nat × Nat) 5) (len : List Nat) (byt : List (List Int32)) : Prop := ∀ j, j < 17 → (zget 5 tx j).1 = len.getD j 0 ∧ (zget 5 tx j).1 < 2147483648 ∧ ∀ i, i < (zget 5 tx j).1 → (byt.getD j []).getD i 0 = nI ((zget 5 tx j).2 / 256 ^ i % 256)
section ZText
variable {l : Launch} {D : va_G} {cl : List vw_C} {tc : Nat → ClassId} {tys : List (ClassId × FieldType)} {A : Nat → Prop} {E : State → (Nat → Nat) → Prop} {Tw : List Cond} {lab : Nat → zM × Nat} {M M2 : zM} {pc : Nat} {nx tg : zK}
theorem s_none : zS l D cl tc tys A E Tw lab M pc o_none := fun Rc _ => ⟨fun d L S h r h' hk => absurd hk (by intro z; cases z), fun d L S h r h' hk => absurd hk (by intro z; cases z)⟩
theorem zad {s : State} {ad0 ad : Nat → Nat} {n0 s0 : Nat} {h : zH} {H : Heap} {locs : List Loc} {cells slots : Nat} (hS : zSt D cl tc s A ad0 n0 s0 ad h H locs cells slots) {k : Nat} (hk : 256 ≤ k) : ad k = ad0 k := hS.2.2.2.1 k (Or.inr (Nat.le_trans hS.2.2.2.2.2.2.1 hk))
theorem zv_far (ad : Nat → Nat) (j : Nat) : zv ad (8589934592 + j) = .ref (ad (4294967295 + j)) := by
  rw [zv_ref ad (by omega), show 8589934592 + j - 4294967297 = 4294967295 + j by omega]
theorem s_ldcS {v j index : Nat} (hv : v = 8589934592 + j) (hE : ∀ U f, E U f → ∃ tx, vk_R M.1.cls index tx (f (4294967295 + j)) U) (hd : decode M.2.1 pc = .ok (.ldc index, 2)) (hn : zS l D cl tc tys A E Tw lab M (pc + 2) nx) : zS l D cl tc tys A E Tw lab M pc (o_push v nx) := by
  subst hv
  intro Rc hR
  obtain ⟨h1, h2⟩ := hn Rc hR
  refine ⟨?_, fun d L S h r h' hk => h2 d L (_ :: S) h r h' hk⟩
  intro d L S h r h' hk p e R s m args below meth c ad0 n0 s0 hA ad ls H locs cells slots hS hl
  obtain ⟨tx, hz⟩ := hE s ad0 hA.2.2.2.2.2.2.2.2.2.2.2.2.2.2
  have q := h1 d L (_ :: S) h r h' hk p e R s m args below meth c ad0 n0 s0 hA ad ls H locs cells slots hS hl
  rw [List.map_cons, zv_far, zad hS (by omega)] at q
  exact va_ldcS hA.1 hA.2.1 hA.2.2.2.1 hz hd q
theorem s_gets {index : Nat} (hE : ∀ U f, E U f → va_Z "java/lang/String" "COMPACT_STRINGS" "Z" (.int 1) A U U.heap) (hlink : Cond.fieldLink M.1.cls index "java/lang/String" "COMPACT_STRINGS" "Z" ∈ Tw) (hd : decode M.2.1 pc = .ok (.getstatic index, 3)) (hn : zS l D cl tc tys A E Tw lab M (pc + 3) nx) : zS l D cl tc tys A E Tw lab M pc (o_push 1 nx) := by
  intro Rc hR
  obtain ⟨h1, h2⟩ := hn Rc hR
  refine ⟨?_, fun d L S h r h' hk => h2 d L (_ :: S) h r h' hk⟩
  intro d L S h r h' hk p e R s m args below meth c ad0 n0 s0 hA ad ls H locs cells slots hS hl
  have hz := hE s ad0 hA.2.2.2.2.2.2.2.2.2.2.2.2.2.2
  have q := h1 d L (_ :: S) h r h' hk p e R s m args below meth c ad0 n0 s0 hA ad ls H locs cells slots hS hl
  rw [List.map_cons, zv_int ad (by decide), show nI 1 = 1 from rfl] at q
  exact va_gets hA.1 hA.2.1 hz hS.2.2.1 hA.2.2.2.1 (hA.2.2.2.2.1 _ hlink) (fun _ z => z) hd q
theorem s_scod {index : Nat} {len : List Nat} {byt : List (List Int32)} (hE : ∀ U f, E U f → zTx len byt A U f) (hlink : Cond.fieldLink M.1.cls index "java/lang/String" "coder" "B" ∈ Tw) (hd : decode M.2.1 pc = .ok (.getfield index, 3)) (hn : zS l D cl tc tys A E Tw lab M (pc + 3) nx) : zS l D cl tc tys A E Tw lab M pc (o_scod nx) := by
  intro Rc hR
  obtain ⟨h1, h2⟩ := hn Rc hR
  refine ⟨?_, fun d L S h r h' hk => ?_⟩
  · intro d L S h r h' hk p e R s m args below meth c ad0 n0 s0 hA ad ls H locs cells slots hS hl
    obtain ⟨a, S', rfl, k1⟩ := zpop_some hk
    clear hk
    obtain ⟨j, hj, rfl, k2⟩ := zstr_some k1
    clear k1
    have hz := ((hE s ad0 hA.2.2.2.2.2.2.2.2.2.2.2.2.2.2).1 j hj).2.1
    have q := h1 d L (0 :: S') h r h' k2 p e R s m args below meth c ad0 n0 s0 hA ad ls H locs cells slots hS hl
    rw [List.map_cons, zv_int ad (by decide), nI_0] at q
    rw [List.map_cons, zv_far, zad hS (by omega)]
    exact vk_getf hA.1 hA.2.1 hz hS.2.2.1 hA.2.2.2.1 (hA.2.2.2.2.1 _ hlink) (fun _ z => z) hd q
  · obtain ⟨a, S', rfl, k1⟩ := zpop_some hk
    clear hk
    obtain ⟨j, hj, rfl, k2⟩ := zstr_some k1
    exact h2 d L _ h r h' k2
theorem s_sval {index : Nat} {len : List Nat} {byt : List (List Int32)} (hE : ∀ U f, E U f → zTx len byt A U f) (hlink : Cond.fieldLink M.1.cls index "java/lang/String" "value" "[B" ∈ Tw) (hd : decode M.2.1 pc = .ok (.getfield index, 3)) (hn : zS l D cl tc tys A E Tw lab M (pc + 3) nx) : zS l D cl tc tys A E Tw lab M pc (o_sval nx) := by
  intro Rc hR
  obtain ⟨h1, h2⟩ := hn Rc hR
  refine ⟨?_, fun d L S h r h' hk => ?_⟩
  · intro d L S h r h' hk p e R s m args below meth c ad0 n0 s0 hA ad ls H locs cells slots hS hl
    obtain ⟨a, S', rfl, k1⟩ := zpop_some hk
    clear hk
    obtain ⟨j, hj, rfl, k2⟩ := zstr_some k1
    clear k1
    rw [zf_eq] at k2
    have hz := ((hE s ad0 hA.2.2.2.2.2.2.2.2.2.2.2.2.2.2).1 j hj).2.2.1
    have q := h1 d L (_ :: S') h r h' k2 p e R s m args below meth c ad0 n0 s0 hA ad ls H locs cells slots hS hl
    rw [List.map_cons, show Nat.add (8589934592 + j) 32 = 8589934592 + (32 + j) by show 8589934592 + j + 32 = _; omega, zv_far, show 4294967295 + (32 + j) = 4294967327 + j by omega, zad hS (by omega)] at q
    rw [List.map_cons, zv_far, zad hS (by omega)]
    exact vk_getf hA.1 hA.2.1 hz hS.2.2.1 hA.2.2.2.1 (hA.2.2.2.2.1 _ hlink) (fun _ z => z) hd q
  · obtain ⟨a, S', rfl, k1⟩ := zpop_some hk
    clear hk
    obtain ⟨j, hj, rfl, k2⟩ := zstr_some k1
    rw [zf_eq] at k2
    exact h2 d L _ h r h' k2
theorem s_tlen {tx : zT (Nat × Nat) 5} {len : List Nat} {byt : List (List Int32)} (hE : ∀ U f, E U f → zTx len byt A U f) (hT : zTok tx len byt) (hd : decode M.2.1 pc = .ok (.arraylength, 1)) (hn : zS l D cl tc tys A E Tw lab M (pc + 1) nx) : zS l D cl tc tys A E Tw lab M pc (o_tlen tx nx) := by
  intro Rc hR
  obtain ⟨h1, h2⟩ := hn Rc hR
  refine ⟨?_, fun d L S h r h' hk => ?_⟩
  · intro d L S h r h' hk p e R s m args below meth c ad0 n0 s0 hA ad ls H locs cells slots hS hl
    obtain ⟨a, S', rfl, k1⟩ := zpop_some hk
    clear hk
    obtain ⟨j, hj, rfl, k2⟩ := ztx_some k1
    clear k1
    obtain ⟨t1, t2, t3⟩ := hT j hj
    have hz := ((hE s ad0 hA.2.2.2.2.2.2.2.2.2.2.2.2.2.2).1 j hj).2.2.2
    have q := h1 d L (_ :: S') h r h' k2 p e R s m args below meth c ad0 n0 s0 hA ad ls H locs cells slots hS hl
    rw [List.map_cons, zv_int ad (by omega)] at q
    rw [List.map_cons, show 8589934624 + j = 8589934592 + (32 + j) by omega, zv_far, show 4294967295 + (32 + j) = 4294967327 + j by omega, zad hS (by omega)]
    rw [t1] at q
    exact va_tlen hA.1 hA.2.1 hz hS.2.2.1 rfl hd q
  · obtain ⟨a, S', rfl, k1⟩ := zpop_some hk
    clear hk
    obtain ⟨j, hj, rfl, k2⟩ := ztx_some k1
    exact h2 d L _ h r h' k2
theorem ztald_some {tx : zT (Nat × Nat) 5} {Rc : zRec} {d L : Nat} {S : List Nat} {h : zH} {b : List Nat × zH} (e : o_tald tx nx Rc d L S h = some b) : ∃ i j S', j < 17 ∧ S = i :: (8589934624 + j) :: S' ∧ i < 4294967296 ∧ i < (zget 5 tx j).1 ∧ nx Rc d L ((zget 5 tx j).2 / 256 ^ i % 256 :: S') h = some b := by
  obtain ⟨i, S1, rfl, k1⟩ := zpop_some e
  clear e
  obtain ⟨hi, k2⟩ := zint_some k1
  clear k1
  obtain ⟨a, S', rfl, k3⟩ := zpop_some k2
  clear k2
  obtain ⟨j, hj, rfl, k4⟩ := ztx_some k3
  clear k3
  cases q : Nat.ble (zget 5 tx j).1 i with
  | true => rw [q] at k4; cases k4
  | false =>
    rw [q] at k4
    have k4 : zf ((zget 5 tx j).2 / 256 ^ i % 256) (fun v => nx Rc d L (v :: S') h) = some b := k4
    rw [zf_eq] at k4
    refine ⟨i, j, S', hj, rfl, hi, ?_, k4⟩
    rcases Nat.lt_or_ge i (zget 5 tx j).1 with z | z
    · exact z
    · rw [Nat.ble_eq_true_of_le z] at q; cases q
theorem s_tald {tx : zT (Nat × Nat) 5} {len : List Nat} {byt : List (List Int32)} (hE : ∀ U f, E U f → zTx len byt A U f) (hT : zTok tx len byt) (hd : decode M.2.1 pc = .ok (.baload, 1)) (hn : zS l D cl tc tys A E Tw lab M (pc + 1) nx) : zS l D cl tc tys A E Tw lab M pc (o_tald tx nx) := by
  intro Rc hR
  obtain ⟨h1, h2⟩ := hn Rc hR
  refine ⟨?_, fun d L S h r h' hk => ?_⟩
  · intro d L S h r h' hk p e R s m args below meth c ad0 n0 s0 hA ad ls H locs cells slots hS hl
    obtain ⟨i, j, S', hj, rfl, hi, hin, k2⟩ := ztald_some hk
    obtain ⟨t1, t2, t3⟩ := hT j hj
    have t4 := t3 i hin
    have hz := ((hE s ad0 hA.2.2.2.2.2.2.2.2.2.2.2.2.2.2).1 j hj).2.2.2
    have q := h1 d L (_ :: S') h r h' k2 p e R s m args below meth c ad0 n0 s0 hA ad ls H locs cells slots hS hl
    rw [List.map_cons, zv_int ad (Nat.lt_trans (Nat.mod_lt _ (by decide)) (by decide))] at q
    rw [List.map_cons, List.map_cons, zv_int ad hi, show 8589934624 + j = 8589934592 + (32 + j) by omega, zv_far, show 4294967295 + (32 + j) = 4294967327 + j by omega, zad hS (by omega)]
    rw [t1] at hin t2
    refine va_tb hA.1 hA.2.1 hz hS.2.2.1 (vp_in_nI hin (by omega)) (v := .int (nI ((zget 5 tx j).2 / 256 ^ i % 256))) ?_ hd q
    rw [nI_clamp (show i < 2 ^ 31 by omega)]
    exact congrArg Value.int t4
  · obtain ⟨i, j, S', hj, rfl, hi, hin, k2⟩ := ztald_some hk
    exact h2 d L _ h r h' k2
theorem s_astore_n {q : Fin 4} {i : Nat} (hq : (q : Nat) = i) (hi : i < M.2.2.1) (hd : decode M.2.1 pc = .ok (.astore_n q, 1)) (hn : zS l D cl tc tys A E Tw lab M (pc + 1) nx) : zS l D cl tc tys A E Tw lab M pc (o_astoreT i nx) := by
  intro Rc hR
  obtain ⟨h1, h2⟩ := hn Rc hR
  refine ⟨?_, fun d L S h r h' hk => ?_⟩
  · intro d L S h r h' hk p e R s m args below meth c ad0 n0 s0 hA ad ls H locs cells slots hS hl
    obtain ⟨v, S', rfl, k1⟩ := zpop_some hk
    clear hk
    obtain ⟨hlt, k2⟩ := zref_some k1
    obtain ⟨hle, k3⟩ := zcond_some k2
    have hle := Nat.le_of_ble_eq_true hle
    rw [zf_eq] at k3
    rw [List.map_cons, zv_ref ad hlt]
    refine lv_astore_n hA.1 hA.2.1 hd hq hl hi rfl ?_
    intro ls' hl'
    rw [← zv_ref ad hlt] at hl'
    exact h1 d _ S' h r h' k3 p e R s m args below meth c ad0 n0 s0 hA ad ls' H locs cells slots hS (zl_put (by omega) hl')
  · obtain ⟨v, S', rfl, k1⟩ := zpop_some hk
    clear hk
    obtain ⟨hlt, k2⟩ := zref_some k1
    obtain ⟨hle, k3⟩ := zcond_some k2
    rw [zf_eq] at k3
    exact h2 d _ S' h r h' k3
/-- a reckoning of one int -/
theorem s_un {f : Nat → Nat} {F : Int32 → Int32} (hf : ∀ a, a < 4294967296 → f a < 4294967296 ∧ F (nI a) = nI (f a))
    (hw : ∀ (p : Program) (e : Env) (R : Room) (s : State) (m : MethodId) (args : Array Value) (below : List Frame) (meth : Method) (c : Code) (H : Heap) (locs : List Loc) (cells slots : Nat) (Q : State → Prop) (ls : Array Slot) (rest : List Value) (x : Int32), p.tables.exec = Jvm.exec → c.code = M.2.1 → W p l e R s m args below meth c H locs cells slots Q (F0 m (pc + 1) ls (.int (F x) :: rest)) → W p l e R s m args below meth c H locs cells slots Q (F0 m pc ls (.int x :: rest)))
    (hn : zS l D cl tc tys A E Tw lab M (pc + 1) nx) : zS l D cl tc tys A E Tw lab M pc (o_un f nx) := by
  intro Rc hR
  obtain ⟨h1, h2⟩ := hn Rc hR
  refine ⟨?_, fun d L S h r h' hk => ?_⟩
  · intro d L S h r h' hk p e R s m args below meth c ad0 n0 s0 hA ad ls H locs cells slots hS hl
    obtain ⟨a, S', rfl, k1⟩ := zpop_some hk
    obtain ⟨ha, k2⟩ := zint_some k1
    rw [zf_eq] at k2
    obtain ⟨g1, g2⟩ := hf a ha
    rw [List.map_cons, zv_int ad ha]
    refine hw p e R s m args below meth c H locs cells slots _ ls _ _ hA.1 hA.2.1 ?_
    have q := h1 d L (f a :: S') h r h' k2 p e R s m args below meth c ad0 n0 s0 hA ad ls H locs cells slots hS hl
    rw [List.map_cons, zv_int ad g1] at q
    rw [g2]
    exact q
  · obtain ⟨a, S', rfl, k1⟩ := zpop_some hk
    obtain ⟨ha, k2⟩ := zint_some k1
    rw [zf_eq] at k2
    exact h2 d L _ h r h' k2
theorem z_i2c_ok (a : Nat) (ha : a < 4294967296) : z_i2c a < 4294967296 ∧ ((nI a).toUInt32 % 65536).toInt32 = nI (z_i2c a) := by
  refine ⟨Nat.lt_trans (Nat.mod_lt _ (by decide)) (by decide), ?_⟩
  apply Int32.toBitVec_inj.mp
  apply BitVec.eq_of_toNat_eq
  show a % 4294967296 % 65536 = a % 65536 % 4294967296
  omega
theorem z_i2b_ok (a : Nat) (ha : a < 4294967296) : z_i2b a < 4294967296 ∧ (nI a).toInt8.toInt32 = nI (z_i2b a) := by
  have hm : a % 256 < 256 := Nat.mod_lt _ (by decide)
  have key : ∀ b, b < 256 → z_i2b b < 4294967296 ∧ (nI b).toInt8.toInt32 = nI (z_i2b b) := by decide +kernel
  have e1 : z_i2b a = z_i2b (a % 256) := by
    show cond (Nat.ble 128 (a % 256)) (a % 256 + 4294967040) (a % 256) = cond (Nat.ble 128 (a % 256 % 256)) (a % 256 % 256 + 4294967040) (a % 256 % 256)
    rw [Nat.mod_mod]
  have e2 : (nI a).toInt8 = (nI (a % 256)).toInt8 := by
    apply Int8.toBitVec_inj.mp
    apply BitVec.eq_of_toInt_eq
    show ((BitVec.ofNat 32 a).signExtend 8).toInt = ((BitVec.ofNat 32 (a % 256)).signExtend 8).toInt
    congr 1
    apply BitVec.eq_of_toNat_eq
    rw [BitVec.signExtend_eq_setWidth_of_le _ (by decide), BitVec.signExtend_eq_setWidth_of_le _ (by decide), BitVec.toNat_setWidth, BitVec.toNat_setWidth, BitVec.toNat_ofNat, BitVec.toNat_ofNat]
    omega
  rw [e1, e2]
  exact key _ hm
theorem s_i2c (hd : decode M.2.1 pc = .ok (.i2c, 1)) (hn : zS l D cl tc tys A E Tw lab M (pc + 1) nx) : zS l D cl tc tys A E Tw lab M pc (o_un z_i2c nx) := s_un z_i2c_ok (fun _ _ _ _ _ _ _ _ _ _ _ _ _ _ _ _ _ hx hb k => lv_i2c hx hb hd rfl k) hn
theorem s_i2b (hd : decode M.2.1 pc = .ok (.i2b, 1)) (hn : zS l D cl tc tys A E Tw lab M (pc + 1) nx) : zS l D cl tc tys A E Tw lab M pc (o_un z_i2b nx) := s_un z_i2b_ok (fun _ _ _ _ _ _ _ _ _ _ _ _ _ _ _ _ _ hx hb k => lv_i2b hx hb hd rfl k) hn
end ZText
