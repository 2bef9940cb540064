/-! String.checkIndex, whose third thing to hand on is a reference or null -/
theorem zint_lt {β : Type} {v : Nat} (k : Option β) (h : v < 4294967296) : zint v k = k := by
  unfold zint
  cases q : Nat.ble 4294967296 v with
  | true => have := Nat.le_of_ble_eq_true q; omega
  | false => rfl
theorem z_lt_0 {a : Nat} (h : a < 2147483648) : z_lt a 0 = false := by
  unfold z_lt zsg
  cases q : Nat.ble (Nat.succ (Nat.mod (Nat.add a 2147483648) 4294967296)) (Nat.mod (Nat.add 0 2147483648) 4294967296) with
  | true =>
    have h1 := Nat.le_of_ble_eq_true q
    have h2 : (a + 2147483648) % 4294967296 + 1 ≤ 2147483648 := h1
    omega
  | false => rfl
theorem z_lt_s {a b : Nat} (h : a < b) (hb : b < 2147483648) : z_lt a b = true := by
  unfold z_lt zsg
  refine Nat.ble_eq_true_of_le ?_
  show (a + 2147483648) % 4294967296 + 1 ≤ (b + 2147483648) % 4294967296
  omega
noncomputable def zk3 : zK := o_iload 0 (o_if (fun a => z_lt a 0) o_none (o_iload 0 (o_iload 1 (o_cmp z_lt (o_iload 0 o_ret) o_none))))
noncomputable def zk0 (x : Nat) : zK := o_iload 0 (o_iload 1 (o_push x (o_callS 0 3 (o_pop o_vret))))
noncomputable def zR3 : zRec := fun d _ L S h => zk3 (fun _ _ _ _ _ => none) d L S h
theorem zk3_run {d L i n : Nat} {h : zH} (hi : i < n) (hn : n < 2147483648) (h0 : zlane L 0 = i + 1) (h1 : zlane L 1 = n + 1) : zk3 (fun _ _ _ _ _ => none) d L [] h = some ([i], h) := by
  show zpr (zlane L 0) (fun v => zint v (zint v (cond (z_lt v 0) none (zpr (zlane L 0) (fun v => zint v (zpr (zlane L 1) (fun w => zint w (zint w (zint v (cond (z_lt v w) (zpr (zlane L 0) (fun u => zint u (zint u (some ([u], h))))) none)))))))))) = some ([i], h)
  rw [h0, h1]
  show zint i (zint i (cond (z_lt i 0) none (zint i (zint n (zint n (zint i (cond (z_lt i n) (zint i (zint i (some ([i], h)))) none))))))) = some ([i], h)
  rw [z_lt_0 (by omega), z_lt_s hi hn]
  repeat rw [zint_lt _ (by omega)]
  rfl
theorem zk0_run {d L i n x : Nat} {h : zH} (hx : x ≤ 17179869183) (hi : i < n) (hn : n < 2147483648) (h0 : zlane L 0 = i + 1) (h1 : zlane L 1 = n + 1) : zk0 x zR3 (d + 1) L [] h = some ([], h) := by
  have e1 : Nat.ble x 17179869183 = true := Nat.ble_eq_true_of_le hx
  have e2 : Nat.ble n 17179869183 = true := Nat.ble_eq_true_of_le (by omega)
  have e3 : Nat.ble i 17179869183 = true := Nat.ble_eq_true_of_le (by omega)
  show zpr (zlane L 0) (fun v => zint v (zpr (zlane L 1) (fun w => zint w (cond (Nat.ble x 17179869183) (zf (zput 0 2 (x + 1)) (fun L1 => cond (Nat.ble w 17179869183) (zf (zput L1 1 (w + 1)) (fun L1 => cond (Nat.ble v 17179869183) (zf (zput L1 0 (v + 1)) (fun L1 => zans (zR3 d 0 L1 [] h) (fun r h1 => cond (Nat.beq h1.1 h.1) (zpop (zapp r []) (fun _ S => zemp S (some ([], h1)))) none))) none)) none)) none)))) = some ([], h)
  rw [h0, h1]
  show zint i (zint n (cond (Nat.ble x 17179869183) (zf (zput 0 2 (x + 1)) (fun L1 => cond (Nat.ble n 17179869183) (zf (zput L1 1 (n + 1)) (fun L1 => cond (Nat.ble i 17179869183) (zf (zput L1 0 (i + 1)) (fun L1 => zans (zR3 d 0 L1 [] h) (fun r h1 => cond (Nat.beq h1.1 h.1) (zpop (zapp r []) (fun _ S => zemp S (some ([], h1)))) none))) none)) none)) none)) = some ([], h)
  rw [zint_lt _ (by omega), zint_lt _ (by omega), e1, cond_true, zf_eq, e2, cond_true, zf_eq, e3, cond_true, zf_eq]
  have e4 : zR3 d 0 (zput (zput (zput 0 2 (x + 1)) 1 (n + 1)) 0 (i + 1)) [] h = some ([i], h) := zk3_run hi hn (zlane_same (by omega)) (by rw [zlane_ne (by omega) (by decide), zlane_same (by omega)])
  rw [e4]
  show cond (Nat.beq h.1 h.1) (some (([] : List Nat), h)) none = some ([], h)
  rw [Nat.beq_refl, cond_true]
theorem zchk_some {nx : zK} {Rc : zRec} {d L : Nat} {S : List Nat} {h : zH} {b : List Nat × zH} (e : o_chk nx Rc d L S h = some b) : ∃ n i S' d', S = n :: i :: S' ∧ n < 2147483648 ∧ i < n ∧ S'.length ≤ 8 ∧ d = d' + 2 ∧ nx Rc d L S' h = some b := by
  obtain ⟨n, S1, rfl, k1⟩ := zpop_some e
  clear e
  cases q1 : Nat.ble 2147483648 n with
  | true => rw [q1] at k1; cases k1
  | false =>
    rw [q1] at k1
    have hn : n < 2147483648 := by
      rcases Nat.lt_or_ge n 2147483648 with z | z
      · exact z
      · rw [Nat.ble_eq_true_of_le z] at q1; cases q1
    obtain ⟨i, S', rfl, k2⟩ := zpop_some k1
    clear k1
    cases q2 : Nat.ble n i with
    | true => rw [q2] at k2; cases k2
    | false =>
      rw [q2] at k2
      have hi : i < n := by
        rcases Nat.lt_or_ge i n with z | z
        · exact z
        · rw [Nat.ble_eq_true_of_le z] at q2; cases q2
      obtain ⟨hs, k3⟩ := zshort_some k2
      obtain ⟨d1, hd1, k4⟩ := zpr_some k3
      obtain ⟨d2, hd2, k5⟩ := zpr_some k4
      exact ⟨n, i, S', d2, rfl, hn, hi, hs, by omega, k5⟩
section ZChk
variable {l : Launch} {D : va_G} {cl : List vw_C} {tc : Nat → ClassId} {tys : List (ClassId × FieldType)} {A : Nat → Prop} {E : State → (Nat → Nat) → Prop} {Tw : List Cond} {lab : Nat → zM × Nat} {M M2 M3 : zM} {pc : Nat} {nx tg : zK}
/-- a static that is known -/
theorem s_getsX {x index : Nat} {C n d ref : String} (hE : ∀ U f, E U f → va_Z C n d (zv f x) A U U.heap) (hx : x = 4294967296 ∨ 8589934592 ≤ x) (hrf : C = ref) (hlink : Cond.fieldLink M.1.cls index ref n d ∈ Tw) (hd : decode M.2.1 pc = .ok (.getstatic index, 3)) (hn : zS l D cl tc tys A E Tw lab M (pc + 3) nx) : zS l D cl tc tys A E Tw lab M pc (o_push x nx) := by
  subst hrf
  intro Rc hR
  obtain ⟨h1, h2⟩ := hn Rc hR
  refine ⟨?_, fun d L S h r h' hk => h2 d L (_ :: S) h r h' hk⟩
  intro d L S h r h' hk p e R s m args below meth c ad0 n0 s0 hA ad ls H locs cells slots hS hl
  have hz := hE s ad0 hA.2.2.2.2.2.2.2.2.2.2.2.2.2.2
  have q := h1 d L (_ :: S) h r h' hk p e R s m args below meth c ad0 n0 s0 hA ad ls H locs cells slots hS hl
  have ez : zv ad x = zv ad0 x := by
    rcases hx with rfl | hx
    · rfl
    · obtain ⟨j, rfl⟩ : ∃ j, x = 8589934592 + j := ⟨x - 8589934592, by omega⟩
      rw [zv_far, zv_far, zad hS (by omega)]
  rw [List.map_cons, ez] at q
  exact va_gets hA.1 hA.2.1 hz hS.2.2.1 hA.2.2.2.1 (hA.2.2.2.2.1 _ hlink) (fun _ z => z) hd q
/-- what is known, and that static -/
def zEx (E : State → (Nat → Nat) → Prop) (A : Nat → Prop) (C n d : String) (x : Nat) : State → (Nat → Nat) → Prop := fun U f => E U f ∧ va_Z C n d (zv f x) A U U.heap
theorem zEx_ok (hE : zEok A E) {C n d : String} {x : Nat} (hx : x = 4294967296 ∨ 8589934592 ≤ x) : zEok A (zEx E A C n d x) := by
  refine ⟨fun U g mk a f h => ⟨hE.1 U g mk a f h.1, ?_⟩, fun s U f hW hz hk h => ⟨hE.2.1 s U f hW hz hk h.1, ?_⟩, fun U f f' hf h => ⟨hE.2.2 U f f' hf h.1, ?_⟩⟩
  · exact va_Z.moved (u := U) (U := U.calling g mk a) (Vm.Alike.refl U.vm) h.2
  · exact va_Z.moved hW.alike (h.2.kept hk)
  · have ez : zv f' x = zv f x := by
      rcases hx with rfl | hx
      · rfl
      · obtain ⟨j, rfl⟩ : ∃ j, x = 8589934592 + j := ⟨x - 8589934592, by omega⟩
        rw [zv_far, zv_far, hf _ (by omega)]
    rw [ez]
    exact h.2
/-- all that the row below wants of the two methods -/
def zChk (Tw : List Cond) (M2 M3 : zM) : Prop :=
  (plainName M2.1.cls = true ∧ GoodIn Tw (Cond.code M2.1 M2.2.1 M2.2.2.1 M2.2.2.2 :: Tw) ∧ Cond.initialized M2.1.cls ∈ Tw ∧ Cond.static M2.1 ∈ Tw ∧ (M2.1.cls ≠ "java/lang/invoke/MethodHandle" ∧ M2.1.cls ≠ "java/lang/invoke/VarHandle" ∧ (parseMethodDescriptor M2.1.desc).map (fun d => d.parameters.length) = some 2) ∧ 2 ≤ M2.2.2.1 ∧ M2.2.2.1 ≤ 31) ∧
  ∀ (l : Launch) (D : va_G) (cl : List vw_C) (tc : Nat → ClassId) (tys : List (ClassId × FieldType)) (A : Nat → Prop) (E : State → (Nat → Nat) → Prop) (x : Nat), zEok A E → (x = 4294967296 ∨ 8589934592 ≤ x) → (∀ U f, E U f → va_Z "jdk/internal/util/Preconditions" "SIOOBE_FORMATTER" "Ljava/util/function/BiFunction;" (zv f x) A U U.heap) → zS l D cl tc tys A E Tw (fun _ => (M3, 0)) M3 0 zk3 ∧ zS l D cl tc tys A E Tw (fun _ => (M3, 0)) M2 0 (zk0 x)
theorem z_none_ok : zOkR l D cl tc tys A E Tw lab (fun _ _ _ _ _ => none) := fun lbl => ⟨fun d L S h r h' hk => absurd hk (by intro z; cases z), fun d L S h r h' hk => absurd hk (by intro z; cases z)⟩
theorem s_chk (hE : zEok A E) (hEx : ∀ U f, E U f → va_Z "jdk/internal/util/Preconditions" "SIOOBE_FORMATTER" "Ljava/util/function/BiFunction;" .null A U U.heap ∨ va_Z "jdk/internal/util/Preconditions" "SIOOBE_FORMATTER" "Ljava/util/function/BiFunction;" (.ref (f (4294967295 + 65))) A U U.heap) (hC : zChk Tw M2 M3) {index : Nat} (hlink : Cond.methodLink M.1.cls index M2.1 ∈ Tw) (hd : decode M.2.1 pc = .ok (.invokestatic index, 3)) (hn : zS l D cl tc tys A E Tw lab M (pc + 3) nx) : zS l D cl tc tys A E Tw lab M pc (o_chk nx) := by
  obtain ⟨⟨hy, hG, hini, hst, hdd, hna, hL⟩, hall⟩ := hC
  intro Rc hR
  obtain ⟨h1, h2⟩ := hn Rc hR
  refine ⟨?_, fun d L S h r h' hk => ?_⟩
  · intro d L S h r h' hk p e R s m args below meth c ad0 n0 s0 hA ad ls H locs cells slots hS hl
    obtain ⟨n, i, S', d', rfl, hn1, hi1, hsh, rfl, k7⟩ := zchk_some hk
    clear hk
    have hmono2 := h2 _ _ _ _ _ _ k7
    have hxx : ∃ x, (x = 4294967296 ∨ 8589934592 ≤ x) ∧ x ≤ 17179869183 ∧ va_Z "jdk/internal/util/Preconditions" "SIOOBE_FORMATTER" "Ljava/util/function/BiFunction;" (zv ad0 x) A s s.heap := by
      rcases hEx s ad0 hA.2.2.2.2.2.2.2.2.2.2.2.2.2.2 with z | z
      · exact ⟨4294967296, Or.inl rfl, by decide, z⟩
      · exact ⟨8589934592 + 65, Or.inr (by decide), by decide, by rw [zv_far]; exact z⟩
    obtain ⟨x, hx1, hx2, hx3⟩ := hxx
    have hE' := zEx_ok hE (C := "jdk/internal/util/Preconditions") (n := "SIOOBE_FORMATTER") (d := "Ljava/util/function/BiFunction;") hx1
    obtain ⟨z3, z0⟩ := hall l D cl tc tys A (zEx E A "jdk/internal/util/Preconditions" "SIOOBE_FORMATTER" "Ljava/util/function/BiFunction;" x) x hE' hx1 (fun U f h => h.2)
    have hR3 : zOkR l D cl tc tys A (zEx E A "jdk/internal/util/Preconditions" "SIOOBE_FORMATTER" "Ljava/util/function/BiFunction;" x) Tw (fun _ => (M3, 0)) zR3 := fun lbl => z3 _ z_none_ok
    have hR0 : zOkR l D cl tc tys A (zEx E A "jdk/internal/util/Preconditions" "SIOOBE_FORMATTER" "Ljava/util/function/BiFunction;" x) Tw (fun _ => (M2, 0)) (fun d _ L S h => zk0 x zR3 d L S h) := fun lbl => z0 _ hR3
    have l0 : zlane (zput (zput 0 1 (n + 1)) 0 (i + 1)) 0 = i + 1 := zlane_same (by omega)
    have l1 : zlane (zput (zput 0 1 (n + 1)) 0 (i + 1)) 1 = n + 1 := by rw [zlane_ne (by omega) (by decide), zlane_same (by omega)]
    have k4 : (fun (d _ : Nat) (L : Nat) (S : List Nat) (h : zH) => zk0 x zR3 d L S h) (d' + 1) 0 (zput (zput 0 1 (n + 1)) 0 (i + 1)) [] h = some ([], h) := zk0_run hx2 hi1 hn1 l0 l1
    have hM := zMet hR0 (lbl := 0) rfl hy k4 (as := [i, n]) hna (fun j y hj => by
      match j, hj with
      | 0, hj => have : i = y := by simpa using hj
                 subst this; exact l0
      | 1, hj => have : n = y := by simpa using hj
                 subst this; exact l1
      | j + 2, hj => simp at hj) (fun j hj => by
      have hj : 2 ≤ j := hj
      rw [zlane_ne (by omega) (by omega), zlane_ne (by omega) (by omega), zlane_0]) hS.2.2.2.2.2.2.1 hS.2.2.2.2.2.2.2 ad H.size (fun q hq => hA.2.2.2.2.2.2.2.2.2.1 q (Nat.le_trans hS.2.2.1.1 hq))
    obtain ⟨x1, x2, x3, x4, x5, x6, x7, x8, x9, x10, x11, x12, x13, x14, x15⟩ := hA
    obtain ⟨b1, b2, b3, b4, b5, b6, b7, b8⟩ := hS
    refine z_after (va_runS (g := F0 m pc ls (([i, n].reverse ++ S').map (zv ad))) (As := [i, n].map (zv ad)) (rest := S'.map (zv ad)) ⟨x1, x2, x3, x4, x5⟩ hM ⟨callB_of 2 x5 hG rfl rfl rfl (x5 _ hini) (x5 _ hlink) hdd ⟨by show d' + 1 + 1 ≤ R.frames; omega, by show 8 + (M2.2.2.1 + 11) + 50 * (d' + 1) ≤ R.locals; omega⟩, x5 _ hst⟩ ⟨zblind hE', fun U hU hW => ⟨rfl, by rw [hU], by rw [hU]; exact b1, va_K.moved hW.alike x9, b2, hE'.2.2 U ad0 ad (fun k hk => b4 k (Or.inr (Nat.le_trans b7 hk))) (hE'.2.1 s U ad0 hW (by rw [hU]; exact b3.1) (fun q z1 z2 => by rw [hU]; exact b3.2.1 q z1 z2) ⟨x15, hx3⟩)⟩⟩ rfl rfl hl.1 (by show ([i, n].reverse ++ S').map (zv ad) = _; rw [List.map_append, List.map_reverse]) (lv_room (by rw [zcat_sum]; exact hsh)) hd ⟨by omega, by omega⟩) ⟨b1, b2, b3, b4, b5, b6, b7, b8⟩ rfl (Nat.le_refl _) (fun H1 locs1 slots1 hS1 => ?_)
    exact h1 _ L S' h r h' k7 p e R s m args below meth c ad0 n0 s0 ⟨x1, x2, x3, x4, x5, x6, x7, x8, x9, x10, x11, x12, x13, x14, x15⟩ ad ls H1 locs1 cells slots1 hS1 hl
  · obtain ⟨n, i, S', d', rfl, hn1, hi1, hsh, rfl, k7⟩ := zchk_some hk
    exact h2 _ _ _ _ _ _ k7
end ZChk
