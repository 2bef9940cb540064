theorem z_byte : ∀ v, v < 128 → narrow .byte (.int (nI v)) = .int (nI v) := by decide +kernel
section ZText2
variable {l : Launch} {D : va_G} {cl : List vw_C} {tc : Nat → ClassId} {tys : List (ClassId × FieldType)} {A : Nat → Prop} {E : State → (Nat → Nat) → Prop} {Tw : List Cond} {lab : Nat → zM × Nat} {M M2 : zM} {pc : Nat} {nx tg : zK}
/-- an int below B goes back as what the method returns -/
theorem s_nret {B : Nat} {ty : FieldType} (hB : B ≤ 4294967296) (hnar : ∀ v, v < B → narrow ty (.int (nI v)) = .int (nI v)) (hr : M.2.2.2 = some ty) (hd : decode M.2.1 pc = .ok (.ireturn, 1)) : zS l D cl tc tys A E Tw lab M pc (fun _ _ _ S h => zpop S (fun v S => cond (Nat.ble B v) none (zemp S (some ([v], h))))) := by
  intro Rc hR
  have key : ∀ {d L : Nat} {S : List Nat} {h : zH} {r : List Nat} {h' : zH}, zpop S (fun v S => cond (Nat.ble B v) none (zemp S (some ([v], h)))) = some (r, h') → ∃ v, v < B ∧ S = [v] ∧ r = [v] ∧ h' = h := by
    intro d L S h r h' hk
    obtain ⟨v, S', rfl, k1⟩ := zpop_some hk
    clear hk
    cases q : Nat.ble B v with
    | true => rw [q] at k1; cases k1
    | false =>
      rw [q] at k1
      obtain ⟨rfl, k3⟩ := zemp_some k1
      cases k3
      refine ⟨v, ?_, rfl, rfl, rfl⟩
      rcases Nat.lt_or_ge v B with z | z
      · exact z
      · rw [Nat.ble_eq_true_of_le z] at q; cases q
  refine ⟨?_, fun d L S h r h' hk => ?_⟩
  · intro d L S h r h' hk p e R s m args below meth c ad0 n0 s0 hA ad ls H locs cells slots hS hl
    obtain ⟨v, hv, rfl, rfl, rfl⟩ := key (d := d) (L := L) hk
    clear hk
    have e1 : h'.1 - n0 = cells := by have := hS.2.2.2.2.1; omega
    have e2 : h'.2.1 - s0 = slots := by have := hS.2.2.2.2.2.1; omega
    rw [e1, e2]
    have hv2 : v < 4294967296 := by omega
    have q : ∀ t : State, t.heap = H → s.WarmedH t.vm → zQ D cl tc tys [v] h' ad0 n0 A args s (.returned (some (.int (nI v)))) t := fun t ht hW => by
      have z := zQ_of (r := [v]) hA hS ht hW
      rw [show ([v].head?.map (zv ad)) = some (.int (nI v)) from congrArg some (zv_int ad hv2)] at z
      exact z
    show W p l e R s m args below meth c H locs cells slots _ (F0 m pc ls [zv ad v])
    rw [zv_int ad hv2]
    exact W.zret hA.1 hA.2.1 (hA.2.2.2.2.2.1.trans hr) (hnar v hv) q hS.2.2.1.2.2 hd hA.2.2.2.2.2.2.1
  · obtain ⟨v, hv, rfl, rfl, rfl⟩ := key (d := d) (L := L) hk
    exact ⟨Nat.le_refl _, Nat.le_refl _⟩
theorem s_cret (hr : M.2.2.2 = some .char) (hd : decode M.2.1 pc = .ok (.ireturn, 1)) : zS l D cl tc tys A E Tw lab M pc o_cret := s_nret (B := 65536) (by decide) (fun v hv => (pk_charN hv).1) hr hd
theorem s_bret (hr : M.2.2.2 = some .byte) (hd : decode M.2.1 pc = .ok (.ireturn, 1)) : zS l D cl tc tys A E Tw lab M pc o_bret := s_nret (B := 128) (by decide) z_byte hr hd
/-- a call on a text -/
theorem s_callT (hE : zEok A E) {len : List Nat} {byt : List (List Int32)} (hEt : ∀ U f, E U f → zTx len byt A U f) {lbl na index : Nat} (hm : lab lbl = (M2, 0)) (hy : plainName M2.1.cls = true) (hG : GoodIn Tw (Cond.code M2.1 M2.2.1 M2.2.2.1 M2.2.2.2 :: Tw)) (hini : Cond.initialized M2.1.cls ∈ Tw) (hlink : Cond.methodLink M.1.cls index M2.1 ∈ Tw) (hst : Cond.instanceMethod M2.1 ∈ Tw) (hsel : Cond.selects "java/lang/String" M2.1 M2.1 ∈ Tw) (hdd : M2.1.cls ≠ "java/lang/invoke/MethodHandle" ∧ M2.1.cls ≠ "java/lang/invoke/VarHandle" ∧ (parseMethodDescriptor M2.1.desc).map (fun d => d.parameters.length) = some na) (hna : na + 1 ≤ M2.2.2.1) (hL : M2.2.2.1 ≤ 31) (hd : decode M.2.1 pc = .ok (.invokevirtual index, 3)) (hn : zS l D cl tc tys A E Tw lab M (pc + 3) nx) : zS l D cl tc tys A E Tw lab M pc (o_callT lbl (na + 1) nx) := by
  intro Rc hR
  obtain ⟨h1, h2⟩ := hn Rc hR
  refine ⟨?_, fun d L S h r h' hk => ?_⟩
  · intro d L S h r h' hk p e R s m args below meth c ad0 n0 s0 hA ad ls H locs cells slots hS hl
    obtain ⟨as, S', L', rfl, hlen, k1, hlane, hrest⟩ := zargs_some (na + 1) hk
    clear hk
    obtain ⟨r0, hr0, ka⟩ := zpr_some k1
    obtain ⟨j, hj, rfl, kc⟩ := zstr_some ka
    clear k1 ka
    obtain ⟨hsh, k2⟩ := zshort_some kc
    obtain ⟨d', rfl, k3⟩ := zpr_some k2
    clear kc k2
    obtain ⟨r1, hh, k4, k5⟩ := zans_some k3
    obtain ⟨k6, k7⟩ := zcond_some k5
    clear k3 k5
    have hsame := Nat.eq_of_beq_eq_true k6
    have hmono := (hR lbl).2 d' L' [] h r1 hh k4
    have hmono2 := h2 _ _ _ _ _ _ k7
    have hM := zMet hR hm hy k4 (as := as) (by omega) hlane (fun i hi => by rw [hrest i (by omega), zlane_0]) hS.2.2.2.2.2.2.1 hS.2.2.2.2.2.2.2 ad H.size (fun q hq => hA.2.2.2.2.2.2.2.2.2.1 q (Nat.le_trans hS.2.2.1.1 hq))
    have hfar := zad hS (show 256 ≤ 4294967295 + j by omega)
    obtain ⟨x1, x2, x3, x4, x5, x6, x7, x8, x9, x10, x11, x12, x13, x14, x15⟩ := hA
    obtain ⟨b1, b2, b3, b4, b5, b6, b7, b8⟩ := hS
    have hrecv := vk_recv (hEt s ad0 x15) hj b3
    cases as with
    | nil => simp at hlen
    | cons a0 as =>
      have e0 : a0 = 8589934592 + j := by
        have z := hlane 0 a0 rfl
        omega
      subst e0
      rw [List.map_cons, zv_far, hfar] at hM
      refine z_after (va_runV (g := F0 m pc ls ((((8589934592 + j) :: as).reverse ++ S').map (zv ad))) (C := "java/lang/String") (b := ad0 (4294967295 + j)) (As := as.map (zv ad)) (rest := S'.map (zv ad)) ⟨x1, x2, x3, x4, x5⟩ hM ⟨callB_of na x5 hG rfl rfl rfl (x5 _ hini) (x5 _ hlink) hdd ⟨by show d' + 1 ≤ R.frames; omega, by show 8 + (M2.2.2.1 + 11) + 50 * d' ≤ R.locals; omega⟩, x5 _ hst, x5 _ hsel⟩ ⟨zblind hE, hrecv, fun U hU hW => ⟨rfl, by rw [hU], by rw [hU]; exact b1, va_K.moved hW.alike x9, b2, hE.2.2 U ad0 ad (fun k hk => b4 k (Or.inr (Nat.le_trans b7 hk))) (hE.2.1 s U ad0 hW (by rw [hU]; exact b3.1) (fun q z1 z2 => by rw [hU]; exact b3.2.1 q z1 z2) x15)⟩⟩ rfl (by rw [List.length_map]; simpa using hlen) hl.1 (by show (((8589934592 + j) :: as).reverse ++ S').map (zv ad) = _; rw [List.map_append, List.map_reverse, List.map_cons, List.reverse_cons, zv_far, hfar, List.append_assoc]; rfl) (lv_room (by rw [zcat_sum]; exact hsh)) hd ⟨by omega, by omega⟩) ⟨b1, b2, b3, b4, b5, b6, b7, b8⟩ hsame hmono.2 (fun H1 locs1 slots1 hS1 => ?_)
      have q := h1 _ L (zapp r1 S') hh r h' k7 p e R s m args below meth c ad0 n0 s0 ⟨x1, x2, x3, x4, x5, x6, x7, x8, x9, x10, x11, x12, x13, x14, x15⟩ ad ls H1 locs1 cells slots1 hS1 hl
      rw [zapp_map] at q
      exact q
  · obtain ⟨as, S', L', rfl, hlen, k1, hlane, hrest⟩ := zargs_some (na + 1) hk
    clear hk
    obtain ⟨r0, hr0, ka⟩ := zpr_some k1
    obtain ⟨j, hj, rfl, kc⟩ := zstr_some ka
    clear k1 ka
    obtain ⟨hsh, k2⟩ := zshort_some kc
    obtain ⟨d', rfl, k3⟩ := zpr_some k2
    clear kc k2
    obtain ⟨r1, hh, k4, k5⟩ := zans_some k3
    obtain ⟨k6, k7⟩ := zcond_some k5
    have hmono := (hR lbl).2 d' L' [] h r1 hh k4
    have hmono2 := h2 _ _ _ _ _ _ k7
    exact ⟨Nat.le_trans hmono.1 hmono2.1, Nat.le_trans hmono.2 hmono2.2⟩
/-- what is known of the classes of arrays -/
def zAr (tc : Nat → ClassId) (U : State) : Prop := (∃ k, U.vm.classes[tc 102]? = some k ∧ k.kind = .array (tc 100) (.array .int)) ∧ ∃ k, U.vm.classes[tc 100]? = some k
theorem zAr.moved {u U : State} (hvm : u.vm.Alike U.vm) (h : zAr tc u) : zAr tc U := by
  obtain ⟨⟨k, h1, h2⟩, k2, h3⟩ := h
  obtain ⟨k', hk', he⟩ := hvm.2.2 _ _ h1
  obtain ⟨k3, hk3, he3⟩ := hvm.2.2 _ _ h3
  exact ⟨⟨k', hk', by rw [he]; exact h2⟩, k3, hk3⟩
/-- a row's place in an array of them anew -/
theorem zE_row {ad : Nat → Nat} {tc : Nat → ClassId} {c : zC} {k v : Nat} (hc : c.1 = 102) (hk : k < c.2.1) (hn : c.2.1 ≤ 65536) (hv : v < 17179869185) (hv2 : 4294967296 < v) : zE ad tc (zcst c k v) = .inl (tc 102, c.2.1, .inr (.inr (.inr (.inr (va_up (fun j => if j < c.2.1 then zo ad (zcv c j) else none) k (some (ad (v - 4294967297)))))))) := by
  obtain ⟨e1, e2⟩ := zcst_1 c k v
  unfold zE
  rw [if_neg (by rw [e1, hc]; decide), if_pos (by rw [e1]; exact hc), e1, e2, hc]
  congr 7
  funext j
  unfold va_up
  by_cases hj : j < c.2.1
  · rw [if_pos hj, zcv_st hv hk hj hn]
    by_cases e : k = j
    · rw [if_pos e, if_pos e.symm]
      unfold zo
      rw [if_neg (by omega)]
    · rw [if_neg e, if_neg (fun z => e z.symm)]
      exact (if_pos hj).symm
  · rw [if_neg hj, if_neg (fun z => hj (by omega))]
    exact (if_neg hj).symm
theorem zaast_some {Rc : zRec} {d L : Nat} {S : List Nat} {h : zH} {b : List Nat × zH} (e : o_aast nx Rc d L S h = some b) : ∃ v i a S', S = v :: i :: a :: S' ∧ 4294967296 < v ∧ v - 4294967297 < h.1 ∧ (zget 8 h.2.2 (v - 4294967297)).1 = 100 ∧ i < 4294967296 ∧ 4294967296 < a ∧ a - 4294967297 < h.1 ∧ (zget 8 h.2.2 (a - 4294967297)).1 = 102 ∧ i < (zget 8 h.2.2 (a - 4294967297)).2.1 ∧ nx Rc d L S' (h.1, h.2.1, zst 8 h.2.2 (a - 4294967297) (fun c => zcst c i v)) = some b := by
  obtain ⟨v, S1, rfl, k1⟩ := zpop_some e
  clear e
  obtain ⟨g1, g2, k2⟩ := zat_some k1
  clear k1
  obtain ⟨g3, k3⟩ := zcond_some k2
  clear k2
  obtain ⟨i, S2, rfl, k4⟩ := zpop_some k3
  clear k3
  obtain ⟨hi, k5⟩ := zint_some k4
  clear k4
  obtain ⟨a, S', rfl, k6⟩ := zpop_some k5
  clear k5
  obtain ⟨g4, g5, k7⟩ := zat_some k6
  clear k6
  obtain ⟨g6, g7, k8⟩ := zis_some k7
  clear k7
  rw [zupd_eq] at k8
  have g3 := Nat.eq_of_beq_eq_true g3
  exact ⟨v, i, a, S', rfl, g1, g2, g3, hi, g4, g5, g6, g7, k8⟩
theorem z_aast {p : Program} {e : Env} {R : Room} {s : State} {m : MethodId} {args : Array Value} {below : List Frame} {meth : Method} {c : Code} {H : Heap} {locs : List Loc} {cells slots : Nat} {Q : State → Prop} {cc : ByteArray} {ls : Array Slot} {rest : List Value} {ws : va_W} (hexec : p.tables.exec = Jvm.exec) (hb : c.code = cc) (hP : va_P D cl ws H) (hD : va_D A ws) (hS : va_S A s.heap H locs) (hAr : zAr tc s) (qa qv : Nat) {a v n nv i : Nat} {f : Nat → Option Nat} {g : Nat → Int32} (ha : ws[qa]? = some (a, .inl (tc 102, n, .inr (.inr (.inr (.inr f)))))) (hv : ws[qv]? = some (v, .inl (tc 100, nv, .inl g))) (hi : i < n) (hn : n ≤ 65536) (hdg : decode cc pc = .ok (.aastore, 1))
    (kk : ∀ (H1 : Heap) (locs1 : List Loc), va_P D cl (ws.set qa (a, .inl (tc 102, n, .inr (.inr (.inr (.inr (va_up f i (some v)))))))) H1 → va_D A (ws.set qa (a, .inl (tc 102, n, .inr (.inr (.inr (.inr (va_up f i (some v)))))))) → va_S A s.heap H1 locs1 → W p l e R s m args below meth c H1 locs1 cells slots Q (F0 m (pc + 1) ls rest)) : W p l e R s m args below meth c H locs cells slots Q (F0 m pc ls (.ref v :: .int (nI i) :: .ref a :: rest)) := by
  obtain ⟨⟨kA, f1, f2⟩, kI, f3⟩ := hAr
  have hlt : (nI i).toNatClampNeg = i := nI_clamp (show i < 2 ^ 31 by omega)
  refine W.aast hexec hb (hP qa _ ha) (fun q h => by cases h) (fun h => by cases h) f1 f2 rfl f3 ⟨nI_pos (show i < 2 ^ 31 by omega), by show _ < (arrV _ _ _).slots.size; rw [arrV_size, hlt]; exact hi⟩ (hP qv _ hv) (fun q h => by cases h) f3 (va_asg _ _) rfl rfl hdg fun H1 e z oq => ?_
  refine kk H1 _ (hP.set hD ha ?_ oq) (hD.set ha) (hS.put z oq (hD.2 qa _ ha))
  show H1[a]? = some (vp_cell _ _)
  rw [e]
  rw [vp_cell_q, vp_cell_q, hlt, arrV_store]
  congr 2
  funext q
  by_cases hq : q = i
  · subst hq
    simp [updV, va_up, va_rf]
  · simp [updV, va_up, hq]
theorem s_aast (hE : ∀ U f, E U f → zAr tc U) (hd : decode M.2.1 pc = .ok (.aastore, 1)) (hn : zS l D cl tc tys A E Tw lab M (pc + 1) nx) : zS l D cl tc tys A E Tw lab M pc (o_aast nx) := by
  intro Rc hR
  obtain ⟨h1, h2⟩ := hn Rc hR
  refine ⟨?_, fun d L S h r h' hk => ?_⟩
  · intro d L S h r h' hk p e R s m args below meth c ad0 n0 s0 hA ad ls H locs cells slots hS hl
    obtain ⟨v, i, a, S', rfl, g1, g2, g3, hi, g4, g5, g6, g7, k8⟩ := zaast_some hk
    clear hk
    have hn2 := hS.2.2.2.2.2.2.2 _ g5
    have hcells := hS.2.2.2.2.2.2.1
    have hev : (zW ad tc h)[v - 4294967297]? = some (ad (v - 4294967297), .inl (tc 100, (zget 8 h.2.2 (v - 4294967297)).2.1, .inl (fun j => if j < (zget 8 h.2.2 (v - 4294967297)).2.1 then nI (zcv (zget 8 h.2.2 (v - 4294967297)) j) else 0))) := by
      rw [zW_get g2]
      unfold zE
      rw [if_neg (by rw [g3]; decide), if_neg (by rw [g3]; decide), g3]
    have hea : (zW ad tc h)[a - 4294967297]? = some (ad (a - 4294967297), .inl (tc 102, (zget 8 h.2.2 (a - 4294967297)).2.1, .inr (.inr (.inr (.inr (fun j => if j < (zget 8 h.2.2 (a - 4294967297)).2.1 then zo ad (zcv (zget 8 h.2.2 (a - 4294967297)) j) else none)))))) := by
      rw [zW_get g5]
      unfold zE
      rw [if_neg (by rw [g6]; decide), if_pos g6, g6]
    have eE := zE_row (ad := ad) (tc := tc) (c := zget 8 h.2.2 (a - 4294967297)) (k := i) (v := v) g6 g7 hn2 (by omega) g1
    rw [List.map_cons, List.map_cons, List.map_cons, zv_ref ad g1, zv_int ad hi, zv_ref ad g4]
    refine z_aast hA.1 hA.2.1 hS.1 hS.2.1 hS.2.2.1 (hE s ad0 hA.2.2.2.2.2.2.2.2.2.2.2.2.2.2) _ _ hea hev g7 hn2 hd (fun H1 locs1 hP hD hs => ?_)
    rw [← eE] at hP hD
    exact h1 d L S' _ r h' k8 p e R s m args below meth c ad0 n0 s0 hA ad ls H1 locs1 cells slots (zSt_put hS g5 hP hD hs) hl
  · obtain ⟨v, i, a, S', rfl, g1, g2, g3, hi, g4, g5, g6, g7, k8⟩ := zaast_some hk
    exact zMn_put h2 k8
end ZText2
