section ZGrid
variable {l : Launch} {D : va_G} {cl : List vw_C} {tc : Nat → ClassId} {tys : List (ClassId × FieldType)} {A : Nat → Prop} {E : State → (Nat → Nat) → Prop} {Tw : List Cond} {lab : Nat → zM × Nat} {M M2 : zM} {pc : Nat} {nx tg : zK}
/-- a row of rows: its place i -/
theorem z_aald {p : Program} {e : Env} {R : Room} {s : State} {m : MethodId} {args : Array Value} {below : List Frame} {meth : Method} {c : Code} {H : Heap} {locs : List Loc} {cells slots : Nat} {Q : State → Prop} {cc : ByteArray} {ls : Array Slot} {rest : List Value} {ws : va_W} (hexec : p.tables.exec = Jvm.exec) (hb : c.code = cc) (hK : va_K D cl tys s) (hP : va_P D cl ws H) (q0 t0 : Nat) {a : Nat} {cA : ClassId} {n : Nat} {f : Nat → Option Nat} (ha : ws[q0]? = some (a, .inl (cA, n, .inr (.inr (.inr (.inr f)))))) {ty : FieldType} (hty : ty.isReference = true) (ht : tys[t0]? = some (cA, ty)) {i : Int32} (hin : vp_in i n) (hdg : decode cc pc = .ok (.aaload, 1))
    (kk : W p l e R s m args below meth c H locs cells slots Q (F0 m (pc + 1) ls (va_rf (f i.toNatClampNeg) :: rest))) : W p l e R s m args below meth c H locs cells slots Q (F0 m pc ls (.int i :: .ref a :: rest)) := by
  have hlt : i.toNatClampNeg < n := Nat.not_le.mp fun q => hin (Or.inr q)
  exact W.aald (v := va_rf (f i.toNatClampNeg)) (ty := ty) hexec hb (hP q0 _ ha) ((hK.2 t0 _ ht).1 n (fun j => va_rf (f j))) hty (fun q => by cases q) (by show ¬ (i < 0 ∨ (arrV _ _ _).slots.size ≤ _); rw [arrV_size]; exact hin) (by show (arrV _ _ _).slots[_]? = _; rw [arrV_read _ _ hlt]) rfl rfl hdg kk
theorem zaald_some {Rc : zRec} {d L : Nat} {S : List Nat} {h : zH} {b : List Nat × zH} (e : o_aald nx Rc d L S h = some b) : ∃ i a S', S = i :: a :: S' ∧ i < 4294967296 ∧ 4294967296 < a ∧ a - 4294967297 < h.1 ∧ (zget 8 h.2.2 (a - 4294967297)).1 = 102 ∧ i < (zget 8 h.2.2 (a - 4294967297)).2.1 ∧ 4294967296 < zcv (zget 8 h.2.2 (a - 4294967297)) i ∧ nx Rc d L (zcv (zget 8 h.2.2 (a - 4294967297)) i :: S') h = some b := by
  obtain ⟨i, S1, rfl, k1⟩ := zpop_some e
  clear e
  obtain ⟨hi, k2⟩ := zint_some k1
  clear k1
  obtain ⟨a, S', rfl, k3⟩ := zpop_some k2
  clear k2
  obtain ⟨g1, g2, k4⟩ := zat_some k3
  clear k3
  obtain ⟨g3, g4, k5⟩ := zis_some k4
  clear k4
  rw [zcget_eq] at k5
  obtain ⟨g5, k6⟩ := zref_some k5
  exact ⟨i, a, S', rfl, hi, g1, g2, g3, g4, g5, k6⟩
theorem s_aald {t0 : Nat} {ty : FieldType} (hrf : ty.isReference = true) (hty : tys[t0]? = some (tc 102, ty)) (hd : decode M.2.1 pc = .ok (.aaload, 1)) (hn : zS l D cl tc tys A E Tw lab M (pc + 1) nx) : zS l D cl tc tys A E Tw lab M pc (o_aald nx) := by
  intro Rc hR
  obtain ⟨h1, h2⟩ := hn Rc hR
  refine ⟨?_, fun d L S h r h' hk => ?_⟩
  · intro d L S h r h' hk p e R s m args below meth c ad0 n0 s0 hA ad ls H locs cells slots hS hl
    obtain ⟨i, a, S', rfl, hi, g1, g2, g3, g4, g5, hk⟩ := zaald_some hk
    have hn2 := hS.2.2.2.2.2.2.2 _ g2
    have he : (zW ad tc h)[a - 4294967297]? = some (ad (a - 4294967297), .inl (tc 102, (zget 8 h.2.2 (a - 4294967297)).2.1, .inr (.inr (.inr (.inr (fun j => if j < (zget 8 h.2.2 (a - 4294967297)).2.1 then zo ad (zcv (zget 8 h.2.2 (a - 4294967297)) j) else none)))))) := by
      rw [zW_get g2]
      unfold zE
      rw [if_neg (by rw [g3]; decide), if_pos g3, g3]
    rw [List.map_cons, List.map_cons, zv_ref ad g1, zv_int ad hi]
    have q := h1 d L (zcv (zget 8 h.2.2 (a - 4294967297)) i :: S') h r h' hk p e R s m args below meth c ad0 n0 s0 hA ad ls H locs cells slots hS hl
    generalize zget 8 h.2.2 (a - 4294967297) = cx at *
    generalize a - 4294967297 = ix at *
    obtain ⟨gx, nn, xx, tt⟩ := cx
    refine z_aald hA.1 hA.2.1 hA.2.2.2.2.2.2.2.2.1 hS.1 _ t0 he hrf hty (vp_in_nI (n := i) (N := nn) g4 (Nat.lt_of_le_of_lt hn2 (by decide))) hd ?_
    rw [nI_clamp (show i < 2 ^ 31 from Nat.lt_of_lt_of_le g4 (Nat.le_trans hn2 (by decide)))]
    have ev : va_rf (if i < nn then zo ad (zcv (gx, nn, xx, tt) i) else none) = zv ad (zcv (gx, nn, xx, tt) i) := by
      have g4 : i < nn := g4
      rw [if_pos g4, zv_ref ad g5]
      unfold zo
      rw [if_neg (by omega)]
      rfl
    show W p l e R s m args below meth c H locs cells slots _ (F0 m (pc + 1) ls (va_rf (if i < nn then zo ad (zcv (gx, nn, xx, tt) i) else none) :: S'.map (zv ad)))
    rw [ev]
    exact q
  · obtain ⟨i, a, S', rfl, hi, g1, g2, g3, g4, g5, hk⟩ := zaald_some hk
    exact h2 d L _ h r h' hk
end ZGrid
