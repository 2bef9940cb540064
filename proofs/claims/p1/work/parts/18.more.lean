theorem zsel_get (ks : List zK) : ∀ (df : zK) (a : Nat), zsel ks df a = ks.getD a df := by
  induction ks with
  | nil => intro df a; rfl
  | cons k ks ih =>
    intro df a
    cases a with
    | zero => rfl
    | succ b => exact ih df b
section ZMore2
variable {l : Launch} {D : va_G} {cl : List vw_C} {tc : Nat → ClassId} {tys : List (ClassId × FieldType)} {A : Nat → Prop} {E : State → (Nat → Nat) → Prop} {Tw : List Cond} {lab : Nat → zM × Nat} {M : zM} {pc : Nat} {nx tg : zK}
theorem z_alen {p : Program} {e : Env} {R : Room} {s : State} {m : MethodId} {args : Array Value} {below : List Frame} {meth : Method} {c : Code} {H : Heap} {locs : List Loc} {cells slots : Nat} {Q : State → Prop} {cc : ByteArray} {ls : Array Slot} {rest : List Value} {ws : va_W} (hexec : p.tables.exec = Jvm.exec) (hb : c.code = cc) (hK : va_K D cl tys s) (hP : va_P D cl ws H) (q0 t0 : Nat) {a : Nat} {cA : ClassId} {n : Nat} {f : Nat → Int32} (ha : ws[q0]? = some (a, .inl (cA, n, .inl f))) {ty : FieldType} (ht : tys[t0]? = some (cA, ty)) (hdg : decode cc pc = .ok (.arraylength, 1)) (kk : W p l e R s m args below meth c H locs cells slots Q (F0 m (pc + 1) ls (.int (nI n) :: rest))) : W p l e R s m args below meth c H locs cells slots Q (F0 m pc ls (.ref a :: rest)) := va_alen hexec hb hK hP q0 t0 ha ht rfl hdg kk
theorem zlen_some {Rc : zRec} {g d L : Nat} {S : List Nat} {h : zH} {b : List Nat × zH} (e : o_len g nx Rc d L S h = some b) : ∃ a S', S = a :: S' ∧ 4294967296 < a ∧ a - 4294967297 < h.1 ∧ (zget 8 h.2.2 (a - 4294967297)).1 = g ∧ nx Rc d L ((zget 8 h.2.2 (a - 4294967297)).2.1 :: S') h = some b := by
  obtain ⟨a, S', rfl, k1⟩ := zpop_some e
  clear e
  obtain ⟨g1, g2, k2⟩ := zat_some k1
  clear k1
  obtain ⟨g3, k3⟩ := zcond_some k2
  clear k2
  refine ⟨a, S', rfl, g1, g2, Nat.eq_of_beq_eq_true g3, ?_⟩
  rw [zf_eq] at k3
  exact k3
theorem s_len {g t0 : Nat} {ty : FieldType} (hg : ¬ g < 100) (hg2 : ¬ g = 102) (hty : tys[t0]? = some (tc g, ty)) (hd : decode M.2.1 pc = .ok (.arraylength, 1)) (hn : zS l D cl tc tys A E Tw lab M (pc + 1) nx) : zS l D cl tc tys A E Tw lab M pc (o_len g nx) := by
  intro Rc hR
  obtain ⟨h1, h2⟩ := hn Rc hR
  refine ⟨?_, fun d L S h r h' hk => ?_⟩
  · intro d L S h r h' hk p e R s m args below meth c ad0 n0 s0 hA ad ls H locs cells slots hS hl
    obtain ⟨a, S', rfl, g1, g2, g3, hk⟩ := zlen_some hk
    have hn2 := hS.2.2.2.2.2.2.2 _ g2
    have he : (zW ad tc h)[a - 4294967297]? = some (ad (a - 4294967297), .inl (tc g, (zget 8 h.2.2 (a - 4294967297)).2.1, .inl (fun j => if j < (zget 8 h.2.2 (a - 4294967297)).2.1 then nI (zcv (zget 8 h.2.2 (a - 4294967297)) j) else 0))) := by
      rw [zW_get g2]
      unfold zE
      rw [if_neg (by rw [g3]; exact hg), if_neg (by rw [g3]; exact hg2), g3]
    rw [List.map_cons, zv_ref ad g1]
    have hlt : (zget 8 h.2.2 (a - 4294967297)).2.1 < 4294967296 := Nat.lt_of_le_of_lt hn2 (by decide)
    have q := h1 d L ((zget 8 h.2.2 (a - 4294967297)).2.1 :: S') h r h' hk p e R s m args below meth c ad0 n0 s0 hA ad ls H locs cells slots hS hl
    rw [List.map_cons, zv_int ad hlt] at q
    exact z_alen hA.1 hA.2.1 hA.2.2.2.2.2.2.2.2.1 hS.1 _ t0 he hty hd q
  · obtain ⟨a, S', rfl, g1, g2, g3, hk⟩ := zlen_some hk
    exact h2 d L _ h r h' hk
/-- a switch from 0 on: each case, and the default, at its place -/
theorem s_tsw {ks : List zK} {df : zK} {dflt hi : Int} {offs : Array Int} {len tgt : Nat} (hd : decode M.2.1 pc = .ok (.tableswitch dflt 0 hi offs, len)) (hlen : (ks.length : Int) = hi + 1) (hsm : ks.length ≤ 65536) (ht : (pc : Int) + dflt = (tgt : Int)) (hdf : zS l D cl tc tys A E Tw lab M tgt df) (hks : ∀ (i : Nat) (k : zK), ks[i]? = some k → ∃ (off : Int) (t : Nat), offs[i]? = some off ∧ (pc : Int) + off = (t : Int) ∧ zS l D cl tc tys A E Tw lab M t k) : zS l D cl tc tys A E Tw lab M pc (o_tsw ks df) := by
  intro Rc hR
  refine ⟨?_, fun d L S h r h' hk => ?_⟩
  · intro d L S h r h' hk p e R s m args below meth c ad0 n0 s0 hA ad ls H locs cells slots hS hl
    obtain ⟨a, S', rfl, k1⟩ := zpop_some hk
    clear hk
    obtain ⟨ha, k2⟩ := zint_some k1
    clear k1
    rw [zsel_get] at k2
    rw [List.map_cons, zv_int ad ha]
    by_cases hlt : a < ks.length
    · have e1 : ks[a]? = some ks[a] := List.getElem?_eq_getElem hlt
      rw [List.getD_eq_getElem?_getD, e1] at k2
      obtain ⟨off, t, o1, o2, o3⟩ := hks a _ e1
      have hti : (nI a).toInt = (a : Int) := nI_toInt (by omega)
      refine lv_tableIn hA.1 hA.2.1 hd (by rw [hti]; omega) (by rw [hti]; omega) (off := off) (by rw [hti, Int.sub_zero]; exact o1) o2 ?_
      exact (o3 Rc hR).1 d L S' h r h' k2 p e R s m args below meth c ad0 n0 s0 hA ad ls H locs cells slots hS hl
    · rw [List.getD_eq_getElem?_getD, List.getElem?_eq_none (by omega)] at k2
      refine lv_tableOut hA.1 hA.2.1 hd ?_ ht ?_
      · rw [zI_toInt ha]
        have : zsg a = (a + 2147483648) % 4294967296 := rfl
        omega
      · exact (hdf Rc hR).1 d L S' h r h' k2 p e R s m args below meth c ad0 n0 s0 hA ad ls H locs cells slots hS hl
  · obtain ⟨a, S', rfl, k1⟩ := zpop_some hk
    clear hk
    obtain ⟨ha, k2⟩ := zint_some k1
    clear k1
    rw [zsel_get] at k2
    by_cases hlt : a < ks.length
    · have e1 : ks[a]? = some ks[a] := List.getElem?_eq_getElem hlt
      rw [List.getD_eq_getElem?_getD, e1] at k2
      obtain ⟨off, t, o1, o2, o3⟩ := hks a _ e1
      exact (o3 Rc hR).2 d L S' h r h' k2
    · rw [List.getD_eq_getElem?_getD, List.getElem?_eq_none (by omega)] at k2
      exact (hdf Rc hR).2 d L S' h r h' k2
end ZMore2
