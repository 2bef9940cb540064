section ZLsw
variable {l : Launch} {D : va_G} {cl : List vw_C} {tc : Nat → ClassId} {tys : List (ClassId × FieldType)} {A : Nat → Prop} {E : State → (Nat → Nat) → Prop} {Tw : List Cond} {lab : Nat → zM × Nat} {M : zM} {pc : Nat}
theorem zlk_ok {df : zK} {dflt : Int} {tgt : Nat} (ht : (pc : Int) + dflt = (tgt : Int)) (hdf : zS l D cl tc tys A E Tw lab M tgt df) (qs : List (Nat × Int × Nat × zK)) : (∀ q ∈ qs, q.1 < 4294967296 ∧ (pc : Int) + q.2.1 = (q.2.2.1 : Int) ∧ zS l D cl tc tys A E Tw lab M q.2.2.1 q.2.2.2) → ∀ a, a < 4294967296 → ∃ (off : Int) (t : Nat), Op.lookupswitch.offset (qs.map (fun q => ((nI q.1).toInt, q.2.1))) dflt (nI a).toInt = off ∧ (pc : Int) + off = (t : Int) ∧ zS l D cl tc tys A E Tw lab M t (zlk (qs.map (fun q => (q.1, q.2.2.2))) df a) := by
  induction qs with
  | nil => intro _ a ha; exact ⟨dflt, tgt, by first | rfl | simp [Op.lookupswitch.offset], ht, hdf⟩
  | cons q qs ih =>
    intro h a ha
    obtain ⟨h1, h2, h3⟩ := h q List.mem_cons_self
    show ∃ (off : Int) (t : Nat), Op.lookupswitch.offset (((nI q.1).toInt, q.2.1) :: qs.map (fun q => ((nI q.1).toInt, q.2.1))) dflt (nI a).toInt = off ∧ (pc : Int) + off = (t : Int) ∧ zS l D cl tc tys A E Tw lab M t (cond (Nat.beq a q.1) q.2.2.2 (zlk (qs.map (fun q => (q.1, q.2.2.2))) df a))
    cases e : Nat.beq a q.1 with
    | true =>
      have e2 := Nat.eq_of_beq_eq_true e
      refine ⟨q.2.1, q.2.2.1, ?_, h2, h3⟩
      rw [Op.lookupswitch.offset_cons, e2]
      first | exact if_pos rfl | simp
    | false =>
      have hne : ¬ nI a = nI q.1 := fun z => by rw [(zI_eq ha h1).mp z] at e; cases e
      rw [lv_osw hne rfl]
      exact ih (fun x hx => h x (List.mem_cons_of_mem _ hx)) a ha
theorem s_lsw {qs : List (Nat × Int × Nat × zK)} {df : zK} {dflt : Int} {ps : Array (Int × Int)} {len tgt : Nat} (hd : decode M.2.1 pc = .ok (.lookupswitch dflt ps, len)) (hp : (ps.toList.zip (ps.toList.drop 1)).all (fun (a, next) => a.1 < next.1) = true) (hps : ps.toList = qs.map (fun q => ((nI q.1).toInt, q.2.1))) (ht : (pc : Int) + dflt = (tgt : Int)) (hdf : zS l D cl tc tys A E Tw lab M tgt df) (hqs : ∀ q ∈ qs, q.1 < 4294967296 ∧ (pc : Int) + q.2.1 = (q.2.2.1 : Int) ∧ zS l D cl tc tys A E Tw lab M q.2.2.1 q.2.2.2) : zS l D cl tc tys A E Tw lab M pc (o_lsw (qs.map (fun q => (q.1, q.2.2.2))) df) := by
  intro Rc hR
  refine ⟨?_, fun d L S h r h' hk => ?_⟩
  · intro d L S h r h' hk p e R s m args below meth c ad0 n0 s0 hA ad ls H locs cells slots hS hl
    obtain ⟨a, S', rfl, k1⟩ := zpop_some hk
    clear hk
    obtain ⟨ha, k2⟩ := zint_some k1
    clear k1
    rw [List.map_cons, zv_int ad ha]
    obtain ⟨off, t, o1, o2, o3⟩ := zlk_ok ht hdf qs hqs a ha
    refine lv_lookup hA.1 hA.2.1 hd hp (off := off) (by rw [hps]; exact o1) o2 ?_
    exact (o3 Rc hR).1 d L S' h r h' k2 p e R s m args below meth c ad0 n0 s0 hA ad ls H locs cells slots hS hl
  · obtain ⟨a, S', rfl, k1⟩ := zpop_some hk
    clear hk
    obtain ⟨ha, k2⟩ := zint_some k1
    obtain ⟨off, t, o1, o2, o3⟩ := zlk_ok ht hdf qs hqs a ha
    exact (o3 Rc hR).2 d L S' h r h' k2
end ZLsw
