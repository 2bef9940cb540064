section ZTsw2
variable {l : Launch} {D : va_G} {cl : List vw_C} {tc : Nat → ClassId} {tys : List (ClassId × FieldType)} {A : Nat → Prop} {E : State → (Nat → Nat) → Prop} {Tw : List Cond} {lab : Nat → zM × Nat} {M M2 : zM} {pc : Nat} {nx tg : zK}
theorem r_tsw {ts : List (Int × Nat × zK)} {df : zK} {dflt hi : Int} {offs : Array Int} {len tgt : Nat} (hd : decode M.2.1 pc = .ok (.tableswitch dflt 0 hi offs, len)) (hoffs : offs.toList = ts.map (fun q => q.1)) (hlen : (ts.length : Int) = hi + 1) (hsm : ts.length ≤ 65536) (ht : (pc : Int) + dflt = (tgt : Int)) (hdf : zS l D cl tc tys A E Tw lab M tgt df) (hall : ∀ q ∈ ts, (pc : Int) + q.1 = (q.2.1 : Int) ∧ zS l D cl tc tys A E Tw lab M q.2.1 q.2.2) : zS l D cl tc tys A E Tw lab M pc (o_tsw (ts.map (fun q => q.2.2)) df) := by
  refine s_tsw hd (by rw [List.length_map]; exact hlen) (by rw [List.length_map]; exact hsm) ht hdf (fun i k h => ?_)
  rw [List.getElem?_map] at h
  cases hq : ts[i]? with
  | none => rw [hq] at h; cases h
  | some q =>
    rw [hq] at h
    have h : q.2.2 = k := Option.some.inj h
    subst h
    obtain ⟨a1, a2⟩ := hall q (List.mem_of_getElem? hq)
    refine ⟨q.1, q.2.1, ?_, a1, a2⟩
    rw [← Array.getElem?_toList, hoffs, List.getElem?_map, hq]
    rfl
end ZTsw2
