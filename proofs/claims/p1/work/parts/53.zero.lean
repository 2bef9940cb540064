/-! loops that write 0 alone: the array afterwards, written short -/
noncomputable def zZ (n : Nat) : zC := (100, n, 0, zfill 0 11)
theorem zflc_1 (v k : Nat) : ∀ (i : Nat) (c : zC), (zflc v k i c).1 = c.1 ∧ (zflc v k i c).2.1 = c.2.1 := by
  induction k with
  | zero => intro i c; exact ⟨rfl, rfl⟩
  | succ k ih =>
    intro i c
    have h := ih (i + 1) (zcst c i v)
    exact ⟨h.1.trans (zcst_1 c i v).1, h.2.trans (zcst_1 c i v).2⟩
theorem zflc_cv {v : Nat} (hv : v < 17179869185) (k : Nat) : ∀ (i : Nat) (c : zC) (j : Nat), c.2.1 ≤ 65536 → i + k ≤ c.2.1 → j < c.2.1 → zcv (zflc v k i c) j = if i ≤ j ∧ j < i + k then v else zcv c j := by
  induction k with
  | zero => intro i c j _ _ _; rw [if_neg (by omega)]; rfl
  | succ k ih =>
    intro i c j hn hk hj
    have e2 := (zcst_1 c i v).2
    show zcv (zflc v k (i + 1) (zcst c i v)) j = _
    rw [ih (i + 1) (zcst c i v) j (by rw [e2]; exact hn) (by rw [e2]; omega) (by rw [e2]; exact hj), zcv_st hv (by omega) hj hn]
    by_cases h1 : i + 1 ≤ j ∧ j < i + 1 + k
    · rw [if_pos h1, if_pos (by omega)]
    · rw [if_neg h1]
      by_cases h2 : i = j
      · rw [if_pos h2, if_pos (by omega)]
      · rw [if_neg h2, if_neg (by omega)]
theorem zhe2_can {h : zH} {r : Nat} {c : zC} (hn : h.1 ≤ 256) (hr : r < h.1) (hc : zget 8 h.2.2 r = c) (h1 : c.1 = 100) (h0 : ∀ j, j < c.2.1 → zcv c j = 0) : zhe2 h (h.1, h.2.1, zst 8 h.2.2 r (fun _ => zZ c.2.1)) := by
  refine ⟨rfl, rfl, fun k hk => ?_⟩
  show (zget 8 h.2.2 k).1 = (zget 8 (zst 8 h.2.2 r (fun _ => zZ c.2.1)) k).1 ∧ (zget 8 h.2.2 k).2.1 = (zget 8 (zst 8 h.2.2 r (fun _ => zZ c.2.1)) k).2.1 ∧ ∀ i, i < (zget 8 h.2.2 k).2.1 → zcv (zget 8 h.2.2 k) i = zcv (zget 8 (zst 8 h.2.2 r (fun _ => zZ c.2.1)) k) i
  rw [zget_st _ 8 h.2.2 r k (by show r < 256; omega) (by show k < 256; omega)]
  by_cases e : r = k
  · subst e
    rw [if_pos rfl, hc]
    exact ⟨h1, rfl, fun i hi => by rw [h0 i hi]; exact (zcv_0 100 c.2.1 i).symm⟩
  · rw [if_neg e]
    exact ⟨rfl, rfl, fun i _ => rfl⟩
noncomputable def zzero (c : zC) (n : Nat) : Bool := zall (fun j => Nat.beq (zcv c j) 0) n
/-- the array of local 0 holds 0 alone: written short -/
noncomputable def o_canF (nx : zK) : zK := fun R d L S h => zpr (zlane L 0) (fun r => zat h r (fun c => cond (zzero c (Prod.fst (Prod.snd c))) (cond (Nat.beq (Prod.fst c) 100) (zupdc h r (zZ (Prod.fst (Prod.snd c))) (fun h' => nx R d L S h')) none) none))
/-- the reference's memory, likewise -/
noncomputable def o_canZ (nx : zK) : zK := fun R d L S h => zpr (zlane L 0) (fun o => zat h o (fun co => zis 12 co 0 (zcget co 0 (fun m => zat h m (fun cm => zis 102 cm 0 (zcget cm 0 (fun r => zat h r (fun c => cond (zzero c (Prod.fst (Prod.snd c))) (cond (Nat.beq (Prod.fst c) 100) (zupdc h r (zZ (Prod.fst (Prod.snd c))) (fun h' => nx R d L S h')) none) none))))))))
section ZCan
variable {l : Launch} {D : va_G} {cl : List vw_C} {tc : Nat → ClassId} {tys : List (ClassId × FieldType)} {A : Nat → Prop} {E : State → (Nat → Nat) → Prop} {Tw : List Cond} {lab : Nat → zM × Nat} {M M2 : zM} {pc : Nat} {nx tg : zK}
theorem zcan_some {R : zRec} {d L r0 : Nat} {S : List Nat} {h : zH} {b : List Nat × zH} (e : zat h r0 (fun c => cond (zzero c (Prod.fst (Prod.snd c))) (cond (Nat.beq (Prod.fst c) 100) (zupdc h r0 (zZ (Prod.fst (Prod.snd c))) (fun h' => nx R d L S h')) none) none) = some b) : ∃ r, r < h.1 ∧ (zget 8 h.2.2 r).1 = 100 ∧ (∀ j, j < (zget 8 h.2.2 r).2.1 → zcv (zget 8 h.2.2 r) j = 0) ∧ nx R d L S (h.1, h.2.1, zst 8 h.2.2 r (fun _ => zZ (zget 8 h.2.2 r).2.1)) = some b := by
  obtain ⟨g1, g2, k1⟩ := zat_some e
  obtain ⟨r, rfl⟩ : ∃ r, r0 = 4294967297 + r := ⟨r0 - 4294967297, by omega⟩
  rw [Nat.add_sub_cancel_left] at g2 k1
  obtain ⟨c1, k2⟩ := zcond_some k1
  obtain ⟨c2, k3⟩ := zcond_some k2
  rw [zupdc_eq, Nat.add_sub_cancel_left] at k3
  exact ⟨r, g2, Nat.eq_of_beq_eq_true c2, fun j hj => Nat.eq_of_beq_eq_true (zall_get c1 j hj), k3⟩
theorem s_can {o : zK} (ho : ∀ {R : zRec} {d L : Nat} {S : List Nat} {h : zH} {b : List Nat × zH}, o R d L S h = some b → ∃ r, r < h.1 ∧ (zget 8 h.2.2 r).1 = 100 ∧ (∀ j, j < (zget 8 h.2.2 r).2.1 → zcv (zget 8 h.2.2 r) j = 0) ∧ nx R d L S (h.1, h.2.1, zst 8 h.2.2 r (fun _ => zZ (zget 8 h.2.2 r).2.1)) = some b) (hn : zS l D cl tc tys A E Tw lab M pc nx) : zS l D cl tc tys A E Tw lab M pc o := by
  intro Rc hR
  obtain ⟨h1, h2⟩ := hn Rc hR
  refine ⟨?_, fun d L S h r h' hk => ?_⟩
  · intro d L S h r h' hk p e R s m args below meth c ad0 n0 s0 hA ad ls H locs cells slots hS hl
    obtain ⟨q, g1, g2, g3, k⟩ := ho hk
    exact h1 d L S _ r h' k p e R s m args below meth c ad0 n0 s0 hA ad ls H locs cells slots (zSt_he2 (zhe2_can hS.2.2.2.2.2.2.1 g1 rfl g2 g3) hS) hl
  · obtain ⟨q, g1, g2, g3, k⟩ := ho hk
    exact zMn_put h2 k
theorem s_canF (hn : zS l D cl tc tys A E Tw lab M pc nx) : zS l D cl tc tys A E Tw lab M pc (o_canF nx) := s_can (fun e => by
  obtain ⟨r0, _, k1⟩ := zpr_some e
  exact zcan_some k1) hn
theorem s_canZ (hn : zS l D cl tc tys A E Tw lab M pc nx) : zS l D cl tc tys A E Tw lab M pc (o_canZ nx) := s_can (fun e => by
  obtain ⟨r0, _, k1⟩ := zpr_some e
  obtain ⟨_, _, k2⟩ := zat_some k1
  obtain ⟨_, _, k3⟩ := zis_some k2
  rw [zcget_eq] at k3
  obtain ⟨_, _, k4⟩ := zat_some k3
  obtain ⟨_, _, k5⟩ := zis_some k4
  rw [zcget_eq] at k5
  exact zcan_some k5) hn
theorem s_unroll2 {k1 k2 : Nat → zK} {o : zK} (hU1 : ∀ n, zS l D cl tc tys A E Tw lab M pc (k1 n)) (hU2 : ∀ n, zS l D cl tc tys A E Tw lab M pc (k2 n)) (ho : ∀ {R : zRec} {d L : Nat} {S : List Nat} {h : zH} {b : List Nat × zH}, o R d L S h = some b → (∃ n, k1 n R d L S h = some b) ∨ ∃ n, k2 n R d L S h = some b) : zS l D cl tc tys A E Tw lab M pc o := by
  intro Rc hR
  refine ⟨?_, fun d L S h r h' hk => ?_⟩
  · intro d L S h r h' hk
    rcases ho hk with ⟨n, hn⟩ | ⟨n, hn⟩
    · exact (hU1 n Rc hR).1 d L S h r h' hn
    · exact (hU2 n Rc hR).1 d L S h r h' hn
  · rcases ho hk with ⟨n, hn⟩ | ⟨n, hn⟩
    · exact (hU1 n Rc hR).2 d L S h r h' hn
    · exact (hU2 n Rc hR).2 d L S h r h' hn
end ZCan
noncomputable def o_fil0 (nx : zK) : zK := fun R d L S h => zpr (zlane L 0) (fun r => zpr (zlane L 1) (fun v => zpr (zlane L 2) (fun i => zpr (zlane L 3) (fun n => cond (Nat.beq v 0) (cond (Nat.ble i n) (zat h r (fun c => cond (Nat.beq (Prod.fst c) 100) (cond (Nat.beq n (Prod.fst (Prod.snd c))) (cond (Nat.ble n 65536) (cond (Nat.ble (Prod.fst h) 256) (cond (zzero c i) (zf (zput L 2 (Nat.succ n)) (fun L' => zupdc h r (zZ n) (fun h' => nx R d L' S h'))) none) none) none) none) none)) none) (o_fill nx R d L S h)))))
theorem o_fil0_some {nx : zK} {R : zRec} {d L : Nat} {S : List Nat} {h : zH} {b : List Nat × zH} (e : o_fil0 nx R d L S h = some b) : (∃ k, zUf nx k R d L S h = some b) ∨ ∃ k, zUf (o_canF nx) k R d L S h = some b := by
  obtain ⟨r0, l0, k1⟩ := zpr_some e
  clear e
  obtain ⟨v, l1, k2⟩ := zpr_some k1
  clear k1
  obtain ⟨i, l2, k4⟩ := zpr_some k2
  clear k2
  obtain ⟨n, l3, k5⟩ := zpr_some k4
  clear k4
  cases q : Nat.beq v 0 with
  | false => rw [q] at k5; exact Or.inl (o_fill_some k5)
  | true =>
    rw [q, cond_true] at k5
    have hv := Nat.eq_of_beq_eq_true q
    subst hv
    obtain ⟨hin, k6⟩ := zcond_some k5
    clear k5
    have hin := Nat.le_of_ble_eq_true hin
    obtain ⟨g1, g2, k7⟩ := zat_some k6
    clear k6
    obtain ⟨r, rfl⟩ : ∃ r, r0 = 4294967297 + r := ⟨r0 - 4294967297, by omega⟩
    rw [Nat.add_sub_cancel_left] at g2 k7
    obtain ⟨c1, k8⟩ := zcond_some k7
    clear k7
    obtain ⟨c2, k9⟩ := zcond_some k8
    clear k8
    obtain ⟨c3, ka⟩ := zcond_some k9
    clear k9
    obtain ⟨c4, kb⟩ := zcond_some ka
    clear ka
    obtain ⟨c5, kc⟩ := zcond_some kb
    clear kb
    rw [zf_eq, zupdc_eq, Nat.add_sub_cancel_left] at kc
    have c1 := Nat.eq_of_beq_eq_true c1
    have c2 := Nat.eq_of_beq_eq_true c2
    have c3 := Nat.le_of_ble_eq_true c3
    have c4 := Nat.le_of_ble_eq_true c4
    refine Or.inr ⟨n - i, ?_⟩
    rw [zUf_run (by decide) (by omega) c3 (n - i) i L h _ l0 l1 l2 l3 (by omega) g2 rfl c1 (by omega)]
    have hl : zlane (zput L 2 (n + 1)) 0 = 4294967297 + r + 1 := (zlane_ne (by omega) (by decide)).trans l0
    have hr : r < 256 := by omega
    obtain ⟨f1, f2⟩ := zflc_1 0 (n - i) i (zget 8 h.2.2 r)
    generalize hF : zflc 0 (n - i) i (zget 8 h.2.2 r) = F at *
    have hg : zget 8 (zst 8 h.2.2 r (fun _ => F)) r = F := by
      rw [zget_st _ 8 h.2.2 r r (by show r < 256; exact hr) (by show r < 256; exact hr), if_pos rfl]
    have hz : zzero F F.2.1 = true := by
      unfold zzero
      have key : ∀ j, j < F.2.1 → zcv F j = 0 := fun j hj => by
        rw [← hF, zflc_cv (by decide) (n - i) i _ j (by omega) (by omega) (by omega)]
        by_cases hj2 : i ≤ j ∧ j < i + (n - i)
        · rw [if_pos hj2]
        · rw [if_neg hj2]
          exact Nat.eq_of_beq_eq_true (zall_get c5 j (by omega))
      have all : ∀ m, m ≤ F.2.1 → zall (fun j => Nat.beq (zcv F j) 0) m = true := by
        intro m
        induction m with
        | zero => intro _; rfl
        | succ m ih =>
          intro hm
          show cond (Nat.beq (zcv F m) 0) (zall (fun j => Nat.beq (zcv F j) 0) m) false = true
          rw [key m (by omega)]
          exact ih (by omega)
      exact all _ (Nat.le_refl _)
    unfold o_canF
    rw [hl]
    show zat (h.1, h.2.1, zst 8 h.2.2 r (fun _ => F)) (4294967297 + r) (fun c => cond (zzero c c.2.1) (cond (Nat.beq c.1 100) (zupdc (h.1, h.2.1, zst 8 h.2.2 r (fun _ => F)) (4294967297 + r) (zZ c.2.1) (fun h' => nx R d (zput L 2 (n + 1)) S h')) none) none) = some b
    rw [zat_eq _ (show r < (h.1, h.2.1, zst 8 h.2.2 r (fun _ => F)).1 from g2)]
    show cond (zzero (zget 8 (zst 8 h.2.2 r (fun _ => F)) r) (zget 8 (zst 8 h.2.2 r (fun _ => F)) r).2.1) (cond (Nat.beq (zget 8 (zst 8 h.2.2 r (fun _ => F)) r).1 100) (zupdc (h.1, h.2.1, zst 8 h.2.2 r (fun _ => F)) (4294967297 + r) (zZ (zget 8 (zst 8 h.2.2 r (fun _ => F)) r).2.1) (fun h' => nx R d (zput L 2 (n + 1)) S h')) none) none = some b
    rw [hg, hz, cond_true, zbeq_t (f1.trans c1), cond_true, zupdc_eq, f2, ← c2]
    show nx R d (zput L 2 (n + 1)) S (h.1, h.2.1, zst 8 (zst 8 h.2.2 r (fun _ => F)) (4294967297 + r - 4294967297) (fun _ => zZ n)) = some b
    rw [Nat.add_sub_cancel_left, zst_st]
    exact kc
noncomputable def o_zer0 (nx : zK) : zK := fun R d L S h => zpr (zlane L 0) (fun o => zpr (zlane L 1) (fun i => cond (Nat.ble i 65536) (zat h o (fun co => zis 12 co 0 (zcget co 0 (fun m => zat h m (fun cm => zis 102 cm 0 (zcget cm 0 (fun r => zat h r (fun c => cond (Nat.beq (Prod.fst c) 100) (cond (Nat.beq (Prod.fst (Prod.snd c)) 65536) (cond (Nat.ble (Prod.fst h) 256) (cond (zzero c i) (zf (zput L 1 65537) (fun L' => zupdc h r (zZ 65536) (fun h' => nx R d L' S h'))) none) none) none) none)))))))) none))
theorem zall_of {p : Nat → Bool} : ∀ m, (∀ j, j < m → p j = true) → zall p m = true := by
  intro m
  induction m with
  | zero => intro _; rfl
  | succ m ih =>
    intro h
    show cond (p m) (zall p m) false = true
    rw [h m (by omega)]
    exact ih (fun j hj => h j (by omega))
theorem zpr_s {β : Type} (v : Nat) (k : Nat → Option β) : zpr (v + 1) k = k v := rfl
theorem o_canZ_eq {nx : zK} {R : zRec} {d L : Nat} {S : List Nat} {H : zH} {o m r : Nat} (hl : zlane L 0 = 4294967297 + o + 1) (ho : o < H.1) (c1 : (zget 8 H.2.2 o).1 = 12) (c2 : 0 < (zget 8 H.2.2 o).2.1) (c3 : zcv (zget 8 H.2.2 o) 0 = 4294967297 + m) (hm : m < H.1) (c4 : (zget 8 H.2.2 m).1 = 102) (c5 : 0 < (zget 8 H.2.2 m).2.1) (c6 : zcv (zget 8 H.2.2 m) 0 = 4294967297 + r) (hr : r < H.1) (hz : zzero (zget 8 H.2.2 r) (zget 8 H.2.2 r).2.1 = true) (h1 : (zget 8 H.2.2 r).1 = 100) : o_canZ nx R d L S H = nx R d L S (H.1, H.2.1, zst 8 H.2.2 r (fun _ => zZ (zget 8 H.2.2 r).2.1)) := by
  unfold o_canZ
  rw [hl, zpr_s, zat_eq _ ho, zis_eq _ c1 c2, zcget_eq, c3, zat_eq _ hm, zis_eq _ c4 c5, zcget_eq, c6, zat_eq _ hr, hz, cond_true, zbeq_t h1, cond_true, zupdc_eq, Nat.add_sub_cancel_left]
theorem o_zer0_some {nx : zK} {R : zRec} {d L : Nat} {S : List Nat} {h : zH} {q : List Nat × zH} (e : o_zer0 nx R d L S h = some q) : ∃ k, zUz (o_canZ nx) k R d L S h = some q := by
  obtain ⟨o0, l0, k1⟩ := zpr_some e
  clear e
  obtain ⟨i, l1, k2⟩ := zpr_some k1
  clear k1
  obtain ⟨hi, k3⟩ := zcond_some k2
  clear k2
  have hi := Nat.le_of_ble_eq_true hi
  obtain ⟨g1, g2, k4⟩ := zat_some k3
  clear k3
  obtain ⟨o, rfl⟩ : ∃ o, o0 = 4294967297 + o := ⟨o0 - 4294967297, by omega⟩
  rw [Nat.add_sub_cancel_left] at g2 k4
  obtain ⟨c1, c2, k5⟩ := zis_some k4
  clear k4
  rw [zcget_eq] at k5
  obtain ⟨g3, g4, k6⟩ := zat_some k5
  clear k5
  obtain ⟨m, hm⟩ : ∃ m, zcv (zget 8 h.2.2 o) 0 = 4294967297 + m := ⟨zcv (zget 8 h.2.2 o) 0 - 4294967297, by omega⟩
  rw [hm, Nat.add_sub_cancel_left] at g4 k6
  obtain ⟨c4, c5, k7⟩ := zis_some k6
  clear k6
  rw [zcget_eq] at k7
  obtain ⟨g5, g6, k8⟩ := zat_some k7
  clear k7
  obtain ⟨r, hr⟩ : ∃ r, zcv (zget 8 h.2.2 m) 0 = 4294967297 + r := ⟨zcv (zget 8 h.2.2 m) 0 - 4294967297, by omega⟩
  rw [hr, Nat.add_sub_cancel_left] at g6 k8
  obtain ⟨d1, k9⟩ := zcond_some k8
  clear k8
  obtain ⟨d2, ka⟩ := zcond_some k9
  clear k9
  obtain ⟨d3, kb⟩ := zcond_some ka
  clear ka
  obtain ⟨d5, kc⟩ := zcond_some kb
  clear kb
  rw [zf_eq, zupdc_eq, Nat.add_sub_cancel_left] at kc
  have d1 := Nat.eq_of_beq_eq_true d1
  have d2 := Nat.eq_of_beq_eq_true d2
  have d3 := Nat.le_of_ble_eq_true d3
  have hor : o ≠ r := fun z => by
    subst z
    rw [c1] at d1
    cases d1
  have hmr : m ≠ r := fun z => by
    subst z
    rw [c4] at d1
    cases d1
  have ho2 : o < 256 := by omega
  have hm2 : m < 256 := by omega
  have hr2 : r < 256 := by omega
  refine ⟨65536 - i, ?_⟩
  rw [zUz_run ho2 hm2 hr2 hor hmr c1 c2 hm c4 c5 hr (65536 - i) i L h _ l0 l1 (by omega) g2 g4 g6 rfl rfl rfl d1 d2]
  have hl : zlane (zput L 1 65537) 0 = 4294967297 + o + 1 := (zlane_ne (by decide) (by decide)).trans l0
  obtain ⟨f1, f2⟩ := zflc_1 0 (65536 - i) i (zget 8 h.2.2 r)
  generalize hF : zflc 0 (65536 - i) i (zget 8 h.2.2 r) = F at *
  have hgo : zget 8 (zst 8 h.2.2 r (fun _ => F)) o = zget 8 h.2.2 o := by
    rw [zget_st _ 8 h.2.2 r o (by show r < 256; exact hr2) (by show o < 256; exact ho2), if_neg (fun z => hor z.symm)]
  have hgm : zget 8 (zst 8 h.2.2 r (fun _ => F)) m = zget 8 h.2.2 m := by
    rw [zget_st _ 8 h.2.2 r m (by show r < 256; exact hr2) (by show m < 256; exact hm2), if_neg (fun z => hmr z.symm)]
  have hgr : zget 8 (zst 8 h.2.2 r (fun _ => F)) r = F := by
    rw [zget_st _ 8 h.2.2 r r (by show r < 256; exact hr2) (by show r < 256; exact hr2), if_pos rfl]
  have hz : zzero F F.2.1 = true := by
    unfold zzero
    refine zall_of _ (fun j hj => zbeq_t ?_)
    rw [← hF, zflc_cv (by decide) (65536 - i) i _ j (by omega) (by omega) (by omega)]
    by_cases hj2 : i ≤ j ∧ j < i + (65536 - i)
    · rw [if_pos hj2]
    · rw [if_neg hj2]
      exact Nat.eq_of_beq_eq_true (zall_get d5 j (by omega))
  rw [o_canZ_eq (H := (h.1, h.2.1, zst 8 h.2.2 r (fun _ => F))) (o := o) (m := m) (r := r) hl g2 ((congrArg (fun x => x.1) hgo).trans c1) (by show 0 < (zget 8 (zst 8 h.2.2 r (fun _ => F)) o).2.1; rw [hgo]; exact c2) ((congrArg (fun x => zcv x 0) hgo).trans hm) g4 ((congrArg (fun x => x.1) hgm).trans c4) (by show 0 < (zget 8 (zst 8 h.2.2 r (fun _ => F)) m).2.1; rw [hgm]; exact c5) ((congrArg (fun x => zcv x 0) hgm).trans hr) g6 ((congrArg (fun x => zzero x x.2.1) hgr).trans hz) ((congrArg (fun x => x.1) hgr).trans (f1.trans d1))]
  show nx R d (zput L 1 65537) S (h.1, h.2.1, zst 8 (zst 8 h.2.2 r (fun _ => F)) r (fun _ => zZ (zget 8 (zst 8 h.2.2 r (fun _ => F)) r).2.1)) = some q
  rw [hgr, f2, d2, zst_st]
  exact kc
