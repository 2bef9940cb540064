/-! kept answers once more: arrays are compared up to their lengths alone -/
/-- the first m pages alike -/
noncomputable def zpeq (d : Nat) : Nat → zT Nat d → zT Nat d → Bool := Nat.rec (motive := fun d => Nat → zT Nat d → zT Nat d → Bool) (fun _ a b => Nat.beq a b) (fun j ih m t u => Prod.rec (motive := fun _ => Bool) (fun a b => Prod.rec (motive := fun _ => Bool) (fun a' b' => cond (Nat.ble m (Nat.pow 2 j)) (ih m a a') (cond (ih (Nat.pow 2 j) a a') (ih (Nat.sub m (Nat.pow 2 j)) b b') false)) u) t) d
noncomputable def zceq2 (c c' : zC) : Bool := Prod.rec (motive := fun _ => Bool) (fun g c1 => Prod.rec (motive := fun _ => Bool) (fun n c2 => Prod.rec (motive := fun _ => Bool) (fun x t => Prod.rec (motive := fun _ => Bool) (fun g' c1' => Prod.rec (motive := fun _ => Bool) (fun n' c2' => Prod.rec (motive := fun _ => Bool) (fun x' t' => cond (Nat.beq g g') (cond (Nat.beq n n') (cond (Nat.ble n 512) (Nat.beq x x') (zpeq 11 (Nat.succ (Nat.div n 32)) t t')) false) false) c2') c1') c') c2) c1) c
noncomputable def ztceq2 (d : Nat) : Nat → zT zC d → zT zC d → Bool := Nat.rec (motive := fun d => Nat → zT zC d → zT zC d → Bool) (fun _ a b => zceq2 a b) (fun j ih m t u => Prod.rec (motive := fun _ => Bool) (fun a b => Prod.rec (motive := fun _ => Bool) (fun a' b' => cond (Nat.ble m (Nat.pow 2 j)) (ih m a a') (cond (ih (Nat.pow 2 j) a a') (ih (Nat.sub m (Nat.pow 2 j)) b b') false)) u) t) d
noncomputable def zheq2 (h h' : zH) : Bool := Prod.rec (motive := fun _ => Bool) (fun n h1 => Prod.rec (motive := fun _ => Bool) (fun s t => Prod.rec (motive := fun _ => Bool) (fun n' h1' => Prod.rec (motive := fun _ => Bool) (fun s' t' => cond (Nat.beq n n') (cond (Nat.beq s s') (ztceq2 8 n t t') false) false) h1') h') h1) h
noncomputable def zfin2 (a : zR) (r : List Nat) (h' : zH) : Bool := Option.rec (motive := fun _ => Bool) false (fun q => Prod.rec (motive := fun _ => Bool) (fun r' h => cond (zleq r' r) (zheq2 h h') false) q) a
noncomputable def zmem2 (lb d0 L0 : Nat) (h0 : zH) (r : List Nat) (h1 : zH) (X : zRec) : zRec := fun d lbl L S h => cond (Nat.beq lbl lb) (cond (Nat.beq L L0) (cond (Nat.beq d d0) (List.rec (motive := fun _ => zR) (cond (zheq2 h h0) (some (r, h1)) (X d lbl L S h)) (fun _ _ _ => X d lbl L S h) S) (X d lbl L S h)) (X d lbl L S h)) (X d lbl L S h)
/-- alike: each cell up to its length -/
def zhe2 (h h' : zH) : Prop := h.1 = h'.1 ∧ h.2.1 = h'.2.1 ∧ ∀ k, k < h.1 → (zget 8 h.2.2 k).1 = (zget 8 h'.2.2 k).1 ∧ (zget 8 h.2.2 k).2.1 = (zget 8 h'.2.2 k).2.1 ∧ ∀ i, i < (zget 8 h.2.2 k).2.1 → zcv (zget 8 h.2.2 k) i = zcv (zget 8 h'.2.2 k) i
theorem zpeq_ok (d : Nat) : ∀ (m : Nat) (t u : zT Nat d), zpeq d m t u = true → ∀ k, k < m → k < 2 ^ d → zget d t k = zget d u k := by
  induction d with
  | zero => intro m t u h k _ _; exact Nat.eq_of_beq_eq_true h
  | succ n ih =>
    intro m t u h k hk hd
    obtain ⟨a, b⟩ := t
    obtain ⟨a', b'⟩ := u
    have h : cond (Nat.ble m (2 ^ n)) (zpeq n m a a') (cond (zpeq n (2 ^ n) a a') (zpeq n (m - 2 ^ n) b b') false) = true := h
    show cond (Nat.ble (2 ^ n) k) (zget n b (k - 2 ^ n)) (zget n a k) = cond (Nat.ble (2 ^ n) k) (zget n b' (k - 2 ^ n)) (zget n a' k)
    have hp : 2 ^ (n + 1) = 2 ^ n + 2 ^ n := by rw [Nat.pow_succ]; omega
    cases q : Nat.ble m (2 ^ n) with
    | true =>
      rw [q] at h
      have q := Nat.le_of_ble_eq_true q
      rw [zble_f (show k < 2 ^ n by omega), cond_false, cond_false]
      exact ih m a a' h k hk (by omega)
    | false =>
      rw [q] at h
      obtain ⟨h1, h2⟩ := zcond_f h
      by_cases hk2 : k < 2 ^ n
      · rw [zble_f hk2, cond_false, cond_false]
        exact ih _ a a' h1 k hk2 hk2
      · rw [Nat.ble_eq_true_of_le (show 2 ^ n ≤ k by omega), cond_true, cond_true]
        exact ih _ b b' h2 (k - 2 ^ n) (by omega) (by omega)
theorem zceq2_ok {c c' : zC} (hn : c.2.1 ≤ 65536 ∨ c'.2.1 ≤ 65536) (h : zceq2 c c' = true) : c.1 = c'.1 ∧ c.2.1 = c'.2.1 ∧ ∀ i, i < c.2.1 → zcv c i = zcv c' i := by
  obtain ⟨g, n, x, t⟩ := c
  obtain ⟨g', n', x', t'⟩ := c'
  have h : cond (Nat.beq g g') (cond (Nat.beq n n') (cond (Nat.ble n 512) (Nat.beq x x') (zpeq 11 (Nat.succ (n / 32)) t t')) false) false = true := h
  obtain ⟨h1, h2⟩ := zcond_f h
  obtain ⟨h3, h4⟩ := zcond_f h2
  have h1 := Nat.eq_of_beq_eq_true h1
  have h3 := Nat.eq_of_beq_eq_true h3
  subst h1
  subst h3
  have hn : n ≤ 65536 := hn.elim id id
  refine ⟨rfl, rfl, fun i hi => ?_⟩
  have hi : i < n := hi
  show cond (Nat.ble n 512) (zlane x i) (zlane (zget 11 t (i / 32)) (i % 32)) = cond (Nat.ble n 512) (zlane x' i) (zlane (zget 11 t' (i / 32)) (i % 32))
  cases q : Nat.ble n 512 with
  | true =>
    rw [q] at h4
    have h4 : Nat.beq x x' = true := h4
    rw [Nat.eq_of_beq_eq_true h4, cond_true, cond_true]
  | false =>
    rw [q] at h4
    have h4 : zpeq 11 (Nat.succ (n / 32)) t t' = true := h4
    rw [zpeq_ok 11 _ t t' h4 (i / 32) (by show i / 32 < n / 32 + 1; omega) (by show i / 32 < 2048; omega), cond_false, cond_false]
theorem ztceq2_get (d : Nat) : ∀ (m : Nat) (t u : zT zC d), ztceq2 d m t u = true → ∀ k, k < m → k < 2 ^ d → zceq2 (zget d t k) (zget d u k) = true := by
  induction d with
  | zero => intro m t u h k _ _; exact h
  | succ n ih =>
    intro m t u h k hk hd
    obtain ⟨a, b⟩ := t
    obtain ⟨a', b'⟩ := u
    have h : cond (Nat.ble m (2 ^ n)) (ztceq2 n m a a') (cond (ztceq2 n (2 ^ n) a a') (ztceq2 n (m - 2 ^ n) b b') false) = true := h
    show zceq2 (cond (Nat.ble (2 ^ n) k) (zget n b (k - 2 ^ n)) (zget n a k)) (cond (Nat.ble (2 ^ n) k) (zget n b' (k - 2 ^ n)) (zget n a' k)) = true
    have hp : 2 ^ (n + 1) = 2 ^ n + 2 ^ n := by rw [Nat.pow_succ]; omega
    cases q : Nat.ble m (2 ^ n) with
    | true =>
      rw [q] at h
      have q := Nat.le_of_ble_eq_true q
      rw [zble_f (show k < 2 ^ n by omega), cond_false, cond_false]
      exact ih m a a' h k hk (by omega)
    | false =>
      rw [q] at h
      obtain ⟨h1, h2⟩ := zcond_f h
      by_cases hk2 : k < 2 ^ n
      · rw [zble_f hk2, cond_false, cond_false]
        exact ih _ a a' h1 k hk2 hk2
      · rw [Nat.ble_eq_true_of_le (show 2 ^ n ≤ k by omega), cond_true, cond_true]
        exact ih _ b b' h2 (k - 2 ^ n) (by omega) (by omega)
/-- a heap in its bounds -/
def zbd (h : zH) : Prop := h.1 ≤ 256 ∧ ∀ k, k < h.1 → (zget 8 h.2.2 k).2.1 ≤ 65536
theorem zheq2_ok {h h' : zH} (hb : zbd h ∨ zbd h') (e : zheq2 h h' = true) : zhe2 h h' := by
  obtain ⟨n, s, t⟩ := h
  obtain ⟨n', s', t'⟩ := h'
  have e : cond (Nat.beq n n') (cond (Nat.beq s s') (ztceq2 8 n t t') false) false = true := e
  obtain ⟨h1, h2⟩ := zcond_f e
  obtain ⟨h3, h4⟩ := zcond_f h2
  have h1 := Nat.eq_of_beq_eq_true h1
  subst h1
  refine ⟨rfl, Nat.eq_of_beq_eq_true h3, fun k hk => ?_⟩
  have hk : k < n := hk
  have hn : n ≤ 256 := hb.elim (fun z => z.1) (fun z => z.1)
  exact zceq2_ok (hb.elim (fun z => Or.inl (z.2 k hk)) (fun z => Or.inr (z.2 k hk))) (ztceq2_get 8 n t t' h4 k hk (by show k < 256; omega))
theorem zE_he2 {ad : Nat → Nat} {tc : Nat → ClassId} {c c' : zC} (e1 : c.1 = c'.1) (e2 : c.2.1 = c'.2.1) (e3 : ∀ i, i < c.2.1 → zcv c i = zcv c' i) : zE ad tc c = zE ad tc c' := by
  have f1 : (List.range c.2.1).map (fun i => zv ad (zcv c i)) = (List.range c'.2.1).map (fun i => zv ad (zcv c' i)) := by
    rw [← e2]
    exact List.map_congr_left fun i hi => by rw [e3 i (List.mem_range.mp hi)]
  have f2 : (fun j => if j < c.2.1 then zo ad (zcv c j) else none) = (fun j => if j < c'.2.1 then zo ad (zcv c' j) else none) := by
    funext j
    rw [← e2]
    by_cases hj : j < c.2.1
    · rw [if_pos hj, if_pos hj, e3 j hj]
    · rw [if_neg hj, if_neg hj]
  have f3 : (fun j => if j < c.2.1 then nI (zcv c j) else 0) = (fun j => if j < c'.2.1 then nI (zcv c' j) else 0) := by
    funext j
    rw [← e2]
    by_cases hj : j < c.2.1
    · rw [if_pos hj, if_pos hj, e3 j hj]
    · rw [if_neg hj, if_neg hj]
  unfold zE
  rw [f1, f2, f3, e1, e2]
theorem zW_he2 {ad : Nat → Nat} {tc : Nat → ClassId} {h h' : zH} (e : zhe2 h h') : zW ad tc h = zW ad tc h' := by
  unfold zW
  rw [← e.1]
  refine List.map_congr_left fun k hk => ?_
  obtain ⟨e1, e2, e3⟩ := e.2.2 k (List.mem_range.mp hk)
  exact congrArg (fun x => (ad k, x)) (zE_he2 e1 e2 e3)
theorem zfin2_some {a : zR} {r : List Nat} {h' : zH} (hb : zbd h') (e : zfin2 a r h' = true) : ∃ h, a = some (r, h) ∧ zhe2 h h' := by
  cases a with
  | none => cases e
  | some q =>
    obtain ⟨r', h⟩ := q
    have e : cond (zleq r' r) (zheq2 h h') false = true := e
    obtain ⟨h1, h2⟩ := zcond_f e
    exact ⟨h, by rw [zleq_ok r' r h1], zheq2_ok (Or.inr hb) h2⟩
/-- a heap in its bounds, by reckoning -/
noncomputable def zbdB (h : zH) : Bool := cond (Nat.ble (Prod.fst h) 256) (zall (fun k => Nat.ble (Prod.fst (Prod.snd (zget 8 (Prod.snd (Prod.snd h)) k))) 65536) (Prod.fst h)) false
theorem zbd_of {h : zH} (e : zbdB h = true) : zbd h := by
  obtain ⟨h1, h2⟩ := zcond_f e
  exact ⟨Nat.le_of_ble_eq_true h1, fun k hk => Nat.le_of_ble_eq_true (zall_get h2 k hk)⟩
section ZMemo2
variable {l : Launch} {D : va_G} {cl : List vw_C} {tc : Nat → ClassId} {tys : List (ClassId × FieldType)} {A : Nat → Prop} {E : State → (Nat → Nat) → Prop} {Tw : List Cond} {lab : Nat → zM × Nat} {M M2 : zM} {pc : Nat} {nx tg : zK}
theorem zSt_he2 {s : State} {ad0 ad : Nat → Nat} {n0 s0 : Nat} {h h' : zH} {H : Heap} {locs : List Loc} {cells slots : Nat} (e : zhe2 h h') (hS : zSt D cl tc s A ad0 n0 s0 ad h H locs cells slots) : zSt D cl tc s A ad0 n0 s0 ad h' H locs cells slots := by
  obtain ⟨a1, a2, a3, a4, a5, a6, a7, a8⟩ := hS
  rw [zW_he2 e] at a1 a2
  exact ⟨a1, a2, a3, by rw [← e.1]; exact a4, by rw [← e.1]; exact a5, by rw [← e.2.1]; exact a6, by rw [← e.1]; exact a7, fun k hk => by rw [← (e.2.2 k (by rw [e.1]; exact hk)).2.1]; exact a8 k (by rw [e.1]; exact hk)⟩
theorem zQ_he2 {r : List Nat} {h h' : zH} {ad0 : Nat → Nat} {n0 : Nat} {a : Array Value} {st t : State} {o : Outcome} (e : zhe2 h h') (hQ : zQ D cl tc tys r h ad0 n0 A a st o t) : zQ D cl tc tys r h' ad0 n0 A a st o t := by
  obtain ⟨⟨ad', q1, q2, q3, q4, q5, q6, q7⟩, hF⟩ := hQ
  rw [zW_he2 e] at q3 q5
  exact ⟨⟨ad', by rw [← e.1]; exact q1, q2, q3, q4, q5, by rw [← e.1]; exact q6, fun k hk => by rw [← (e.2.2 k (by rw [e.1]; exact hk)).2.1]; exact q7 k (by rw [e.1]; exact hk)⟩, hF⟩
theorem zmem2_some {lb d0 L0 : Nat} {h0 : zH} {r : List Nat} {h1 : zH} {X : zRec} {d lbl L : Nat} {S : List Nat} {h : zH} {a : List Nat × zH} (e : zmem2 lb d0 L0 h0 r h1 X d lbl L S h = some a) : X d lbl L S h = some a ∨ (lbl = lb ∧ L = L0 ∧ d = d0 ∧ S = [] ∧ zheq2 h h0 = true ∧ a = (r, h1)) := by
  unfold zmem2 at e
  cases q1 : Nat.beq lbl lb with
  | false => rw [q1] at e; exact Or.inl e
  | true =>
    rw [q1, cond_true] at e
    cases q2 : Nat.beq L L0 with
    | false => rw [q2] at e; exact Or.inl e
    | true =>
      rw [q2, cond_true] at e
      cases q3 : Nat.beq d d0 with
      | false => rw [q3] at e; exact Or.inl e
      | true =>
        rw [q3, cond_true] at e
        cases S with
        | cons v S => exact Or.inl e
        | nil =>
          have e : cond (zheq2 h h0) (some (r, h1)) (X d lbl L [] h) = some a := e
          cases q4 : zheq2 h h0 with
          | false => rw [q4] at e; exact Or.inl e
          | true =>
            rw [q4] at e
            exact Or.inr ⟨Nat.eq_of_beq_eq_true q1, Nat.eq_of_beq_eq_true q2, Nat.eq_of_beq_eq_true q3, rfl, rfl, (Option.some.inj e).symm⟩
theorem zmem2_ok {Rc X : zRec} (hR : zOkR l D cl tc tys A E Tw lab Rc) (hX : zOkR l D cl tc tys A E Tw lab X) {lb d0 L0 : Nat} {h0 : zH} {r : List Nat} {h1 : zH} (b0 : zbdB h0 = true) (b1 : zbdB h1 = true) (hf : zfin2 (Rc d0 lb L0 [] h0) r h1 = true) : zOkR l D cl tc tys A E Tw lab (zmem2 lb d0 L0 h0 r h1 X) := by
  obtain ⟨h2, hrun, he⟩ := zfin2_some (zbd_of b1) hf
  intro lbl
  refine ⟨?_, fun d L S h r' h' hk => ?_⟩
  · intro d L S h r' h' hk p e R s m args below meth c ad0 n0 s0 hA ad ls H locs cells slots hS hl
    rcases zmem2_some hk with z | ⟨rfl, rfl, rfl, rfl, z, z2⟩
    · exact (hX lbl).1 d L S h r' h' z p e R s m args below meth c ad0 n0 s0 hA ad ls H locs cells slots hS hl
    · cases z2
      have z := zheq2_ok (Or.inr (zbd_of b0)) z
      obtain ⟨x1, x2, x3, x4, x5, x6, x7, x8, x9, x10, x11, x12, x13, x14, x15⟩ := hA
      have g := (hR lbl).1 d L [] h0 r h2 hrun p e R s m args below meth c ad0 n0 s0 ⟨x1, x2, x3, x4, x5, x6, x7, x8, x9, x10, x11, x12, by rw [he.1]; exact x13, by rw [he.2.1]; exact x14, x15⟩ ad ls H locs cells slots (zSt_he2 z hS) hl
      intro T hT X1
      obtain ⟨t, a1, o, b1, b2, b3, b4⟩ := g T hT X1
      rw [he.1, he.2.1] at b4
      exact ⟨t, a1, o, b1, b2, zQ_he2 he b3, b4⟩
  · rcases zmem2_some hk with z | ⟨rfl, rfl, rfl, rfl, z, z2⟩
    · exact (hX lbl).2 d L S h r' h' z
    · cases z2
      have z := zheq2_ok (Or.inr (zbd_of b0)) z
      have g := (hR lbl).2 d L [] h0 r h2 hrun
      rw [he.1, he.2.1] at g
      rw [z.1, z.2.1]
      exact g
end ZMemo2
