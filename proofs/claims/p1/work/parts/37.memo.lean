/-! kept answers are sound -/
/-- two heaps alike, place by place -/
def zhe (h h' : zH) : Prop := h.1 = h'.1 ∧ h.2.1 = h'.2.1 ∧ ∀ k, (zget 8 h.2.2 k).1 = (zget 8 h'.2.2 k).1 ∧ (zget 8 h.2.2 k).2.1 = (zget 8 h'.2.2 k).2.1 ∧ ∀ i, zcv (zget 8 h.2.2 k) i = zcv (zget 8 h'.2.2 k) i
theorem zcond_f {t : Bool} {k : Bool} (e : cond t k false = true) : t = true ∧ k = true := by
  cases t with
  | true => exact ⟨rfl, e⟩
  | false => cases e
theorem zteq_ok (d : Nat) : ∀ t u : zT Nat d, zteq d t u = true → t = u := by
  induction d with
  | zero => intro t u h; exact Nat.eq_of_beq_eq_true h
  | succ n ih =>
    intro t u h
    obtain ⟨a, b⟩ := t
    obtain ⟨a', b'⟩ := u
    have h : cond (zteq n a a') (zteq n b b') false = true := h
    obtain ⟨h1, h2⟩ := zcond_f h
    rw [ih a a' h1, ih b b' h2]
theorem zceq_ok {c c' : zC} (h : zceq c c' = true) : c.1 = c'.1 ∧ c.2.1 = c'.2.1 ∧ ∀ i, zcv c i = zcv c' i := by
  obtain ⟨g, n, x, t⟩ := c
  obtain ⟨g', n', x', t'⟩ := c'
  have h : cond (Nat.beq g g') (cond (Nat.beq n n') (cond (Nat.ble n 512) (Nat.beq x x') (zteq 11 t t')) false) false = true := h
  obtain ⟨h1, h2⟩ := zcond_f h
  obtain ⟨h3, h4⟩ := zcond_f h2
  have h1 := Nat.eq_of_beq_eq_true h1
  have h3 := Nat.eq_of_beq_eq_true h3
  subst h1
  subst h3
  refine ⟨rfl, rfl, fun i => ?_⟩
  show cond (Nat.ble n 512) (zlane x i) (zlane (zget 11 t (i / 32)) (i % 32)) = cond (Nat.ble n 512) (zlane x' i) (zlane (zget 11 t' (i / 32)) (i % 32))
  cases q : Nat.ble n 512 with
  | true =>
    rw [q] at h4
    have h4 : Nat.beq x x' = true := h4
    rw [Nat.eq_of_beq_eq_true h4, cond_true, cond_true]
  | false =>
    rw [q] at h4
    have h4 : zteq 11 t t' = true := h4
    rw [zteq_ok 11 t t' h4, cond_false, cond_false]
theorem ztceq_get (d : Nat) : ∀ t u : zT zC d, ztceq d t u = true → ∀ k, zceq (zget d t k) (zget d u k) = true := by
  induction d with
  | zero => intro t u h k; exact h
  | succ n ih =>
    intro t u h k
    obtain ⟨a, b⟩ := t
    obtain ⟨a', b'⟩ := u
    have h : cond (ztceq n a a') (ztceq n b b') false = true := h
    obtain ⟨h1, h2⟩ := zcond_f h
    show zceq (cond (Nat.ble (Nat.pow 2 n) k) (zget n b (Nat.sub k (Nat.pow 2 n))) (zget n a k)) (cond (Nat.ble (Nat.pow 2 n) k) (zget n b' (Nat.sub k (Nat.pow 2 n))) (zget n a' k)) = true
    cases Nat.ble (Nat.pow 2 n) k with
    | true => exact ih b b' h2 _
    | false => exact ih a a' h1 _
theorem zheq_ok {h h' : zH} (e : zheq h h' = true) : zhe h h' := by
  obtain ⟨n, s, t⟩ := h
  obtain ⟨n', s', t'⟩ := h'
  have e : cond (Nat.beq n n') (cond (Nat.beq s s') (ztceq 8 t t') false) false = true := e
  obtain ⟨h1, h2⟩ := zcond_f e
  obtain ⟨h3, h4⟩ := zcond_f h2
  exact ⟨Nat.eq_of_beq_eq_true h1, Nat.eq_of_beq_eq_true h3, fun k => zceq_ok (ztceq_get 8 t t' h4 k)⟩
theorem zleq_ok (r : List Nat) : ∀ r' : List Nat, zleq r r' = true → r = r' := by
  induction r with
  | nil =>
    intro r' h
    cases r' with
    | nil => rfl
    | cons v s => cases h
  | cons v s ih =>
    intro r' h
    cases r' with
    | nil => cases h
    | cons v' s' =>
      have h : cond (Nat.beq v v') (zleq s s') false = true := h
      obtain ⟨h1, h2⟩ := zcond_f h
      rw [Nat.eq_of_beq_eq_true h1, ih s' h2]
theorem zfin_some {a : zR} {r : List Nat} {h' : zH} (e : zfin a r h' = true) : ∃ h, a = some (r, h) ∧ zhe h h' := by
  cases a with
  | none => cases e
  | some q =>
    obtain ⟨r', h⟩ := q
    have e : cond (zleq r' r) (zheq h h') false = true := e
    obtain ⟨h1, h2⟩ := zcond_f e
    exact ⟨h, by rw [zleq_ok r' r h1], zheq_ok h2⟩
theorem zE_he {ad : Nat → Nat} {tc : Nat → ClassId} {c c' : zC} (e1 : c.1 = c'.1) (e2 : c.2.1 = c'.2.1) (e3 : ∀ i, zcv c i = zcv c' i) : zE ad tc c = zE ad tc c' := by
  unfold zE
  rw [e1, e2]
  simp only [e3]
theorem zW_he {ad : Nat → Nat} {tc : Nat → ClassId} {h h' : zH} (e : zhe h h') : zW ad tc h = zW ad tc h' := by
  unfold zW
  rw [e.1]
  refine List.map_congr_left fun k _ => ?_
  obtain ⟨e1, e2, e3⟩ := e.2.2 k
  exact congrArg (fun x => (ad k, x)) (zE_he e1 e2 e3)
section ZMemo
variable {l : Launch} {D : va_G} {cl : List vw_C} {tc : Nat → ClassId} {tys : List (ClassId × FieldType)} {A : Nat → Prop} {E : State → (Nat → Nat) → Prop} {Tw : List Cond} {lab : Nat → zM × Nat} {M M2 : zM} {pc : Nat} {nx tg : zK}
theorem zSt_he {s : State} {ad0 ad : Nat → Nat} {n0 s0 : Nat} {h h' : zH} {H : Heap} {locs : List Loc} {cells slots : Nat} (e : zhe h h') (hS : zSt D cl tc s A ad0 n0 s0 ad h H locs cells slots) : zSt D cl tc s A ad0 n0 s0 ad h' H locs cells slots := by
  obtain ⟨a1, a2, a3, a4, a5, a6, a7, a8⟩ := hS
  rw [zW_he e] at a1 a2
  exact ⟨a1, a2, a3, by rw [← e.1]; exact a4, by rw [← e.1]; exact a5, by rw [← e.2.1]; exact a6, by rw [← e.1]; exact a7, fun k hk => by rw [← (e.2.2 k).2.1]; exact a8 k (by rw [e.1]; exact hk)⟩
theorem zQ_he {r : List Nat} {h h' : zH} {ad0 : Nat → Nat} {n0 : Nat} {a : Array Value} {st t : State} {o : Outcome} (e : zhe h h') (hQ : zQ D cl tc tys r h ad0 n0 A a st o t) : zQ D cl tc tys r h' ad0 n0 A a st o t := by
  obtain ⟨⟨ad', q1, q2, q3, q4, q5, q6, q7⟩, hF⟩ := hQ
  rw [zW_he e] at q3 q5
  exact ⟨⟨ad', by rw [← e.1]; exact q1, q2, q3, q4, q5, by rw [← e.1]; exact q6, fun k hk => by rw [← (e.2.2 k).2.1]; exact q7 k (by rw [e.1]; exact hk)⟩, hF⟩
theorem zmemo_some {lb d0 L0 : Nat} {h0 : zH} {r : List Nat} {h1 : zH} {X : zRec} {d lbl L : Nat} {S : List Nat} {h : zH} {a : List Nat × zH} (e : zmemo lb d0 L0 h0 r h1 X d lbl L S h = some a) : X d lbl L S h = some a ∨ (lbl = lb ∧ L = L0 ∧ d = d0 ∧ S = [] ∧ zhe h h0 ∧ a = (r, h1)) := by
  unfold zmemo at e
  cases q1 : Nat.beq lbl lb with
  | false => rw [q1] at e; exact Or.inl e
  | true =>
    rw [q1, cond_true] at e
    cases q2 : Nat.beq L L0 with
    | false => rw [q2] at e; exact Or.inl e
    | true =>
      rw [q2, cond_true] at e
      cases q3 : Nat.beq d d0 with
      | false => rw [q3] at e; exact Or.inl e
      | true =>
        rw [q3, cond_true] at e
        cases S with
        | cons v S => exact Or.inl e
        | nil =>
          have e : cond (zheq h h0) (some (r, h1)) (X d lbl L [] h) = some a := e
          cases q4 : zheq h h0 with
          | false => rw [q4] at e; exact Or.inl e
          | true =>
            rw [q4] at e
            exact Or.inr ⟨Nat.eq_of_beq_eq_true q1, Nat.eq_of_beq_eq_true q2, Nat.eq_of_beq_eq_true q3, rfl, zheq_ok q4, (Option.some.inj e).symm⟩
theorem zmemo_ok {Rc X : zRec} (hR : zOkR l D cl tc tys A E Tw lab Rc) (hX : zOkR l D cl tc tys A E Tw lab X) {lb d0 L0 : Nat} {h0 : zH} {r : List Nat} {h1 : zH} (hf : zfin (Rc d0 lb L0 [] h0) r h1 = true) : zOkR l D cl tc tys A E Tw lab (zmemo lb d0 L0 h0 r h1 X) := by
  obtain ⟨h2, hrun, he⟩ := zfin_some hf
  intro lbl
  refine ⟨?_, fun d L S h r' h' hk => ?_⟩
  · intro d L S h r' h' hk p e R s m args below meth c ad0 n0 s0 hA ad ls H locs cells slots hS hl
    rcases zmemo_some hk with z | ⟨rfl, rfl, rfl, rfl, z, z2⟩
    · exact (hX lbl).1 d L S h r' h' z p e R s m args below meth c ad0 n0 s0 hA ad ls H locs cells slots hS hl
    · cases z2
      obtain ⟨x1, x2, x3, x4, x5, x6, x7, x8, x9, x10, x11, x12, x13, x14, x15⟩ := hA
      have g := (hR lbl).1 d L [] h0 r h2 hrun p e R s m args below meth c ad0 n0 s0 ⟨x1, x2, x3, x4, x5, x6, x7, x8, x9, x10, x11, x12, by rw [he.1]; exact x13, by rw [he.2.1]; exact x14, x15⟩ ad ls H locs cells slots (zSt_he z hS) hl
      intro T hT X1
      obtain ⟨t, a1, o, b1, b2, b3, b4⟩ := g T hT X1
      rw [he.1, he.2.1] at b4
      exact ⟨t, a1, o, b1, b2, zQ_he he b3, b4⟩
  · rcases zmemo_some hk with z | ⟨rfl, rfl, rfl, rfl, z, z2⟩
    · exact (hX lbl).2 d L S h r' h' z
    · cases z2
      have g := (hR lbl).2 d L [] h0 r h2 hrun
      rw [he.1, he.2.1] at g
      rw [z.1, z.2.1]
      exact g
theorem zrunX_ok {X : zRec} (hX : zOkR l D cl tc tys A E Tw lab X) (dt : Nat) (lt : zT (zM × Nat) dt) (hlt : lab = zget dt lt) (tb : zT zK dt) (h : zall2 (fun q k => zS l D cl tc tys A E Tw lab q.1 q.2 k) dt lt tb) : ∀ n : Nat, zOkR l D cl tc tys A E Tw lab (zrunX X dt tb n) := by
  intro n
  induction n with
  | zero => exact z_none_ok
  | succ n ih =>
    intro lbl
    have hc := zall2_get dt h lbl (zrunX X dt tb n) ih
    rw [← hlt] at hc
    have key : ∀ {d L : Nat} {S : List Nat} {h : zH} {a : List Nat × zH}, zrunX X dt tb (n + 1) d lbl L S h = some a → X d lbl L S h = some a ∨ zget dt tb lbl (zrunX X dt tb n) d L S h = some a := by
      intro d L S h a e
      have e : (Option.rec (motive := fun _ => zR) (zget dt tb lbl (zrunX X dt tb n) d L S h) (fun a => some a) (X d lbl L S h)) = some a := e
      cases q : X d lbl L S h with
      | none => rw [q] at e; exact Or.inr e
      | some b => rw [q] at e; exact Or.inl e
    refine ⟨?_, fun d L S h r' h' hk => ?_⟩
    · intro d L S h r' h' hk p e R s m args below meth c ad0 n0 s0 hA ad ls H locs cells slots hS hl
      rcases key hk with z | z
      · exact (hX lbl).1 d L S h r' h' z p e R s m args below meth c ad0 n0 s0 hA ad ls H locs cells slots hS hl
      · exact hc.1 d L S h r' h' z p e R s m args below meth c ad0 n0 s0 hA ad ls H locs cells slots hS hl
    · rcases key hk with z | z
      · exact (hX lbl).2 d L S h r' h' z
      · exact hc.2 d L S h r' h' z
/-- a loop at once: what its unrolled code is worth -/
theorem s_unroll {k : Nat → zK} {o : zK} (hU : ∀ n, zS l D cl tc tys A E Tw lab M pc (k n)) (ho : ∀ {R : zRec} {d L : Nat} {S : List Nat} {h : zH} {b : List Nat × zH}, o R d L S h = some b → ∃ n, k n R d L S h = some b) : zS l D cl tc tys A E Tw lab M pc o := by
  intro Rc hR
  refine ⟨?_, fun d L S h r h' hk => ?_⟩
  · intro d L S h r h' hk
    obtain ⟨n, hn⟩ := ho hk
    exact (hU n Rc hR).1 d L S h r h' hn
  · obtain ⟨n, hn⟩ := ho hk
    exact (hU n Rc hR).2 d L S h r h' hn
end ZMemo
