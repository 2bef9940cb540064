theorem zans_some {β : Type} {a : zR} {k : List Nat → zH → Option β} {b : β} (e : zans a k = some b) : ∃ r h, a = some (r, h) ∧ k r h = some b := by
  cases a with
  | none => cases e
  | some q => obtain ⟨r, h⟩ := q; exact ⟨r, h, rfl, e⟩
theorem zshort_some {β : Type} {S : List Nat} {k : Option β} {b : β} (e : zshort S k = some b) : S.length ≤ 8 ∧ k = some b := by
  have e : cond (Nat.ble S.length 8) k none = some b := e
  cases q : Nat.ble S.length 8 with
  | true => rw [q] at e; exact ⟨Nat.le_of_ble_eq_true q, e⟩
  | false => rw [q] at e; cases e
theorem zcond_some {β : Type} {t : Bool} {k : Option β} {b : β} (e : cond t k none = some b) : t = true ∧ k = some b := by
  cases t with
  | true => exact ⟨rfl, e⟩
  | false => cases e
theorem zargs_some {β : Type} {b : β} (na : Nat) : ∀ {S : List Nat} {L : Nat} {k : Nat → List Nat → Option β}, zargs na S L k = some b → ∃ (as S' : List Nat) (L' : Nat), S = as.reverse ++ S' ∧ as.length = na ∧ k L' S' = some b ∧ (∀ (i x : Nat), as[i]? = some x → zlane L' i = x + 1) ∧ ∀ i : Nat, na ≤ i → zlane L' i = zlane L i := by
  induction na with
  | zero => intro S L k e; exact ⟨[], S, L, rfl, rfl, e, fun i x h => by simp at h, fun _ _ => rfl⟩
  | succ j ih =>
    intro S L k e
    obtain ⟨v, S1, rfl, e1⟩ := zpop_some e
    obtain ⟨hv, e2⟩ := zcond_some e1
    rw [zf_eq] at e2
    have hv := Nat.le_of_ble_eq_true hv
    obtain ⟨as, S', L', rfl, hl, e3, h1, h2⟩ := ih e2
    refine ⟨as ++ [v], S', L', by simp, by simp [hl], e3, fun i x h => ?_, fun i hi => ?_⟩
    · by_cases hi : i < as.length
      · rw [List.getElem?_append_left hi] at h
        exact h1 i x h
      · rw [List.getElem?_append_right (by omega)] at h
        have hz : i - as.length < 1 := (List.getElem?_eq_some_iff.mp h).1
        have hi2 : i = j := by omega
        rw [show i - as.length = 0 by omega] at h
        have hx : v = x := by simpa using h
        subst hx
        subst hi2
        rw [h2 i (Nat.le_refl _)]
        exact zlane_same (by show v + 1 < _; omega)
    · rw [h2 i (by omega)]
      exact zlane_ne (by show v + 1 < _; omega) (by omega)
theorem zlane_0 (i : Nat) : zlane 0 i = 0 := by
  show 0 / 17179869185 ^ i % 17179869185 = 0
  rw [Nat.zero_div]
theorem lg_sl_len (ad : Nat → Nat) (as : List Nat) : (lg_sl (as.map (zv ad))).length = as.length := by
  induction as with
  | nil => rfl
  | cons x as ih =>
    unfold lg_sl at ih ⊢
    rw [List.map_cons, List.flatMap_cons, List.length_append, ih, if_neg (by rw [zv_cat]; decide)]
    simp
    omega
theorem lv_args_mem (ad : Nat → Nat) (as : List Nat) : ∀ (k i x : Nat), as[i]? = some x → (k + i, zv ad x) ∈ lv_args k (as.map (zv ad)) := by
  induction as with
  | nil => intro k i x h; simp at h
  | cons y as ih =>
    intro k i x h
    rw [List.map_cons]
    show (k + i, zv ad x) ∈ (k, zv ad y) :: lv_args (if (zv ad y).category = 2 then k + 2 else k + 1) (as.map (zv ad))
    rw [if_neg (by rw [zv_cat]; decide)]
    cases i with
    | zero =>
      have : y = x := by simpa using h
      subst this
      exact List.mem_cons_self
    | succ i =>
      have := ih (k + 1) i x (by simpa using h)
      rw [show k + (i + 1) = k + 1 + i by omega]
      exact List.mem_cons_of_mem _ this
section ZCall
variable {l : Launch} {D : va_G} {cl : List vw_C} {tc : Nat → ClassId} {tys : List (ClassId × FieldType)} {A : Nat → Prop} {E : State → (Nat → Nat) → Prop} {Tw : List Cond} {lab : Nat → zM × Nat} {M M2 : zM} {pc : Nat} {nx tg : zK}
/-- what else is known of a state, and stays: outside A nothing changes, the tables only warm -/
def zEok (A : Nat → Prop) (E : State → (Nat → Nat) → Prop) : Prop := (∀ (U : State) (g : JFrame) (mk : MethodId) (a : Array Value) (f : Nat → Nat), E U f → E (U.calling g mk a) f) ∧ (∀ (s U : State) (f : Nat → Nat), s.WarmedH U.vm → s.heap.size ≤ U.heap.size → (∀ q : Nat, q < s.heap.size → ¬ A q → U.heap[q]? = s.heap[q]?) → E s f → E U f) ∧ ∀ (U : State) (f f' : Nat → Nat), (∀ k, 256 ≤ k → f' k = f k) → E U f → E U f'
/-- a label's contract -/
theorem zMet {Rc : zRec} (hR : zOkR l D cl tc tys A E Tw lab Rc) {lbl : Nat} (hm : lab lbl = (M2, 0)) (hy : plainName M2.1.cls = true) {d' L' : Nat} {h h1 : zH} {r : List Nat} (hk : Rc d' lbl L' [] h = some (r, h1)) {as : List Nat} (hlen : as.length ≤ M2.2.2.1) (hlane : ∀ (i x : Nat), as[i]? = some x → zlane L' i = x + 1) (hrest : ∀ i : Nat, as.length ≤ i → zlane L' i = 0) (hn : h.1 ≤ 256) (hw : ∀ k, k < h.1 → (zget 8 h.2.2 k).2.1 ≤ 65536) (ad : Nat → Nat) (sz : Nat) (hsA : ∀ q, sz ≤ q → A q) :
    Met l M2.1 (Cond.code M2.1 M2.2.1 M2.2.2.1 M2.2.2.2 :: Tw) { frames := d', cells := h1.1 - h.1, slots := h1.2.1 - h.2.1, locals := 50 * d' } (va_Pc (as.map (zv ad)) (fun U => U.heap.size = sz ∧ va_P D cl (zW ad tc h) U.heap ∧ va_K D cl tys U ∧ va_D A (zW ad tc h) ∧ E U ad)) (zQ D cl tc tys r h1 ad h.1 A) (h1.1 - h.1) (h1.2.1 - h.2.1) A := by
  have hmono := (hR lbl).2 d' L' [] h r h1 hk
  have g := (hR lbl).1
  rw [hm] at g
  refine Met.ofW (cc := M2.2.1) (maxL := M2.2.2.1) (ret := M2.2.2.2) hy rfl ?_
  intro p e s m args below meth c s₁ B hml hv
  obtain ⟨rfl, hsz, hP, hK, hD0, hE⟩ := hv
  have hts := atoms_spec B.pre
  subst hsz
  have hl := lv_entry (as.map (zv ad)) (n := M2.2.2.1) (by rw [lg_sl_len]; exact hlen)
  rw [lg_entry_eq]
  refine g d' L' [] h r h1 hk p e _ s m _ below meth c ad h.1 h.2.1 ⟨B.exec, B.bytes, hml, findClass_of_methodNamed B.named, fun w hw => hts w (List.mem_cons_of_mem _ hw), B.returns, B.notSynchronized, (name_of_methodNamed B.named B.method).1, hK, hsA, Nat.le_refl _, Nat.le_refl _, ?_, ?_, hE⟩ ad _ s.heap [] 0 0 ⟨hP, hD0, va_S.rf, fun _ _ => rfl, rfl, rfl, hn, hw⟩ (lv_has_sub hl fun q hq => ?_)
  · show h1.1 ≤ h.1 + (h1.1 - h.1); omega
  · show h1.2.1 ≤ h.2.1 + (h1.2.1 - h.2.1); omega
  · obtain ⟨i, v, hi, hz, rfl⟩ := zl_mem.mp hq
    rcases Nat.lt_or_ge i as.length with z | z
    · have e1 : as[i]? = some as[i] := List.getElem?_eq_getElem z
      have e2 := hlane i _ e1
      rw [hz] at e2
      have e3 : v = as[i] := by omega
      rw [e3]
      have := lv_args_mem ad as 0 i _ e1
      rw [Nat.zero_add] at this
      exact this
    · rw [hrest i z] at hz
      cases hz
/-- behind a call that made nothing -/
theorem z_after {p : Program} {e : Env} {R : Room} {s : State} {m : MethodId} {args av : Array Value} {below : List Frame} {meth : Method} {c : Code} {ad0 ad : Nat → Nat} {n0 s0 : Nat} {h h1 : zH} {H : Heap} {locs : List Loc} {cells slots : Nat} {r : List Nat} {ls : Array Slot} {st0 rest : List Value} {Q : State → Prop}
    (hr : va_Run p l e R s m args below meth c H locs cells slots (h1.1 - h.1) (h1.2.1 - h.2.1) (F0 m pc ls st0) rest (zQ D cl tc tys r h1 ad h.1 A av) A)
    (hS : zSt D cl tc s A ad0 n0 s0 ad h H locs cells slots) (hsame : h1.1 = h.1) (hmono : h.2.1 ≤ h1.2.1)
    (kk : ∀ (H1 : Heap) (locs1 : List Loc) (slots1 : Nat), zSt D cl tc s A ad0 n0 s0 ad h1 H1 locs1 cells slots1 → W p l e R s m args below meth c H1 locs1 cells slots1 Q (F0 m (pc + 3) ls ((r.head?.map (zv ad)).toList ++ rest))) : W p l e R s m args below meth c H locs cells slots Q (F0 m pc ls st0) := by
  intro T hT X
  obtain ⟨v, st₀, t, T', L, h0, X', hL, e1, e2, ⟨⟨ad', q1, q2, q3, q4, q5, q6, q7⟩, hz, hkp⟩, st⟩ := hr T hT X
  obtain ⟨b1, b2, b3, b4, b5, b6, b7, b8⟩ := hS
  have had : ad' = ad := funext fun k => q1 k (by omega)
  subst had
  rw [h0] at hz hkp
  have hv : v = r.head?.map (zv ad') := by cases q2; rfl
  subst hv
  have hsl : cells + (h1.1 - h.1) = cells := by omega
  rw [hsl] at X'
  obtain ⟨t2, a1, a2⟩ := kk T'.heap (locs ++ L) (slots + (h1.2.1 - h.2.1)) ⟨by rw [e1]; exact q3, q5, ⟨Nat.le_trans b3.1 (by rw [e1]; exact hz), fun q z1 z2 => by rw [e1, hkp q (Nat.lt_of_lt_of_le z1 b3.1) z2]; exact b3.2.1 q z1 z2, fun q hq => by
      rcases List.mem_append.mp hq with z | z
      · exact b3.2.2 q z
      · exact hL q z⟩, fun k hk => b4 k (by omega), by omega, by omega, q6, q7⟩ T' rfl X'
  exact ⟨t2, st t2 a1, a2⟩
end ZCall
