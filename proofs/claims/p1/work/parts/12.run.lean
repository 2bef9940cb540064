section ZInst
variable {l : Launch} {D : va_G} {cl : List vw_C} {tc : Nat → ClassId} {tys : List (ClassId × FieldType)} {A : Nat → Prop} {E : State → (Nat → Nat) → Prop} {Tw : List Cond} {lab : Nat → zM × Nat} {M : zM} {pc : Nat} {nx tg : zK}
theorem s_iadd (hd : decode M.2.1 pc = .ok (.iadd, 1)) (hn : zS l D cl tc tys A E Tw lab M (pc + 1) nx) : zS l D cl tc tys A E Tw lab M pc (o_bin z_add nx) := s_bin z_add_ok (fun _ _ _ _ _ _ _ _ _ _ _ _ _ _ _ _ _ _ hx hb k => lv_iadd hx hb hd k) hn
theorem s_isub (hd : decode M.2.1 pc = .ok (.isub, 1)) (hn : zS l D cl tc tys A E Tw lab M (pc + 1) nx) : zS l D cl tc tys A E Tw lab M pc (o_bin z_sub nx) := s_bin z_sub_ok (fun _ _ _ _ _ _ _ _ _ _ _ _ _ _ _ _ _ _ hx hb k => lv_isub hx hb hd k) hn
theorem s_imul (hd : decode M.2.1 pc = .ok (.imul, 1)) (hn : zS l D cl tc tys A E Tw lab M (pc + 1) nx) : zS l D cl tc tys A E Tw lab M pc (o_bin z_mul nx) := s_bin z_mul_ok (fun _ _ _ _ _ _ _ _ _ _ _ _ _ _ _ _ _ _ hx hb k => lv_imul hx hb hd k) hn
theorem s_iand (hd : decode M.2.1 pc = .ok (.iand, 1)) (hn : zS l D cl tc tys A E Tw lab M (pc + 1) nx) : zS l D cl tc tys A E Tw lab M pc (o_bin z_and nx) := s_bin z_and_ok (fun _ _ _ _ _ _ _ _ _ _ _ _ _ _ _ _ _ _ hx hb k => lv_iand hx hb hd k) hn
theorem s_ior (hd : decode M.2.1 pc = .ok (.ior, 1)) (hn : zS l D cl tc tys A E Tw lab M (pc + 1) nx) : zS l D cl tc tys A E Tw lab M pc (o_bin z_or nx) := s_bin z_or_ok (fun _ _ _ _ _ _ _ _ _ _ _ _ _ _ _ _ _ _ hx hb k => lv_ior hx hb hd k) hn
theorem s_ishl (hd : decode M.2.1 pc = .ok (.ishl, 1)) (hn : zS l D cl tc tys A E Tw lab M (pc + 1) nx) : zS l D cl tc tys A E Tw lab M pc (o_bin z_shl nx) := s_bin z_shl_ok (fun _ _ _ _ _ _ _ _ _ _ _ _ _ _ _ _ _ _ hx hb k => lv_ishl hx hb hd k) hn
theorem s_ishr (hd : decode M.2.1 pc = .ok (.ishr, 1)) (hn : zS l D cl tc tys A E Tw lab M (pc + 1) nx) : zS l D cl tc tys A E Tw lab M pc (o_bin z_shr nx) := s_bin z_shr_ok (fun _ _ _ _ _ _ _ _ _ _ _ _ _ _ _ _ _ _ hx hb k => lv_ishr hx hb hd k) hn
theorem zI_ne {a b : Nat} (ha : a < 4294967296) (hb : b < 4294967296) : ¬ nI a = nI b ↔ z_ne a b = true := by
  rw [zI_eq ha hb]
  unfold z_ne
  cases Nat.beq a b <;> simp
theorem s_icmp_eq {off : Int} {tgt : Nat} (hd : decode M.2.1 pc = .ok (.if_icmp .eq off, 3)) (ht : (pc : Int) + off = (tgt : Int)) (h1 : zS l D cl tc tys A E Tw lab M tgt tg) (h2 : zS l D cl tc tys A E Tw lab M (pc + 3) nx) : zS l D cl tc tys A E Tw lab M pc (o_cmp Nat.beq tg nx) := s_cmp (F := fun x y => x = y) (fun a b ha hb => zI_eq ha hb) (fun _ _ _ _ _ _ _ _ _ _ _ _ _ _ _ _ _ _ hx hb kt kf => lv_icmp_eq hx hb hd ht kt kf) h1 h2
theorem s_icmp_ne {off : Int} {tgt : Nat} (hd : decode M.2.1 pc = .ok (.if_icmp .ne off, 3)) (ht : (pc : Int) + off = (tgt : Int)) (h1 : zS l D cl tc tys A E Tw lab M tgt tg) (h2 : zS l D cl tc tys A E Tw lab M (pc + 3) nx) : zS l D cl tc tys A E Tw lab M pc (o_cmp z_ne tg nx) := s_cmp (F := fun x y => ¬ x = y) (fun a b ha hb => zI_ne ha hb) (fun _ _ _ _ _ _ _ _ _ _ _ _ _ _ _ _ _ _ hx hb kt kf => lv_icmp_ne hx hb hd ht kt (fun h => kf (fun z => z h))) h1 h2
theorem s_icmp_lt {off : Int} {tgt : Nat} (hd : decode M.2.1 pc = .ok (.if_icmp .lt off, 3)) (ht : (pc : Int) + off = (tgt : Int)) (h1 : zS l D cl tc tys A E Tw lab M tgt tg) (h2 : zS l D cl tc tys A E Tw lab M (pc + 3) nx) : zS l D cl tc tys A E Tw lab M pc (o_cmp z_lt tg nx) := s_cmp (F := fun x y => x < y) (fun a b ha hb => zI_lt ha hb) (fun _ _ _ _ _ _ _ _ _ _ _ _ _ _ _ _ _ _ hx hb kt kf => lv_icmp_lt hx hb hd ht kt kf) h1 h2
theorem s_icmp_ge {off : Int} {tgt : Nat} (hd : decode M.2.1 pc = .ok (.if_icmp .ge off, 3)) (ht : (pc : Int) + off = (tgt : Int)) (h1 : zS l D cl tc tys A E Tw lab M tgt tg) (h2 : zS l D cl tc tys A E Tw lab M (pc + 3) nx) : zS l D cl tc tys A E Tw lab M pc (o_cmp z_ge tg nx) := s_cmp (F := fun x y => y ≤ x) (fun a b ha hb => zI_le hb ha) (fun _ _ _ _ _ _ _ _ _ _ _ _ _ _ _ _ _ _ hx hb kt kf => lv_icmp_ge hx hb hd ht kt kf) h1 h2
theorem s_icmp_gt {off : Int} {tgt : Nat} (hd : decode M.2.1 pc = .ok (.if_icmp .gt off, 3)) (ht : (pc : Int) + off = (tgt : Int)) (h1 : zS l D cl tc tys A E Tw lab M tgt tg) (h2 : zS l D cl tc tys A E Tw lab M (pc + 3) nx) : zS l D cl tc tys A E Tw lab M pc (o_cmp z_gt tg nx) := s_cmp (F := fun x y => y < x) (fun a b ha hb => zI_lt hb ha) (fun _ _ _ _ _ _ _ _ _ _ _ _ _ _ _ _ _ _ hx hb kt kf => lv_icmp_gt hx hb hd ht kt kf) h1 h2
theorem s_icmp_le {off : Int} {tgt : Nat} (hd : decode M.2.1 pc = .ok (.if_icmp .le off, 3)) (ht : (pc : Int) + off = (tgt : Int)) (h1 : zS l D cl tc tys A E Tw lab M tgt tg) (h2 : zS l D cl tc tys A E Tw lab M (pc + 3) nx) : zS l D cl tc tys A E Tw lab M pc (o_cmp z_le tg nx) := s_cmp (F := fun x y => x ≤ y) (fun a b ha hb => zI_le ha hb) (fun _ _ _ _ _ _ _ _ _ _ _ _ _ _ _ _ _ _ hx hb kt kf => lv_icmp_le hx hb hd ht kt kf) h1 h2
theorem s_if_eq {off : Int} {tgt : Nat} (hd : decode M.2.1 pc = .ok (.ifCond .eq off, 3)) (ht : (pc : Int) + off = (tgt : Int)) (h1 : zS l D cl tc tys A E Tw lab M tgt tg) (h2 : zS l D cl tc tys A E Tw lab M (pc + 3) nx) : zS l D cl tc tys A E Tw lab M pc (o_if (fun a => Nat.beq a 0) tg nx) := s_if (F := fun x => x = 0) (fun a ha => zI_eq ha (show 0 < 4294967296 by decide)) (fun _ _ _ _ _ _ _ _ _ _ _ _ _ _ _ _ _ hx hb kt kf => lv_if_eq hx hb hd ht kt kf) h1 h2
theorem s_if_ne {off : Int} {tgt : Nat} (hd : decode M.2.1 pc = .ok (.ifCond .ne off, 3)) (ht : (pc : Int) + off = (tgt : Int)) (h1 : zS l D cl tc tys A E Tw lab M tgt tg) (h2 : zS l D cl tc tys A E Tw lab M (pc + 3) nx) : zS l D cl tc tys A E Tw lab M pc (o_if (fun a => z_ne a 0) tg nx) := s_if (F := fun x => ¬ x = 0) (fun a ha => zI_ne ha (show 0 < 4294967296 by decide)) (fun _ _ _ _ _ _ _ _ _ _ _ _ _ _ _ _ _ hx hb kt kf => lv_if_ne hx hb hd ht kt (fun h => kf (fun z => z h))) h1 h2
theorem s_if_lt {off : Int} {tgt : Nat} (hd : decode M.2.1 pc = .ok (.ifCond .lt off, 3)) (ht : (pc : Int) + off = (tgt : Int)) (h1 : zS l D cl tc tys A E Tw lab M tgt tg) (h2 : zS l D cl tc tys A E Tw lab M (pc + 3) nx) : zS l D cl tc tys A E Tw lab M pc (o_if (fun a => z_lt a 0) tg nx) := s_if (F := fun x => x < 0) (fun a ha => zI_lt ha (show 0 < 4294967296 by decide)) (fun _ _ _ _ _ _ _ _ _ _ _ _ _ _ _ _ _ hx hb kt kf => lv_if_lt hx hb hd ht kt kf) h1 h2
theorem s_if_ge {off : Int} {tgt : Nat} (hd : decode M.2.1 pc = .ok (.ifCond .ge off, 3)) (ht : (pc : Int) + off = (tgt : Int)) (h1 : zS l D cl tc tys A E Tw lab M tgt tg) (h2 : zS l D cl tc tys A E Tw lab M (pc + 3) nx) : zS l D cl tc tys A E Tw lab M pc (o_if (fun a => z_ge a 0) tg nx) := s_if (F := fun x => 0 ≤ x) (fun a ha => zI_le (show 0 < 4294967296 by decide) ha) (fun _ _ _ _ _ _ _ _ _ _ _ _ _ _ _ _ _ hx hb kt kf => lv_if_ge hx hb hd ht kt kf) h1 h2
theorem s_if_gt {off : Int} {tgt : Nat} (hd : decode M.2.1 pc = .ok (.ifCond .gt off, 3)) (ht : (pc : Int) + off = (tgt : Int)) (h1 : zS l D cl tc tys A E Tw lab M tgt tg) (h2 : zS l D cl tc tys A E Tw lab M (pc + 3) nx) : zS l D cl tc tys A E Tw lab M pc (o_if (fun a => z_gt a 0) tg nx) := s_if (F := fun x => 0 < x) (fun a ha => zI_lt (show 0 < 4294967296 by decide) ha) (fun _ _ _ _ _ _ _ _ _ _ _ _ _ _ _ _ _ hx hb kt kf => lv_if_gt hx hb hd ht kt kf) h1 h2
theorem s_if_le {off : Int} {tgt : Nat} (hd : decode M.2.1 pc = .ok (.ifCond .le off, 3)) (ht : (pc : Int) + off = (tgt : Int)) (h1 : zS l D cl tc tys A E Tw lab M tgt tg) (h2 : zS l D cl tc tys A E Tw lab M (pc + 3) nx) : zS l D cl tc tys A E Tw lab M pc (o_if (fun a => z_le a 0) tg nx) := s_if (F := fun x => x ≤ 0) (fun a ha => zI_le ha (show 0 < 4294967296 by decide)) (fun _ _ _ _ _ _ _ _ _ _ _ _ _ _ _ _ _ hx hb kt kf => lv_if_le hx hb hd ht kt kf) h1 h2
end ZInst
/-- two trees, leaf by leaf -/
def zall2 {α β : Type} (Pr : α → β → Prop) (d : Nat) : zT α d → zT β d → Prop := Nat.rec (motive := fun d => zT α d → zT β d → Prop) (fun a b => Pr a b) (fun _ ih t u => ih (Prod.fst t) (Prod.fst u) ∧ ih (Prod.snd t) (Prod.snd u)) d
theorem zall2_get {α β : Type} {Pr : α → β → Prop} (d : Nat) : ∀ {t : zT α d} {u : zT β d}, zall2 Pr d t u → ∀ i : Nat, Pr (zget d t i) (zget d u i) := by
  induction d with
  | zero => intro t u h i; exact h
  | succ n ih =>
    intro t u h i
    obtain ⟨h1, h2⟩ := h
    show Pr (cond (Nat.ble (Nat.pow 2 n) i) (zget n (Prod.snd t) (Nat.sub i (Nat.pow 2 n))) (zget n (Prod.fst t) i)) (cond (Nat.ble (Nat.pow 2 n) i) (zget n (Prod.snd u) (Nat.sub i (Nat.pow 2 n))) (zget n (Prod.fst u) i))
    cases Nat.ble (Nat.pow 2 n) i with
    | true => exact ih h2 _
    | false => exact ih h1 _
/-- the machine's run is worth what it says -/
theorem zrun_ok {l : Launch} {D : va_G} {cl : List vw_C} {tc : Nat → ClassId} {tys : List (ClassId × FieldType)} {A : Nat → Prop} {E : State → (Nat → Nat) → Prop} {Tw : List Cond} (dt : Nat) (lt : zT (zM × Nat) dt) (tb : zT zK dt) (h : zall2 (fun q k => zS l D cl tc tys A E Tw (zget dt lt) q.1 q.2 k) dt lt tb) : ∀ n : Nat, zOkR l D cl tc tys A E Tw (zget dt lt) (zrun dt tb n) := by
  intro n
  induction n with
  | zero =>
    intro lbl
    refine ⟨fun d L S h r h' hk => ?_, fun d L S h r h' hk => ?_⟩
    · exact absurd hk (by intro z; cases z)
    · exact absurd hk (by intro z; cases z)
  | succ n ih => exact fun lbl => zall2_get dt h lbl (zrun dt tb n) ih
