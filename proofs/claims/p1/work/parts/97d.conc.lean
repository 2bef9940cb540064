/-! first calls with given arguments, reckoned -/
noncomputable def zfstB (lx Lx lm Lm : Nat) : Bool := Option.rec (motive := fun _ => Bool) false (fun q => Prod.rec (motive := fun _ => Bool) (fun r h1 => List.rec (motive := fun _ => Bool) false (fun a r _ => List.rec (motive := fun _ => Bool) (cond (Nat.ble a 4294967295) (cond (cond (Nat.beq (Prod.fst h1) 129) (Nat.beq (Prod.fst (zget 8 (Prod.snd (Prod.snd h1)) 61)) 12) false) (Option.rec (motive := fun _ => Bool) false (fun q2 => Prod.rec (motive := fun _ => Bool) (fun r2 h2 => cond (zleq r2 [a]) (cond (Nat.beq (Prod.fst h2) 129) (Nat.beq (Prod.fst (Prod.snd h2)) 650610) false) false) q2) (zrunX zXt 9 ztc 100000 1679 lm Lm [] h1)) false) false) (fun _ _ _ => false) r) r) q) (zrunX zXt 9 ztc 100000 1679 lx Lx [] hbB16)
theorem zfst_of {lx Lx lm Lm : Nat} (e : zfstB lx Lx lm Lm = true) : zFst 99940 lx Lx lm Lm := by
  unfold zfstB at e
  unfold zFst
  cases q : zrunX zXt 9 ztc 100000 1679 lx Lx [] hbB16 with
  | none => rw [q] at e; cases e
  | some b =>
    rw [q] at e
    obtain ⟨r, h1⟩ := b
    cases r with
    | nil => cases e
    | cons a r =>
      cases r with
      | cons _ _ => cases e
      | nil =>
        have e : cond (Nat.ble a 4294967295) (cond (cond (Nat.beq h1.1 129) (Nat.beq (zget 8 h1.2.2 61).1 12) false) (Option.rec (motive := fun _ => Bool) false (fun q2 => Prod.rec (motive := fun _ => Bool) (fun r2 h2 => cond (zleq r2 [a]) (cond (Nat.beq h2.1 129) (Nat.beq h2.2.1 650610) false) false) q2) (zrunX zXt 9 ztc 100000 1679 lm Lm [] h1)) false) false = true := e
        obtain ⟨e1, e⟩ := zcond_f e
        obtain ⟨e2, e⟩ := zcond_f e
        cases q2 : zrunX zXt 9 ztc 100000 1679 lm Lm [] h1 with
        | none => rw [q2] at e; cases e
        | some b2 =>
          rw [q2] at e
          obtain ⟨r2, h2⟩ := b2
          have e : cond (zleq r2 [a]) (cond (Nat.beq h2.1 129) (Nat.beq h2.2.1 650610) false) false = true := e
          obtain ⟨e3, e4⟩ := zcond_f e
          have e5 := zleq_ok r2 [a] e3
          rw [e5] at q2
          obtain ⟨e6, e7⟩ := zcond_f e2
          obtain ⟨e8, e9⟩ := zcond_f e4
          exact ⟨a, h1, h2, Nat.lt_succ_of_le (Nat.le_of_ble_eq_true e1), (by first | exact q | rfl), Nat.eq_of_beq_eq_true e6, Nat.eq_of_beq_eq_true e7, (by first | exact q2 | rfl), Nat.eq_of_beq_eq_true e8, Nat.eq_of_beq_eq_true e9⟩
theorem fk_end_0 : zFst 99940 146 (zput (zput 0 1 (0 + 1)) 0 (4294967297 + 1)) 200 (zput (zput 0 1 (0 + 1)) 0 (4294967358 + 1)) := zfst_of (by decide +kernel)
theorem fk_fault_0 : zFst 99940 147 (zput (zput 0 1 (0 + 1)) 0 (4294967297 + 1)) 201 (zput (zput 0 1 (0 + 1)) 0 (4294967358 + 1)) := zfst_of (by decide +kernel)
theorem fk_fault_1 : zFst 99940 147 (zput (zput 0 1 (1 + 1)) 0 (4294967297 + 1)) 201 (zput (zput 0 1 (1 + 1)) 0 (4294967358 + 1)) := zfst_of (by decide +kernel)
theorem fk_run_0 : zFst 99940 166 (zput (zput 0 1 (0 + 1)) 0 (4294967297 + 1)) 266 (zput (zput 0 1 (0 + 1)) 0 (4294967358 + 1)) := zfst_of (by decide +kernel)
theorem fk_look_0 : zFst 99940 158 (zput (zput 0 1 (0 + 1)) 0 (4294967297 + 1)) 242 (zput (zput 0 1 (0 + 1)) 0 (4294967358 + 1)) := zfst_of (by decide +kernel)
theorem fk_look_1 : zFst 99940 158 (zput (zput 0 1 (1 + 1)) 0 (4294967297 + 1)) 242 (zput (zput 0 1 (1 + 1)) 0 (4294967358 + 1)) := zfst_of (by decide +kernel)
theorem fk_look_2 : zFst 99940 158 (zput (zput 0 1 (2 + 1)) 0 (4294967297 + 1)) 242 (zput (zput 0 1 (2 + 1)) 0 (4294967358 + 1)) := zfst_of (by decide +kernel)
theorem fk_look_3 : zFst 99940 158 (zput (zput 0 1 (3 + 1)) 0 (4294967297 + 1)) 242 (zput (zput 0 1 (3 + 1)) 0 (4294967358 + 1)) := zfst_of (by decide +kernel)
theorem fk_look_4 : zFst 99940 158 (zput (zput 0 1 (4 + 1)) 0 (4294967297 + 1)) 242 (zput (zput 0 1 (4 + 1)) 0 (4294967358 + 1)) := zfst_of (by decide +kernel)
theorem fk_look_5 : zFst 99940 158 (zput (zput 0 1 (5 + 1)) 0 (4294967297 + 1)) 242 (zput (zput 0 1 (5 + 1)) 0 (4294967358 + 1)) := zfst_of (by decide +kernel)
theorem fk_look_6 : zFst 99940 158 (zput (zput 0 1 (6 + 1)) 0 (4294967297 + 1)) 242 (zput (zput 0 1 (6 + 1)) 0 (4294967358 + 1)) := zfst_of (by decide +kernel)
theorem fk_look_7 : zFst 99940 158 (zput (zput 0 1 (7 + 1)) 0 (4294967297 + 1)) 242 (zput (zput 0 1 (7 + 1)) 0 (4294967358 + 1)) := zfst_of (by decide +kernel)
theorem fk_look_8 : zFst 99940 158 (zput (zput 0 1 (8 + 1)) 0 (4294967297 + 1)) 242 (zput (zput 0 1 (8 + 1)) 0 (4294967358 + 1)) := zfst_of (by decide +kernel)
theorem fk_look_9 : zFst 99940 158 (zput (zput 0 1 (9 + 1)) 0 (4294967297 + 1)) 242 (zput (zput 0 1 (9 + 1)) 0 (4294967358 + 1)) := zfst_of (by decide +kernel)
theorem fk_look_10 : zFst 99940 158 (zput (zput 0 1 (10 + 1)) 0 (4294967297 + 1)) 242 (zput (zput 0 1 (10 + 1)) 0 (4294967358 + 1)) := zfst_of (by decide +kernel)
theorem fk_register_0 : zFst 99940 164 (zput (zput 0 1 (0 + 1)) 0 (4294967297 + 1)) 257 (zput (zput 0 1 (0 + 1)) 0 (4294967358 + 1)) := zfst_of (by decide +kernel)
theorem fk_register_1 : zFst 99940 164 (zput (zput 0 1 (1 + 1)) 0 (4294967297 + 1)) 257 (zput (zput 0 1 (1 + 1)) 0 (4294967358 + 1)) := zfst_of (by decide +kernel)
theorem fk_register_2 : zFst 99940 164 (zput (zput 0 1 (2 + 1)) 0 (4294967297 + 1)) 257 (zput (zput 0 1 (2 + 1)) 0 (4294967358 + 1)) := zfst_of (by decide +kernel)
theorem fk_register_3 : zFst 99940 164 (zput (zput 0 1 (3 + 1)) 0 (4294967297 + 1)) 257 (zput (zput 0 1 (3 + 1)) 0 (4294967358 + 1)) := zfst_of (by decide +kernel)
theorem fk_register_4 : zFst 99940 164 (zput (zput 0 1 (4 + 1)) 0 (4294967297 + 1)) 257 (zput (zput 0 1 (4 + 1)) 0 (4294967358 + 1)) := zfst_of (by decide +kernel)
theorem fk_register_5 : zFst 99940 164 (zput (zput 0 1 (5 + 1)) 0 (4294967297 + 1)) 257 (zput (zput 0 1 (5 + 1)) 0 (4294967358 + 1)) := zfst_of (by decide +kernel)
theorem fk_register_6 : zFst 99940 164 (zput (zput 0 1 (6 + 1)) 0 (4294967297 + 1)) 257 (zput (zput 0 1 (6 + 1)) 0 (4294967358 + 1)) := zfst_of (by decide +kernel)
theorem fk_register_7 : zFst 99940 164 (zput (zput 0 1 (7 + 1)) 0 (4294967297 + 1)) 257 (zput (zput 0 1 (7 + 1)) 0 (4294967358 + 1)) := zfst_of (by decide +kernel)
theorem fk_register_8 : zFst 99940 164 (zput (zput 0 1 (8 + 1)) 0 (4294967297 + 1)) 257 (zput (zput 0 1 (8 + 1)) 0 (4294967358 + 1)) := zfst_of (by decide +kernel)
theorem fk_held_0 : zFst 99940 151 (zput (zput 0 1 (0 + 1)) 0 (4294967297 + 1)) 216 (zput (zput 0 1 (0 + 1)) 0 (4294967358 + 1)) := zfst_of (by decide +kernel)
theorem fk_held_1 : zFst 99940 151 (zput (zput 0 1 (1 + 1)) 0 (4294967297 + 1)) 216 (zput (zput 0 1 (1 + 1)) 0 (4294967358 + 1)) := zfst_of (by decide +kernel)
theorem fk_held_2 : zFst 99940 151 (zput (zput 0 1 (2 + 1)) 0 (4294967297 + 1)) 216 (zput (zput 0 1 (2 + 1)) 0 (4294967358 + 1)) := zfst_of (by decide +kernel)
theorem fk_held_3 : zFst 99940 151 (zput (zput 0 1 (3 + 1)) 0 (4294967297 + 1)) 216 (zput (zput 0 1 (3 + 1)) 0 (4294967358 + 1)) := zfst_of (by decide +kernel)
theorem fk_held_4 : zFst 99940 151 (zput (zput 0 1 (4 + 1)) 0 (4294967297 + 1)) 216 (zput (zput 0 1 (4 + 1)) 0 (4294967358 + 1)) := zfst_of (by decide +kernel)
theorem fk_held_5 : zFst 99940 151 (zput (zput 0 1 (5 + 1)) 0 (4294967297 + 1)) 216 (zput (zput 0 1 (5 + 1)) 0 (4294967358 + 1)) := zfst_of (by decide +kernel)
theorem fk_held_6 : zFst 99940 151 (zput (zput 0 1 (6 + 1)) 0 (4294967297 + 1)) 216 (zput (zput 0 1 (6 + 1)) 0 (4294967358 + 1)) := zfst_of (by decide +kernel)
theorem fk_held_7 : zFst 99940 151 (zput (zput 0 1 (7 + 1)) 0 (4294967297 + 1)) 216 (zput (zput 0 1 (7 + 1)) 0 (4294967358 + 1)) := zfst_of (by decide +kernel)
theorem fk_held_8 : zFst 99940 151 (zput (zput 0 1 (8 + 1)) 0 (4294967297 + 1)) 216 (zput (zput 0 1 (8 + 1)) 0 (4294967358 + 1)) := zfst_of (by decide +kernel)
theorem fk_held_9 : zFst 99940 151 (zput (zput 0 1 (9 + 1)) 0 (4294967297 + 1)) 216 (zput (zput 0 1 (9 + 1)) 0 (4294967358 + 1)) := zfst_of (by decide +kernel)
theorem fk_go_0 : zFst 99940 149 (zput (zput 0 1 (0 + 1)) 0 (4294967297 + 1)) 210 (zput (zput 0 1 (0 + 1)) 0 (4294967358 + 1)) := zfst_of (by decide +kernel)
theorem fk_go_1 : zFst 99940 149 (zput (zput 0 1 (1 + 1)) 0 (4294967297 + 1)) 210 (zput (zput 0 1 (1 + 1)) 0 (4294967358 + 1)) := zfst_of (by decide +kernel)
