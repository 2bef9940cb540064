/-- s = 0; for (i = 0; i < n; i++) { s = s + a[i]; a[i] = s & 255 ...} return s; locals: 0 this (field 0 = a), 1 n, 2 i, 3 s -/
noncomputable def zb_head : zK := o_iload 2 (o_iload 1 (o_cmp z_lt (o_iinc 2 1 (o_back 0)) (o_iload 3 o_ret)))
noncomputable def zb_tb : zT zK 3 := zfill zb_head 3
noncomputable def zb_h : zH := (2, 5000, zset (β := zT zC 7) 7 (zfill ((0, 0, 0, zfill 0 11) : zC) 7) 1 (fun _ q => q (1, 5000, 0, zfill 7 11)) (fun t => zset (β := zT zC 7) 7 t 0 (fun _ q => q (2, 1, 4294967298, zfill 0 11)) (fun t => t)))
noncomputable def zb_L (n : Nat) : Nat := zput (zput (zput (zput 0 0 4294967297) 1 n) 2 0) 3 0
noncomputable def zb_ans (r : zR) : Nat := Option.rec (motive := fun _ => Nat) 99999 (fun p => Prod.rec (motive := fun _ => Nat) (fun l _ => List.rec (motive := fun _ => Nat) 88888 (fun v _ _ => v) l) p) r
set_option maxRecDepth 1000000 in
theorem zb_1 : Nat.ble (zb_ans (zrun zb_tb 200 5 0 (zb_L 20) [] zb_h)) 4294967295 = true := by decide +kernel
