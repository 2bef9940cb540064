/-! more operations: texts, rows of rows -/
noncomputable def o_none : zK := fun _ _ _ _ _ => none
/-- a text's own object: 2^33 and its number, 17 of them -/
noncomputable def zstr {β : Type} (r : Nat) (k : Option β) : Option β := cond (Nat.ble 8589934592 r) (cond (Nat.ble 8589934609 r) none k) none
/-- a text's bytes: 32 behind it; how many, and what they are (to the base 256) -/
noncomputable def ztx {β : Type} (tx : zT (Nat × Nat) 5) (r : Nat) (k : Nat → Nat → Nat → Option β) : Option β := cond (Nat.ble 8589934624 r) (cond (Nat.ble 8589934641 r) none (zf (Nat.sub r 8589934624) (fun j => Prod.rec (motive := fun _ => Option β) (fun n x => k j n x) (zget 5 tx j)))) none
noncomputable def o_tald (tx : zT (Nat × Nat) 5) (nx : zK) : zK := fun R d L S h => zpop S (fun i S => zint i (zpop S (fun r S => ztx tx r (fun _ n x => cond (Nat.ble n i) none (zf (Nat.mod (Nat.div x (Nat.pow 256 i)) 256) (fun v => nx R d L (v :: S) h))))))
noncomputable def o_tlen (tx : zT (Nat × Nat) 5) (nx : zK) : zK := fun R d L S h => zpop S (fun r S => ztx tx r (fun _ n _ => nx R d L (n :: S) h))
noncomputable def o_scod (nx : zK) : zK := fun R d L S h => zpop S (fun r S => zstr r (nx R d L (0 :: S) h))
noncomputable def o_sval (nx : zK) : zK := fun R d L S h => zpop S (fun r S => zstr r (zf (Nat.add r 32) (fun v => nx R d L (v :: S) h)))
noncomputable def o_callT (lbl na : Nat) (nx : zK) : zK := fun R d L S h => zargs na S 0 (fun L' S' => zpr (zlane L' 0) (fun r0 => zstr r0 (zshort S' (zpr d (fun d' => zans (R d' lbl L' [] h) (fun r h1 => cond (Nat.beq (Prod.fst h1) (Prod.fst h)) (nx R d L (zapp r S') h1) none))))))
/-- String.checkIndex -/
noncomputable def o_chk (nx : zK) : zK := fun R d L S h => zpop S (fun n S => cond (Nat.ble 2147483648 n) none (zpop S (fun i S => cond (Nat.ble n i) none (zshort S (zpr d (fun d1 => zpr d1 (fun _ => nx R d L S h)))))))
noncomputable def o_cret : zK := fun _ _ _ S h => zpop S (fun v S => cond (Nat.ble 65536 v) none (zemp S (some ([v], h))))
noncomputable def o_bret : zK := fun _ _ _ S h => zpop S (fun v S => cond (Nat.ble 128 v) none (zemp S (some ([v], h))))
noncomputable def z_i2c (a : Nat) : Nat := Nat.mod a 65536
noncomputable def z_i2b (a : Nat) : Nat := cond (Nat.ble 128 (Nat.mod a 256)) (Nat.add (Nat.mod a 256) 4294967040) (Nat.mod a 256)
/-- a row of an array into an array of them -/
noncomputable def o_aast (nx : zK) : zK := fun R d L S h => zpop S (fun v S => zat h v (fun cv => cond (Nat.beq (Prod.fst cv) 100) (zpop S (fun i S => zint i (zpop S (fun r S => zat h r (fun c => zis 102 c i (zupd h r (fun c q => zcset c i v q) (fun h => nx R d L S h))))))) none))
noncomputable def o_anew (nL : Nat) (c : zC) (nx : zK) : zK := fun R d L S h => zpop S (fun n S => cond (Nat.beq n (Prod.fst (Prod.snd c))) (znew nL L S h c (fun v h => nx R d L (v :: S) h)) none)
/-- the lanes b, b + 1 .. of n rows -/
noncomputable def zrefs (b n : Nat) : Nat := Nat.rec (motive := fun _ => Nat) 0 (fun j ih => Nat.add ih (Nat.mul (Nat.add b j) (Nat.pow 17179869185 j))) n
/-- n rows of k from cell b on -/
noncomputable def zrows {β : Type} (k b n : Nat) : zT zC 8 → (zT zC 8 → β) → β := Nat.rec (motive := fun _ => zT zC 8 → (zT zC 8 → β) → β) (fun t q => q t) (fun j ih t q => ih t (fun t => zset 8 t (Nat.add b j) (fun _ q => q (100, k, 0, zfill 0 11)) q)) n
noncomputable def o_mnew (nL n k : Nat) (nx : zK) : zK := fun R d L S h => zpop S (fun k' S => cond (Nat.beq k' k) (zpop S (fun n' S => cond (Nat.beq n' n) (Prod.rec (motive := fun _ => zR) (fun hn h1 => Prod.rec (motive := fun _ => zR) (fun sl t => cond (Nat.ble (Nat.add hn (Nat.succ n)) 256) (cond (zckL hn L nL) (cond (zckS hn S) (cond (zckH hn t) (zf (zrefs (Nat.add 4294967298 hn) n) (fun x => zset 8 t hn (fun _ q => q (102, n, x, zfill 0 11)) (fun t => zrows k (Nat.succ hn) n t (fun t => zf (Nat.add hn (Nat.succ n)) (fun hn' => zf (Nat.add sl (Nat.add n (Nat.mul n k))) (fun sl' => nx R d L (Nat.add 4294967297 hn :: S) (hn', sl', t))))))) none) none) none) none) h1) h) none)) none)
noncomputable def o_astoreT (i : Nat) (nx : zK) : zK := fun R d L S h => zpop S (fun v S => zref v (cond (Nat.ble v 17179869183) (zf (zput L i (Nat.succ v)) (fun L => nx R d L S h)) none))
