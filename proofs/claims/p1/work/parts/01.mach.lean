/-! A machine of my own: values are numbers (an int its 32 bits, null 2^32, the cell k 2^32+1+k), locals lie in lanes of one number -/
/-- n is reckoned before k sees it -/
noncomputable def zf {α : Type} (n : Nat) (k : Nat → α) : α := Nat.rec (motive := fun _ => α) (k 0) (fun j _ => k (Nat.succ j)) n
/-- lane i of x, to the base 2^34 + 1: an odd base, so that Lean's hash of x (its lowest bits) tells unlike x apart -/
noncomputable def zlane (x i : Nat) : Nat := Nat.mod (Nat.div x (Nat.pow 17179869185 i)) 17179869185
noncomputable def zput (x i v : Nat) : Nat := Nat.add (Nat.sub x (Nat.mul (zlane x i) (Nat.pow 17179869185 i))) (Nat.mul v (Nat.pow 17179869185 i))
noncomputable def zT (α : Type) : Nat → Type := Nat.rec (motive := fun _ => Type) α (fun _ t => t × t)
noncomputable def zget {α : Type} (d : Nat) : zT α d → Nat → α := Nat.rec (motive := fun d => zT α d → Nat → α) (fun a _ => a) (fun j ih t i => cond (Nat.ble (Nat.pow 2 j) i) (ih (Prod.snd t) (Nat.sub i (Nat.pow 2 j))) (ih (Prod.fst t) i)) d
/-- the tree with f of what stands at i, given to k -/
noncomputable def zset {α β : Type} (d : Nat) : zT α d → Nat → (α → (α → β) → β) → (zT α d → β) → β := Nat.rec (motive := fun d => zT α d → Nat → (α → (α → β) → β) → (zT α d → β) → β) (fun a _ f k => f a k) (fun j ih t i f k => Prod.rec (motive := fun _ => β) (fun a b => cond (Nat.ble (Nat.pow 2 j) i) (ih b (Nat.sub i (Nat.pow 2 j)) f (fun b' => k (a, b'))) (ih a i f (fun a' => k (a', b)))) t) d
noncomputable def zfill {α : Type} (a : α) (d : Nat) : zT α d := Nat.rec (motive := fun d => zT α d) a (fun _ t => (t, t)) d
/-- a cell: what it is, its length, its places: in one number up to 512 of them, else in pages of 32 -/
abbrev zC : Type := Nat × Nat × Nat × zT Nat 11
noncomputable def zcget {β : Type} (c : zC) (i : Nat) (k : Nat → β) : β := Prod.rec (motive := fun _ => β) (fun _ c1 => Prod.rec (motive := fun _ => β) (fun n c2 => Prod.rec (motive := fun _ => β) (fun x t => cond (Nat.ble n 512) (zf (zlane x i) k) (zf (zlane (zget 11 t (Nat.shiftRight i 5)) (Nat.mod i 32)) k)) c2) c1) c
noncomputable def zcset {β : Type} (c : zC) (i v : Nat) (k : zC → β) : β := Prod.rec (motive := fun _ => β) (fun g c1 => Prod.rec (motive := fun _ => β) (fun n c2 => Prod.rec (motive := fun _ => β) (fun x t => cond (Nat.ble n 512) (zf (zput x i v) (fun x' => k (g, n, x', t))) (zset 11 t (Nat.shiftRight i 5) (fun a q => zf (zput a (Nat.mod i 32) v) q) (fun t' => k (g, n, x, t')))) c2) c1) c
abbrev zH : Type := Nat × Nat × zT zC 8
abbrev zR : Type := Option (List Nat × zH)
abbrev zRec : Type := Nat → Nat → Nat → List Nat → zH → zR
abbrev zK : Type := zRec → Nat → Nat → List Nat → zH → zR
noncomputable def zpop {β : Type} (S : List Nat) (k : Nat → List Nat → Option β) : Option β := List.rec (motive := fun _ => Option β) none (fun v S _ => k v S) S
noncomputable def zsg (a : Nat) : Nat := Nat.mod (Nat.add a 2147483648) 4294967296
/-- w is reckoned; 0 is none, else one less goes to k -/
noncomputable def zpr {β : Type} (w : Nat) (k : Nat → Option β) : Option β := Nat.rec (motive := fun _ => Option β) none (fun v _ => k v) w
/-- an int, or none -/
noncomputable def zint {β : Type} (v : Nat) (k : Option β) : Option β := cond (Nat.ble 4294967296 v) none k
/-- a reference, not null, or none -/
noncomputable def zref {β : Type} (v : Nat) (k : Option β) : Option β := cond (Nat.ble v 4294967296) none k
noncomputable def o_push (v : Nat) (nx : zK) : zK := fun R d L S h => nx R d L (v :: S) h
noncomputable def o_iload (i : Nat) (nx : zK) : zK := fun R d L S h => zpr (zlane L i) (fun v => zint v (nx R d L (v :: S) h))
noncomputable def o_aload (i : Nat) (nx : zK) : zK := fun R d L S h => zpr (zlane L i) (fun v => zref v (nx R d L (v :: S) h))
noncomputable def o_istore (i : Nat) (nx : zK) : zK := fun R d L S h => zpop S (fun v S => zint v (zf (zput L i (Nat.succ v)) (fun L => nx R d L S h)))
noncomputable def o_astore (i : Nat) (nx : zK) : zK := fun R d L S h => zpop S (fun v S => zref v (zf (zput L i (Nat.succ v)) (fun L => nx R d L S h)))
noncomputable def o_iinc (i w : Nat) (nx : zK) : zK := fun R d L S h => zpr (zlane L i) (fun v => zint v (zf (zput L i (Nat.succ (Nat.mod (Nat.add v w) 4294967296))) (fun L => nx R d L S h)))
noncomputable def o_bin (f : Nat → Nat → Nat) (nx : zK) : zK := fun R d L S h => zpop S (fun b S => zint b (zpop S (fun a S => zint a (zf (f a b) (fun v => nx R d L (v :: S) h)))))
noncomputable def o_un (f : Nat → Nat) (nx : zK) : zK := fun R d L S h => zpop S (fun a S => zint a (zf (f a) (fun v => nx R d L (v :: S) h)))
noncomputable def o_cmp (f : Nat → Nat → Bool) (tg nx : zK) : zK := fun R d L S h => zpop S (fun b S => zint b (zpop S (fun a S => zint a (cond (f a b) (tg R d L S h) (nx R d L S h)))))
noncomputable def o_if (f : Nat → Bool) (tg nx : zK) : zK := fun R d L S h => zpop S (fun a S => zint a (cond (f a) (tg R d L S h) (nx R d L S h)))
noncomputable def o_dup (nx : zK) : zK := fun R d L S h => zpop S (fun a S => nx R d L (a :: a :: S) h)
noncomputable def o_pop (nx : zK) : zK := fun R d L S h => zpop S (fun _ S => nx R d L S h)
noncomputable def z_add (a b : Nat) : Nat := Nat.mod (Nat.add a b) 4294967296
noncomputable def z_and (a b : Nat) : Nat := Nat.land a b
noncomputable def z_lt (a b : Nat) : Bool := Nat.ble (Nat.succ (zsg a)) (zsg b)
noncomputable def z_le (a b : Nat) : Bool := Nat.ble (zsg a) (zsg b)
noncomputable def z_ne (a b : Nat) : Bool := cond (Nat.beq a b) false true
noncomputable def z_gt (a b : Nat) : Bool := z_lt b a
noncomputable def z_ge (a b : Nat) : Bool := z_le b a
noncomputable def z_sub (a b : Nat) : Nat := Nat.mod (Nat.add a (Nat.sub 4294967296 b)) 4294967296
noncomputable def z_mul (a b : Nat) : Nat := Nat.mod (Nat.mul a b) 4294967296
noncomputable def z_or (a b : Nat) : Nat := Nat.lor a b
noncomputable def z_shl (a b : Nat) : Nat := Nat.mod (Nat.mul a (Nat.pow 2 (Nat.mod b 32))) 4294967296
/-- to the right, the sign stays: of what is 2^31 more, less 2^31 by as many bits -/
noncomputable def z_shr (a b : Nat) : Nat := Nat.mod (Nat.add (Nat.div (zsg a) (Nat.pow 2 (Nat.mod b 32))) (Nat.sub 4294967296 (Nat.div 2147483648 (Nat.pow 2 (Nat.mod b 32))))) 4294967296
/-- cell r of the heap, if it is there -/
noncomputable def zat {β : Type} (h : zH) (r : Nat) (k : zC → Option β) : Option β := zref r (Prod.rec (motive := fun _ => Option β) (fun n h1 => Prod.rec (motive := fun _ => Option β) (fun _ t => cond (Nat.ble (Nat.add 4294967297 n) r) none (k (zget 8 t (Nat.sub r 4294967297)))) h1) h)
noncomputable def zupd {β : Type} (h : zH) (r : Nat) (f : zC → (zC → Option β) → Option β) (k : zH → Option β) : Option β := Prod.rec (motive := fun _ => Option β) (fun n h1 => Prod.rec (motive := fun _ => Option β) (fun s t => zset 8 t (Nat.sub r 4294967297) f (fun t' => k (n, s, t'))) h1) h
/-- the cell is of sort g, and has place i -/
noncomputable def zis {β : Type} (g : Nat) (c : zC) (i : Nat) (k : Option β) : Option β := cond (Nat.beq (Prod.fst c) g) (cond (Nat.ble (Prod.fst (Prod.snd c)) i) none k) none
noncomputable def o_iald (g : Nat) (nx : zK) : zK := fun R d L S h => zpop S (fun i S => zint i (zpop S (fun r S => zat h r (fun c => zis g c i (zcget c i (fun v => zint v (nx R d L (v :: S) h)))))))
noncomputable def o_iast (g : Nat) (nx : zK) : zK := fun R d L S h => zpop S (fun v S => zint v (zpop S (fun i S => zint i (zpop S (fun r S => zat h r (fun c => zis g c i (zupd h r (fun c q => zcset c i v q) (fun h => nx R d L S h))))))))
noncomputable def o_getf (g k : Nat) (nx : zK) : zK := fun R d L S h => zpop S (fun r S => zat h r (fun c => zis g c k (zcget c k (fun v => nx R d L (v :: S) h))))
noncomputable def o_putf (ck : Nat → Bool) (g k : Nat) (nx : zK) : zK := fun R d L S h => zpop S (fun v S => cond (ck v) (zpop S (fun r S => zat h r (fun c => zis g c k (zupd h r (fun c q => zcset c k v q) (fun h => nx R d L S h))))) none)
noncomputable def ck_int (v : Nat) : Bool := Nat.ble v 4294967295
noncomputable def ck_bool (v : Nat) : Bool := Nat.ble v 1
noncomputable def ck_ref (v : Nat) : Bool := cond (Nat.ble v 4294967296) false (Nat.ble v 8589934591)
noncomputable def o_back (lbl : Nat) : zK := fun R d L S h => R d lbl L S h
noncomputable def zemp {β : Type} (S : List Nat) (k : Option β) : Option β := List.rec (motive := fun _ => Option β) k (fun _ _ _ => none) S
noncomputable def o_ret : zK := fun _ _ _ S h => zpop S (fun v S => zint v (zemp S (some ([v], h))))
noncomputable def o_zret : zK := fun _ _ _ S h => zpop S (fun v S => cond (Nat.ble 2 v) none (zemp S (some ([v], h))))
noncomputable def o_vret : zK := fun _ _ _ S h => zemp S (some ([], h))
/-- the last na of the stack as locals -/
noncomputable def zargs {β : Type} (na : Nat) : List Nat → Nat → (Nat → List Nat → Option β) → Option β := Nat.rec (motive := fun _ => List Nat → Nat → (Nat → List Nat → Option β) → Option β) (fun S L k => k L S) (fun j ih S L k => zpop S (fun v S => cond (Nat.ble v 17179869183) (zf (zput L j (Nat.succ v)) (fun L => ih S L k)) none)) na
noncomputable def zans {β : Type} (a : zR) (k : List Nat → zH → Option β) : Option β := Option.rec (motive := fun _ => Option β) none (fun q => Prod.rec (motive := fun _ => Option β) (fun r h => k r h) q) a
noncomputable def zapp (r S : List Nat) : List Nat := List.rec (motive := fun _ => List Nat) S (fun v _ _ => v :: S) r
noncomputable def zshort {β : Type} (S : List Nat) (k : Option β) : Option β := cond (Nat.ble (List.length S) 8) k none
/-- a call that makes nothing; g: the receiver's sort -/
noncomputable def o_callV (g lbl na : Nat) (nx : zK) : zK := fun R d L S h => zargs na S 0 (fun L' S' => zpr (zlane L' 0) (fun r0 => zat h r0 (fun c => cond (Nat.beq (Prod.fst c) g) (zshort S' (zpr d (fun d' => zans (R d' lbl L' [] h) (fun r h1 => cond (Nat.beq (Prod.fst h1) (Prod.fst h)) (nx R d L (zapp r S') h1) none)))) none)))
noncomputable def o_callS (lbl na : Nat) (nx : zK) : zK := fun R d L S h => zargs na S 0 (fun L' S' => zshort S' (zpr d (fun d' => zans (R d' lbl L' [] h) (fun r h1 => cond (Nat.beq (Prod.fst h1) (Prod.fst h)) (nx R d L (zapp r S') h1) none))))
/-- p holds below n -/
noncomputable def zall (p : Nat → Bool) (n : Nat) : Bool := Nat.rec (motive := fun _ => Bool) true (fun i ih => cond (p i) ih false) n
/-- x tells no cell that isn't there (n are; from 2^33 on stand the texts) -/
noncomputable def zck (n x : Nat) : Bool := cond (Nat.ble (Nat.add 4294967297 n) x) (Nat.ble 8589934592 x) true
noncomputable def zckC (n : Nat) (c : zC) : Bool := cond (Nat.ble 100 (Prod.fst c)) (cond (Nat.beq (Prod.fst c) 102) (zall (fun i => zcget c i (fun v => zck n v)) (Prod.fst (Prod.snd c))) true) (zall (fun i => zcget c i (fun v => zck n v)) (Prod.fst (Prod.snd c)))
noncomputable def zckH (n : Nat) (t : zT zC 8) : Bool := zall (fun k => zckC n (zget 8 t k)) n
noncomputable def zckL (n L nL : Nat) : Bool := zall (fun i => zck n (Nat.pred (zlane L i))) nL
noncomputable def zckS (n : Nat) (S : List Nat) : Bool := List.rec (motive := fun _ => Bool) true (fun x _ ih => cond (zck n x) ih false) S
/-- a new cell, if all that is told is there -/
noncomputable def znew {β : Type} (nL L : Nat) (S : List Nat) (h : zH) (c : zC) (k : Nat → zH → Option β) : Option β := Prod.rec (motive := fun _ => Option β) (fun n h1 => Prod.rec (motive := fun _ => Option β) (fun sl t => cond (Nat.ble 256 n) none (cond (zckL n L nL) (cond (zckS n S) (cond (zckH n t) (zset 8 t n (fun _ q => q c) (fun t' => zf (Nat.add sl (Prod.fst (Prod.snd c))) (fun sl' => zf (Nat.succ n) (fun n' => k (Nat.add 4294967297 n) (n', sl', t'))))) none) none) none)) h1) h
noncomputable def o_new (nL : Nat) (c : zC) (nx : zK) : zK := fun R d L S h => znew nL L S h c (fun v h => nx R d L (v :: S) h)
noncomputable def o_newa (nL g : Nat) (nx : zK) : zK := fun R d L S h => zpop S (fun n S => cond (Nat.ble n 65536) (znew nL L S h (g, n, 0, zfill 0 11) (fun v h => nx R d L (v :: S) h)) none)
noncomputable def o_oinit (nx : zK) : zK := fun R d L S h => zpop S (fun r S => zref r (zshort S (zpr d (fun _ => nx R d L S h))))
noncomputable def o_len (g : Nat) (nx : zK) : zK := fun R d L S h => zpop S (fun r S => zat h r (fun c => cond (Nat.beq (Prod.fst c) g) (zf (Prod.fst (Prod.snd c)) (fun n => nx R d L (n :: S) h)) none))
/-- a constructor's call: it may make cells, if all that is told here is there -/
noncomputable def o_callI (nL lbl na : Nat) (nx : zK) : zK := fun R d L S h => zargs na S 0 (fun L' S' => zpr (zlane L' 0) (fun r0 => zref r0 (cond (zckL (Prod.fst h) L nL) (cond (zckS (Prod.fst h) S') (zshort S' (zpr d (fun d' => zans (R d' lbl L' [] h) (fun r h1 => nx R d L (zapp r S') h1)))) none) none)))
noncomputable def o_aald (nx : zK) : zK := fun R d L S h => zpop S (fun i S => zint i (zpop S (fun r S => zat h r (fun c => zis 102 c i (zcget c i (fun v => zref v (nx R d L (v :: S) h)))))))
/-- the a-th of some codes, or df -/
noncomputable def zsel (ks : List zK) : zK → Nat → zK := List.rec (motive := fun _ => zK → Nat → zK) (fun df _ => df) (fun k _ ih df a => Nat.rec (motive := fun _ => zK) k (fun b _ => ih df b) a) ks
/-- a switch from 0 on -/
noncomputable def o_tsw (ks : List zK) (df : zK) : zK := fun R d L S h => zpop S (fun a S => zint a (zsel ks df a R d L S h))
/-- a switch by keys -/
noncomputable def zlk (qs : List (Nat × zK)) : zK → Nat → zK := List.rec (motive := fun _ => zK → Nat → zK) (fun df _ => df) (fun q _ ih df a => cond (Nat.beq a (Prod.fst q)) (Prod.snd q) (ih df a)) qs
noncomputable def o_lsw (qs : List (Nat × zK)) (df : zK) : zK := fun R d L S h => zpop S (fun a S => zint a (zlk qs df a R d L S h))
noncomputable def zupdc {β : Type} (h : zH) (r : Nat) (c : zC) (k : zH → Option β) : Option β := Prod.rec (motive := fun _ => Option β) (fun n h1 => Prod.rec (motive := fun _ => Option β) (fun s t => zset 8 t (Nat.sub r 4294967297) (fun _ q => q c) (fun t' => k (n, s, t'))) h1) h
/-- System.arraycopy of a whole int array to another of its length -/
noncomputable def o_acopy (nx : zK) : zK := fun R d L S h => zpop S (fun n S => zpop S (fun dp S => zpop S (fun b S => zpop S (fun sp S => zpop S (fun a S => cond (Nat.beq dp 0) (cond (Nat.beq sp 0) (zat h a (fun cs => zat h b (fun cd => cond (Nat.beq (Prod.fst cs) 100) (cond (Nat.beq (Prod.fst cd) 100) (cond (Nat.beq (Prod.fst (Prod.snd cs)) n) (cond (Nat.beq (Prod.fst (Prod.snd cd)) n) (zshort S (zpr d (fun _ => zupdc h b (100, n, Prod.snd (Prod.snd cs)) (fun h => nx R d L S h)))) none) none) none) none))) none) none)))))
noncomputable def zrun (dt : Nat) (tb : zT zK dt) (n : Nat) : zRec := Nat.rec (motive := fun _ => zRec) (fun _ _ _ _ _ => none) (fun _ ih d lbl L S h => zget dt tb lbl ih d L S h) n
