noncomputable def haA5_c0 : zC := (11, 18, 837987996353072135501804687204992363865126383430370302772850937788060123553166587025184863475768431565452744121263084248806043330072134397079668335312896, zfill 0 11)
noncomputable def haA5 : zH := (1, 18, ((((((((haA5_c0, zc0), (zfill zc0 1)), (zfill zc0 2)), (zfill zc0 3)), (zfill zc0 4)), (zfill zc0 5)), (zfill zc0 6)), (zfill zc0 7)))
noncomputable def hbA5 : zH := (61, 220251, ((((((((haA0_c0, haA0_c1), (haA0_c2, haA0_c3)), ((haA0_c4, haA0_c5), (haA0_c3, hbA3_c7))), (((hbA3_c8, hbA0_c9), (hbA0_c10, hbA0_c11)), ((haA0_c12, haA0_c13), (haA0_c4, haA0_c15)))), ((((haA0_c4, haA0_c1), (haA0_c18, haA0_c4)), ((haA0_c20, haA0_c21), (hbA3_c22, hbA3_c23))), (((hbA3_c24, hbA3_c25), (hbA3_c26, haA0_c27)), ((haA0_c27, haA0_c27), (haA0_c27, hbA3_c31))))), (((((hbA3_c32, haA0_c31), (haA0_c32, hbA0_c35)), ((hbA0_c36, haA0_c37), (hbA0_c38, hbA0_c39))), (((hbA0_c40, hbA3_c41), (haA3_c42, haA0_c43)), ((hbA3_c44, haA0_c4), (hbA3_c46, hbA3_c47)))), ((((haA0_c47, hbA3_c49), (haA3_c50, hbA3_c51)), ((haA0_c51, haA0_c51), (hbA3_c54, hbA3_c55))), (((haA3_c56, haA0_c47), (haA0_c58, haA3_c59)), ((haA0_c60, zc0), (zfill zc0 1)))))), (zfill zc0 6)), (zfill zc0 7)))
noncomputable def zXr_A5 : zRec := (zme_A4 (zme_A2 zX0))
set_option maxRecDepth 100000 in
theorem run_A5 : zfin2 (zrunX zXr_A5 9 ztc 100000 1679 152 4294967298 [] haA5) [] hbA5 = true := by decide +kernel
noncomputable def zme_A5 (X : zRec) : zRec := zmem2 152 1679 4294967298 haA5 [] hbA5 X
theorem zba_A5 : zbdB haA5 = true := by decide +kernel
theorem zbb_A5 : zbdB hbA5 = true := by decide +kernel
section
variable {l : Launch} {D : va_G} {tc : Nat → ClassId} {A : Nat → Prop} {nS : Nat} {xs : Nat → Int32}
theorem okX_A5 : zOkR l D vwCl tc [(tc 100, .int), (tc 101, .boolean), (tc 102, .array .int)] A (zEE tc A nS xs) zTw zlab zXr_A5 := (zmo_A4 (zmo_A2 z_none_ok))
theorem zmo_A5 {X : zRec} (hX : zOkR l D vwCl tc [(tc 100, .int), (tc 101, .boolean), (tc 102, .array .int)] A (zEE tc A nS xs) zTw zlab X) : zOkR l D vwCl tc [(tc 100, .int), (tc 101, .boolean), (tc 102, .array .int)] A (zEE tc A nS xs) zTw zlab (zme_A5 X) := zmem2_ok (zR_ok okX_A5 100000) hX zba_A5 zbb_A5 run_A5
end
