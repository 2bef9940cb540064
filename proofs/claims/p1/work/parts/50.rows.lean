section ZRows
variable {l : Launch} {D : va_G} {tc : Nat → ClassId} {A : Nat → Prop} {nS : Nat} {xs : Nat → Int32}
theorem ok_X12_written_21 : zOK l D tc A nS xs mM_X12_written 21 q_X12_written_21 := s_vret rfl (by decide +kernel)
theorem ok_X12_written_18 : zOK l D tc A nS xs mM_X12_written 18 q_X12_written_18 := r_callV zEE_ok zTw_gd kls_12 (M2 := mM_X12_write) (na := 2) lb_296 calV_X12_write rfl rfl w_979 (by decide +kernel) ok_X12_written_21
theorem ok_X12_written_17 : zOK l D tc A nS xs mM_X12_written 17 q_X12_written_17 := s_iconst (n := 0) (by decide) (by decide +kernel) (by decide +kernel) ok_X12_written_18
theorem ok_X12_written_16 : zOK l D tc A nS xs mM_X12_written 16 q_X12_written_16 := s_iload_n (q := 1) rfl (by decide +kernel) (by decide +kernel) ok_X12_written_17
theorem ok_X12_written_15 : zOK l D tc A nS xs mM_X12_written 15 q_X12_written_15 := s_aload_n (q := 0) rfl (by decide +kernel) (by decide +kernel) ok_X12_written_16
theorem ok_X12_written_12 : zOK l D tc A nS xs mM_X12_written 12 q_X12_written_12 := r_putf kls_12 ty_12_30 zck_bool (by decide) tx_12_30 rfl w_978 (by decide +kernel) ok_X12_written_15
theorem ok_X12_written_11 : zOK l D tc A nS xs mM_X12_written 11 q_X12_written_11 := s_iconst (n := 0) (by decide) (by decide +kernel) (by decide +kernel) ok_X12_written_12
theorem ok_X12_written_10 : zOK l D tc A nS xs mM_X12_written 10 q_X12_written_10 := s_aload_n (q := 0) rfl (by decide +kernel) (by decide +kernel) ok_X12_written_11
theorem ok_X12_written_7 : zOK l D tc A nS xs mM_X12_written 7 q_X12_written_7 := r_putf kls_12 ty_12_29 zck_int (by decide) tx_12_29 rfl w_977 (by decide +kernel) ok_X12_written_10
theorem ok_X12_written_6 : zOK l D tc A nS xs mM_X12_written 6 q_X12_written_6 := s_iconst (n := 0) (by decide) (by decide +kernel) (by decide +kernel) ok_X12_written_7
theorem ok_X12_written_5 : zOK l D tc A nS xs mM_X12_written 5 q_X12_written_5 := s_aload_n (q := 0) rfl (by decide +kernel) (by decide +kernel) ok_X12_written_6
theorem ok_X12_written_2 : zOK l D tc A nS xs mM_X12_written 2 q_X12_written_2 := r_putf kls_12 ty_12_28 zck_int (by decide) tx_12_28 rfl w_936 (by decide +kernel) ok_X12_written_5
theorem ok_X12_written_1 : zOK l D tc A nS xs mM_X12_written 1 q_X12_written_1 := s_iconst (n := 0) (by decide) (by decide +kernel) (by decide +kernel) ok_X12_written_2
theorem ok_X12_written_0 : zOK l D tc A nS xs mM_X12_written 0 q_X12_written_0 := s_aload_n (q := 0) rfl (by decide +kernel) (by decide +kernel) ok_X12_written_1
end ZRows
