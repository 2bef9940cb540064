/-! classes, methods, labels -/
set_option maxRecDepth 100000 in
theorem zin_0 : ∀ w ∈ u_ws RX0 TX0 14, w ∈ zTw := by
  rw [show u_ws RX0 TX0 14 = [Cond.laysFinal "SchemeEleven$Coder" "SchemeEleven$Coder" "text" "LSchemeEleven$Text;", Cond.laysFinal "SchemeEleven$Coder" "SchemeEleven$Coder" "image" "LSchemeEleven$Image;", Cond.laysFinal "SchemeEleven$Coder" "SchemeEleven$Coder" "scopes" "LSchemeEleven$Scopes;", Cond.laysFinal "SchemeEleven$Coder" "SchemeEleven$Coder" "spreader" "LSchemeEleven$Spreader;", Cond.laysFinal "SchemeEleven$Coder" "SchemeEleven$Coder" "tasks" "[I", Cond.lays "SchemeEleven$Coder" "SchemeEleven$Coder" "top" "I", Cond.laysFinal "SchemeEleven$Coder" "SchemeEleven$Coder" "lambdas" "[I", Cond.lays "SchemeEleven$Coder" "SchemeEleven$Coder" "firstLambda" "I", Cond.lays "SchemeEleven$Coder" "SchemeEleven$Coder" "lambdaCount" "I", Cond.lays "SchemeEleven$Coder" "SchemeEleven$Coder" "datum" "I", Cond.lays "SchemeEleven$Coder" "SchemeEleven$Coder" "part" "I", Cond.lays "SchemeEleven$Coder" "SchemeEleven$Coder" "scope" "I", Cond.lays "SchemeEleven$Coder" "SchemeEleven$Coder" "flags" "I", Cond.lays "SchemeEleven$Coder" "SchemeEleven$Coder" "patch" "I"] by decide +kernel]
  exact List.forall_mem_cons.mpr ⟨(zTw_of (zt_in_3 (List.mem_of_getElem? (i := 12) rfl)) rfl : Cond.laysFinal "SchemeEleven$Coder" "SchemeEleven$Coder" "text" "LSchemeEleven$Text;" ∈ zTw), List.forall_mem_cons.mpr ⟨(zTw_of (zt_in_3 (List.mem_of_getElem? (i := 14) rfl)) rfl : Cond.laysFinal "SchemeEleven$Coder" "SchemeEleven$Coder" "image" "LSchemeEleven$Image;" ∈ zTw), List.forall_mem_cons.mpr ⟨(zTw_of (zt_in_3 (List.mem_of_getElem? (i := 16) rfl)) rfl : Cond.laysFinal "SchemeEleven$Coder" "SchemeEleven$Coder" "scopes" "LSchemeEleven$Scopes;" ∈ zTw), List.forall_mem_cons.mpr ⟨(zTw_of (zt_in_3 (List.mem_of_getElem? (i := 18) rfl)) rfl : Cond.laysFinal "SchemeEleven$Coder" "SchemeEleven$Coder" "spreader" "LSchemeEleven$Spreader;" ∈ zTw), List.forall_mem_cons.mpr ⟨(zTw_of (zt_in_3 (List.mem_of_getElem? (i := 20) rfl)) rfl : Cond.laysFinal "SchemeEleven$Coder" "SchemeEleven$Coder" "tasks" "[I" ∈ zTw), List.forall_mem_cons.mpr ⟨(zTw_of (zt_in_3 (List.mem_of_getElem? (i := 22) rfl)) rfl : Cond.lays "SchemeEleven$Coder" "SchemeEleven$Coder" "top" "I" ∈ zTw), List.forall_mem_cons.mpr ⟨(zTw_of (zt_in_3 (List.mem_of_getElem? (i := 24) rfl)) rfl : Cond.laysFinal "SchemeEleven$Coder" "SchemeEleven$Coder" "lambdas" "[I" ∈ zTw), List.forall_mem_cons.mpr ⟨(zTw_of (zt_in_3 (List.mem_of_getElem? (i := 26) rfl)) rfl : Cond.lays "SchemeEleven$Coder" "SchemeEleven$Coder" "firstLambda" "I" ∈ zTw), List.forall_mem_cons.mpr ⟨(zTw_of (zt_in_3 (List.mem_of_getElem? (i := 28) rfl)) rfl : Cond.lays "SchemeEleven$Coder" "SchemeEleven$Coder" "lambdaCount" "I" ∈ zTw), List.forall_mem_cons.mpr ⟨(zTw_of (zt_in_3 (List.mem_of_getElem? (i := 30) rfl)) rfl : Cond.lays "SchemeEleven$Coder" "SchemeEleven$Coder" "datum" "I" ∈ zTw), List.forall_mem_cons.mpr ⟨(zTw_of (zt_in_3 (List.mem_of_getElem? (i := 32) rfl)) rfl : Cond.lays "SchemeEleven$Coder" "SchemeEleven$Coder" "part" "I" ∈ zTw), List.forall_mem_cons.mpr ⟨(zTw_of (zt_in_3 (List.mem_of_getElem? (i := 34) rfl)) rfl : Cond.lays "SchemeEleven$Coder" "SchemeEleven$Coder" "scope" "I" ∈ zTw), List.forall_mem_cons.mpr ⟨(zTw_of (zt_in_3 (List.mem_of_getElem? (i := 36) rfl)) rfl : Cond.lays "SchemeEleven$Coder" "SchemeEleven$Coder" "flags" "I" ∈ zTw), List.forall_mem_cons.mpr ⟨(zTw_of (zt_in_3 (List.mem_of_getElem? (i := 38) rfl)) rfl : Cond.lays "SchemeEleven$Coder" "SchemeEleven$Coder" "patch" "I" ∈ zTw), fun _ h => absurd h List.not_mem_nil⟩⟩⟩⟩⟩⟩⟩⟩⟩⟩⟩⟩⟩⟩
theorem kls_0 : zKls vwCl zTw 0 "SchemeEleven$Coder" TX0 14 tyX0 := ⟨by decide, rfl, zin_0, tyX0_ok, nmX0⟩
theorem zdf_0 : ∀ j, j < 14 → zcv zcl_0 j ≤ 4294967296 ∧ defaultValue (tyX0 j) = zv (fun _ => 0) (zcv zcl_0 j) := by decide +kernel
set_option maxRecDepth 100000 in
theorem zin_1 : ∀ w ∈ u_ws RX1 TX1 7, w ∈ zTw := by
  rw [show u_ws RX1 TX1 7 = [Cond.laysFinal "SchemeEleven$Heap" "SchemeEleven$Heap" "machine" "LSchemeEleven$Machine;", Cond.laysFinal "SchemeEleven$Heap" "SchemeEleven$Heap" "image" "LSchemeEleven$Image;", Cond.laysFinal "SchemeEleven$Heap" "SchemeEleven$Heap" "states" "[I", Cond.laysFinal "SchemeEleven$Heap" "SchemeEleven$Heap" "open" "[I", Cond.lays "SchemeEleven$Heap" "SchemeEleven$Heap" "opened" "I", Cond.lays "SchemeEleven$Heap" "SchemeEleven$Heap" "end" "I", Cond.lays "SchemeEleven$Heap" "SchemeEleven$Heap" "packs" "I"] by decide +kernel]
  exact List.forall_mem_cons.mpr ⟨(zTw_of (zt_in_1 (List.mem_of_getElem? (i := 128) rfl)) rfl : Cond.laysFinal "SchemeEleven$Heap" "SchemeEleven$Heap" "machine" "LSchemeEleven$Machine;" ∈ zTw), List.forall_mem_cons.mpr ⟨(zTw_of (zt_in_1 (List.mem_of_getElem? (i := 130) rfl)) rfl : Cond.laysFinal "SchemeEleven$Heap" "SchemeEleven$Heap" "image" "LSchemeEleven$Image;" ∈ zTw), List.forall_mem_cons.mpr ⟨(zTw_of (zt_in_1 (List.mem_of_getElem? (i := 132) rfl)) rfl : Cond.laysFinal "SchemeEleven$Heap" "SchemeEleven$Heap" "states" "[I" ∈ zTw), List.forall_mem_cons.mpr ⟨(zTw_of (zt_in_1 (List.mem_of_getElem? (i := 134) rfl)) rfl : Cond.laysFinal "SchemeEleven$Heap" "SchemeEleven$Heap" "open" "[I" ∈ zTw), List.forall_mem_cons.mpr ⟨(zTw_of (zt_in_1 (List.mem_of_getElem? (i := 136) rfl)) rfl : Cond.lays "SchemeEleven$Heap" "SchemeEleven$Heap" "opened" "I" ∈ zTw), List.forall_mem_cons.mpr ⟨(zTw_of (zt_in_1 (List.mem_of_getElem? (i := 138) rfl)) rfl : Cond.lays "SchemeEleven$Heap" "SchemeEleven$Heap" "end" "I" ∈ zTw), List.forall_mem_cons.mpr ⟨(zTw_of (zt_in_1 (List.mem_of_getElem? (i := 140) rfl)) rfl : Cond.lays "SchemeEleven$Heap" "SchemeEleven$Heap" "packs" "I" ∈ zTw), fun _ h => absurd h List.not_mem_nil⟩⟩⟩⟩⟩⟩⟩
theorem kls_1 : zKls vwCl zTw 1 "SchemeEleven$Heap" TX1 7 tyX1 := ⟨by decide, rfl, zin_1, tyX1_ok, nmX1⟩
theorem zdf_1 : ∀ j, j < 7 → zcv zcl_1 j ≤ 4294967296 ∧ defaultValue (tyX1 j) = zv (fun _ => 0) (zcv zcl_1 j) := by decide +kernel
set_option maxRecDepth 100000 in
theorem zin_2 : ∀ w ∈ u_ws RX2 TX2 10, w ∈ zTw := by
  rw [show u_ws RX2 TX2 10 = [Cond.laysFinal "SchemeEleven$Image" "SchemeEleven$Image" "machine" "LSchemeEleven$Machine;", Cond.laysFinal "SchemeEleven$Image" "SchemeEleven$Image" "letters" "[I", Cond.laysFinal "SchemeEleven$Image" "SchemeEleven$Image" "lengths" "[I", Cond.laysFinal "SchemeEleven$Image" "SchemeEleven$Image" "places" "[I", Cond.lays "SchemeEleven$Image" "SchemeEleven$Image" "symbols" "I", Cond.lays "SchemeEleven$Image" "SchemeEleven$Image" "staticsEnd" "I", Cond.lays "SchemeEleven$Image" "SchemeEleven$Image" "codeEnd" "I", Cond.lays "SchemeEleven$Image" "SchemeEleven$Image" "oldSymbols" "I", Cond.lays "SchemeEleven$Image" "SchemeEleven$Image" "oldStaticsEnd" "I", Cond.lays "SchemeEleven$Image" "SchemeEleven$Image" "oldCodeEnd" "I"] by decide +kernel]
  exact List.forall_mem_cons.mpr ⟨(zTw_of (zt_in_1 (List.mem_of_getElem? (i := 90) rfl)) rfl : Cond.laysFinal "SchemeEleven$Image" "SchemeEleven$Image" "machine" "LSchemeEleven$Machine;" ∈ zTw), List.forall_mem_cons.mpr ⟨(zTw_of (zt_in_1 (List.mem_of_getElem? (i := 92) rfl)) rfl : Cond.laysFinal "SchemeEleven$Image" "SchemeEleven$Image" "letters" "[I" ∈ zTw), List.forall_mem_cons.mpr ⟨(zTw_of (zt_in_1 (List.mem_of_getElem? (i := 94) rfl)) rfl : Cond.laysFinal "SchemeEleven$Image" "SchemeEleven$Image" "lengths" "[I" ∈ zTw), List.forall_mem_cons.mpr ⟨(zTw_of (zt_in_1 (List.mem_of_getElem? (i := 96) rfl)) rfl : Cond.laysFinal "SchemeEleven$Image" "SchemeEleven$Image" "places" "[I" ∈ zTw), List.forall_mem_cons.mpr ⟨(zTw_of (zt_in_1 (List.mem_of_getElem? (i := 98) rfl)) rfl : Cond.lays "SchemeEleven$Image" "SchemeEleven$Image" "symbols" "I" ∈ zTw), List.forall_mem_cons.mpr ⟨(zTw_of (zt_in_1 (List.mem_of_getElem? (i := 100) rfl)) rfl : Cond.lays "SchemeEleven$Image" "SchemeEleven$Image" "staticsEnd" "I" ∈ zTw), List.forall_mem_cons.mpr ⟨(zTw_of (zt_in_1 (List.mem_of_getElem? (i := 102) rfl)) rfl : Cond.lays "SchemeEleven$Image" "SchemeEleven$Image" "codeEnd" "I" ∈ zTw), List.forall_mem_cons.mpr ⟨(zTw_of (zt_in_1 (List.mem_of_getElem? (i := 104) rfl)) rfl : Cond.lays "SchemeEleven$Image" "SchemeEleven$Image" "oldSymbols" "I" ∈ zTw), List.forall_mem_cons.mpr ⟨(zTw_of (zt_in_1 (List.mem_of_getElem? (i := 106) rfl)) rfl : Cond.lays "SchemeEleven$Image" "SchemeEleven$Image" "oldStaticsEnd" "I" ∈ zTw), List.forall_mem_cons.mpr ⟨(zTw_of (zt_in_1 (List.mem_of_getElem? (i := 108) rfl)) rfl : Cond.lays "SchemeEleven$Image" "SchemeEleven$Image" "oldCodeEnd" "I" ∈ zTw), fun _ h => absurd h List.not_mem_nil⟩⟩⟩⟩⟩⟩⟩⟩⟩⟩
theorem kls_2 : zKls vwCl zTw 2 "SchemeEleven$Image" TX2 10 tyX2 := ⟨by decide, rfl, zin_2, tyX2_ok, nmX2⟩
theorem zdf_2 : ∀ j, j < 10 → zcv zcl_2 j ≤ 4294967296 ∧ defaultValue (tyX2 j) = zv (fun _ => 0) (zcv zcl_2 j) := by decide +kernel
set_option maxRecDepth 100000 in
theorem zin_3 : ∀ w ∈ u_ws RX3 TX3 7, w ∈ zTw := by
  rw [show u_ws RX3 TX3 7 = [Cond.laysFinal "SchemeEleven$Machine" "SchemeEleven$Machine" "cells" "[I", Cond.laysFinal "SchemeEleven$Machine" "SchemeEleven$Machine" "\x72" "[I", Cond.lays "SchemeEleven$Machine" "SchemeEleven$Machine" "n" "Z", Cond.lays "SchemeEleven$Machine" "SchemeEleven$Machine" "z" "Z", Cond.lays "SchemeEleven$Machine" "SchemeEleven$Machine" "v" "Z", Cond.lays "SchemeEleven$Machine" "SchemeEleven$Machine" "c" "Z", Cond.lays "SchemeEleven$Machine" "SchemeEleven$Machine" "instruction" "I"] by decide +kernel]
  exact List.forall_mem_cons.mpr ⟨(zTw_of (zt_in_1 (List.mem_of_getElem? (i := 50) rfl)) rfl : Cond.laysFinal "SchemeEleven$Machine" "SchemeEleven$Machine" "cells" "[I" ∈ zTw), List.forall_mem_cons.mpr ⟨(zTw_of (zt_in_1 (List.mem_of_getElem? (i := 52) rfl)) rfl : Cond.laysFinal "SchemeEleven$Machine" "SchemeEleven$Machine" "\x72" "[I" ∈ zTw), List.forall_mem_cons.mpr ⟨(zTw_of (zt_in_1 (List.mem_of_getElem? (i := 54) rfl)) rfl : Cond.lays "SchemeEleven$Machine" "SchemeEleven$Machine" "n" "Z" ∈ zTw), List.forall_mem_cons.mpr ⟨(zTw_of (zt_in_1 (List.mem_of_getElem? (i := 56) rfl)) rfl : Cond.lays "SchemeEleven$Machine" "SchemeEleven$Machine" "z" "Z" ∈ zTw), List.forall_mem_cons.mpr ⟨(zTw_of (zt_in_1 (List.mem_of_getElem? (i := 58) rfl)) rfl : Cond.lays "SchemeEleven$Machine" "SchemeEleven$Machine" "v" "Z" ∈ zTw), List.forall_mem_cons.mpr ⟨(zTw_of (zt_in_1 (List.mem_of_getElem? (i := 60) rfl)) rfl : Cond.lays "SchemeEleven$Machine" "SchemeEleven$Machine" "c" "Z" ∈ zTw), List.forall_mem_cons.mpr ⟨(zTw_of (zt_in_1 (List.mem_of_getElem? (i := 62) rfl)) rfl : Cond.lays "SchemeEleven$Machine" "SchemeEleven$Machine" "instruction" "I" ∈ zTw), fun _ h => absurd h List.not_mem_nil⟩⟩⟩⟩⟩⟩⟩
theorem kls_3 : zKls vwCl zTw 3 "SchemeEleven$Machine" TX3 7 tyX3 := ⟨by decide, rfl, zin_3, tyX3_ok, nmX3⟩
theorem zdf_3 : ∀ j, j < 7 → zcv zcl_3 j ≤ 4294967296 ∧ defaultValue (tyX3 j) = zv (fun _ => 0) (zcv zcl_3 j) := by decide +kernel
set_option maxRecDepth 100000 in
theorem zin_4 : ∀ w ∈ u_ws RX4 TX4 19, w ∈ zTw := by
  rw [show u_ws RX4 TX4 19 = [Cond.laysFinal "SchemeEleven$Pattern" "SchemeEleven$Pattern" "text" "LSchemeEleven$Text;", Cond.lays "SchemeEleven$Pattern" "SchemeEleven$Pattern" "literals" "I", Cond.laysFinal "SchemeEleven$Pattern" "SchemeEleven$Pattern" "nodes" "[I", Cond.laysFinal "SchemeEleven$Pattern" "SchemeEleven$Pattern" "values" "[I", Cond.laysFinal "SchemeEleven$Pattern" "SchemeEleven$Pattern" "outers" "[I", Cond.laysFinal "SchemeEleven$Pattern" "SchemeEleven$Pattern" "inners" "[I", Cond.lays "SchemeEleven$Pattern" "SchemeEleven$Pattern" "variables" "I", Cond.laysFinal "SchemeEleven$Pattern" "SchemeEleven$Pattern" "bodies" "[I", Cond.laysFinal "SchemeEleven$Pattern" "SchemeEleven$Pattern" "lists" "[I", Cond.laysFinal "SchemeEleven$Pattern" "SchemeEleven$Pattern" "cursors" "[I", Cond.laysFinal "SchemeEleven$Pattern" "SchemeEleven$Pattern" "firstVariables" "[I", Cond.laysFinal "SchemeEleven$Pattern" "SchemeEleven$Pattern" "nextVariables" "[I", Cond.laysFinal "SchemeEleven$Pattern" "SchemeEleven$Pattern" "nextGroups" "[I", Cond.lays "SchemeEleven$Pattern" "SchemeEleven$Pattern" "groups" "I", Cond.lays "SchemeEleven$Pattern" "SchemeEleven$Pattern" "outer" "I", Cond.lays "SchemeEleven$Pattern" "SchemeEleven$Pattern" "variableAt" "I", Cond.lays "SchemeEleven$Pattern" "SchemeEleven$Pattern" "groupAt" "I", Cond.laysFinal "SchemeEleven$Pattern" "SchemeEleven$Pattern" "abreast" "[I", Cond.laysFinal "SchemeEleven$Pattern" "SchemeEleven$Pattern" "abreastCount" "[I"] by decide +kernel]
  exact List.forall_mem_cons.mpr ⟨(zTw_of (zt_in_2 (List.mem_of_getElem? (i := 165) rfl)) rfl : Cond.laysFinal "SchemeEleven$Pattern" "SchemeEleven$Pattern" "text" "LSchemeEleven$Text;" ∈ zTw), List.forall_mem_cons.mpr ⟨(zTw_of (zt_in_2 (List.mem_of_getElem? (i := 167) rfl)) rfl : Cond.lays "SchemeEleven$Pattern" "SchemeEleven$Pattern" "literals" "I" ∈ zTw), List.forall_mem_cons.mpr ⟨(zTw_of (zt_in_2 (List.mem_of_getElem? (i := 169) rfl)) rfl : Cond.laysFinal "SchemeEleven$Pattern" "SchemeEleven$Pattern" "nodes" "[I" ∈ zTw), List.forall_mem_cons.mpr ⟨(zTw_of (zt_in_2 (List.mem_of_getElem? (i := 171) rfl)) rfl : Cond.laysFinal "SchemeEleven$Pattern" "SchemeEleven$Pattern" "values" "[I" ∈ zTw), List.forall_mem_cons.mpr ⟨(zTw_of (zt_in_2 (List.mem_of_getElem? (i := 173) rfl)) rfl : Cond.laysFinal "SchemeEleven$Pattern" "SchemeEleven$Pattern" "outers" "[I" ∈ zTw), List.forall_mem_cons.mpr ⟨(zTw_of (zt_in_2 (List.mem_of_getElem? (i := 175) rfl)) rfl : Cond.laysFinal "SchemeEleven$Pattern" "SchemeEleven$Pattern" "inners" "[I" ∈ zTw), List.forall_mem_cons.mpr ⟨(zTw_of (zt_in_2 (List.mem_of_getElem? (i := 177) rfl)) rfl : Cond.lays "SchemeEleven$Pattern" "SchemeEleven$Pattern" "variables" "I" ∈ zTw), List.forall_mem_cons.mpr ⟨(zTw_of (zt_in_2 (List.mem_of_getElem? (i := 179) rfl)) rfl : Cond.laysFinal "SchemeEleven$Pattern" "SchemeEleven$Pattern" "bodies" "[I" ∈ zTw), List.forall_mem_cons.mpr ⟨(zTw_of (zt_in_2 (List.mem_of_getElem? (i := 181) rfl)) rfl : Cond.laysFinal "SchemeEleven$Pattern" "SchemeEleven$Pattern" "lists" "[I" ∈ zTw), List.forall_mem_cons.mpr ⟨(zTw_of (zt_in_2 (List.mem_of_getElem? (i := 183) rfl)) rfl : Cond.laysFinal "SchemeEleven$Pattern" "SchemeEleven$Pattern" "cursors" "[I" ∈ zTw), List.forall_mem_cons.mpr ⟨(zTw_of (zt_in_2 (List.mem_of_getElem? (i := 185) rfl)) rfl : Cond.laysFinal "SchemeEleven$Pattern" "SchemeEleven$Pattern" "firstVariables" "[I" ∈ zTw), List.forall_mem_cons.mpr ⟨(zTw_of (zt_in_2 (List.mem_of_getElem? (i := 187) rfl)) rfl : Cond.laysFinal "SchemeEleven$Pattern" "SchemeEleven$Pattern" "nextVariables" "[I" ∈ zTw), List.forall_mem_cons.mpr ⟨(zTw_of (zt_in_2 (List.mem_of_getElem? (i := 189) rfl)) rfl : Cond.laysFinal "SchemeEleven$Pattern" "SchemeEleven$Pattern" "nextGroups" "[I" ∈ zTw), List.forall_mem_cons.mpr ⟨(zTw_of (zt_in_2 (List.mem_of_getElem? (i := 191) rfl)) rfl : Cond.lays "SchemeEleven$Pattern" "SchemeEleven$Pattern" "groups" "I" ∈ zTw), List.forall_mem_cons.mpr ⟨(zTw_of (zt_in_2 (List.mem_of_getElem? (i := 193) rfl)) rfl : Cond.lays "SchemeEleven$Pattern" "SchemeEleven$Pattern" "outer" "I" ∈ zTw), List.forall_mem_cons.mpr ⟨(zTw_of (zt_in_2 (List.mem_of_getElem? (i := 195) rfl)) rfl : Cond.lays "SchemeEleven$Pattern" "SchemeEleven$Pattern" "variableAt" "I" ∈ zTw), List.forall_mem_cons.mpr ⟨(zTw_of (zt_in_2 (List.mem_of_getElem? (i := 197) rfl)) rfl : Cond.lays "SchemeEleven$Pattern" "SchemeEleven$Pattern" "groupAt" "I" ∈ zTw), List.forall_mem_cons.mpr ⟨(zTw_of (zt_in_2 (List.mem_of_getElem? (i := 199) rfl)) rfl : Cond.laysFinal "SchemeEleven$Pattern" "SchemeEleven$Pattern" "abreast" "[I" ∈ zTw), List.forall_mem_cons.mpr ⟨(zTw_of (zt_in_2 (List.mem_of_getElem? (i := 201) rfl)) rfl : Cond.laysFinal "SchemeEleven$Pattern" "SchemeEleven$Pattern" "abreastCount" "[I" ∈ zTw), fun _ h => absurd h List.not_mem_nil⟩⟩⟩⟩⟩⟩⟩⟩⟩⟩⟩⟩⟩⟩⟩⟩⟩⟩⟩
theorem kls_4 : zKls vwCl zTw 4 "SchemeEleven$Pattern" TX4 19 tyX4 := ⟨by decide, rfl, zin_4, tyX4_ok, nmX4⟩
theorem zdf_4 : ∀ j, j < 19 → zcv zcl_4 j ≤ 4294967296 ∧ defaultValue (tyX4 j) = zv (fun _ => 0) (zcv zcl_4 j) := by decide +kernel
set_option maxRecDepth 100000 in
theorem zin_5 : ∀ w ∈ u_ws RX5 TX5 10, w ∈ zTw := by
  rw [show u_ws RX5 TX5 10 = [Cond.laysFinal "SchemeEleven$Reader" "SchemeEleven$Reader" "text" "LSchemeEleven$Text;", Cond.laysFinal "SchemeEleven$Reader" "SchemeEleven$Reader" "image" "LSchemeEleven$Image;", Cond.laysFinal "SchemeEleven$Reader" "SchemeEleven$Reader" "heads" "[I", Cond.lays "SchemeEleven$Reader" "SchemeEleven$Reader" "forms" "I", Cond.laysFinal "SchemeEleven$Reader" "SchemeEleven$Reader" "states" "[I", Cond.laysFinal "SchemeEleven$Reader" "SchemeEleven$Reader" "begins" "[I", Cond.laysFinal "SchemeEleven$Reader" "SchemeEleven$Reader" "lists" "[I", Cond.laysFinal "SchemeEleven$Reader" "SchemeEleven$Reader" "lasts" "[I", Cond.lays "SchemeEleven$Reader" "SchemeEleven$Reader" "open" "I", Cond.lays "SchemeEleven$Reader" "SchemeEleven$Reader" "ended" "I"] by decide +kernel]
  exact List.forall_mem_cons.mpr ⟨(zTw_of (zt_in_2 (List.mem_of_getElem? (i := 107) rfl)) rfl : Cond.laysFinal "SchemeEleven$Reader" "SchemeEleven$Reader" "text" "LSchemeEleven$Text;" ∈ zTw), List.forall_mem_cons.mpr ⟨(zTw_of (zt_in_2 (List.mem_of_getElem? (i := 109) rfl)) rfl : Cond.laysFinal "SchemeEleven$Reader" "SchemeEleven$Reader" "image" "LSchemeEleven$Image;" ∈ zTw), List.forall_mem_cons.mpr ⟨(zTw_of (zt_in_2 (List.mem_of_getElem? (i := 111) rfl)) rfl : Cond.laysFinal "SchemeEleven$Reader" "SchemeEleven$Reader" "heads" "[I" ∈ zTw), List.forall_mem_cons.mpr ⟨(zTw_of (zt_in_2 (List.mem_of_getElem? (i := 113) rfl)) rfl : Cond.lays "SchemeEleven$Reader" "SchemeEleven$Reader" "forms" "I" ∈ zTw), List.forall_mem_cons.mpr ⟨(zTw_of (zt_in_2 (List.mem_of_getElem? (i := 115) rfl)) rfl : Cond.laysFinal "SchemeEleven$Reader" "SchemeEleven$Reader" "states" "[I" ∈ zTw), List.forall_mem_cons.mpr ⟨(zTw_of (zt_in_2 (List.mem_of_getElem? (i := 117) rfl)) rfl : Cond.laysFinal "SchemeEleven$Reader" "SchemeEleven$Reader" "begins" "[I" ∈ zTw), List.forall_mem_cons.mpr ⟨(zTw_of (zt_in_2 (List.mem_of_getElem? (i := 119) rfl)) rfl : Cond.laysFinal "SchemeEleven$Reader" "SchemeEleven$Reader" "lists" "[I" ∈ zTw), List.forall_mem_cons.mpr ⟨(zTw_of (zt_in_2 (List.mem_of_getElem? (i := 121) rfl)) rfl : Cond.laysFinal "SchemeEleven$Reader" "SchemeEleven$Reader" "lasts" "[I" ∈ zTw), List.forall_mem_cons.mpr ⟨(zTw_of (zt_in_2 (List.mem_of_getElem? (i := 123) rfl)) rfl : Cond.lays "SchemeEleven$Reader" "SchemeEleven$Reader" "open" "I" ∈ zTw), List.forall_mem_cons.mpr ⟨(zTw_of (zt_in_2 (List.mem_of_getElem? (i := 125) rfl)) rfl : Cond.lays "SchemeEleven$Reader" "SchemeEleven$Reader" "ended" "I" ∈ zTw), fun _ h => absurd h List.not_mem_nil⟩⟩⟩⟩⟩⟩⟩⟩⟩⟩
theorem kls_5 : zKls vwCl zTw 5 "SchemeEleven$Reader" TX5 10 tyX5 := ⟨by decide, rfl, zin_5, tyX5_ok, nmX5⟩
theorem zdf_5 : ∀ j, j < 10 → zcv zcl_5 j ≤ 4294967296 ∧ defaultValue (tyX5 j) = zv (fun _ => 0) (zcv zcl_5 j) := by decide +kernel
set_option maxRecDepth 100000 in
theorem zin_6 : ∀ w ∈ u_ws RX6 TX6 15, w ∈ zTw := by
  rw [show u_ws RX6 TX6 15 = [Cond.laysFinal "SchemeEleven$Runner" "SchemeEleven$Runner" "machine" "LSchemeEleven$Machine;", Cond.laysFinal "SchemeEleven$Runner" "SchemeEleven$Runner" "\x72" "[I", Cond.laysFinal "SchemeEleven$Runner" "SchemeEleven$Runner" "heap" "LSchemeEleven$Heap;", Cond.laysFinal "SchemeEleven$Runner" "SchemeEleven$Runner" "scribe" "LSchemeEleven$Scribe;", Cond.laysFinal "SchemeEleven$Runner" "SchemeEleven$Runner" "waiting" "[I", Cond.lays "SchemeEleven$Runner" "SchemeEleven$Runner" "first" "I", Cond.lays "SchemeEleven$Runner" "SchemeEleven$Runner" "waits" "I", Cond.lays "SchemeEleven$Runner" "SchemeEleven$Runner" "underWay" "Z", Cond.lays "SchemeEleven$Runner" "SchemeEleven$Runner" "done" "I", Cond.lays "SchemeEleven$Runner" "SchemeEleven$Runner" "error" "I", Cond.laysFinal "SchemeEleven$Runner" "SchemeEleven$Runner" "row" "[I", Cond.lays "SchemeEleven$Runner" "SchemeEleven$Runner" "arguments" "I", Cond.lays "SchemeEleven$Runner" "SchemeEleven$Runner" "procedure" "I", Cond.laysFinal "SchemeEleven$Runner" "SchemeEleven$Runner" "input" "[I", Cond.lays "SchemeEleven$Runner" "SchemeEleven$Runner" "inputs" "I"] by decide +kernel]
  exact List.forall_mem_cons.mpr ⟨(zTw_of (zt_in_1 (List.mem_of_getElem? (i := 207) rfl)) rfl : Cond.laysFinal "SchemeEleven$Runner" "SchemeEleven$Runner" "machine" "LSchemeEleven$Machine;" ∈ zTw), List.forall_mem_cons.mpr ⟨(zTw_of (zt_in_1 (List.mem_of_getElem? (i := 209) rfl)) rfl : Cond.laysFinal "SchemeEleven$Runner" "SchemeEleven$Runner" "\x72" "[I" ∈ zTw), List.forall_mem_cons.mpr ⟨(zTw_of (zt_in_1 (List.mem_of_getElem? (i := 211) rfl)) rfl : Cond.laysFinal "SchemeEleven$Runner" "SchemeEleven$Runner" "heap" "LSchemeEleven$Heap;" ∈ zTw), List.forall_mem_cons.mpr ⟨(zTw_of (zt_in_1 (List.mem_of_getElem? (i := 213) rfl)) rfl : Cond.laysFinal "SchemeEleven$Runner" "SchemeEleven$Runner" "scribe" "LSchemeEleven$Scribe;" ∈ zTw), List.forall_mem_cons.mpr ⟨(zTw_of (zt_in_1 (List.mem_of_getElem? (i := 215) rfl)) rfl : Cond.laysFinal "SchemeEleven$Runner" "SchemeEleven$Runner" "waiting" "[I" ∈ zTw), List.forall_mem_cons.mpr ⟨(zTw_of (zt_in_1 (List.mem_of_getElem? (i := 217) rfl)) rfl : Cond.lays "SchemeEleven$Runner" "SchemeEleven$Runner" "first" "I" ∈ zTw), List.forall_mem_cons.mpr ⟨(zTw_of (zt_in_1 (List.mem_of_getElem? (i := 219) rfl)) rfl : Cond.lays "SchemeEleven$Runner" "SchemeEleven$Runner" "waits" "I" ∈ zTw), List.forall_mem_cons.mpr ⟨(zTw_of (zt_in_1 (List.mem_of_getElem? (i := 221) rfl)) rfl : Cond.lays "SchemeEleven$Runner" "SchemeEleven$Runner" "underWay" "Z" ∈ zTw), List.forall_mem_cons.mpr ⟨(zTw_of (zt_in_1 (List.mem_of_getElem? (i := 223) rfl)) rfl : Cond.lays "SchemeEleven$Runner" "SchemeEleven$Runner" "done" "I" ∈ zTw), List.forall_mem_cons.mpr ⟨(zTw_of (zt_in_1 (List.mem_of_getElem? (i := 225) rfl)) rfl : Cond.lays "SchemeEleven$Runner" "SchemeEleven$Runner" "error" "I" ∈ zTw), List.forall_mem_cons.mpr ⟨(zTw_of (zt_in_1 (List.mem_of_getElem? (i := 227) rfl)) rfl : Cond.laysFinal "SchemeEleven$Runner" "SchemeEleven$Runner" "row" "[I" ∈ zTw), List.forall_mem_cons.mpr ⟨(zTw_of (zt_in_1 (List.mem_of_getElem? (i := 229) rfl)) rfl : Cond.lays "SchemeEleven$Runner" "SchemeEleven$Runner" "arguments" "I" ∈ zTw), List.forall_mem_cons.mpr ⟨(zTw_of (zt_in_1 (List.mem_of_getElem? (i := 231) rfl)) rfl : Cond.lays "SchemeEleven$Runner" "SchemeEleven$Runner" "procedure" "I" ∈ zTw), List.forall_mem_cons.mpr ⟨(zTw_of (zt_in_1 (List.mem_of_getElem? (i := 233) rfl)) rfl : Cond.laysFinal "SchemeEleven$Runner" "SchemeEleven$Runner" "input" "[I" ∈ zTw), List.forall_mem_cons.mpr ⟨(zTw_of (zt_in_1 (List.mem_of_getElem? (i := 235) rfl)) rfl : Cond.lays "SchemeEleven$Runner" "SchemeEleven$Runner" "inputs" "I" ∈ zTw), fun _ h => absurd h List.not_mem_nil⟩⟩⟩⟩⟩⟩⟩⟩⟩⟩⟩⟩⟩⟩⟩
theorem kls_6 : zKls vwCl zTw 6 "SchemeEleven$Runner" TX6 15 tyX6 := ⟨by decide, rfl, zin_6, tyX6_ok, nmX6⟩
theorem zdf_6 : ∀ j, j < 15 → zcv zcl_6 j ≤ 4294967296 ∧ defaultValue (tyX6 j) = zv (fun _ => 0) (zcv zcl_6 j) := by decide +kernel
set_option maxRecDepth 100000 in
theorem zin_7 : ∀ w ∈ u_ws RX7 TX7 15, w ∈ zTw := by
  rw [show u_ws RX7 TX7 15 = [Cond.laysFinal "SchemeEleven$Scopes" "SchemeEleven$Scopes" "text" "LSchemeEleven$Text;", Cond.laysFinal "SchemeEleven$Scopes" "SchemeEleven$Scopes" "names" "[I", Cond.laysFinal "SchemeEleven$Scopes" "SchemeEleven$Scopes" "infos" "[I", Cond.laysFinal "SchemeEleven$Scopes" "SchemeEleven$Scopes" "outers" "[I", Cond.laysFinal "SchemeEleven$Scopes" "SchemeEleven$Scopes" "nexts" "[I", Cond.lays "SchemeEleven$Scopes" "SchemeEleven$Scopes" "told" "I", Cond.laysFinal "SchemeEleven$Scopes" "SchemeEleven$Scopes" "rules" "[I", Cond.laysFinal "SchemeEleven$Scopes" "SchemeEleven$Scopes" "parts" "[I", Cond.laysFinal "SchemeEleven$Scopes" "SchemeEleven$Scopes" "oldRules" "[I", Cond.laysFinal "SchemeEleven$Scopes" "SchemeEleven$Scopes" "oldParts" "[I", Cond.lays "SchemeEleven$Scopes" "SchemeEleven$Scopes" "macros" "I", Cond.lays "SchemeEleven$Scopes" "SchemeEleven$Scopes" "allParts" "I", Cond.lays "SchemeEleven$Scopes" "SchemeEleven$Scopes" "oldMacros" "I", Cond.lays "SchemeEleven$Scopes" "SchemeEleven$Scopes" "oldAllParts" "I", Cond.lays "SchemeEleven$Scopes" "SchemeEleven$Scopes" "changed" "Z"] by decide +kernel]
  exact List.forall_mem_cons.mpr ⟨(zTw_of (zt_in_2 (List.mem_of_getElem? (i := 59) rfl)) rfl : Cond.laysFinal "SchemeEleven$Scopes" "SchemeEleven$Scopes" "text" "LSchemeEleven$Text;" ∈ zTw), List.forall_mem_cons.mpr ⟨(zTw_of (zt_in_2 (List.mem_of_getElem? (i := 61) rfl)) rfl : Cond.laysFinal "SchemeEleven$Scopes" "SchemeEleven$Scopes" "names" "[I" ∈ zTw), List.forall_mem_cons.mpr ⟨(zTw_of (zt_in_2 (List.mem_of_getElem? (i := 63) rfl)) rfl : Cond.laysFinal "SchemeEleven$Scopes" "SchemeEleven$Scopes" "infos" "[I" ∈ zTw), List.forall_mem_cons.mpr ⟨(zTw_of (zt_in_2 (List.mem_of_getElem? (i := 65) rfl)) rfl : Cond.laysFinal "SchemeEleven$Scopes" "SchemeEleven$Scopes" "outers" "[I" ∈ zTw), List.forall_mem_cons.mpr ⟨(zTw_of (zt_in_2 (List.mem_of_getElem? (i := 67) rfl)) rfl : Cond.laysFinal "SchemeEleven$Scopes" "SchemeEleven$Scopes" "nexts" "[I" ∈ zTw), List.forall_mem_cons.mpr ⟨(zTw_of (zt_in_2 (List.mem_of_getElem? (i := 69) rfl)) rfl : Cond.lays "SchemeEleven$Scopes" "SchemeEleven$Scopes" "told" "I" ∈ zTw), List.forall_mem_cons.mpr ⟨(zTw_of (zt_in_2 (List.mem_of_getElem? (i := 71) rfl)) rfl : Cond.laysFinal "SchemeEleven$Scopes" "SchemeEleven$Scopes" "rules" "[I" ∈ zTw), List.forall_mem_cons.mpr ⟨(zTw_of (zt_in_2 (List.mem_of_getElem? (i := 73) rfl)) rfl : Cond.laysFinal "SchemeEleven$Scopes" "SchemeEleven$Scopes" "parts" "[I" ∈ zTw), List.forall_mem_cons.mpr ⟨(zTw_of (zt_in_2 (List.mem_of_getElem? (i := 75) rfl)) rfl : Cond.laysFinal "SchemeEleven$Scopes" "SchemeEleven$Scopes" "oldRules" "[I" ∈ zTw), List.forall_mem_cons.mpr ⟨(zTw_of (zt_in_2 (List.mem_of_getElem? (i := 77) rfl)) rfl : Cond.laysFinal "SchemeEleven$Scopes" "SchemeEleven$Scopes" "oldParts" "[I" ∈ zTw), List.forall_mem_cons.mpr ⟨(zTw_of (zt_in_2 (List.mem_of_getElem? (i := 79) rfl)) rfl : Cond.lays "SchemeEleven$Scopes" "SchemeEleven$Scopes" "macros" "I" ∈ zTw), List.forall_mem_cons.mpr ⟨(zTw_of (zt_in_2 (List.mem_of_getElem? (i := 81) rfl)) rfl : Cond.lays "SchemeEleven$Scopes" "SchemeEleven$Scopes" "allParts" "I" ∈ zTw), List.forall_mem_cons.mpr ⟨(zTw_of (zt_in_2 (List.mem_of_getElem? (i := 83) rfl)) rfl : Cond.lays "SchemeEleven$Scopes" "SchemeEleven$Scopes" "oldMacros" "I" ∈ zTw), List.forall_mem_cons.mpr ⟨(zTw_of (zt_in_2 (List.mem_of_getElem? (i := 85) rfl)) rfl : Cond.lays "SchemeEleven$Scopes" "SchemeEleven$Scopes" "oldAllParts" "I" ∈ zTw), List.forall_mem_cons.mpr ⟨(zTw_of (zt_in_2 (List.mem_of_getElem? (i := 87) rfl)) rfl : Cond.lays "SchemeEleven$Scopes" "SchemeEleven$Scopes" "changed" "Z" ∈ zTw), fun _ h => absurd h List.not_mem_nil⟩⟩⟩⟩⟩⟩⟩⟩⟩⟩⟩⟩⟩⟩⟩
theorem kls_7 : zKls vwCl zTw 7 "SchemeEleven$Scopes" TX7 15 tyX7 := ⟨by decide, rfl, zin_7, tyX7_ok, nmX7⟩
theorem zdf_7 : ∀ j, j < 15 → zcv zcl_7 j ≤ 4294967296 ∧ defaultValue (tyX7 j) = zv (fun _ => 0) (zcv zcl_7 j) := by decide +kernel
set_option maxRecDepth 100000 in
theorem zin_8 : ∀ w ∈ u_ws RX8 TX8 9, w ∈ zTw := by
  rw [show u_ws RX8 TX8 9 = [Cond.laysFinal "SchemeEleven$Scribe" "SchemeEleven$Scribe" "image" "LSchemeEleven$Image;", Cond.laysFinal "SchemeEleven$Scribe" "SchemeEleven$Scribe" "heap" "LSchemeEleven$Heap;", Cond.laysFinal "SchemeEleven$Scribe" "SchemeEleven$Scribe" "line" "[I", Cond.lays "SchemeEleven$Scribe" "SchemeEleven$Scribe" "length" "I", Cond.lays "SchemeEleven$Scribe" "SchemeEleven$Scribe" "parts" "I", Cond.lays "SchemeEleven$Scribe" "SchemeEleven$Scribe" "ended" "Z", Cond.laysFinal "SchemeEleven$Scribe" "SchemeEleven$Scribe" "paper" "[I", Cond.lays "SchemeEleven$Scribe" "SchemeEleven$Scribe" "kept" "I", Cond.lays "SchemeEleven$Scribe" "SchemeEleven$Scribe" "written" "I"] by decide +kernel]
  exact List.forall_mem_cons.mpr ⟨(zTw_of (zt_in_1 (List.mem_of_getElem? (i := 163) rfl)) rfl : Cond.laysFinal "SchemeEleven$Scribe" "SchemeEleven$Scribe" "image" "LSchemeEleven$Image;" ∈ zTw), List.forall_mem_cons.mpr ⟨(zTw_of (zt_in_1 (List.mem_of_getElem? (i := 165) rfl)) rfl : Cond.laysFinal "SchemeEleven$Scribe" "SchemeEleven$Scribe" "heap" "LSchemeEleven$Heap;" ∈ zTw), List.forall_mem_cons.mpr ⟨(zTw_of (zt_in_1 (List.mem_of_getElem? (i := 167) rfl)) rfl : Cond.laysFinal "SchemeEleven$Scribe" "SchemeEleven$Scribe" "line" "[I" ∈ zTw), List.forall_mem_cons.mpr ⟨(zTw_of (zt_in_1 (List.mem_of_getElem? (i := 169) rfl)) rfl : Cond.lays "SchemeEleven$Scribe" "SchemeEleven$Scribe" "length" "I" ∈ zTw), List.forall_mem_cons.mpr ⟨(zTw_of (zt_in_1 (List.mem_of_getElem? (i := 171) rfl)) rfl : Cond.lays "SchemeEleven$Scribe" "SchemeEleven$Scribe" "parts" "I" ∈ zTw), List.forall_mem_cons.mpr ⟨(zTw_of (zt_in_1 (List.mem_of_getElem? (i := 173) rfl)) rfl : Cond.lays "SchemeEleven$Scribe" "SchemeEleven$Scribe" "ended" "Z" ∈ zTw), List.forall_mem_cons.mpr ⟨(zTw_of (zt_in_1 (List.mem_of_getElem? (i := 175) rfl)) rfl : Cond.laysFinal "SchemeEleven$Scribe" "SchemeEleven$Scribe" "paper" "[I" ∈ zTw), List.forall_mem_cons.mpr ⟨(zTw_of (zt_in_1 (List.mem_of_getElem? (i := 177) rfl)) rfl : Cond.lays "SchemeEleven$Scribe" "SchemeEleven$Scribe" "kept" "I" ∈ zTw), List.forall_mem_cons.mpr ⟨(zTw_of (zt_in_1 (List.mem_of_getElem? (i := 179) rfl)) rfl : Cond.lays "SchemeEleven$Scribe" "SchemeEleven$Scribe" "written" "I" ∈ zTw), fun _ h => absurd h List.not_mem_nil⟩⟩⟩⟩⟩⟩⟩⟩⟩
theorem kls_8 : zKls vwCl zTw 8 "SchemeEleven$Scribe" TX8 9 tyX8 := ⟨by decide, rfl, zin_8, tyX8_ok, nmX8⟩
theorem zdf_8 : ∀ j, j < 9 → zcv zcl_8 j ≤ 4294967296 ∧ defaultValue (tyX8 j) = zv (fun _ => 0) (zcv zcl_8 j) := by decide +kernel
set_option maxRecDepth 100000 in
theorem zin_9 : ∀ w ∈ u_ws RX9 TX9 11, w ∈ zTw := by
  rw [show u_ws RX9 TX9 11 = [Cond.laysFinal "SchemeEleven$Spreader" "SchemeEleven$Spreader" "text" "LSchemeEleven$Text;", Cond.laysFinal "SchemeEleven$Spreader" "SchemeEleven$Spreader" "scopes" "LSchemeEleven$Scopes;", Cond.laysFinal "SchemeEleven$Spreader" "SchemeEleven$Spreader" "pattern" "LSchemeEleven$Pattern;", Cond.lays "SchemeEleven$Spreader" "SchemeEleven$Spreader" "uses" "I", Cond.lays "SchemeEleven$Spreader" "SchemeEleven$Spreader" "made" "I", Cond.lays "SchemeEleven$Spreader" "SchemeEleven$Spreader" "seen" "I", Cond.lays "SchemeEleven$Spreader" "SchemeEleven$Spreader" "useScope" "I", Cond.lays "SchemeEleven$Spreader" "SchemeEleven$Spreader" "toldScope" "I", Cond.lays "SchemeEleven$Spreader" "SchemeEleven$Spreader" "place" "I", Cond.laysFinal "SchemeEleven$Spreader" "SchemeEleven$Spreader" "aliases" "[I", Cond.lays "SchemeEleven$Spreader" "SchemeEleven$Spreader" "aliased" "I"] by decide +kernel]
  exact List.forall_mem_cons.mpr ⟨(zTw_of (zt_in_2 (List.mem_of_getElem? (i := 215) rfl)) rfl : Cond.laysFinal "SchemeEleven$Spreader" "SchemeEleven$Spreader" "text" "LSchemeEleven$Text;" ∈ zTw), List.forall_mem_cons.mpr ⟨(zTw_of (zt_in_2 (List.mem_of_getElem? (i := 217) rfl)) rfl : Cond.laysFinal "SchemeEleven$Spreader" "SchemeEleven$Spreader" "scopes" "LSchemeEleven$Scopes;" ∈ zTw), List.forall_mem_cons.mpr ⟨(zTw_of (zt_in_2 (List.mem_of_getElem? (i := 219) rfl)) rfl : Cond.laysFinal "SchemeEleven$Spreader" "SchemeEleven$Spreader" "pattern" "LSchemeEleven$Pattern;" ∈ zTw), List.forall_mem_cons.mpr ⟨(zTw_of (zt_in_2 (List.mem_of_getElem? (i := 221) rfl)) rfl : Cond.lays "SchemeEleven$Spreader" "SchemeEleven$Spreader" "uses" "I" ∈ zTw), List.forall_mem_cons.mpr ⟨(zTw_of (zt_in_2 (List.mem_of_getElem? (i := 223) rfl)) rfl : Cond.lays "SchemeEleven$Spreader" "SchemeEleven$Spreader" "made" "I" ∈ zTw), List.forall_mem_cons.mpr ⟨(zTw_of (zt_in_2 (List.mem_of_getElem? (i := 225) rfl)) rfl : Cond.lays "SchemeEleven$Spreader" "SchemeEleven$Spreader" "seen" "I" ∈ zTw), List.forall_mem_cons.mpr ⟨(zTw_of (zt_in_2 (List.mem_of_getElem? (i := 227) rfl)) rfl : Cond.lays "SchemeEleven$Spreader" "SchemeEleven$Spreader" "useScope" "I" ∈ zTw), List.forall_mem_cons.mpr ⟨(zTw_of (zt_in_2 (List.mem_of_getElem? (i := 229) rfl)) rfl : Cond.lays "SchemeEleven$Spreader" "SchemeEleven$Spreader" "toldScope" "I" ∈ zTw), List.forall_mem_cons.mpr ⟨(zTw_of (zt_in_2 (List.mem_of_getElem? (i := 231) rfl)) rfl : Cond.lays "SchemeEleven$Spreader" "SchemeEleven$Spreader" "place" "I" ∈ zTw), List.forall_mem_cons.mpr ⟨(zTw_of (zt_in_2 (List.mem_of_getElem? (i := 233) rfl)) rfl : Cond.laysFinal "SchemeEleven$Spreader" "SchemeEleven$Spreader" "aliases" "[I" ∈ zTw), List.forall_mem_cons.mpr ⟨(zTw_of (zt_in_2 (List.mem_of_getElem? (i := 235) rfl)) rfl : Cond.lays "SchemeEleven$Spreader" "SchemeEleven$Spreader" "aliased" "I" ∈ zTw), fun _ h => absurd h List.not_mem_nil⟩⟩⟩⟩⟩⟩⟩⟩⟩⟩⟩
theorem kls_9 : zKls vwCl zTw 9 "SchemeEleven$Spreader" TX9 11 tyX9 := ⟨by decide, rfl, zin_9, tyX9_ok, nmX9⟩
theorem zdf_9 : ∀ j, j < 11 → zcv zcl_9 j ≤ 4294967296 ∧ defaultValue (tyX9 j) = zv (fun _ => 0) (zcv zcl_9 j) := by decide +kernel
set_option maxRecDepth 100000 in
theorem zin_10 : ∀ w ∈ u_ws RX10 TX10 9, w ∈ zTw := by
  rw [show u_ws RX10 TX10 9 = [Cond.laysFinal "SchemeEleven$Text" "SchemeEleven$Text" "tags" "[I", Cond.laysFinal "SchemeEleven$Text" "SchemeEleven$Text" "firsts" "[I", Cond.laysFinal "SchemeEleven$Text" "SchemeEleven$Text" "seconds" "[I", Cond.lays "SchemeEleven$Text" "SchemeEleven$Text" "used" "I", Cond.lays "SchemeEleven$Text" "SchemeEleven$Text" "half" "I", Cond.lays "SchemeEleven$Text" "SchemeEleven$Text" "keptUsed" "I", Cond.lays "SchemeEleven$Text" "SchemeEleven$Text" "fault" "I", Cond.lays "SchemeEleven$Text" "SchemeEleven$Text" "faultPlace" "I", Cond.lays "SchemeEleven$Text" "SchemeEleven$Text" "measured" "I"] by decide +kernel]
  exact List.forall_mem_cons.mpr ⟨(zTw_of (zt_in_2 (List.mem_of_getElem? (i := 18) rfl)) rfl : Cond.laysFinal "SchemeEleven$Text" "SchemeEleven$Text" "tags" "[I" ∈ zTw), List.forall_mem_cons.mpr ⟨(zTw_of (zt_in_2 (List.mem_of_getElem? (i := 20) rfl)) rfl : Cond.laysFinal "SchemeEleven$Text" "SchemeEleven$Text" "firsts" "[I" ∈ zTw), List.forall_mem_cons.mpr ⟨(zTw_of (zt_in_2 (List.mem_of_getElem? (i := 22) rfl)) rfl : Cond.laysFinal "SchemeEleven$Text" "SchemeEleven$Text" "seconds" "[I" ∈ zTw), List.forall_mem_cons.mpr ⟨(zTw_of (zt_in_2 (List.mem_of_getElem? (i := 24) rfl)) rfl : Cond.lays "SchemeEleven$Text" "SchemeEleven$Text" "used" "I" ∈ zTw), List.forall_mem_cons.mpr ⟨(zTw_of (zt_in_2 (List.mem_of_getElem? (i := 26) rfl)) rfl : Cond.lays "SchemeEleven$Text" "SchemeEleven$Text" "half" "I" ∈ zTw), List.forall_mem_cons.mpr ⟨(zTw_of (zt_in_2 (List.mem_of_getElem? (i := 28) rfl)) rfl : Cond.lays "SchemeEleven$Text" "SchemeEleven$Text" "keptUsed" "I" ∈ zTw), List.forall_mem_cons.mpr ⟨(zTw_of (zt_in_2 (List.mem_of_getElem? (i := 30) rfl)) rfl : Cond.lays "SchemeEleven$Text" "SchemeEleven$Text" "fault" "I" ∈ zTw), List.forall_mem_cons.mpr ⟨(zTw_of (zt_in_2 (List.mem_of_getElem? (i := 32) rfl)) rfl : Cond.lays "SchemeEleven$Text" "SchemeEleven$Text" "faultPlace" "I" ∈ zTw), List.forall_mem_cons.mpr ⟨(zTw_of (zt_in_2 (List.mem_of_getElem? (i := 34) rfl)) rfl : Cond.lays "SchemeEleven$Text" "SchemeEleven$Text" "measured" "I" ∈ zTw), fun _ h => absurd h List.not_mem_nil⟩⟩⟩⟩⟩⟩⟩⟩⟩
theorem kls_10 : zKls vwCl zTw 10 "SchemeEleven$Text" TX10 9 tyX10 := ⟨by decide, rfl, zin_10, tyX10_ok, nmX10⟩
theorem zdf_10 : ∀ j, j < 9 → zcv zcl_10 j ≤ 4294967296 ∧ defaultValue (tyX10 j) = zv (fun _ => 0) (zcv zcl_10 j) := by decide +kernel
set_option maxRecDepth 100000 in
theorem zin_11 : ∀ w ∈ u_ws RX11 TX11 18, w ∈ zTw := by
  rw [show u_ws RX11 TX11 18 = [Cond.laysFinal "SchemeEleven" "SchemeEleven" "tape" "[I", Cond.lays "SchemeEleven" "SchemeEleven" "taped" "I", Cond.laysFinal "SchemeEleven" "SchemeEleven" "bench" "LSchemeEleven$Machine;", Cond.lays "SchemeEleven" "SchemeEleven" "benchSteps" "I", Cond.laysFinal "SchemeEleven" "SchemeEleven" "machine" "LSchemeEleven$Machine;", Cond.laysFinal "SchemeEleven" "SchemeEleven" "image" "LSchemeEleven$Image;", Cond.laysFinal "SchemeEleven" "SchemeEleven" "heap" "LSchemeEleven$Heap;", Cond.laysFinal "SchemeEleven" "SchemeEleven" "scribe" "LSchemeEleven$Scribe;", Cond.laysFinal "SchemeEleven" "SchemeEleven" "runner" "LSchemeEleven$Runner;", Cond.laysFinal "SchemeEleven" "SchemeEleven" "text" "LSchemeEleven$Text;", Cond.laysFinal "SchemeEleven" "SchemeEleven" "scopes" "LSchemeEleven$Scopes;", Cond.laysFinal "SchemeEleven" "SchemeEleven" "reader" "LSchemeEleven$Reader;", Cond.laysFinal "SchemeEleven" "SchemeEleven" "coder" "LSchemeEleven$Coder;", Cond.laysFinal "SchemeEleven" "SchemeEleven" "starts" "[I", Cond.laysFinal "SchemeEleven" "SchemeEleven" "page" "[I", Cond.lays "SchemeEleven" "SchemeEleven" "paged" "I", Cond.lays "SchemeEleven" "SchemeEleven" "faultKind" "I", Cond.lays "SchemeEleven" "SchemeEleven" "faultPlace" "I"] by decide +kernel]
  exact List.forall_mem_cons.mpr ⟨(zTw_of (zt_in_6 (List.mem_of_getElem? (i := 72) rfl)) rfl : Cond.laysFinal "SchemeEleven" "SchemeEleven" "tape" "[I" ∈ zTw), List.forall_mem_cons.mpr ⟨(zTw_of (zt_in_6 (List.mem_of_getElem? (i := 74) rfl)) rfl : Cond.lays "SchemeEleven" "SchemeEleven" "taped" "I" ∈ zTw), List.forall_mem_cons.mpr ⟨(zTw_of (zt_in_6 (List.mem_of_getElem? (i := 76) rfl)) rfl : Cond.laysFinal "SchemeEleven" "SchemeEleven" "bench" "LSchemeEleven$Machine;" ∈ zTw), List.forall_mem_cons.mpr ⟨(zTw_of (zt_in_6 (List.mem_of_getElem? (i := 78) rfl)) rfl : Cond.lays "SchemeEleven" "SchemeEleven" "benchSteps" "I" ∈ zTw), List.forall_mem_cons.mpr ⟨(zTw_of (zt_in_6 (List.mem_of_getElem? (i := 80) rfl)) rfl : Cond.laysFinal "SchemeEleven" "SchemeEleven" "machine" "LSchemeEleven$Machine;" ∈ zTw), List.forall_mem_cons.mpr ⟨(zTw_of (zt_in_6 (List.mem_of_getElem? (i := 82) rfl)) rfl : Cond.laysFinal "SchemeEleven" "SchemeEleven" "image" "LSchemeEleven$Image;" ∈ zTw), List.forall_mem_cons.mpr ⟨(zTw_of (zt_in_6 (List.mem_of_getElem? (i := 84) rfl)) rfl : Cond.laysFinal "SchemeEleven" "SchemeEleven" "heap" "LSchemeEleven$Heap;" ∈ zTw), List.forall_mem_cons.mpr ⟨(zTw_of (zt_in_6 (List.mem_of_getElem? (i := 86) rfl)) rfl : Cond.laysFinal "SchemeEleven" "SchemeEleven" "scribe" "LSchemeEleven$Scribe;" ∈ zTw), List.forall_mem_cons.mpr ⟨(zTw_of (zt_in_6 (List.mem_of_getElem? (i := 88) rfl)) rfl : Cond.laysFinal "SchemeEleven" "SchemeEleven" "runner" "LSchemeEleven$Runner;" ∈ zTw), List.forall_mem_cons.mpr ⟨(zTw_of (zt_in_6 (List.mem_of_getElem? (i := 90) rfl)) rfl : Cond.laysFinal "SchemeEleven" "SchemeEleven" "text" "LSchemeEleven$Text;" ∈ zTw), List.forall_mem_cons.mpr ⟨(zTw_of (zt_in_6 (List.mem_of_getElem? (i := 92) rfl)) rfl : Cond.laysFinal "SchemeEleven" "SchemeEleven" "scopes" "LSchemeEleven$Scopes;" ∈ zTw), List.forall_mem_cons.mpr ⟨(zTw_of (zt_in_6 (List.mem_of_getElem? (i := 94) rfl)) rfl : Cond.laysFinal "SchemeEleven" "SchemeEleven" "reader" "LSchemeEleven$Reader;" ∈ zTw), List.forall_mem_cons.mpr ⟨(zTw_of (zt_in_6 (List.mem_of_getElem? (i := 96) rfl)) rfl : Cond.laysFinal "SchemeEleven" "SchemeEleven" "coder" "LSchemeEleven$Coder;" ∈ zTw), List.forall_mem_cons.mpr ⟨(zTw_of (zt_in_6 (List.mem_of_getElem? (i := 98) rfl)) rfl : Cond.laysFinal "SchemeEleven" "SchemeEleven" "starts" "[I" ∈ zTw), List.forall_mem_cons.mpr ⟨(zTw_of (zt_in_6 (List.mem_of_getElem? (i := 100) rfl)) rfl : Cond.laysFinal "SchemeEleven" "SchemeEleven" "page" "[I" ∈ zTw), List.forall_mem_cons.mpr ⟨(zTw_of (zt_in_6 (List.mem_of_getElem? (i := 102) rfl)) rfl : Cond.lays "SchemeEleven" "SchemeEleven" "paged" "I" ∈ zTw), List.forall_mem_cons.mpr ⟨(zTw_of (zt_in_6 (List.mem_of_getElem? (i := 104) rfl)) rfl : Cond.lays "SchemeEleven" "SchemeEleven" "faultKind" "I" ∈ zTw), List.forall_mem_cons.mpr ⟨(zTw_of (zt_in_6 (List.mem_of_getElem? (i := 106) rfl)) rfl : Cond.lays "SchemeEleven" "SchemeEleven" "faultPlace" "I" ∈ zTw), fun _ h => absurd h List.not_mem_nil⟩⟩⟩⟩⟩⟩⟩⟩⟩⟩⟩⟩⟩⟩⟩⟩⟩⟩
theorem kls_11 : zKls vwCl zTw 11 "SchemeEleven" TX11 18 tyX11 := ⟨by decide, rfl, zin_11, tyX11_ok, nmX11⟩
theorem zdf_11 : ∀ j, j < 18 → zcv zcl_11 j ≤ 4294967296 ∧ defaultValue (tyX11 j) = zv (fun _ => 0) (zcv zcl_11 j) := by decide +kernel
set_option maxRecDepth 100000 in
theorem zin_12 : ∀ w ∈ u_ws RX12 TX12 114, w ∈ zTw := by
  rw [show u_ws RX12 TX12 114 = [Cond.laysFinal "SchemeElevenModel" "SchemeElevenModel" "memory" "[[I", Cond.laysFinal "SchemeElevenModel" "SchemeElevenModel" "registers" "[[I", Cond.laysFinal "SchemeElevenModel" "SchemeElevenModel" "flags" "[[I", Cond.lays "SchemeElevenModel" "SchemeElevenModel" "m" "I", Cond.lays "SchemeElevenModel" "SchemeElevenModel" "stop" "I", Cond.lays "SchemeElevenModel" "SchemeElevenModel" "emt" "I", Cond.lays "SchemeElevenModel" "SchemeElevenModel" "isRegister" "Z", Cond.lays "SchemeElevenModel" "SchemeElevenModel" "at" "I", Cond.lays "SchemeElevenModel" "SchemeElevenModel" "latest" "I", Cond.lays "SchemeElevenModel" "SchemeElevenModel" "staticEnd" "I", Cond.lays "SchemeElevenModel" "SchemeElevenModel" "codeEnd" "I", Cond.lays "SchemeElevenModel" "SchemeElevenModel" "heapEnd" "I", Cond.lays "SchemeElevenModel" "SchemeElevenModel" "packed" "I", Cond.laysFinal "SchemeElevenModel" "SchemeElevenModel" "begins" "[Z", Cond.laysFinal "SchemeElevenModel" "SchemeElevenModel" "reached" "[Z", Cond.laysFinal "SchemeElevenModel" "SchemeElevenModel" "moved" "[I", Cond.laysFinal "SchemeElevenModel" "SchemeElevenModel" "waits" "[I", Cond.lays "SchemeElevenModel" "SchemeElevenModel" "many" "I", Cond.lays "SchemeElevenModel" "SchemeElevenModel" "isDone" "Z", Cond.laysFinal "SchemeElevenModel" "SchemeElevenModel" "arguments" "[I", Cond.lays "SchemeElevenModel" "SchemeElevenModel" "argumentMany" "I", Cond.lays "SchemeElevenModel" "SchemeElevenModel" "operator" "I", Cond.laysFinal "SchemeElevenModel" "SchemeElevenModel" "inputs" "[I", Cond.lays "SchemeElevenModel" "SchemeElevenModel" "inputMany" "I", Cond.laysFinal "SchemeElevenModel" "SchemeElevenModel" "out" "[I", Cond.lays "SchemeElevenModel" "SchemeElevenModel" "outMany" "I", Cond.lays "SchemeElevenModel" "SchemeElevenModel" "kept" "I", Cond.laysFinal "SchemeElevenModel" "SchemeElevenModel" "line" "[I", Cond.lays "SchemeElevenModel" "SchemeElevenModel" "lineSize" "I", Cond.lays "SchemeElevenModel" "SchemeElevenModel" "items" "I", Cond.lays "SchemeElevenModel" "SchemeElevenModel" "ended" "Z", Cond.laysFinal "SchemeElevenModel" "SchemeElevenModel" "tape" "[I", Cond.lays "SchemeElevenModel" "SchemeElevenModel" "taped" "I", Cond.laysFinal "SchemeElevenModel" "SchemeElevenModel" "kind" "[I", Cond.laysFinal "SchemeElevenModel" "SchemeElevenModel" "head" "[I", Cond.laysFinal "SchemeElevenModel" "SchemeElevenModel" "rest" "[I", Cond.laysFinal "SchemeElevenModel" "SchemeElevenModel" "place" "[I", Cond.laysFinal "SchemeElevenModel" "SchemeElevenModel" "parts" "[I", Cond.laysFinal "SchemeElevenModel" "SchemeElevenModel" "depth" "[I", Cond.lays "SchemeElevenModel" "SchemeElevenModel" "data" "I", Cond.lays "SchemeElevenModel" "SchemeElevenModel" "fault" "I", Cond.lays "SchemeElevenModel" "SchemeElevenModel" "faultAt" "I", Cond.laysFinal "SchemeElevenModel" "SchemeElevenModel" "letters" "[I", Cond.laysFinal "SchemeElevenModel" "SchemeElevenModel" "letterMany" "[I", Cond.laysFinal "SchemeElevenModel" "SchemeElevenModel" "symbolAt" "[I", Cond.lays "SchemeElevenModel" "SchemeElevenModel" "symbols" "I", Cond.lays "SchemeElevenModel" "SchemeElevenModel" "text" "[I", Cond.lays "SchemeElevenModel" "SchemeElevenModel" "textSize" "I", Cond.lays "SchemeElevenModel" "SchemeElevenModel" "pos" "I", Cond.lays "SchemeElevenModel" "SchemeElevenModel" "from" "I", Cond.laysFinal "SchemeElevenModel" "SchemeElevenModel" "roots" "[I", Cond.lays "SchemeElevenModel" "SchemeElevenModel" "forms" "I", Cond.laysFinal "SchemeElevenModel" "SchemeElevenModel" "first" "[I", Cond.laysFinal "SchemeElevenModel" "SchemeElevenModel" "latestPair" "[I", Cond.laysFinal "SchemeElevenModel" "SchemeElevenModel" "state" "[I", Cond.laysFinal "SchemeElevenModel" "SchemeElevenModel" "openAt" "[I", Cond.lays "SchemeElevenModel" "SchemeElevenModel" "open" "I", Cond.laysFinal "SchemeElevenModel" "SchemeElevenModel" "row" "[I", Cond.laysFinal "SchemeElevenModel" "SchemeElevenModel" "aliasOf" "[I", Cond.laysFinal "SchemeElevenModel" "SchemeElevenModel" "aliasIn" "[I", Cond.lays "SchemeElevenModel" "SchemeElevenModel" "aliases" "I", Cond.laysFinal "SchemeElevenModel" "SchemeElevenModel" "scopeAround" "[I", Cond.laysFinal "SchemeElevenModel" "SchemeElevenModel" "scopeFrom" "[I", Cond.laysFinal "SchemeElevenModel" "SchemeElevenModel" "scopeIsRib" "[I", Cond.lays "SchemeElevenModel" "SchemeElevenModel" "scopes" "I", Cond.laysFinal "SchemeElevenModel" "SchemeElevenModel" "toldName" "[I", Cond.laysFinal "SchemeElevenModel" "SchemeElevenModel" "toldRules" "[I", Cond.lays "SchemeElevenModel" "SchemeElevenModel" "toldMany" "I", Cond.lays "SchemeElevenModel" "SchemeElevenModel" "macros" "I", Cond.laysFinal "SchemeElevenModel" "SchemeElevenModel" "macroName" "[I", Cond.laysFinal "SchemeElevenModel" "SchemeElevenModel" "macroRules" "[I", Cond.lays "SchemeElevenModel" "SchemeElevenModel" "meant" "I", Cond.lays "SchemeElevenModel" "SchemeElevenModel" "meantId" "I", Cond.lays "SchemeElevenModel" "SchemeElevenModel" "meantScope" "I", Cond.laysFinal "SchemeElevenModel" "SchemeElevenModel" "variable" "[I", Cond.laysFinal "SchemeElevenModel" "SchemeElevenModel" "variableDepth" "[I", Cond.lays "SchemeElevenModel" "SchemeElevenModel" "variables" "I", Cond.lays "SchemeElevenModel" "SchemeElevenModel" "literals" "I", Cond.laysFinal "SchemeElevenModel" "SchemeElevenModel" "turn" "[I", Cond.lays "SchemeElevenModel" "SchemeElevenModel" "manyParts" "I", Cond.lays "SchemeElevenModel" "SchemeElevenModel" "uses" "I", Cond.lays "SchemeElevenModel" "SchemeElevenModel" "madeParts" "I", Cond.lays "SchemeElevenModel" "SchemeElevenModel" "useAt" "I", Cond.lays "SchemeElevenModel" "SchemeElevenModel" "useTold" "I", Cond.lays "SchemeElevenModel" "SchemeElevenModel" "pattern" "I", Cond.lays "SchemeElevenModel" "SchemeElevenModel" "against" "I", Cond.lays "SchemeElevenModel" "SchemeElevenModel" "firstAlias" "I", Cond.laysFinal "SchemeElevenModel" "SchemeElevenModel" "pendingNames" "[I", Cond.laysFinal "SchemeElevenModel" "SchemeElevenModel" "pendingBody" "[I", Cond.laysFinal "SchemeElevenModel" "SchemeElevenModel" "pendingScope" "[I", Cond.laysFinal "SchemeElevenModel" "SchemeElevenModel" "pendingPlace" "[I", Cond.laysFinal "SchemeElevenModel" "SchemeElevenModel" "pendingLevel" "[I", Cond.laysFinal "SchemeElevenModel" "SchemeElevenModel" "pendingAt" "[I", Cond.lays "SchemeElevenModel" "SchemeElevenModel" "pendings" "I", Cond.laysFinal "SchemeElevenModel" "SchemeElevenModel" "names" "[I", Cond.lays "SchemeElevenModel" "SchemeElevenModel" "nameMany" "I", Cond.lays "SchemeElevenModel" "SchemeElevenModel" "hasOthers" "Z", Cond.laysFinal "SchemeElevenModel" "SchemeElevenModel" "waitingDatum" "[I", Cond.laysFinal "SchemeElevenModel" "SchemeElevenModel" "waitingPlace" "[I", Cond.laysFinal "SchemeElevenModel" "SchemeElevenModel" "formAt" "[I", Cond.lays "SchemeElevenModel" "SchemeElevenModel" "formMany" "I", Cond.lays "SchemeElevenModel" "SchemeElevenModel" "nextForm" "I", Cond.lays "SchemeElevenModel" "SchemeElevenModel" "begun" "Z", Cond.lays "SchemeElevenModel" "SchemeElevenModel" "doneForms" "I", Cond.lays "SchemeElevenModel" "SchemeElevenModel" "error" "I", Cond.laysFinal "SchemeElevenModel" "SchemeElevenModel" "formStart" "[I", Cond.lays "SchemeElevenModel" "SchemeElevenModel" "formCount" "I", Cond.lays "SchemeElevenModel" "SchemeElevenModel" "keptFrom" "I", Cond.lays "SchemeElevenModel" "SchemeElevenModel" "keptMany" "I", Cond.laysFinal "SchemeElevenModel" "SchemeElevenModel" "savedData" "[[I", Cond.laysFinal "SchemeElevenModel" "SchemeElevenModel" "dataRows" "[[I", Cond.laysFinal "SchemeElevenModel" "SchemeElevenModel" "savedName" "[I", Cond.laysFinal "SchemeElevenModel" "SchemeElevenModel" "savedRules" "[I", Cond.laysFinal "SchemeElevenModel" "SchemeElevenModel" "starter" "[I"] by decide +kernel]
  exact List.forall_mem_cons.mpr ⟨(zTw_of (zt_in_11 (List.mem_of_getElem? (i := 53) rfl)) rfl : Cond.laysFinal "SchemeElevenModel" "SchemeElevenModel" "memory" "[[I" ∈ zTw), List.forall_mem_cons.mpr ⟨(zTw_of (zt_in_11 (List.mem_of_getElem? (i := 55) rfl)) rfl : Cond.laysFinal "SchemeElevenModel" "SchemeElevenModel" "registers" "[[I" ∈ zTw), List.forall_mem_cons.mpr ⟨(zTw_of (zt_in_11 (List.mem_of_getElem? (i := 57) rfl)) rfl : Cond.laysFinal "SchemeElevenModel" "SchemeElevenModel" "flags" "[[I" ∈ zTw), List.forall_mem_cons.mpr ⟨(zTw_of (zt_in_11 (List.mem_of_getElem? (i := 59) rfl)) rfl : Cond.lays "SchemeElevenModel" "SchemeElevenModel" "m" "I" ∈ zTw), List.forall_mem_cons.mpr ⟨(zTw_of (zt_in_11 (List.mem_of_getElem? (i := 61) rfl)) rfl : Cond.lays "SchemeElevenModel" "SchemeElevenModel" "stop" "I" ∈ zTw), List.forall_mem_cons.mpr ⟨(zTw_of (zt_in_11 (List.mem_of_getElem? (i := 63) rfl)) rfl : Cond.lays "SchemeElevenModel" "SchemeElevenModel" "emt" "I" ∈ zTw), List.forall_mem_cons.mpr ⟨(zTw_of (zt_in_11 (List.mem_of_getElem? (i := 65) rfl)) rfl : Cond.lays "SchemeElevenModel" "SchemeElevenModel" "isRegister" "Z" ∈ zTw), List.forall_mem_cons.mpr ⟨(zTw_of (zt_in_11 (List.mem_of_getElem? (i := 67) rfl)) rfl : Cond.lays "SchemeElevenModel" "SchemeElevenModel" "at" "I" ∈ zTw), List.forall_mem_cons.mpr ⟨(zTw_of (zt_in_11 (List.mem_of_getElem? (i := 69) rfl)) rfl : Cond.lays "SchemeElevenModel" "SchemeElevenModel" "latest" "I" ∈ zTw), List.forall_mem_cons.mpr ⟨(zTw_of (zt_in_11 (List.mem_of_getElem? (i := 71) rfl)) rfl : Cond.lays "SchemeElevenModel" "SchemeElevenModel" "staticEnd" "I" ∈ zTw), List.forall_mem_cons.mpr ⟨(zTw_of (zt_in_11 (List.mem_of_getElem? (i := 73) rfl)) rfl : Cond.lays "SchemeElevenModel" "SchemeElevenModel" "codeEnd" "I" ∈ zTw), List.forall_mem_cons.mpr ⟨(zTw_of (zt_in_11 (List.mem_of_getElem? (i := 75) rfl)) rfl : Cond.lays "SchemeElevenModel" "SchemeElevenModel" "heapEnd" "I" ∈ zTw), List.forall_mem_cons.mpr ⟨(zTw_of (zt_in_11 (List.mem_of_getElem? (i := 77) rfl)) rfl : Cond.lays "SchemeElevenModel" "SchemeElevenModel" "packed" "I" ∈ zTw), List.forall_mem_cons.mpr ⟨(zTw_of (zt_in_11 (List.mem_of_getElem? (i := 79) rfl)) rfl : Cond.laysFinal "SchemeElevenModel" "SchemeElevenModel" "begins" "[Z" ∈ zTw), List.forall_mem_cons.mpr ⟨(zTw_of (zt_in_11 (List.mem_of_getElem? (i := 81) rfl)) rfl : Cond.laysFinal "SchemeElevenModel" "SchemeElevenModel" "reached" "[Z" ∈ zTw), List.forall_mem_cons.mpr ⟨(zTw_of (zt_in_11 (List.mem_of_getElem? (i := 83) rfl)) rfl : Cond.laysFinal "SchemeElevenModel" "SchemeElevenModel" "moved" "[I" ∈ zTw), List.forall_mem_cons.mpr ⟨(zTw_of (zt_in_11 (List.mem_of_getElem? (i := 85) rfl)) rfl : Cond.laysFinal "SchemeElevenModel" "SchemeElevenModel" "waits" "[I" ∈ zTw), List.forall_mem_cons.mpr ⟨(zTw_of (zt_in_11 (List.mem_of_getElem? (i := 87) rfl)) rfl : Cond.lays "SchemeElevenModel" "SchemeElevenModel" "many" "I" ∈ zTw), List.forall_mem_cons.mpr ⟨(zTw_of (zt_in_11 (List.mem_of_getElem? (i := 89) rfl)) rfl : Cond.lays "SchemeElevenModel" "SchemeElevenModel" "isDone" "Z" ∈ zTw), List.forall_mem_cons.mpr ⟨(zTw_of (zt_in_11 (List.mem_of_getElem? (i := 91) rfl)) rfl : Cond.laysFinal "SchemeElevenModel" "SchemeElevenModel" "arguments" "[I" ∈ zTw), List.forall_mem_cons.mpr ⟨(zTw_of (zt_in_11 (List.mem_of_getElem? (i := 93) rfl)) rfl : Cond.lays "SchemeElevenModel" "SchemeElevenModel" "argumentMany" "I" ∈ zTw), List.forall_mem_cons.mpr ⟨(zTw_of (zt_in_11 (List.mem_of_getElem? (i := 95) rfl)) rfl : Cond.lays "SchemeElevenModel" "SchemeElevenModel" "operator" "I" ∈ zTw), List.forall_mem_cons.mpr ⟨(zTw_of (zt_in_11 (List.mem_of_getElem? (i := 97) rfl)) rfl : Cond.laysFinal "SchemeElevenModel" "SchemeElevenModel" "inputs" "[I" ∈ zTw), List.forall_mem_cons.mpr ⟨(zTw_of (zt_in_11 (List.mem_of_getElem? (i := 99) rfl)) rfl : Cond.lays "SchemeElevenModel" "SchemeElevenModel" "inputMany" "I" ∈ zTw), List.forall_mem_cons.mpr ⟨(zTw_of (zt_in_11 (List.mem_of_getElem? (i := 101) rfl)) rfl : Cond.laysFinal "SchemeElevenModel" "SchemeElevenModel" "out" "[I" ∈ zTw), List.forall_mem_cons.mpr ⟨(zTw_of (zt_in_11 (List.mem_of_getElem? (i := 103) rfl)) rfl : Cond.lays "SchemeElevenModel" "SchemeElevenModel" "outMany" "I" ∈ zTw), List.forall_mem_cons.mpr ⟨(zTw_of (zt_in_11 (List.mem_of_getElem? (i := 105) rfl)) rfl : Cond.lays "SchemeElevenModel" "SchemeElevenModel" "kept" "I" ∈ zTw), List.forall_mem_cons.mpr ⟨(zTw_of (zt_in_11 (List.mem_of_getElem? (i := 107) rfl)) rfl : Cond.laysFinal "SchemeElevenModel" "SchemeElevenModel" "line" "[I" ∈ zTw), List.forall_mem_cons.mpr ⟨(zTw_of (zt_in_11 (List.mem_of_getElem? (i := 109) rfl)) rfl : Cond.lays "SchemeElevenModel" "SchemeElevenModel" "lineSize" "I" ∈ zTw), List.forall_mem_cons.mpr ⟨(zTw_of (zt_in_11 (List.mem_of_getElem? (i := 111) rfl)) rfl : Cond.lays "SchemeElevenModel" "SchemeElevenModel" "items" "I" ∈ zTw), List.forall_mem_cons.mpr ⟨(zTw_of (zt_in_11 (List.mem_of_getElem? (i := 113) rfl)) rfl : Cond.lays "SchemeElevenModel" "SchemeElevenModel" "ended" "Z" ∈ zTw), List.forall_mem_cons.mpr ⟨(zTw_of (zt_in_11 (List.mem_of_getElem? (i := 115) rfl)) rfl : Cond.laysFinal "SchemeElevenModel" "SchemeElevenModel" "tape" "[I" ∈ zTw), List.forall_mem_cons.mpr ⟨(zTw_of (zt_in_11 (List.mem_of_getElem? (i := 117) rfl)) rfl : Cond.lays "SchemeElevenModel" "SchemeElevenModel" "taped" "I" ∈ zTw), List.forall_mem_cons.mpr ⟨(zTw_of (zt_in_11 (List.mem_of_getElem? (i := 119) rfl)) rfl : Cond.laysFinal "SchemeElevenModel" "SchemeElevenModel" "kind" "[I" ∈ zTw), List.forall_mem_cons.mpr ⟨(zTw_of (zt_in_11 (List.mem_of_getElem? (i := 121) rfl)) rfl : Cond.laysFinal "SchemeElevenModel" "SchemeElevenModel" "head" "[I" ∈ zTw), List.forall_mem_cons.mpr ⟨(zTw_of (zt_in_11 (List.mem_of_getElem? (i := 123) rfl)) rfl : Cond.laysFinal "SchemeElevenModel" "SchemeElevenModel" "rest" "[I" ∈ zTw), List.forall_mem_cons.mpr ⟨(zTw_of (zt_in_11 (List.mem_of_getElem? (i := 125) rfl)) rfl : Cond.laysFinal "SchemeElevenModel" "SchemeElevenModel" "place" "[I" ∈ zTw), List.forall_mem_cons.mpr ⟨(zTw_of (zt_in_11 (List.mem_of_getElem? (i := 127) rfl)) rfl : Cond.laysFinal "SchemeElevenModel" "SchemeElevenModel" "parts" "[I" ∈ zTw), List.forall_mem_cons.mpr ⟨(zTw_of (zt_in_11 (List.mem_of_getElem? (i := 129) rfl)) rfl : Cond.laysFinal "SchemeElevenModel" "SchemeElevenModel" "depth" "[I" ∈ zTw), List.forall_mem_cons.mpr ⟨(zTw_of (zt_in_11 (List.mem_of_getElem? (i := 131) rfl)) rfl : Cond.lays "SchemeElevenModel" "SchemeElevenModel" "data" "I" ∈ zTw), List.forall_mem_cons.mpr ⟨(zTw_of (zt_in_11 (List.mem_of_getElem? (i := 133) rfl)) rfl : Cond.lays "SchemeElevenModel" "SchemeElevenModel" "fault" "I" ∈ zTw), List.forall_mem_cons.mpr ⟨(zTw_of (zt_in_11 (List.mem_of_getElem? (i := 135) rfl)) rfl : Cond.lays "SchemeElevenModel" "SchemeElevenModel" "faultAt" "I" ∈ zTw), List.forall_mem_cons.mpr ⟨(zTw_of (zt_in_11 (List.mem_of_getElem? (i := 137) rfl)) rfl : Cond.laysFinal "SchemeElevenModel" "SchemeElevenModel" "letters" "[I" ∈ zTw), List.forall_mem_cons.mpr ⟨(zTw_of (zt_in_11 (List.mem_of_getElem? (i := 139) rfl)) rfl : Cond.laysFinal "SchemeElevenModel" "SchemeElevenModel" "letterMany" "[I" ∈ zTw), List.forall_mem_cons.mpr ⟨(zTw_of (zt_in_11 (List.mem_of_getElem? (i := 141) rfl)) rfl : Cond.laysFinal "SchemeElevenModel" "SchemeElevenModel" "symbolAt" "[I" ∈ zTw), List.forall_mem_cons.mpr ⟨(zTw_of (zt_in_11 (List.mem_of_getElem? (i := 143) rfl)) rfl : Cond.lays "SchemeElevenModel" "SchemeElevenModel" "symbols" "I" ∈ zTw), List.forall_mem_cons.mpr ⟨(zTw_of (zt_in_11 (List.mem_of_getElem? (i := 145) rfl)) rfl : Cond.lays "SchemeElevenModel" "SchemeElevenModel" "text" "[I" ∈ zTw), List.forall_mem_cons.mpr ⟨(zTw_of (zt_in_11 (List.mem_of_getElem? (i := 147) rfl)) rfl : Cond.lays "SchemeElevenModel" "SchemeElevenModel" "textSize" "I" ∈ zTw), List.forall_mem_cons.mpr ⟨(zTw_of (zt_in_11 (List.mem_of_getElem? (i := 149) rfl)) rfl : Cond.lays "SchemeElevenModel" "SchemeElevenModel" "pos" "I" ∈ zTw), List.forall_mem_cons.mpr ⟨(zTw_of (zt_in_11 (List.mem_of_getElem? (i := 151) rfl)) rfl : Cond.lays "SchemeElevenModel" "SchemeElevenModel" "from" "I" ∈ zTw), List.forall_mem_cons.mpr ⟨(zTw_of (zt_in_11 (List.mem_of_getElem? (i := 153) rfl)) rfl : Cond.laysFinal "SchemeElevenModel" "SchemeElevenModel" "roots" "[I" ∈ zTw), List.forall_mem_cons.mpr ⟨(zTw_of (zt_in_11 (List.mem_of_getElem? (i := 155) rfl)) rfl : Cond.lays "SchemeElevenModel" "SchemeElevenModel" "forms" "I" ∈ zTw), List.forall_mem_cons.mpr ⟨(zTw_of (zt_in_11 (List.mem_of_getElem? (i := 157) rfl)) rfl : Cond.laysFinal "SchemeElevenModel" "SchemeElevenModel" "first" "[I" ∈ zTw), List.forall_mem_cons.mpr ⟨(zTw_of (zt_in_11 (List.mem_of_getElem? (i := 159) rfl)) rfl : Cond.laysFinal "SchemeElevenModel" "SchemeElevenModel" "latestPair" "[I" ∈ zTw), List.forall_mem_cons.mpr ⟨(zTw_of (zt_in_11 (List.mem_of_getElem? (i := 161) rfl)) rfl : Cond.laysFinal "SchemeElevenModel" "SchemeElevenModel" "state" "[I" ∈ zTw), List.forall_mem_cons.mpr ⟨(zTw_of (zt_in_11 (List.mem_of_getElem? (i := 163) rfl)) rfl : Cond.laysFinal "SchemeElevenModel" "SchemeElevenModel" "openAt" "[I" ∈ zTw), List.forall_mem_cons.mpr ⟨(zTw_of (zt_in_11 (List.mem_of_getElem? (i := 165) rfl)) rfl : Cond.lays "SchemeElevenModel" "SchemeElevenModel" "open" "I" ∈ zTw), List.forall_mem_cons.mpr ⟨(zTw_of (zt_in_11 (List.mem_of_getElem? (i := 167) rfl)) rfl : Cond.laysFinal "SchemeElevenModel" "SchemeElevenModel" "row" "[I" ∈ zTw), List.forall_mem_cons.mpr ⟨(zTw_of (zt_in_11 (List.mem_of_getElem? (i := 169) rfl)) rfl : Cond.laysFinal "SchemeElevenModel" "SchemeElevenModel" "aliasOf" "[I" ∈ zTw), List.forall_mem_cons.mpr ⟨(zTw_of (zt_in_11 (List.mem_of_getElem? (i := 171) rfl)) rfl : Cond.laysFinal "SchemeElevenModel" "SchemeElevenModel" "aliasIn" "[I" ∈ zTw), List.forall_mem_cons.mpr ⟨(zTw_of (zt_in_11 (List.mem_of_getElem? (i := 173) rfl)) rfl : Cond.lays "SchemeElevenModel" "SchemeElevenModel" "aliases" "I" ∈ zTw), List.forall_mem_cons.mpr ⟨(zTw_of (zt_in_11 (List.mem_of_getElem? (i := 175) rfl)) rfl : Cond.laysFinal "SchemeElevenModel" "SchemeElevenModel" "scopeAround" "[I" ∈ zTw), List.forall_mem_cons.mpr ⟨(zTw_of (zt_in_11 (List.mem_of_getElem? (i := 177) rfl)) rfl : Cond.laysFinal "SchemeElevenModel" "SchemeElevenModel" "scopeFrom" "[I" ∈ zTw), List.forall_mem_cons.mpr ⟨(zTw_of (zt_in_11 (List.mem_of_getElem? (i := 179) rfl)) rfl : Cond.laysFinal "SchemeElevenModel" "SchemeElevenModel" "scopeIsRib" "[I" ∈ zTw), List.forall_mem_cons.mpr ⟨(zTw_of (zt_in_11 (List.mem_of_getElem? (i := 181) rfl)) rfl : Cond.lays "SchemeElevenModel" "SchemeElevenModel" "scopes" "I" ∈ zTw), List.forall_mem_cons.mpr ⟨(zTw_of (zt_in_11 (List.mem_of_getElem? (i := 183) rfl)) rfl : Cond.laysFinal "SchemeElevenModel" "SchemeElevenModel" "toldName" "[I" ∈ zTw), List.forall_mem_cons.mpr ⟨(zTw_of (zt_in_11 (List.mem_of_getElem? (i := 185) rfl)) rfl : Cond.laysFinal "SchemeElevenModel" "SchemeElevenModel" "toldRules" "[I" ∈ zTw), List.forall_mem_cons.mpr ⟨(zTw_of (zt_in_11 (List.mem_of_getElem? (i := 187) rfl)) rfl : Cond.lays "SchemeElevenModel" "SchemeElevenModel" "toldMany" "I" ∈ zTw), List.forall_mem_cons.mpr ⟨(zTw_of (zt_in_11 (List.mem_of_getElem? (i := 189) rfl)) rfl : Cond.lays "SchemeElevenModel" "SchemeElevenModel" "macros" "I" ∈ zTw), List.forall_mem_cons.mpr ⟨(zTw_of (zt_in_11 (List.mem_of_getElem? (i := 191) rfl)) rfl : Cond.laysFinal "SchemeElevenModel" "SchemeElevenModel" "macroName" "[I" ∈ zTw), List.forall_mem_cons.mpr ⟨(zTw_of (zt_in_11 (List.mem_of_getElem? (i := 193) rfl)) rfl : Cond.laysFinal "SchemeElevenModel" "SchemeElevenModel" "macroRules" "[I" ∈ zTw), List.forall_mem_cons.mpr ⟨(zTw_of (zt_in_11 (List.mem_of_getElem? (i := 195) rfl)) rfl : Cond.lays "SchemeElevenModel" "SchemeElevenModel" "meant" "I" ∈ zTw), List.forall_mem_cons.mpr ⟨(zTw_of (zt_in_11 (List.mem_of_getElem? (i := 197) rfl)) rfl : Cond.lays "SchemeElevenModel" "SchemeElevenModel" "meantId" "I" ∈ zTw), List.forall_mem_cons.mpr ⟨(zTw_of (zt_in_11 (List.mem_of_getElem? (i := 199) rfl)) rfl : Cond.lays "SchemeElevenModel" "SchemeElevenModel" "meantScope" "I" ∈ zTw), List.forall_mem_cons.mpr ⟨(zTw_of (zt_in_11 (List.mem_of_getElem? (i := 201) rfl)) rfl : Cond.laysFinal "SchemeElevenModel" "SchemeElevenModel" "variable" "[I" ∈ zTw), List.forall_mem_cons.mpr ⟨(zTw_of (zt_in_11 (List.mem_of_getElem? (i := 203) rfl)) rfl : Cond.laysFinal "SchemeElevenModel" "SchemeElevenModel" "variableDepth" "[I" ∈ zTw), List.forall_mem_cons.mpr ⟨(zTw_of (zt_in_11 (List.mem_of_getElem? (i := 205) rfl)) rfl : Cond.lays "SchemeElevenModel" "SchemeElevenModel" "variables" "I" ∈ zTw), List.forall_mem_cons.mpr ⟨(zTw_of (zt_in_11 (List.mem_of_getElem? (i := 207) rfl)) rfl : Cond.lays "SchemeElevenModel" "SchemeElevenModel" "literals" "I" ∈ zTw), List.forall_mem_cons.mpr ⟨(zTw_of (zt_in_11 (List.mem_of_getElem? (i := 209) rfl)) rfl : Cond.laysFinal "SchemeElevenModel" "SchemeElevenModel" "turn" "[I" ∈ zTw), List.forall_mem_cons.mpr ⟨(zTw_of (zt_in_11 (List.mem_of_getElem? (i := 211) rfl)) rfl : Cond.lays "SchemeElevenModel" "SchemeElevenModel" "manyParts" "I" ∈ zTw), List.forall_mem_cons.mpr ⟨(zTw_of (zt_in_11 (List.mem_of_getElem? (i := 213) rfl)) rfl : Cond.lays "SchemeElevenModel" "SchemeElevenModel" "uses" "I" ∈ zTw), List.forall_mem_cons.mpr ⟨(zTw_of (zt_in_11 (List.mem_of_getElem? (i := 215) rfl)) rfl : Cond.lays "SchemeElevenModel" "SchemeElevenModel" "madeParts" "I" ∈ zTw), List.forall_mem_cons.mpr ⟨(zTw_of (zt_in_11 (List.mem_of_getElem? (i := 217) rfl)) rfl : Cond.lays "SchemeElevenModel" "SchemeElevenModel" "useAt" "I" ∈ zTw), List.forall_mem_cons.mpr ⟨(zTw_of (zt_in_11 (List.mem_of_getElem? (i := 219) rfl)) rfl : Cond.lays "SchemeElevenModel" "SchemeElevenModel" "useTold" "I" ∈ zTw), List.forall_mem_cons.mpr ⟨(zTw_of (zt_in_11 (List.mem_of_getElem? (i := 221) rfl)) rfl : Cond.lays "SchemeElevenModel" "SchemeElevenModel" "pattern" "I" ∈ zTw), List.forall_mem_cons.mpr ⟨(zTw_of (zt_in_11 (List.mem_of_getElem? (i := 223) rfl)) rfl : Cond.lays "SchemeElevenModel" "SchemeElevenModel" "against" "I" ∈ zTw), List.forall_mem_cons.mpr ⟨(zTw_of (zt_in_11 (List.mem_of_getElem? (i := 225) rfl)) rfl : Cond.lays "SchemeElevenModel" "SchemeElevenModel" "firstAlias" "I" ∈ zTw), List.forall_mem_cons.mpr ⟨(zTw_of (zt_in_11 (List.mem_of_getElem? (i := 227) rfl)) rfl : Cond.laysFinal "SchemeElevenModel" "SchemeElevenModel" "pendingNames" "[I" ∈ zTw), List.forall_mem_cons.mpr ⟨(zTw_of (zt_in_11 (List.mem_of_getElem? (i := 229) rfl)) rfl : Cond.laysFinal "SchemeElevenModel" "SchemeElevenModel" "pendingBody" "[I" ∈ zTw), List.forall_mem_cons.mpr ⟨(zTw_of (zt_in_11 (List.mem_of_getElem? (i := 231) rfl)) rfl : Cond.laysFinal "SchemeElevenModel" "SchemeElevenModel" "pendingScope" "[I" ∈ zTw), List.forall_mem_cons.mpr ⟨(zTw_of (zt_in_11 (List.mem_of_getElem? (i := 233) rfl)) rfl : Cond.laysFinal "SchemeElevenModel" "SchemeElevenModel" "pendingPlace" "[I" ∈ zTw), List.forall_mem_cons.mpr ⟨(zTw_of (zt_in_11 (List.mem_of_getElem? (i := 235) rfl)) rfl : Cond.laysFinal "SchemeElevenModel" "SchemeElevenModel" "pendingLevel" "[I" ∈ zTw), List.forall_mem_cons.mpr ⟨(zTw_of (zt_in_11 (List.mem_of_getElem? (i := 237) rfl)) rfl : Cond.laysFinal "SchemeElevenModel" "SchemeElevenModel" "pendingAt" "[I" ∈ zTw), List.forall_mem_cons.mpr ⟨(zTw_of (zt_in_11 (List.mem_of_getElem? (i := 239) rfl)) rfl : Cond.lays "SchemeElevenModel" "SchemeElevenModel" "pendings" "I" ∈ zTw), List.forall_mem_cons.mpr ⟨(zTw_of (zt_in_12 (List.mem_of_getElem? (i := 1) rfl)) rfl : Cond.laysFinal "SchemeElevenModel" "SchemeElevenModel" "names" "[I" ∈ zTw), List.forall_mem_cons.mpr ⟨(zTw_of (zt_in_12 (List.mem_of_getElem? (i := 3) rfl)) rfl : Cond.lays "SchemeElevenModel" "SchemeElevenModel" "nameMany" "I" ∈ zTw), List.forall_mem_cons.mpr ⟨(zTw_of (zt_in_12 (List.mem_of_getElem? (i := 5) rfl)) rfl : Cond.lays "SchemeElevenModel" "SchemeElevenModel" "hasOthers" "Z" ∈ zTw), List.forall_mem_cons.mpr ⟨(zTw_of (zt_in_12 (List.mem_of_getElem? (i := 7) rfl)) rfl : Cond.laysFinal "SchemeElevenModel" "SchemeElevenModel" "waitingDatum" "[I" ∈ zTw), List.forall_mem_cons.mpr ⟨(zTw_of (zt_in_12 (List.mem_of_getElem? (i := 9) rfl)) rfl : Cond.laysFinal "SchemeElevenModel" "SchemeElevenModel" "waitingPlace" "[I" ∈ zTw), List.forall_mem_cons.mpr ⟨(zTw_of (zt_in_12 (List.mem_of_getElem? (i := 11) rfl)) rfl : Cond.laysFinal "SchemeElevenModel" "SchemeElevenModel" "formAt" "[I" ∈ zTw), List.forall_mem_cons.mpr ⟨(zTw_of (zt_in_12 (List.mem_of_getElem? (i := 13) rfl)) rfl : Cond.lays "SchemeElevenModel" "SchemeElevenModel" "formMany" "I" ∈ zTw), List.forall_mem_cons.mpr ⟨(zTw_of (zt_in_12 (List.mem_of_getElem? (i := 15) rfl)) rfl : Cond.lays "SchemeElevenModel" "SchemeElevenModel" "nextForm" "I" ∈ zTw), List.forall_mem_cons.mpr ⟨(zTw_of (zt_in_12 (List.mem_of_getElem? (i := 17) rfl)) rfl : Cond.lays "SchemeElevenModel" "SchemeElevenModel" "begun" "Z" ∈ zTw), List.forall_mem_cons.mpr ⟨(zTw_of (zt_in_12 (List.mem_of_getElem? (i := 19) rfl)) rfl : Cond.lays "SchemeElevenModel" "SchemeElevenModel" "doneForms" "I" ∈ zTw), List.forall_mem_cons.mpr ⟨(zTw_of (zt_in_12 (List.mem_of_getElem? (i := 21) rfl)) rfl : Cond.lays "SchemeElevenModel" "SchemeElevenModel" "error" "I" ∈ zTw), List.forall_mem_cons.mpr ⟨(zTw_of (zt_in_12 (List.mem_of_getElem? (i := 23) rfl)) rfl : Cond.laysFinal "SchemeElevenModel" "SchemeElevenModel" "formStart" "[I" ∈ zTw), List.forall_mem_cons.mpr ⟨(zTw_of (zt_in_12 (List.mem_of_getElem? (i := 25) rfl)) rfl : Cond.lays "SchemeElevenModel" "SchemeElevenModel" "formCount" "I" ∈ zTw), List.forall_mem_cons.mpr ⟨(zTw_of (zt_in_12 (List.mem_of_getElem? (i := 27) rfl)) rfl : Cond.lays "SchemeElevenModel" "SchemeElevenModel" "keptFrom" "I" ∈ zTw), List.forall_mem_cons.mpr ⟨(zTw_of (zt_in_12 (List.mem_of_getElem? (i := 29) rfl)) rfl : Cond.lays "SchemeElevenModel" "SchemeElevenModel" "keptMany" "I" ∈ zTw), List.forall_mem_cons.mpr ⟨(zTw_of (zt_in_12 (List.mem_of_getElem? (i := 31) rfl)) rfl : Cond.laysFinal "SchemeElevenModel" "SchemeElevenModel" "savedData" "[[I" ∈ zTw), List.forall_mem_cons.mpr ⟨(zTw_of (zt_in_12 (List.mem_of_getElem? (i := 33) rfl)) rfl : Cond.laysFinal "SchemeElevenModel" "SchemeElevenModel" "dataRows" "[[I" ∈ zTw), List.forall_mem_cons.mpr ⟨(zTw_of (zt_in_12 (List.mem_of_getElem? (i := 35) rfl)) rfl : Cond.laysFinal "SchemeElevenModel" "SchemeElevenModel" "savedName" "[I" ∈ zTw), List.forall_mem_cons.mpr ⟨(zTw_of (zt_in_12 (List.mem_of_getElem? (i := 37) rfl)) rfl : Cond.laysFinal "SchemeElevenModel" "SchemeElevenModel" "savedRules" "[I" ∈ zTw), List.forall_mem_cons.mpr ⟨(zTw_of (zt_in_12 (List.mem_of_getElem? (i := 39) rfl)) rfl : Cond.laysFinal "SchemeElevenModel" "SchemeElevenModel" "starter" "[I" ∈ zTw), fun _ h => absurd h List.not_mem_nil⟩⟩⟩⟩⟩⟩⟩⟩⟩⟩⟩⟩⟩⟩⟩⟩⟩⟩⟩⟩⟩⟩⟩⟩⟩⟩⟩⟩⟩⟩⟩⟩⟩⟩⟩⟩⟩⟩⟩⟩⟩⟩⟩⟩⟩⟩⟩⟩⟩⟩⟩⟩⟩⟩⟩⟩⟩⟩⟩⟩⟩⟩⟩⟩⟩⟩⟩⟩⟩⟩⟩⟩⟩⟩⟩⟩⟩⟩⟩⟩⟩⟩⟩⟩⟩⟩⟩⟩⟩⟩⟩⟩⟩⟩⟩⟩⟩⟩⟩⟩⟩⟩⟩⟩⟩⟩⟩⟩⟩⟩⟩⟩⟩⟩
theorem kls_12 : zKls vwCl zTw 12 "SchemeElevenModel" TX12 114 tyX12 := ⟨by decide, rfl, zin_12, tyX12_ok, nmX12⟩
theorem zdf_12 : ∀ j, j < 114 → zcv zcl_12 j ≤ 4294967296 ∧ defaultValue (tyX12 j) = zv (fun _ => 0) (zcv zcl_12 j) := by decide +kernel
theorem tx_0_0 : TX0 0 = ("SchemeEleven$Coder", "text", "LSchemeEleven$Text;", true) := rfl
theorem ty_0_0 : tyX0 0 = (.object "SchemeEleven$Text") := rfl
theorem tx_0_1 : TX0 1 = ("SchemeEleven$Coder", "image", "LSchemeEleven$Image;", true) := rfl
theorem ty_0_1 : tyX0 1 = (.object "SchemeEleven$Image") := rfl
theorem tx_0_2 : TX0 2 = ("SchemeEleven$Coder", "scopes", "LSchemeEleven$Scopes;", true) := rfl
theorem ty_0_2 : tyX0 2 = (.object "SchemeEleven$Scopes") := rfl
theorem tx_0_3 : TX0 3 = ("SchemeEleven$Coder", "spreader", "LSchemeEleven$Spreader;", true) := rfl
theorem ty_0_3 : tyX0 3 = (.object "SchemeEleven$Spreader") := rfl
theorem tx_0_4 : TX0 4 = ("SchemeEleven$Coder", "tasks", "[I", true) := rfl
theorem ty_0_4 : tyX0 4 = (.array .int) := rfl
theorem tx_0_5 : TX0 5 = ("SchemeEleven$Coder", "top", "I", false) := rfl
theorem ty_0_5 : tyX0 5 = .int := rfl
theorem tx_0_6 : TX0 6 = ("SchemeEleven$Coder", "lambdas", "[I", true) := rfl
theorem ty_0_6 : tyX0 6 = (.array .int) := rfl
theorem tx_0_7 : TX0 7 = ("SchemeEleven$Coder", "firstLambda", "I", false) := rfl
theorem ty_0_7 : tyX0 7 = .int := rfl
theorem tx_0_8 : TX0 8 = ("SchemeEleven$Coder", "lambdaCount", "I", false) := rfl
theorem ty_0_8 : tyX0 8 = .int := rfl
theorem tx_0_9 : TX0 9 = ("SchemeEleven$Coder", "datum", "I", false) := rfl
theorem ty_0_9 : tyX0 9 = .int := rfl
theorem tx_0_10 : TX0 10 = ("SchemeEleven$Coder", "part", "I", false) := rfl
theorem ty_0_10 : tyX0 10 = .int := rfl
theorem tx_0_11 : TX0 11 = ("SchemeEleven$Coder", "scope", "I", false) := rfl
theorem ty_0_11 : tyX0 11 = .int := rfl
theorem tx_0_12 : TX0 12 = ("SchemeEleven$Coder", "flags", "I", false) := rfl
theorem ty_0_12 : tyX0 12 = .int := rfl
theorem tx_0_13 : TX0 13 = ("SchemeEleven$Coder", "patch", "I", false) := rfl
theorem ty_0_13 : tyX0 13 = .int := rfl
theorem tx_1_0 : TX1 0 = ("SchemeEleven$Heap", "machine", "LSchemeEleven$Machine;", true) := rfl
theorem ty_1_0 : tyX1 0 = (.object "SchemeEleven$Machine") := rfl
theorem tx_1_1 : TX1 1 = ("SchemeEleven$Heap", "image", "LSchemeEleven$Image;", true) := rfl
theorem ty_1_1 : tyX1 1 = (.object "SchemeEleven$Image") := rfl
theorem tx_1_2 : TX1 2 = ("SchemeEleven$Heap", "states", "[I", true) := rfl
theorem ty_1_2 : tyX1 2 = (.array .int) := rfl
theorem tx_1_3 : TX1 3 = ("SchemeEleven$Heap", "open", "[I", true) := rfl
theorem ty_1_3 : tyX1 3 = (.array .int) := rfl
theorem tx_1_5 : TX1 5 = ("SchemeEleven$Heap", "end", "I", false) := rfl
theorem ty_1_5 : tyX1 5 = .int := rfl
theorem tx_1_6 : TX1 6 = ("SchemeEleven$Heap", "packs", "I", false) := rfl
theorem ty_1_6 : tyX1 6 = .int := rfl
theorem tx_2_0 : TX2 0 = ("SchemeEleven$Image", "machine", "LSchemeEleven$Machine;", true) := rfl
theorem ty_2_0 : tyX2 0 = (.object "SchemeEleven$Machine") := rfl
theorem tx_2_1 : TX2 1 = ("SchemeEleven$Image", "letters", "[I", true) := rfl
theorem ty_2_1 : tyX2 1 = (.array .int) := rfl
theorem tx_2_2 : TX2 2 = ("SchemeEleven$Image", "lengths", "[I", true) := rfl
theorem ty_2_2 : tyX2 2 = (.array .int) := rfl
theorem tx_2_3 : TX2 3 = ("SchemeEleven$Image", "places", "[I", true) := rfl
theorem ty_2_3 : tyX2 3 = (.array .int) := rfl
theorem tx_2_4 : TX2 4 = ("SchemeEleven$Image", "symbols", "I", false) := rfl
theorem ty_2_4 : tyX2 4 = .int := rfl
theorem tx_2_5 : TX2 5 = ("SchemeEleven$Image", "staticsEnd", "I", false) := rfl
theorem ty_2_5 : tyX2 5 = .int := rfl
theorem tx_2_6 : TX2 6 = ("SchemeEleven$Image", "codeEnd", "I", false) := rfl
theorem ty_2_6 : tyX2 6 = .int := rfl
theorem tx_2_7 : TX2 7 = ("SchemeEleven$Image", "oldSymbols", "I", false) := rfl
theorem ty_2_7 : tyX2 7 = .int := rfl
theorem tx_2_8 : TX2 8 = ("SchemeEleven$Image", "oldStaticsEnd", "I", false) := rfl
theorem ty_2_8 : tyX2 8 = .int := rfl
theorem tx_2_9 : TX2 9 = ("SchemeEleven$Image", "oldCodeEnd", "I", false) := rfl
theorem ty_2_9 : tyX2 9 = .int := rfl
theorem tx_3_0 : TX3 0 = ("SchemeEleven$Machine", "cells", "[I", true) := rfl
theorem ty_3_0 : tyX3 0 = (.array .int) := rfl
theorem tx_3_1 : TX3 1 = ("SchemeEleven$Machine", "\x72", "[I", true) := rfl
theorem ty_3_1 : tyX3 1 = (.array .int) := rfl
theorem tx_3_2 : TX3 2 = ("SchemeEleven$Machine", "n", "Z", false) := rfl
theorem ty_3_2 : tyX3 2 = .boolean := rfl
theorem tx_3_3 : TX3 3 = ("SchemeEleven$Machine", "z", "Z", false) := rfl
theorem ty_3_3 : tyX3 3 = .boolean := rfl
theorem tx_3_4 : TX3 4 = ("SchemeEleven$Machine", "v", "Z", false) := rfl
theorem ty_3_4 : tyX3 4 = .boolean := rfl
theorem tx_3_5 : TX3 5 = ("SchemeEleven$Machine", "c", "Z", false) := rfl
theorem ty_3_5 : tyX3 5 = .boolean := rfl
theorem tx_3_6 : TX3 6 = ("SchemeEleven$Machine", "instruction", "I", false) := rfl
theorem ty_3_6 : tyX3 6 = .int := rfl
theorem tx_4_0 : TX4 0 = ("SchemeEleven$Pattern", "text", "LSchemeEleven$Text;", true) := rfl
theorem ty_4_0 : tyX4 0 = (.object "SchemeEleven$Text") := rfl
theorem tx_4_1 : TX4 1 = ("SchemeEleven$Pattern", "literals", "I", false) := rfl
theorem ty_4_1 : tyX4 1 = .int := rfl
theorem tx_4_2 : TX4 2 = ("SchemeEleven$Pattern", "nodes", "[I", true) := rfl
theorem ty_4_2 : tyX4 2 = (.array .int) := rfl
theorem tx_4_3 : TX4 3 = ("SchemeEleven$Pattern", "values", "[I", true) := rfl
theorem ty_4_3 : tyX4 3 = (.array .int) := rfl
theorem tx_4_4 : TX4 4 = ("SchemeEleven$Pattern", "outers", "[I", true) := rfl
theorem ty_4_4 : tyX4 4 = (.array .int) := rfl
theorem tx_4_5 : TX4 5 = ("SchemeEleven$Pattern", "inners", "[I", true) := rfl
theorem ty_4_5 : tyX4 5 = (.array .int) := rfl
theorem tx_4_6 : TX4 6 = ("SchemeEleven$Pattern", "variables", "I", false) := rfl
theorem ty_4_6 : tyX4 6 = .int := rfl
theorem tx_4_7 : TX4 7 = ("SchemeEleven$Pattern", "bodies", "[I", true) := rfl
theorem ty_4_7 : tyX4 7 = (.array .int) := rfl
theorem tx_4_8 : TX4 8 = ("SchemeEleven$Pattern", "lists", "[I", true) := rfl
theorem ty_4_8 : tyX4 8 = (.array .int) := rfl
theorem tx_4_9 : TX4 9 = ("SchemeEleven$Pattern", "cursors", "[I", true) := rfl
theorem ty_4_9 : tyX4 9 = (.array .int) := rfl
theorem tx_4_10 : TX4 10 = ("SchemeEleven$Pattern", "firstVariables", "[I", true) := rfl
theorem ty_4_10 : tyX4 10 = (.array .int) := rfl
theorem tx_4_11 : TX4 11 = ("SchemeEleven$Pattern", "nextVariables", "[I", true) := rfl
theorem ty_4_11 : tyX4 11 = (.array .int) := rfl
theorem tx_4_12 : TX4 12 = ("SchemeEleven$Pattern", "nextGroups", "[I", true) := rfl
theorem ty_4_12 : tyX4 12 = (.array .int) := rfl
theorem tx_4_13 : TX4 13 = ("SchemeEleven$Pattern", "groups", "I", false) := rfl
theorem ty_4_13 : tyX4 13 = .int := rfl
theorem tx_4_14 : TX4 14 = ("SchemeEleven$Pattern", "outer", "I", false) := rfl
theorem ty_4_14 : tyX4 14 = .int := rfl
theorem tx_4_17 : TX4 17 = ("SchemeEleven$Pattern", "abreast", "[I", true) := rfl
theorem ty_4_17 : tyX4 17 = (.array .int) := rfl
theorem tx_4_18 : TX4 18 = ("SchemeEleven$Pattern", "abreastCount", "[I", true) := rfl
theorem ty_4_18 : tyX4 18 = (.array .int) := rfl
theorem tx_5_0 : TX5 0 = ("SchemeEleven$Reader", "text", "LSchemeEleven$Text;", true) := rfl
theorem ty_5_0 : tyX5 0 = (.object "SchemeEleven$Text") := rfl
theorem tx_5_1 : TX5 1 = ("SchemeEleven$Reader", "image", "LSchemeEleven$Image;", true) := rfl
theorem ty_5_1 : tyX5 1 = (.object "SchemeEleven$Image") := rfl
theorem tx_5_2 : TX5 2 = ("SchemeEleven$Reader", "heads", "[I", true) := rfl
theorem ty_5_2 : tyX5 2 = (.array .int) := rfl
theorem tx_5_3 : TX5 3 = ("SchemeEleven$Reader", "forms", "I", false) := rfl
theorem ty_5_3 : tyX5 3 = .int := rfl
theorem tx_5_4 : TX5 4 = ("SchemeEleven$Reader", "states", "[I", true) := rfl
theorem ty_5_4 : tyX5 4 = (.array .int) := rfl
theorem tx_5_5 : TX5 5 = ("SchemeEleven$Reader", "begins", "[I", true) := rfl
theorem ty_5_5 : tyX5 5 = (.array .int) := rfl
theorem tx_5_6 : TX5 6 = ("SchemeEleven$Reader", "lists", "[I", true) := rfl
theorem ty_5_6 : tyX5 6 = (.array .int) := rfl
theorem tx_5_7 : TX5 7 = ("SchemeEleven$Reader", "lasts", "[I", true) := rfl
theorem ty_5_7 : tyX5 7 = (.array .int) := rfl
theorem tx_5_8 : TX5 8 = ("SchemeEleven$Reader", "open", "I", false) := rfl
theorem ty_5_8 : tyX5 8 = .int := rfl
theorem tx_5_9 : TX5 9 = ("SchemeEleven$Reader", "ended", "I", false) := rfl
theorem ty_5_9 : tyX5 9 = .int := rfl
theorem tx_6_0 : TX6 0 = ("SchemeEleven$Runner", "machine", "LSchemeEleven$Machine;", true) := rfl
theorem ty_6_0 : tyX6 0 = (.object "SchemeEleven$Machine") := rfl
theorem tx_6_1 : TX6 1 = ("SchemeEleven$Runner", "\x72", "[I", true) := rfl
theorem ty_6_1 : tyX6 1 = (.array .int) := rfl
theorem tx_6_2 : TX6 2 = ("SchemeEleven$Runner", "heap", "LSchemeEleven$Heap;", true) := rfl
theorem ty_6_2 : tyX6 2 = (.object "SchemeEleven$Heap") := rfl
theorem tx_6_3 : TX6 3 = ("SchemeEleven$Runner", "scribe", "LSchemeEleven$Scribe;", true) := rfl
theorem ty_6_3 : tyX6 3 = (.object "SchemeEleven$Scribe") := rfl
theorem tx_6_4 : TX6 4 = ("SchemeEleven$Runner", "waiting", "[I", true) := rfl
theorem ty_6_4 : tyX6 4 = (.array .int) := rfl
theorem tx_6_5 : TX6 5 = ("SchemeEleven$Runner", "first", "I", false) := rfl
theorem ty_6_5 : tyX6 5 = .int := rfl
theorem tx_6_6 : TX6 6 = ("SchemeEleven$Runner", "waits", "I", false) := rfl
theorem ty_6_6 : tyX6 6 = .int := rfl
theorem tx_6_7 : TX6 7 = ("SchemeEleven$Runner", "underWay", "Z", false) := rfl
theorem ty_6_7 : tyX6 7 = .boolean := rfl
theorem tx_6_8 : TX6 8 = ("SchemeEleven$Runner", "done", "I", false) := rfl
theorem ty_6_8 : tyX6 8 = .int := rfl
theorem tx_6_9 : TX6 9 = ("SchemeEleven$Runner", "error", "I", false) := rfl
theorem ty_6_9 : tyX6 9 = .int := rfl
theorem tx_6_10 : TX6 10 = ("SchemeEleven$Runner", "row", "[I", true) := rfl
theorem ty_6_10 : tyX6 10 = (.array .int) := rfl
theorem tx_6_13 : TX6 13 = ("SchemeEleven$Runner", "input", "[I", true) := rfl
theorem ty_6_13 : tyX6 13 = (.array .int) := rfl
theorem tx_6_14 : TX6 14 = ("SchemeEleven$Runner", "inputs", "I", false) := rfl
theorem ty_6_14 : tyX6 14 = .int := rfl
theorem tx_7_0 : TX7 0 = ("SchemeEleven$Scopes", "text", "LSchemeEleven$Text;", true) := rfl
theorem ty_7_0 : tyX7 0 = (.object "SchemeEleven$Text") := rfl
theorem tx_7_1 : TX7 1 = ("SchemeEleven$Scopes", "names", "[I", true) := rfl
theorem ty_7_1 : tyX7 1 = (.array .int) := rfl
theorem tx_7_2 : TX7 2 = ("SchemeEleven$Scopes", "infos", "[I", true) := rfl
theorem ty_7_2 : tyX7 2 = (.array .int) := rfl
theorem tx_7_3 : TX7 3 = ("SchemeEleven$Scopes", "outers", "[I", true) := rfl
theorem ty_7_3 : tyX7 3 = (.array .int) := rfl
theorem tx_7_4 : TX7 4 = ("SchemeEleven$Scopes", "nexts", "[I", true) := rfl
theorem ty_7_4 : tyX7 4 = (.array .int) := rfl
theorem tx_7_5 : TX7 5 = ("SchemeEleven$Scopes", "told", "I", false) := rfl
theorem ty_7_5 : tyX7 5 = .int := rfl
theorem tx_7_6 : TX7 6 = ("SchemeEleven$Scopes", "rules", "[I", true) := rfl
theorem ty_7_6 : tyX7 6 = (.array .int) := rfl
theorem tx_7_7 : TX7 7 = ("SchemeEleven$Scopes", "parts", "[I", true) := rfl
theorem ty_7_7 : tyX7 7 = (.array .int) := rfl
theorem tx_7_8 : TX7 8 = ("SchemeEleven$Scopes", "oldRules", "[I", true) := rfl
theorem ty_7_8 : tyX7 8 = (.array .int) := rfl
theorem tx_7_9 : TX7 9 = ("SchemeEleven$Scopes", "oldParts", "[I", true) := rfl
theorem ty_7_9 : tyX7 9 = (.array .int) := rfl
theorem tx_7_10 : TX7 10 = ("SchemeEleven$Scopes", "macros", "I", false) := rfl
theorem ty_7_10 : tyX7 10 = .int := rfl
theorem tx_7_11 : TX7 11 = ("SchemeEleven$Scopes", "allParts", "I", false) := rfl
theorem ty_7_11 : tyX7 11 = .int := rfl
theorem tx_7_12 : TX7 12 = ("SchemeEleven$Scopes", "oldMacros", "I", false) := rfl
theorem ty_7_12 : tyX7 12 = .int := rfl
theorem tx_7_13 : TX7 13 = ("SchemeEleven$Scopes", "oldAllParts", "I", false) := rfl
theorem ty_7_13 : tyX7 13 = .int := rfl
theorem tx_7_14 : TX7 14 = ("SchemeEleven$Scopes", "changed", "Z", false) := rfl
theorem ty_7_14 : tyX7 14 = .boolean := rfl
theorem tx_8_0 : TX8 0 = ("SchemeEleven$Scribe", "image", "LSchemeEleven$Image;", true) := rfl
theorem ty_8_0 : tyX8 0 = (.object "SchemeEleven$Image") := rfl
theorem tx_8_1 : TX8 1 = ("SchemeEleven$Scribe", "heap", "LSchemeEleven$Heap;", true) := rfl
theorem ty_8_1 : tyX8 1 = (.object "SchemeEleven$Heap") := rfl
theorem tx_8_2 : TX8 2 = ("SchemeEleven$Scribe", "line", "[I", true) := rfl
theorem ty_8_2 : tyX8 2 = (.array .int) := rfl
theorem tx_8_3 : TX8 3 = ("SchemeEleven$Scribe", "length", "I", false) := rfl
theorem ty_8_3 : tyX8 3 = .int := rfl
theorem tx_8_4 : TX8 4 = ("SchemeEleven$Scribe", "parts", "I", false) := rfl
theorem ty_8_4 : tyX8 4 = .int := rfl
theorem tx_8_5 : TX8 5 = ("SchemeEleven$Scribe", "ended", "Z", false) := rfl
theorem ty_8_5 : tyX8 5 = .boolean := rfl
theorem tx_8_6 : TX8 6 = ("SchemeEleven$Scribe", "paper", "[I", true) := rfl
theorem ty_8_6 : tyX8 6 = (.array .int) := rfl
theorem tx_8_7 : TX8 7 = ("SchemeEleven$Scribe", "kept", "I", false) := rfl
theorem ty_8_7 : tyX8 7 = .int := rfl
theorem tx_8_8 : TX8 8 = ("SchemeEleven$Scribe", "written", "I", false) := rfl
theorem ty_8_8 : tyX8 8 = .int := rfl
theorem tx_9_0 : TX9 0 = ("SchemeEleven$Spreader", "text", "LSchemeEleven$Text;", true) := rfl
theorem ty_9_0 : tyX9 0 = (.object "SchemeEleven$Text") := rfl
theorem tx_9_1 : TX9 1 = ("SchemeEleven$Spreader", "scopes", "LSchemeEleven$Scopes;", true) := rfl
theorem ty_9_1 : tyX9 1 = (.object "SchemeEleven$Scopes") := rfl
theorem tx_9_2 : TX9 2 = ("SchemeEleven$Spreader", "pattern", "LSchemeEleven$Pattern;", true) := rfl
theorem ty_9_2 : tyX9 2 = (.object "SchemeEleven$Pattern") := rfl
theorem tx_9_3 : TX9 3 = ("SchemeEleven$Spreader", "uses", "I", false) := rfl
theorem ty_9_3 : tyX9 3 = .int := rfl
theorem tx_9_4 : TX9 4 = ("SchemeEleven$Spreader", "made", "I", false) := rfl
theorem ty_9_4 : tyX9 4 = .int := rfl
theorem tx_9_5 : TX9 5 = ("SchemeEleven$Spreader", "seen", "I", false) := rfl
theorem ty_9_5 : tyX9 5 = .int := rfl
theorem tx_9_9 : TX9 9 = ("SchemeEleven$Spreader", "aliases", "[I", true) := rfl
theorem ty_9_9 : tyX9 9 = (.array .int) := rfl
theorem tx_10_0 : TX10 0 = ("SchemeEleven$Text", "tags", "[I", true) := rfl
theorem ty_10_0 : tyX10 0 = (.array .int) := rfl
theorem tx_10_1 : TX10 1 = ("SchemeEleven$Text", "firsts", "[I", true) := rfl
theorem ty_10_1 : tyX10 1 = (.array .int) := rfl
theorem tx_10_2 : TX10 2 = ("SchemeEleven$Text", "seconds", "[I", true) := rfl
theorem ty_10_2 : tyX10 2 = (.array .int) := rfl
theorem tx_10_3 : TX10 3 = ("SchemeEleven$Text", "used", "I", false) := rfl
theorem ty_10_3 : tyX10 3 = .int := rfl
theorem tx_10_4 : TX10 4 = ("SchemeEleven$Text", "half", "I", false) := rfl
theorem ty_10_4 : tyX10 4 = .int := rfl
theorem tx_10_5 : TX10 5 = ("SchemeEleven$Text", "keptUsed", "I", false) := rfl
theorem ty_10_5 : tyX10 5 = .int := rfl
theorem tx_10_6 : TX10 6 = ("SchemeEleven$Text", "fault", "I", false) := rfl
theorem ty_10_6 : tyX10 6 = .int := rfl
theorem tx_10_7 : TX10 7 = ("SchemeEleven$Text", "faultPlace", "I", false) := rfl
theorem ty_10_7 : tyX10 7 = .int := rfl
theorem tx_10_8 : TX10 8 = ("SchemeEleven$Text", "measured", "I", false) := rfl
theorem ty_10_8 : tyX10 8 = .int := rfl
theorem tx_11_0 : TX11 0 = ("SchemeEleven", "tape", "[I", true) := rfl
theorem ty_11_0 : tyX11 0 = (.array .int) := rfl
theorem tx_11_1 : TX11 1 = ("SchemeEleven", "taped", "I", false) := rfl
theorem ty_11_1 : tyX11 1 = .int := rfl
theorem tx_11_2 : TX11 2 = ("SchemeEleven", "bench", "LSchemeEleven$Machine;", true) := rfl
theorem ty_11_2 : tyX11 2 = (.object "SchemeEleven$Machine") := rfl
theorem tx_11_3 : TX11 3 = ("SchemeEleven", "benchSteps", "I", false) := rfl
theorem ty_11_3 : tyX11 3 = .int := rfl
theorem tx_11_4 : TX11 4 = ("SchemeEleven", "machine", "LSchemeEleven$Machine;", true) := rfl
theorem ty_11_4 : tyX11 4 = (.object "SchemeEleven$Machine") := rfl
theorem tx_11_5 : TX11 5 = ("SchemeEleven", "image", "LSchemeEleven$Image;", true) := rfl
theorem ty_11_5 : tyX11 5 = (.object "SchemeEleven$Image") := rfl
theorem tx_11_6 : TX11 6 = ("SchemeEleven", "heap", "LSchemeEleven$Heap;", true) := rfl
theorem ty_11_6 : tyX11 6 = (.object "SchemeEleven$Heap") := rfl
theorem tx_11_7 : TX11 7 = ("SchemeEleven", "scribe", "LSchemeEleven$Scribe;", true) := rfl
theorem ty_11_7 : tyX11 7 = (.object "SchemeEleven$Scribe") := rfl
theorem tx_11_8 : TX11 8 = ("SchemeEleven", "runner", "LSchemeEleven$Runner;", true) := rfl
theorem ty_11_8 : tyX11 8 = (.object "SchemeEleven$Runner") := rfl
theorem tx_11_9 : TX11 9 = ("SchemeEleven", "text", "LSchemeEleven$Text;", true) := rfl
theorem ty_11_9 : tyX11 9 = (.object "SchemeEleven$Text") := rfl
theorem tx_11_10 : TX11 10 = ("SchemeEleven", "scopes", "LSchemeEleven$Scopes;", true) := rfl
theorem ty_11_10 : tyX11 10 = (.object "SchemeEleven$Scopes") := rfl
theorem tx_11_11 : TX11 11 = ("SchemeEleven", "reader", "LSchemeEleven$Reader;", true) := rfl
theorem ty_11_11 : tyX11 11 = (.object "SchemeEleven$Reader") := rfl
theorem tx_11_12 : TX11 12 = ("SchemeEleven", "coder", "LSchemeEleven$Coder;", true) := rfl
theorem ty_11_12 : tyX11 12 = (.object "SchemeEleven$Coder") := rfl
theorem tx_11_13 : TX11 13 = ("SchemeEleven", "starts", "[I", true) := rfl
theorem ty_11_13 : tyX11 13 = (.array .int) := rfl
theorem tx_11_14 : TX11 14 = ("SchemeEleven", "page", "[I", true) := rfl
theorem ty_11_14 : tyX11 14 = (.array .int) := rfl
theorem tx_11_15 : TX11 15 = ("SchemeEleven", "paged", "I", false) := rfl
theorem ty_11_15 : tyX11 15 = .int := rfl
theorem tx_11_16 : TX11 16 = ("SchemeEleven", "faultKind", "I", false) := rfl
theorem ty_11_16 : tyX11 16 = .int := rfl
theorem tx_11_17 : TX11 17 = ("SchemeEleven", "faultPlace", "I", false) := rfl
theorem ty_11_17 : tyX11 17 = .int := rfl
theorem tx_12_0 : TX12 0 = ("SchemeElevenModel", "memory", "[[I", true) := rfl
theorem ty_12_0 : tyX12 0 = (.array (.array .int)) := rfl
theorem tx_12_1 : TX12 1 = ("SchemeElevenModel", "registers", "[[I", true) := rfl
theorem ty_12_1 : tyX12 1 = (.array (.array .int)) := rfl
theorem tx_12_2 : TX12 2 = ("SchemeElevenModel", "flags", "[[I", true) := rfl
theorem ty_12_2 : tyX12 2 = (.array (.array .int)) := rfl
theorem tx_12_3 : TX12 3 = ("SchemeElevenModel", "m", "I", false) := rfl
theorem ty_12_3 : tyX12 3 = .int := rfl
theorem tx_12_4 : TX12 4 = ("SchemeElevenModel", "stop", "I", false) := rfl
theorem ty_12_4 : tyX12 4 = .int := rfl
theorem tx_12_8 : TX12 8 = ("SchemeElevenModel", "latest", "I", false) := rfl
theorem ty_12_8 : tyX12 8 = .int := rfl
theorem tx_12_9 : TX12 9 = ("SchemeElevenModel", "staticEnd", "I", false) := rfl
theorem ty_12_9 : tyX12 9 = .int := rfl
theorem tx_12_10 : TX12 10 = ("SchemeElevenModel", "codeEnd", "I", false) := rfl
theorem ty_12_10 : tyX12 10 = .int := rfl
theorem tx_12_11 : TX12 11 = ("SchemeElevenModel", "heapEnd", "I", false) := rfl
theorem ty_12_11 : tyX12 11 = .int := rfl
theorem tx_12_12 : TX12 12 = ("SchemeElevenModel", "packed", "I", false) := rfl
theorem ty_12_12 : tyX12 12 = .int := rfl
theorem tx_12_13 : TX12 13 = ("SchemeElevenModel", "begins", "[Z", true) := rfl
theorem ty_12_13 : tyX12 13 = (.array .boolean) := rfl
theorem tx_12_14 : TX12 14 = ("SchemeElevenModel", "reached", "[Z", true) := rfl
theorem ty_12_14 : tyX12 14 = (.array .boolean) := rfl
theorem tx_12_15 : TX12 15 = ("SchemeElevenModel", "moved", "[I", true) := rfl
theorem ty_12_15 : tyX12 15 = (.array .int) := rfl
theorem tx_12_16 : TX12 16 = ("SchemeElevenModel", "waits", "[I", true) := rfl
theorem ty_12_16 : tyX12 16 = (.array .int) := rfl
theorem tx_12_19 : TX12 19 = ("SchemeElevenModel", "arguments", "[I", true) := rfl
theorem ty_12_19 : tyX12 19 = (.array .int) := rfl
theorem tx_12_22 : TX12 22 = ("SchemeElevenModel", "inputs", "[I", true) := rfl
theorem ty_12_22 : tyX12 22 = (.array .int) := rfl
theorem tx_12_23 : TX12 23 = ("SchemeElevenModel", "inputMany", "I", false) := rfl
theorem ty_12_23 : tyX12 23 = .int := rfl
theorem tx_12_24 : TX12 24 = ("SchemeElevenModel", "out", "[I", true) := rfl
theorem ty_12_24 : tyX12 24 = (.array .int) := rfl
theorem tx_12_25 : TX12 25 = ("SchemeElevenModel", "outMany", "I", false) := rfl
theorem ty_12_25 : tyX12 25 = .int := rfl
theorem tx_12_26 : TX12 26 = ("SchemeElevenModel", "kept", "I", false) := rfl
theorem ty_12_26 : tyX12 26 = .int := rfl
theorem tx_12_27 : TX12 27 = ("SchemeElevenModel", "line", "[I", true) := rfl
theorem ty_12_27 : tyX12 27 = (.array .int) := rfl
theorem tx_12_28 : TX12 28 = ("SchemeElevenModel", "lineSize", "I", false) := rfl
theorem ty_12_28 : tyX12 28 = .int := rfl
theorem tx_12_29 : TX12 29 = ("SchemeElevenModel", "items", "I", false) := rfl
theorem ty_12_29 : tyX12 29 = .int := rfl
theorem tx_12_30 : TX12 30 = ("SchemeElevenModel", "ended", "Z", false) := rfl
theorem ty_12_30 : tyX12 30 = .boolean := rfl
theorem tx_12_31 : TX12 31 = ("SchemeElevenModel", "tape", "[I", true) := rfl
theorem ty_12_31 : tyX12 31 = (.array .int) := rfl
theorem tx_12_32 : TX12 32 = ("SchemeElevenModel", "taped", "I", false) := rfl
theorem ty_12_32 : tyX12 32 = .int := rfl
theorem tx_12_33 : TX12 33 = ("SchemeElevenModel", "kind", "[I", true) := rfl
theorem ty_12_33 : tyX12 33 = (.array .int) := rfl
theorem tx_12_34 : TX12 34 = ("SchemeElevenModel", "head", "[I", true) := rfl
theorem ty_12_34 : tyX12 34 = (.array .int) := rfl
theorem tx_12_35 : TX12 35 = ("SchemeElevenModel", "rest", "[I", true) := rfl
theorem ty_12_35 : tyX12 35 = (.array .int) := rfl
theorem tx_12_36 : TX12 36 = ("SchemeElevenModel", "place", "[I", true) := rfl
theorem ty_12_36 : tyX12 36 = (.array .int) := rfl
theorem tx_12_37 : TX12 37 = ("SchemeElevenModel", "parts", "[I", true) := rfl
theorem ty_12_37 : tyX12 37 = (.array .int) := rfl
theorem tx_12_38 : TX12 38 = ("SchemeElevenModel", "depth", "[I", true) := rfl
theorem ty_12_38 : tyX12 38 = (.array .int) := rfl
theorem tx_12_39 : TX12 39 = ("SchemeElevenModel", "data", "I", false) := rfl
theorem ty_12_39 : tyX12 39 = .int := rfl
theorem tx_12_40 : TX12 40 = ("SchemeElevenModel", "fault", "I", false) := rfl
theorem ty_12_40 : tyX12 40 = .int := rfl
theorem tx_12_41 : TX12 41 = ("SchemeElevenModel", "faultAt", "I", false) := rfl
theorem ty_12_41 : tyX12 41 = .int := rfl
theorem tx_12_42 : TX12 42 = ("SchemeElevenModel", "letters", "[I", true) := rfl
theorem ty_12_42 : tyX12 42 = (.array .int) := rfl
theorem tx_12_43 : TX12 43 = ("SchemeElevenModel", "letterMany", "[I", true) := rfl
theorem ty_12_43 : tyX12 43 = (.array .int) := rfl
theorem tx_12_44 : TX12 44 = ("SchemeElevenModel", "symbolAt", "[I", true) := rfl
theorem ty_12_44 : tyX12 44 = (.array .int) := rfl
theorem tx_12_45 : TX12 45 = ("SchemeElevenModel", "symbols", "I", false) := rfl
theorem ty_12_45 : tyX12 45 = .int := rfl
theorem tx_12_46 : TX12 46 = ("SchemeElevenModel", "text", "[I", false) := rfl
theorem ty_12_46 : tyX12 46 = (.array .int) := rfl
theorem tx_12_47 : TX12 47 = ("SchemeElevenModel", "textSize", "I", false) := rfl
theorem ty_12_47 : tyX12 47 = .int := rfl
theorem tx_12_48 : TX12 48 = ("SchemeElevenModel", "pos", "I", false) := rfl
theorem ty_12_48 : tyX12 48 = .int := rfl
theorem tx_12_49 : TX12 49 = ("SchemeElevenModel", "from", "I", false) := rfl
theorem ty_12_49 : tyX12 49 = .int := rfl
theorem tx_12_50 : TX12 50 = ("SchemeElevenModel", "roots", "[I", true) := rfl
theorem ty_12_50 : tyX12 50 = (.array .int) := rfl
theorem tx_12_51 : TX12 51 = ("SchemeElevenModel", "forms", "I", false) := rfl
theorem ty_12_51 : tyX12 51 = .int := rfl
theorem tx_12_52 : TX12 52 = ("SchemeElevenModel", "first", "[I", true) := rfl
theorem ty_12_52 : tyX12 52 = (.array .int) := rfl
theorem tx_12_53 : TX12 53 = ("SchemeElevenModel", "latestPair", "[I", true) := rfl
theorem ty_12_53 : tyX12 53 = (.array .int) := rfl
theorem tx_12_54 : TX12 54 = ("SchemeElevenModel", "state", "[I", true) := rfl
theorem ty_12_54 : tyX12 54 = (.array .int) := rfl
theorem tx_12_55 : TX12 55 = ("SchemeElevenModel", "openAt", "[I", true) := rfl
theorem ty_12_55 : tyX12 55 = (.array .int) := rfl
theorem tx_12_56 : TX12 56 = ("SchemeElevenModel", "open", "I", false) := rfl
theorem ty_12_56 : tyX12 56 = .int := rfl
theorem tx_12_57 : TX12 57 = ("SchemeElevenModel", "row", "[I", true) := rfl
theorem ty_12_57 : tyX12 57 = (.array .int) := rfl
theorem tx_12_58 : TX12 58 = ("SchemeElevenModel", "aliasOf", "[I", true) := rfl
theorem ty_12_58 : tyX12 58 = (.array .int) := rfl
theorem tx_12_59 : TX12 59 = ("SchemeElevenModel", "aliasIn", "[I", true) := rfl
theorem ty_12_59 : tyX12 59 = (.array .int) := rfl
theorem tx_12_60 : TX12 60 = ("SchemeElevenModel", "aliases", "I", false) := rfl
theorem ty_12_60 : tyX12 60 = .int := rfl
theorem tx_12_61 : TX12 61 = ("SchemeElevenModel", "scopeAround", "[I", true) := rfl
theorem ty_12_61 : tyX12 61 = (.array .int) := rfl
theorem tx_12_62 : TX12 62 = ("SchemeElevenModel", "scopeFrom", "[I", true) := rfl
theorem ty_12_62 : tyX12 62 = (.array .int) := rfl
theorem tx_12_63 : TX12 63 = ("SchemeElevenModel", "scopeIsRib", "[I", true) := rfl
theorem ty_12_63 : tyX12 63 = (.array .int) := rfl
theorem tx_12_64 : TX12 64 = ("SchemeElevenModel", "scopes", "I", false) := rfl
theorem ty_12_64 : tyX12 64 = .int := rfl
theorem tx_12_65 : TX12 65 = ("SchemeElevenModel", "toldName", "[I", true) := rfl
theorem ty_12_65 : tyX12 65 = (.array .int) := rfl
theorem tx_12_66 : TX12 66 = ("SchemeElevenModel", "toldRules", "[I", true) := rfl
theorem ty_12_66 : tyX12 66 = (.array .int) := rfl
theorem tx_12_67 : TX12 67 = ("SchemeElevenModel", "toldMany", "I", false) := rfl
theorem ty_12_67 : tyX12 67 = .int := rfl
theorem tx_12_68 : TX12 68 = ("SchemeElevenModel", "macros", "I", false) := rfl
theorem ty_12_68 : tyX12 68 = .int := rfl
theorem tx_12_69 : TX12 69 = ("SchemeElevenModel", "macroName", "[I", true) := rfl
theorem ty_12_69 : tyX12 69 = (.array .int) := rfl
theorem tx_12_70 : TX12 70 = ("SchemeElevenModel", "macroRules", "[I", true) := rfl
theorem ty_12_70 : tyX12 70 = (.array .int) := rfl
theorem tx_12_71 : TX12 71 = ("SchemeElevenModel", "meant", "I", false) := rfl
theorem ty_12_71 : tyX12 71 = .int := rfl
theorem tx_12_72 : TX12 72 = ("SchemeElevenModel", "meantId", "I", false) := rfl
theorem ty_12_72 : tyX12 72 = .int := rfl
theorem tx_12_73 : TX12 73 = ("SchemeElevenModel", "meantScope", "I", false) := rfl
theorem ty_12_73 : tyX12 73 = .int := rfl
theorem tx_12_74 : TX12 74 = ("SchemeElevenModel", "variable", "[I", true) := rfl
theorem ty_12_74 : tyX12 74 = (.array .int) := rfl
theorem tx_12_75 : TX12 75 = ("SchemeElevenModel", "variableDepth", "[I", true) := rfl
theorem ty_12_75 : tyX12 75 = (.array .int) := rfl
theorem tx_12_76 : TX12 76 = ("SchemeElevenModel", "variables", "I", false) := rfl
theorem ty_12_76 : tyX12 76 = .int := rfl
theorem tx_12_77 : TX12 77 = ("SchemeElevenModel", "literals", "I", false) := rfl
theorem ty_12_77 : tyX12 77 = .int := rfl
theorem tx_12_78 : TX12 78 = ("SchemeElevenModel", "turn", "[I", true) := rfl
theorem ty_12_78 : tyX12 78 = (.array .int) := rfl
theorem tx_12_80 : TX12 80 = ("SchemeElevenModel", "uses", "I", false) := rfl
theorem ty_12_80 : tyX12 80 = .int := rfl
theorem tx_12_81 : TX12 81 = ("SchemeElevenModel", "madeParts", "I", false) := rfl
theorem ty_12_81 : tyX12 81 = .int := rfl
theorem tx_12_87 : TX12 87 = ("SchemeElevenModel", "pendingNames", "[I", true) := rfl
theorem ty_12_87 : tyX12 87 = (.array .int) := rfl
theorem tx_12_88 : TX12 88 = ("SchemeElevenModel", "pendingBody", "[I", true) := rfl
theorem ty_12_88 : tyX12 88 = (.array .int) := rfl
theorem tx_12_89 : TX12 89 = ("SchemeElevenModel", "pendingScope", "[I", true) := rfl
theorem ty_12_89 : tyX12 89 = (.array .int) := rfl
theorem tx_12_90 : TX12 90 = ("SchemeElevenModel", "pendingPlace", "[I", true) := rfl
theorem ty_12_90 : tyX12 90 = (.array .int) := rfl
theorem tx_12_91 : TX12 91 = ("SchemeElevenModel", "pendingLevel", "[I", true) := rfl
theorem ty_12_91 : tyX12 91 = (.array .int) := rfl
theorem tx_12_92 : TX12 92 = ("SchemeElevenModel", "pendingAt", "[I", true) := rfl
theorem ty_12_92 : tyX12 92 = (.array .int) := rfl
theorem tx_12_93 : TX12 93 = ("SchemeElevenModel", "pendings", "I", false) := rfl
theorem ty_12_93 : tyX12 93 = .int := rfl
theorem tx_12_94 : TX12 94 = ("SchemeElevenModel", "names", "[I", true) := rfl
theorem ty_12_94 : tyX12 94 = (.array .int) := rfl
theorem tx_12_97 : TX12 97 = ("SchemeElevenModel", "waitingDatum", "[I", true) := rfl
theorem ty_12_97 : tyX12 97 = (.array .int) := rfl
theorem tx_12_98 : TX12 98 = ("SchemeElevenModel", "waitingPlace", "[I", true) := rfl
theorem ty_12_98 : tyX12 98 = (.array .int) := rfl
theorem tx_12_99 : TX12 99 = ("SchemeElevenModel", "formAt", "[I", true) := rfl
theorem ty_12_99 : tyX12 99 = (.array .int) := rfl
theorem tx_12_100 : TX12 100 = ("SchemeElevenModel", "formMany", "I", false) := rfl
theorem ty_12_100 : tyX12 100 = .int := rfl
theorem tx_12_101 : TX12 101 = ("SchemeElevenModel", "nextForm", "I", false) := rfl
theorem ty_12_101 : tyX12 101 = .int := rfl
theorem tx_12_102 : TX12 102 = ("SchemeElevenModel", "begun", "Z", false) := rfl
theorem ty_12_102 : tyX12 102 = .boolean := rfl
theorem tx_12_103 : TX12 103 = ("SchemeElevenModel", "doneForms", "I", false) := rfl
theorem ty_12_103 : tyX12 103 = .int := rfl
theorem tx_12_104 : TX12 104 = ("SchemeElevenModel", "error", "I", false) := rfl
theorem ty_12_104 : tyX12 104 = .int := rfl
theorem tx_12_105 : TX12 105 = ("SchemeElevenModel", "formStart", "[I", true) := rfl
theorem ty_12_105 : tyX12 105 = (.array .int) := rfl
theorem tx_12_106 : TX12 106 = ("SchemeElevenModel", "formCount", "I", false) := rfl
theorem ty_12_106 : tyX12 106 = .int := rfl
theorem tx_12_107 : TX12 107 = ("SchemeElevenModel", "keptFrom", "I", false) := rfl
theorem ty_12_107 : tyX12 107 = .int := rfl
theorem tx_12_108 : TX12 108 = ("SchemeElevenModel", "keptMany", "I", false) := rfl
theorem ty_12_108 : tyX12 108 = .int := rfl
theorem tx_12_109 : TX12 109 = ("SchemeElevenModel", "savedData", "[[I", true) := rfl
theorem ty_12_109 : tyX12 109 = (.array (.array .int)) := rfl
theorem tx_12_110 : TX12 110 = ("SchemeElevenModel", "dataRows", "[[I", true) := rfl
theorem ty_12_110 : tyX12 110 = (.array (.array .int)) := rfl
theorem tx_12_111 : TX12 111 = ("SchemeElevenModel", "savedName", "[I", true) := rfl
theorem ty_12_111 : tyX12 111 = (.array .int) := rfl
theorem tx_12_112 : TX12 112 = ("SchemeElevenModel", "savedRules", "[I", true) := rfl
theorem ty_12_112 : tyX12 112 = (.array .int) := rfl
theorem tx_12_113 : TX12 113 = ("SchemeElevenModel", "starter", "[I", true) := rfl
theorem ty_12_113 : tyX12 113 = (.array .int) := rfl
noncomputable def mM_J0_charAt_5068e : zM := (⟨"java/lang/String", "charAt", "(I)C"⟩, prog_17_method_56_code, 2, some .char)
theorem zdd_J0_charAt_5068e : zDd mM_J0_charAt_5068e.1 1 := by unfold zDd; decide +kernel
noncomputable def mM_J0_coder_7d493 : zM := (⟨"java/lang/String", "coder", "()B"⟩, prog_17_method_152_code, 1, some .byte)
theorem zdd_J0_coder_7d493 : zDd mM_J0_coder_7d493.1 0 := by unfold zDd; decide +kernel
noncomputable def mM_J0_indexOf_0f7a4 : zM := (⟨"java/lang/String", "indexOf", "(I)I"⟩, prog_17_method_79_code, 2, some .int)
theorem zdd_J0_indexOf_0f7a4 : zDd mM_J0_indexOf_0f7a4.1 1 := by unfold zDd; decide +kernel
noncomputable def mM_J0_indexOf_7cf53 : zM := (⟨"java/lang/String", "indexOf", "(II)I"⟩, prog_17_method_80_code, 3, some .int)
theorem zdd_J0_indexOf_7cf53 : zDd mM_J0_indexOf_7cf53.1 2 := by unfold zDd; decide +kernel
noncomputable def mM_J0_isLatin1_aae02 : zM := (⟨"java/lang/String", "isLatin1", "()Z"⟩, prog_17_method_154_code, 1, some .boolean)
theorem zdd_J0_isLatin1_aae02 : zDd mM_J0_isLatin1_aae02.1 0 := by unfold zDd; decide +kernel
noncomputable def mM_J0_length_8abf5 : zM := (⟨"java/lang/String", "length", "()I"⟩, prog_17_method_54_code, 1, some .int)
theorem zdd_J0_length_8abf5 : zDd mM_J0_length_8abf5.1 0 := by unfold zDd; decide +kernel
noncomputable def mM_J1_canEncode_9a6ad : zM := (⟨"java/lang/StringLatin1", "canEncode", "(I)Z"⟩, prog_18_method_4_code, 1, some .boolean)
theorem zdd_J1_canEncode_9a6ad : zDd mM_J1_canEncode_9a6ad.1 1 := by unfold zDd; decide +kernel
noncomputable def mM_J1_charAt_3b067 : zM := (⟨"java/lang/StringLatin1", "charAt", "([BI)C"⟩, prog_18_method_2_code, 2, some .char)
theorem zdd_J1_charAt_3b067 : zDd mM_J1_charAt_3b067.1 2 := by unfold zDd; decide +kernel
noncomputable def mM_J1_indexOfChar_4cfef : zM := (⟨"java/lang/StringLatin1", "indexOfChar", "([BIII)I"⟩, prog_18_method_23_code, 6, some .int)
theorem zdd_J1_indexOfChar_4cfef : zDd mM_J1_indexOfChar_4cfef.1 4 := by unfold zDd; decide +kernel
noncomputable def mM_J1_indexOf_4cfef : zM := (⟨"java/lang/StringLatin1", "indexOf", "([BIII)I"⟩, prog_18_method_22_code, 4, some .int)
theorem zdd_J1_indexOf_4cfef : zDd mM_J1_indexOf_4cfef.1 4 := by unfold zDd; decide +kernel
noncomputable def mM_J7_fill_53178 : zM := (⟨"java/util/Arrays", "fill", "([II)V"⟩, prog_21_method_103_code, 4, none)
theorem zdd_J7_fill_53178 : zDd mM_J7_fill_53178.1 2 := by unfold zDd; decide +kernel
noncomputable def mM_X0_begin : zM := (⟨"SchemeEleven$Coder", "begin", "()V"⟩, prog_2_method_2_code, 1, none)
theorem zdd_X0_begin : zDd mM_X0_begin.1 0 := by unfold zDd; decide +kernel
noncomputable def mM_X0_beginForm : zM := (⟨"SchemeEleven$Coder", "beginForm", "(I)V"⟩, prog_2_method_3_code, 2, none)
theorem zdd_X0_beginForm : zDd mM_X0_beginForm.1 1 := by unfold zDd; decide +kernel
noncomputable def mM_X0_codeConstant : zM := (⟨"SchemeEleven$Coder", "codeConstant", "(I)V"⟩, prog_2_method_13_code, 2, none)
theorem zdd_X0_codeConstant : zDd mM_X0_codeConstant.1 1 := by unfold zDd; decide +kernel
noncomputable def mM_X0_codeDefineSyntax : zM := (⟨"SchemeEleven$Coder", "codeDefineSyntax", "()V"⟩, prog_2_method_20_code, 2, none)
theorem zdd_X0_codeDefineSyntax : zDd mM_X0_codeDefineSyntax.1 0 := by unfold zDd; decide +kernel
noncomputable def mM_X0_codeForm : zM := (⟨"SchemeEleven$Coder", "codeForm", "()V"⟩, prog_2_method_17_code, 3, none)
theorem zdd_X0_codeForm : zDd mM_X0_codeForm.1 0 := by unfold zDd; decide +kernel
noncomputable def mM_X0_emit : zM := (⟨"SchemeEleven$Coder", "emit", "(I)V"⟩, prog_2_method_10_code, 2, none)
theorem zdd_X0_emit : zDd mM_X0_emit.1 1 := by unfold zDd; decide +kernel
noncomputable def mM_X0_inTail : zM := (⟨"SchemeEleven$Coder", "inTail", "()Z"⟩, prog_2_method_8_code, 1, some .boolean)
theorem zdd_X0_inTail : zDd mM_X0_inTail.1 0 := by unfold zDd; decide +kernel
noncomputable def mM_X0_init : zM := (⟨"SchemeEleven$Coder", "<init>", "(LSchemeEleven$Text;LSchemeEleven$Image;LSchemeEleven$Scopes;)V"⟩, prog_2_method_1_code, 4, none)
theorem zdd_X0_init : zDd mM_X0_init.1 3 := by unfold zDd; decide +kernel
noncomputable def mM_X0_isBusy : zM := (⟨"SchemeEleven$Coder", "isBusy", "()Z"⟩, prog_2_method_4_code, 1, some .boolean)
theorem zdd_X0_isBusy : zDd mM_X0_isBusy.1 0 := by unfold zDd; decide +kernel
noncomputable def mM_X0_meaningOfFirst : zM := (⟨"SchemeEleven$Coder", "meaningOfFirst", "()I"⟩, prog_2_method_16_code, 2, some .int)
theorem zdd_X0_meaningOfFirst : zDd mM_X0_meaningOfFirst.1 0 := by unfold zDd; decide +kernel
noncomputable def mM_X0_push : zM := (⟨"SchemeEleven$Coder", "push", "(IIIII)V"⟩, prog_2_method_6_code, 7, none)
theorem zdd_X0_push : zDd mM_X0_push.1 5 := by unfold zDd; decide +kernel
noncomputable def mM_X0_second : zM := (⟨"SchemeEleven$Coder", "second", "()I"⟩, prog_2_method_14_code, 1, some .int)
theorem zdd_X0_second : zDd mM_X0_second.1 0 := by unfold zDd; decide +kernel
noncomputable def mM_X0_tellMacro : zM := (⟨"SchemeEleven$Coder", "tellMacro", "(Z)V"⟩, prog_2_method_21_code, 3, none)
theorem zdd_X0_tellMacro : zDd mM_X0_tellMacro.1 1 := by unfold zDd; decide +kernel
noncomputable def mM_X0_third : zM := (⟨"SchemeEleven$Coder", "third", "()I"⟩, prog_2_method_15_code, 1, some .int)
theorem zdd_X0_third : zDd mM_X0_third.1 0 := by unfold zDd; decide +kernel
noncomputable def mM_X0_work : zM := (⟨"SchemeEleven$Coder", "work", "()V"⟩, prog_2_method_5_code, 3, none)
theorem zdd_X0_work : zDd mM_X0_work.1 0 := by unfold zDd; decide +kernel
noncomputable def mM_X1_clear : zM := (⟨"SchemeEleven$Heap", "clear", "()V"⟩, prog_3_method_2_code, 1, none)
theorem zdd_X1_clear : zDd mM_X1_clear.1 0 := by unfold zDd; decide +kernel
noncomputable def mM_X1_init : zM := (⟨"SchemeEleven$Heap", "<init>", "(LSchemeEleven$Machine;LSchemeEleven$Image;)V"⟩, prog_3_method_1_code, 3, none)
theorem zdd_X1_init : zDd mM_X1_init.1 2 := by unfold zDd; decide +kernel
noncomputable def mM_X1_kind : zM := (⟨"SchemeEleven$Heap", "kind", "(I)I"⟩, prog_3_method_3_code, 3, some .int)
theorem zdd_X1_kind : zDd mM_X1_kind.1 1 := by unfold zDd; decide +kernel
noncomputable def mM_X2_addStatic : zM := (⟨"SchemeEleven$Image", "addStatic", "(III)I"⟩, prog_4_method_10_code, 5, some .int)
theorem zdd_X2_addStatic : zDd mM_X2_addStatic.1 3 := by unfold zDd; decide +kernel
noncomputable def mM_X2_addSymbol : zM := (⟨"SchemeEleven$Image", "addSymbol", "([III)I"⟩, prog_4_method_9_code, 6, some .int)
theorem zdd_X2_addSymbol : zDd mM_X2_addSymbol.1 3 := by unfold zDd; decide +kernel
noncomputable def mM_X2_addWord : zM := (⟨"SchemeEleven$Image", "addWord", "(I)Z"⟩, prog_4_method_11_code, 2, some .boolean)
theorem zdd_X2_addWord : zDd mM_X2_addWord.1 1 := by unfold zDd; decide +kernel
noncomputable def mM_X2_clear : zM := (⟨"SchemeEleven$Image", "clear", "()V"⟩, prog_4_method_2_code, 1, none)
theorem zdd_X2_clear : zDd mM_X2_clear.1 0 := by unfold zDd; decide +kernel
noncomputable def mM_X2_find : zM := (⟨"SchemeEleven$Image", "find", "([III)I"⟩, prog_4_method_7_code, 5, some .int)
theorem zdd_X2_find : zDd mM_X2_find.1 3 := by unfold zDd; decide +kernel
noncomputable def mM_X2_init : zM := (⟨"SchemeEleven$Image", "<init>", "(LSchemeEleven$Machine;)V"⟩, prog_4_method_1_code, 2, none)
theorem zdd_X2_init : zDd mM_X2_init.1 1 := by unfold zDd; decide +kernel
noncomputable def mM_X2_letterOf : zM := (⟨"SchemeEleven$Image", "letterOf", "(II)I"⟩, prog_4_method_6_code, 3, some .int)
theorem zdd_X2_letterOf : zDd mM_X2_letterOf.1 2 := by unfold zDd; decide +kernel
noncomputable def mM_X2_mark : zM := (⟨"SchemeEleven$Image", "mark", "()V"⟩, prog_4_method_3_code, 1, none)
theorem zdd_X2_mark : zDd mM_X2_mark.1 0 := by unfold zDd; decide +kernel
noncomputable def mM_X2_placeOf : zM := (⟨"SchemeEleven$Image", "placeOf", "(I)I"⟩, prog_4_method_5_code, 2, some .int)
theorem zdd_X2_placeOf : zDd mM_X2_placeOf.1 1 := by unfold zDd; decide +kernel
noncomputable def mM_X2_same : zM := (⟨"SchemeEleven$Image", "same", "(I[III)Z"⟩, prog_4_method_8_code, 6, some .boolean)
theorem zdd_X2_same : zDd mM_X2_same.1 4 := by unfold zDd; decide +kernel
noncomputable def mM_X3_at : zM := (⟨"SchemeEleven$Machine", "at", "(I)I"⟩, prog_5_method_4_code, 3, some .int)
theorem zdd_X3_at : zDd mM_X3_at.1 1 := by unfold zDd; decide +kernel
noncomputable def mM_X3_clear : zM := (⟨"SchemeEleven$Machine", "clear", "()V"⟩, prog_5_method_2_code, 1, none)
theorem zdd_X3_clear : zDd mM_X3_clear.1 0 := by unfold zDd; decide +kernel
noncomputable def mM_X3_holds : zM := (⟨"SchemeEleven$Machine", "holds", "(I)Z"⟩, prog_5_method_3_code, 2, some .boolean)
theorem zdd_X3_holds : zDd mM_X3_holds.1 1 := by unfold zDd; decide +kernel
noncomputable def mM_X3_init : zM := (⟨"SchemeEleven$Machine", "<init>", "(I)V"⟩, prog_5_method_1_code, 2, none)
theorem zdd_X3_init : zDd mM_X3_init.1 1 := by unfold zDd; decide +kernel
noncomputable def mM_X3_low : zM := (⟨"SchemeEleven$Machine", "low", "(I)I"⟩, prog_5_method_9_code, 3, some .int)
theorem zdd_X3_low : zDd mM_X3_low.1 1 := by unfold zDd; decide +kernel
noncomputable def mM_X3_put : zM := (⟨"SchemeEleven$Machine", "put", "(II)V"⟩, prog_5_method_5_code, 4, none)
theorem zdd_X3_put : zDd mM_X3_put.1 2 := by unfold zDd; decide +kernel
noncomputable def mM_X3_putFlags : zM := (⟨"SchemeEleven$Machine", "putFlags", "(I)V"⟩, prog_5_method_6_code, 2, none)
theorem zdd_X3_putFlags : zDd mM_X3_putFlags.1 1 := by unfold zDd; decide +kernel
noncomputable def mM_X3_step : zM := (⟨"SchemeEleven$Machine", "step", "()I"⟩, prog_5_method_8_code, 1, some .int)
theorem zdd_X3_step : zDd mM_X3_step.1 0 := by unfold zDd; decide +kernel
noncomputable def mM_X3_told : zM := (⟨"SchemeEleven$Machine", "told", "(I)I"⟩, prog_5_method_7_code, 2, some .int)
theorem zdd_X3_told : zDd mM_X3_told.1 1 := by unfold zDd; decide +kernel
noncomputable def mM_X4_begin : zM := (⟨"SchemeEleven$Pattern", "begin", "(I)V"⟩, prog_6_method_2_code, 2, none)
theorem zdd_X4_begin : zDd mM_X4_begin.1 1 := by unfold zDd; decide +kernel
noncomputable def mM_X4_depthOf : zM := (⟨"SchemeEleven$Pattern", "depthOf", "(I)I"⟩, prog_6_method_9_code, 2, some .int)
theorem zdd_X4_depthOf : zDd mM_X4_depthOf.1 1 := by unfold zDd; decide +kernel
noncomputable def mM_X4_find : zM := (⟨"SchemeEleven$Pattern", "find", "(I)I"⟩, prog_6_method_8_code, 3, some .int)
theorem zdd_X4_find : zDd mM_X4_find.1 1 := by unfold zDd; decide +kernel
noncomputable def mM_X4_hasTwins : zM := (⟨"SchemeEleven$Pattern", "hasTwins", "()Z"⟩, prog_6_method_6_code, 2, some .boolean)
theorem zdd_X4_hasTwins : zDd mM_X4_hasTwins.1 0 := by unfold zDd; decide +kernel
noncomputable def mM_X4_init : zM := (⟨"SchemeEleven$Pattern", "<init>", "(LSchemeEleven$Text;)V"⟩, prog_6_method_1_code, 2, none)
theorem zdd_X4_init : zDd mM_X4_init.1 1 := by unfold zDd; decide +kernel
noncomputable def mM_X4_isLiteral : zM := (⟨"SchemeEleven$Pattern", "isLiteral", "(I)Z"⟩, prog_6_method_7_code, 5, some .boolean)
theorem zdd_X4_isLiteral : zDd mM_X4_isLiteral.1 1 := by unfold zDd; decide +kernel
noncomputable def mM_X4_learn : zM := (⟨"SchemeEleven$Pattern", "learn", "(IIII)Z"⟩, prog_6_method_3_code, 9, some .boolean)
theorem zdd_X4_learn : zDd mM_X4_learn.1 4 := by unfold zDd; decide +kernel
noncomputable def mM_X4_learnGroup : zM := (⟨"SchemeEleven$Pattern", "learnGroup", "(III)Z"⟩, prog_6_method_4_code, 6, some .boolean)
theorem zdd_X4_learnGroup : zDd mM_X4_learnGroup.1 3 := by unfold zDd; decide +kernel
noncomputable def mM_X4_learnVariable : zM := (⟨"SchemeEleven$Pattern", "learnVariable", "(III)V"⟩, prog_6_method_5_code, 4, none)
theorem zdd_X4_learnVariable : zDd mM_X4_learnVariable.1 3 := by unfold zDd; decide +kernel
noncomputable def mM_X5_append : zM := (⟨"SchemeEleven$Reader", "append", "(II)V"⟩, prog_7_method_18_code, 5, none)
theorem zdd_X5_append : zDd mM_X5_append.1 2 := by unfold zDd; decide +kernel
noncomputable def mM_X5_closeList : zM := (⟨"SchemeEleven$Reader", "closeList", "(I)V"⟩, prog_7_method_10_code, 3, none)
theorem zdd_X5_closeList : zDd mM_X5_closeList.1 1 := by unfold zDd; decide +kernel
noncomputable def mM_X5_deliver : zM := (⟨"SchemeEleven$Reader", "deliver", "(I)V"⟩, prog_7_method_16_code, 4, none)
theorem zdd_X5_deliver : zDd mM_X5_deliver.1 1 := by unfold zDd; decide +kernel
noncomputable def mM_X5_endOfToken : zM := (⟨"SchemeEleven$Reader", "endOfToken", "([III)I"⟩, prog_7_method_7_code, 4, some .int)
theorem zdd_X5_endOfToken : zDd mM_X5_endOfToken.1 3 := by unfold zDd; decide +kernel
noncomputable def mM_X5_formAt : zM := (⟨"SchemeEleven$Reader", "formAt", "(I)I"⟩, prog_7_method_2_code, 2, some .int)
theorem zdd_X5_formAt : zDd mM_X5_formAt.1 1 := by unfold zDd; decide +kernel
noncomputable def mM_X5_init : zM := (⟨"SchemeEleven$Reader", "<init>", "(LSchemeEleven$Text;LSchemeEleven$Image;)V"⟩, prog_7_method_1_code, 3, none)
theorem zdd_X5_init : zDd mM_X5_init.1 2 := by unfold zDd; decide +kernel
noncomputable def mM_X5_isDigit : zM := (⟨"SchemeEleven$Reader", "isDigit", "(I)Z"⟩, prog_7_method_5_code, 1, some .boolean)
theorem zdd_X5_isDigit : zDd mM_X5_isDigit.1 1 := by unfold zDd; decide +kernel
noncomputable def mM_X5_isSign : zM := (⟨"SchemeEleven$Reader", "isSign", "(I)Z"⟩, prog_7_method_6_code, 1, some .boolean)
theorem zdd_X5_isSign : zDd mM_X5_isSign.1 1 := by unfold zDd; decide +kernel
noncomputable def mM_X5_mayStand : zM := (⟨"SchemeEleven$Reader", "mayStand", "(I)Z"⟩, prog_7_method_8_code, 3, some .boolean)
theorem zdd_X5_mayStand : zDd mM_X5_mayStand.1 1 := by unfold zDd; decide +kernel
noncomputable def mM_X5_readAll : zM := (⟨"SchemeEleven$Reader", "readAll", "([II)V"⟩, prog_7_method_3_code, 7, none)
theorem zdd_X5_readAll : zDd mM_X5_readAll.1 2 := by unfold zDd; decide +kernel
noncomputable def mM_X5_readBoolean : zM := (⟨"SchemeEleven$Reader", "readBoolean", "(II)V"⟩, prog_7_method_12_code, 3, none)
theorem zdd_X5_readBoolean : zDd mM_X5_readBoolean.1 2 := by unfold zDd; decide +kernel
noncomputable def mM_X5_readMark : zM := (⟨"SchemeEleven$Reader", "readMark", "(II)V"⟩, prog_7_method_9_code, 3, none)
theorem zdd_X5_readMark : zDd mM_X5_readMark.1 2 := by unfold zDd; decide +kernel
noncomputable def mM_X5_readName : zM := (⟨"SchemeEleven$Reader", "readName", "([III)V"⟩, prog_7_method_15_code, 5, none)
theorem zdd_X5_readName : zDd mM_X5_readName.1 3 := by unfold zDd; decide +kernel
noncomputable def mM_X5_readNumber : zM := (⟨"SchemeEleven$Reader", "readNumber", "([III)V"⟩, prog_7_method_13_code, 9, none)
theorem zdd_X5_readNumber : zDd mM_X5_readNumber.1 3 := by unfold zDd; decide +kernel
noncomputable def mM_X5_readRow : zM := (⟨"SchemeEleven$Reader", "readRow", "([III)V"⟩, prog_7_method_11_code, 5, none)
theorem zdd_X5_readRow : zDd mM_X5_readRow.1 3 := by unfold zDd; decide +kernel
noncomputable def mM_X5_skipBlanks : zM := (⟨"SchemeEleven$Reader", "skipBlanks", "([III)I"⟩, prog_7_method_4_code, 6, some .int)
theorem zdd_X5_skipBlanks : zDd mM_X5_skipBlanks.1 3 := by unfold zDd; decide +kernel
noncomputable def mM_X6_clear : zM := (⟨"SchemeEleven$Runner", "clear", "()V"⟩, prog_8_method_2_code, 1, none)
theorem zdd_X6_clear : zDd mM_X6_clear.1 0 := by unfold zDd; decide +kernel
noncomputable def mM_X6_init : zM := (⟨"SchemeEleven$Runner", "<init>", "(LSchemeEleven$Machine;LSchemeEleven$Heap;LSchemeEleven$Scribe;)V"⟩, prog_8_method_1_code, 4, none)
theorem zdd_X6_init : zDd mM_X6_init.1 3 := by unfold zDd; decide +kernel
noncomputable def mM_X6_offer : zM := (⟨"SchemeEleven$Runner", "offer", "(I)Z"⟩, prog_8_method_4_code, 2, some .boolean)
theorem zdd_X6_offer : zDd mM_X6_offer.1 1 := by unfold zDd; decide +kernel
noncomputable def mM_X6_proceed : zM := (⟨"SchemeEleven$Runner", "proceed", "(I)I"⟩, prog_8_method_5_code, 4, some .int)
theorem zdd_X6_proceed : zDd mM_X6_proceed.1 1 := by unfold zDd; decide +kernel
noncomputable def mM_X7_clear : zM := (⟨"SchemeEleven$Scopes", "clear", "()V"⟩, prog_9_method_2_code, 1, none)
theorem zdd_X7_clear : zDd mM_X7_clear.1 0 := by unfold zDd; decide +kernel
noncomputable def mM_X7_init : zM := (⟨"SchemeEleven$Scopes", "<init>", "(LSchemeEleven$Text;)V"⟩, prog_9_method_1_code, 2, none)
theorem zdd_X7_init : zDd mM_X7_init.1 1 := by unfold zDd; decide +kernel
noncomputable def mM_X7_isMacro : zM := (⟨"SchemeEleven$Scopes", "isMacro", "(I)Z"⟩, prog_9_method_11_code, 2, some .boolean)
theorem zdd_X7_isMacro : zDd mM_X7_isMacro.1 1 := by unfold zDd; decide +kernel
noncomputable def mM_X7_keep : zM := (⟨"SchemeEleven$Scopes", "keep", "()V"⟩, prog_9_method_5_code, 2, none)
theorem zdd_X7_keep : zDd mM_X7_keep.1 0 := by unfold zDd; decide +kernel
noncomputable def mM_X7_keywordOf : zM := (⟨"SchemeEleven$Scopes", "keywordOf", "(I)I"⟩, prog_9_method_14_code, 2, some .int)
theorem zdd_X7_keywordOf : zDd mM_X7_keywordOf.1 1 := by unfold zDd; decide +kernel
noncomputable def mM_X7_mark : zM := (⟨"SchemeEleven$Scopes", "mark", "()V"⟩, prog_9_method_3_code, 1, none)
theorem zdd_X7_mark : zDd mM_X7_mark.1 0 := by unfold zDd; decide +kernel
noncomputable def mM_X7_meaning : zM := (⟨"SchemeEleven$Scopes", "meaning", "(II)I"⟩, prog_9_method_9_code, 7, some .int)
theorem zdd_X7_meaning : zDd mM_X7_meaning.1 2 := by unfold zDd; decide +kernel
noncomputable def mM_X7_ofSymbol : zM := (⟨"SchemeEleven$Scopes", "ofSymbol", "(I)I"⟩, prog_9_method_10_code, 2, some .int)
theorem zdd_X7_ofSymbol : zDd mM_X7_ofSymbol.1 1 := by unfold zDd; decide +kernel
noncomputable def mM_X7_tellMacro : zM := (⟨"SchemeEleven$Scopes", "tellMacro", "(II)Z"⟩, prog_9_method_6_code, 5, some .boolean)
theorem zdd_X7_tellMacro : zDd mM_X7_tellMacro.1 2 := by unfold zDd; decide +kernel
noncomputable def mM_X8_begin : zM := (⟨"SchemeEleven$Scribe", "begin", "()V"⟩, prog_10_method_6_code, 1, none)
theorem zdd_X8_begin : zDd mM_X8_begin.1 0 := by unfold zDd; decide +kernel
noncomputable def mM_X8_clear : zM := (⟨"SchemeEleven$Scribe", "clear", "()V"⟩, prog_10_method_2_code, 1, none)
theorem zdd_X8_clear : zDd mM_X8_clear.1 0 := by unfold zDd; decide +kernel
noncomputable def mM_X8_init : zM := (⟨"SchemeEleven$Scribe", "<init>", "(LSchemeEleven$Image;LSchemeEleven$Heap;)V"⟩, prog_10_method_1_code, 3, none)
theorem zdd_X8_init : zDd mM_X8_init.1 2 := by unfold zDd; decide +kernel
noncomputable def mM_X8_mark : zM := (⟨"SchemeEleven$Scribe", "mark", "(II)V"⟩, prog_10_method_10_code, 4, none)
theorem zdd_X8_mark : zDd mM_X8_mark.1 2 := by unfold zDd; decide +kernel
noncomputable def mM_X8_part : zM := (⟨"SchemeEleven$Scribe", "part", "(II)V"⟩, prog_10_method_8_code, 4, none)
theorem zdd_X8_part : zDd mM_X8_part.1 2 := by unfold zDd; decide +kernel
noncomputable def mM_X8_render : zM := (⟨"SchemeEleven$Scribe", "render", "(I)V"⟩, prog_10_method_5_code, 2, none)
theorem zdd_X8_render : zDd mM_X8_render.1 1 := by unfold zDd; decide +kernel
noncomputable def mM_X9_areNames : zM := (⟨"SchemeEleven$Spreader", "areNames", "(I)Z"⟩, prog_11_method_4_code, 4, some .boolean)
theorem zdd_X9_areNames : zDd mM_X9_areNames.1 1 := by unfold zDd; decide +kernel
noncomputable def mM_X9_begin : zM := (⟨"SchemeEleven$Spreader", "begin", "()V"⟩, prog_11_method_2_code, 1, none)
theorem zdd_X9_begin : zDd mM_X9_begin.1 0 := by unfold zDd; decide +kernel
noncomputable def mM_X9_init : zM := (⟨"SchemeEleven$Spreader", "<init>", "(LSchemeEleven$Text;LSchemeEleven$Scopes;)V"⟩, prog_11_method_1_code, 3, none)
theorem zdd_X9_init : zDd mM_X9_init.1 2 := by unfold zDd; decide +kernel
noncomputable def mM_X9_isRule : zM := (⟨"SchemeEleven$Spreader", "isRule", "(II)Z"⟩, prog_11_method_5_code, 4, some .boolean)
theorem zdd_X9_isRule : zDd mM_X9_isRule.1 2 := by unfold zDd; decide +kernel
noncomputable def mM_X9_isRules : zM := (⟨"SchemeEleven$Spreader", "isRules", "(I)Z"⟩, prog_11_method_3_code, 5, some .boolean)
theorem zdd_X9_isRules : zDd mM_X9_isRules.1 1 := by unfold zDd; decide +kernel
noncomputable def mM_X9_isTemplate : zM := (⟨"SchemeEleven$Spreader", "isTemplate", "(III)Z"⟩, prog_11_method_6_code, 9, some .boolean)
theorem zdd_X9_isTemplate : zDd mM_X9_isTemplate.1 3 := by unfold zDd; decide +kernel
noncomputable def mM_X10_add : zM := (⟨"SchemeEleven$Text", "add", "(IIIII)I"⟩, prog_12_method_5_code, 7, some .int)
theorem zdd_X10_add : zDd mM_X10_add.1 5 := by unfold zDd; decide +kernel
noncomputable def mM_X10_addKept : zM := (⟨"SchemeEleven$Text", "addKept", "(I)I"⟩, prog_12_method_28_code, 4, some .int)
theorem zdd_X10_addKept : zDd mM_X10_addKept.1 1 := by unfold zDd; decide +kernel
noncomputable def mM_X10_begin : zM := (⟨"SchemeEleven$Text", "begin", "()V"⟩, prog_12_method_3_code, 1, none)
theorem zdd_X10_begin : zDd mM_X10_begin.1 0 := by unfold zDd; decide +kernel
noncomputable def mM_X10_clear : zM := (⟨"SchemeEleven$Text", "clear", "()V"⟩, prog_12_method_2_code, 1, none)
theorem zdd_X10_clear : zDd mM_X10_clear.1 0 := by unfold zDd; decide +kernel
noncomputable def mM_X10_copy : zM := (⟨"SchemeEleven$Text", "copy", "(II)I"⟩, prog_12_method_27_code, 7, some .int)
theorem zdd_X10_copy : zDd mM_X10_copy.1 2 := by unfold zDd; decide +kernel
noncomputable def mM_X10_count : zM := (⟨"SchemeEleven$Text", "count", "(I)I"⟩, prog_12_method_20_code, 4, some .int)
theorem zdd_X10_count : zDd mM_X10_count.1 1 := by unfold zDd; decide +kernel
noncomputable def mM_X10_findsAlias : zM := (⟨"SchemeEleven$Text", "findsAlias", "(II)Z"⟩, prog_12_method_24_code, 5, some .boolean)
theorem zdd_X10_findsAlias : zDd mM_X10_findsAlias.1 2 := by unfold zDd; decide +kernel
noncomputable def mM_X10_first : zM := (⟨"SchemeEleven$Text", "first", "(I)I"⟩, prog_12_method_9_code, 2, some .int)
theorem zdd_X10_first : zDd mM_X10_first.1 1 := by unfold zDd; decide +kernel
noncomputable def mM_X10_hasAlias : zM := (⟨"SchemeEleven$Text", "hasAlias", "(I)Z"⟩, prog_12_method_23_code, 2, some .boolean)
theorem zdd_X10_hasAlias : zDd mM_X10_hasAlias.1 1 := by unfold zDd; decide +kernel
noncomputable def mM_X10_init : zM := (⟨"SchemeEleven$Text", "<init>", "()V"⟩, prog_12_method_1_code, 1, none)
theorem zdd_X10_init : zDd mM_X10_init.1 0 := by unfold zDd; decide +kernel
noncomputable def mM_X10_isCons : zM := (⟨"SchemeEleven$Text", "isCons", "(I)Z"⟩, prog_12_method_8_code, 2, some .boolean)
theorem zdd_X10_isCons : zDd mM_X10_isCons.1 1 := by unfold zDd; decide +kernel
noncomputable def mM_X10_isName : zM := (⟨"SchemeEleven$Text", "isName", "(I)Z"⟩, prog_12_method_13_code, 2, some .boolean)
theorem zdd_X10_isName : zDd mM_X10_isName.1 1 := by unfold zDd; decide +kernel
noncomputable def mM_X10_keep : zM := (⟨"SchemeEleven$Text", "keep", "(I)I"⟩, prog_12_method_26_code, 2, some .int)
theorem zdd_X10_keep : zDd mM_X10_keep.1 1 := by unfold zDd; decide +kernel
noncomputable def mM_X10_kind : zM := (⟨"SchemeEleven$Text", "kind", "(I)I"⟩, prog_12_method_6_code, 2, some .int)
theorem zdd_X10_kind : zDd mM_X10_kind.1 1 := by unfold zDd; decide +kernel
noncomputable def mM_X10_measure : zM := (⟨"SchemeEleven$Text", "measure", "(III)I"⟩, prog_12_method_21_code, 4, some .int)
theorem zdd_X10_measure : zDd mM_X10_measure.1 3 := by unfold zDd; decide +kernel
noncomputable def mM_X10_nameOf : zM := (⟨"SchemeEleven$Text", "nameOf", "(I)I"⟩, prog_12_method_14_code, 3, some .int)
theorem zdd_X10_nameOf : zDd mM_X10_nameOf.1 1 := by unfold zDd; decide +kernel
noncomputable def mM_X10_place : zM := (⟨"SchemeEleven$Text", "place", "(I)I"⟩, prog_12_method_7_code, 2, some .int)
theorem zdd_X10_place : zDd mM_X10_place.1 1 := by unfold zDd; decide +kernel
noncomputable def mM_X10_repeats : zM := (⟨"SchemeEleven$Text", "repeats", "(I)Z"⟩, prog_12_method_16_code, 5, some .boolean)
theorem zdd_X10_repeats : zDd mM_X10_repeats.1 1 := by unfold zDd; decide +kernel
noncomputable def mM_X10_rest : zM := (⟨"SchemeEleven$Text", "rest", "(I)I"⟩, prog_12_method_10_code, 2, some .int)
theorem zdd_X10_rest : zDd mM_X10_rest.1 1 := by unfold zDd; decide +kernel
noncomputable def mM_X10_setFirst : zM := (⟨"SchemeEleven$Text", "setFirst", "(II)V"⟩, prog_12_method_11_code, 3, none)
theorem zdd_X10_setFirst : zDd mM_X10_setFirst.1 2 := by unfold zDd; decide +kernel
noncomputable def mM_X10_setRest : zM := (⟨"SchemeEleven$Text", "setRest", "(II)V"⟩, prog_12_method_12_code, 3, none)
theorem zdd_X10_setRest : zDd mM_X10_setRest.1 2 := by unfold zDd; decide +kernel
noncomputable def mM_X10_symbolAtLast : zM := (⟨"SchemeEleven$Text", "symbolAtLast", "(I)I"⟩, prog_12_method_15_code, 3, some .int)
theorem zdd_X10_symbolAtLast : zDd mM_X10_symbolAtLast.1 1 := by unfold zDd; decide +kernel
noncomputable def mM_X10_turnKept : zM := (⟨"SchemeEleven$Text", "turnKept", "()V"⟩, prog_12_method_25_code, 1, none)
theorem zdd_X10_turnKept : zDd mM_X10_turnKept.1 0 := by unfold zDd; decide +kernel
noncomputable def mM_X10_weigh : zM := (⟨"SchemeEleven$Text", "weigh", "(III)V"⟩, prog_12_method_22_code, 5, none)
theorem zdd_X10_weigh : zDd mM_X10_weigh.1 3 := by unfold zDd; decide +kernel
noncomputable def mM_X11_clearScheme : zM := (⟨"SchemeEleven", "clearScheme", "()V"⟩, prog_1_method_22_code, 1, none)
theorem zdd_X11_clearScheme : zDd mM_X11_clearScheme.1 0 := by unfold zDd; decide +kernel
noncomputable def mM_X11_end : zM := (⟨"SchemeEleven", "end", "(I)Z"⟩, prog_1_method_3_code, 2, some .boolean)
theorem zdd_X11_end : zDd mM_X11_end.1 1 := by unfold zDd; decide +kernel
noncomputable def mM_X11_fault : zM := (⟨"SchemeEleven", "fault", "(I)I"⟩, prog_1_method_5_code, 2, some .int)
theorem zdd_X11_fault : zDd mM_X11_fault.1 1 := by unfold zDd; decide +kernel
noncomputable def mM_X11_feed : zM := (⟨"SchemeEleven", "feed", "(IIIII)I"⟩, prog_1_method_2_code, 6, some .int)
theorem zdd_X11_feed : zDd mM_X11_feed.1 5 := by unfold zDd; decide +kernel
noncomputable def mM_X11_go : zM := (⟨"SchemeEleven", "go", "(I)I"⟩, prog_1_method_17_code, 4, some .int)
theorem zdd_X11_go : zDd mM_X11_go.1 1 := by unfold zDd; decide +kernel
noncomputable def mM_X11_held : zM := (⟨"SchemeEleven", "held", "(I)I"⟩, prog_1_method_19_code, 2, some .int)
theorem zdd_X11_held : zDd mM_X11_held.1 1 := by unfold zDd; decide +kernel
noncomputable def mM_X11_init : zM := (⟨"SchemeEleven", "<init>", "()V"⟩, prog_1_method_1_code, 1, none)
theorem zdd_X11_init : zDd mM_X11_init.1 0 := by unfold zDd; decide +kernel
noncomputable def mM_X11_input : zM := (⟨"SchemeEleven", "input", "(I)Z"⟩, prog_1_method_12_code, 2, some .boolean)
theorem zdd_X11_input : zDd mM_X11_input.1 1 := by unfold zDd; decide +kernel
noncomputable def mM_X11_isPrimitive : zM := (⟨"SchemeEleven", "isPrimitive", "(I)Z"⟩, prog_1_method_20_code, 1, some .boolean)
theorem zdd_X11_isPrimitive : zDd mM_X11_isPrimitive.1 1 := by unfold zDd; decide +kernel
noncomputable def mM_X11_letter : zM := (⟨"SchemeEleven", "letter", "(II)I"⟩, prog_1_method_13_code, 3, some .int)
theorem zdd_X11_letter : zDd mM_X11_letter.1 2 := by unfold zDd; decide +kernel
noncomputable def mM_X11_load : zM := (⟨"SchemeEleven", "load", "()I"⟩, prog_1_method_4_code, 4, some .int)
theorem zdd_X11_load : zDd mM_X11_load.1 0 := by unfold zDd; decide +kernel
noncomputable def mM_X11_look : zM := (⟨"SchemeEleven", "look", "(I)I"⟩, prog_1_method_7_code, 2, some .int)
theorem zdd_X11_look : zDd mM_X11_look.1 1 := by unfold zDd; decide +kernel
noncomputable def mM_X11_out : zM := (⟨"SchemeEleven", "out", "(I)I"⟩, prog_1_method_11_code, 2, some .int)
theorem zdd_X11_out : zDd mM_X11_out.1 1 := by unfold zDd; decide +kernel
noncomputable def mM_X11_peek : zM := (⟨"SchemeEleven", "peek", "(I)I"⟩, prog_1_method_18_code, 2, some .int)
theorem zdd_X11_peek : zDd mM_X11_peek.1 1 := by unfold zDd; decide +kernel
noncomputable def mM_X11_poke : zM := (⟨"SchemeEleven", "poke", "(II)Z"⟩, prog_1_method_15_code, 3, some .boolean)
theorem zdd_X11_poke : zDd mM_X11_poke.1 2 := by unfold zDd; decide +kernel
noncomputable def mM_X11_readNames : zM := (⟨"SchemeEleven", "readNames", "()V"⟩, prog_1_method_23_code, 2, none)
theorem zdd_X11_readNames : zDd mM_X11_readNames.1 0 := by unfold zDd; decide +kernel
noncomputable def mM_X11_register : zM := (⟨"SchemeEleven", "register", "(I)I"⟩, prog_1_method_9_code, 2, some .int)
theorem zdd_X11_register : zDd mM_X11_register.1 1 := by unfold zDd; decide +kernel
noncomputable def mM_X11_reset : zM := (⟨"SchemeEleven", "reset", "()V"⟩, prog_1_method_14_code, 1, none)
theorem zdd_X11_reset : zDd mM_X11_reset.1 0 := by unfold zDd; decide +kernel
noncomputable def mM_X11_run : zM := (⟨"SchemeEleven", "run", "(I)I"⟩, prog_1_method_6_code, 2, some .int)
theorem zdd_X11_run : zDd mM_X11_run.1 1 := by unfold zDd; decide +kernel
noncomputable def mM_X11_set : zM := (⟨"SchemeEleven", "set", "(II)Z"⟩, prog_1_method_16_code, 3, some .boolean)
theorem zdd_X11_set : zDd mM_X11_set.1 2 := by unfold zDd; decide +kernel
noncomputable def mM_X11_shown : zM := (⟨"SchemeEleven", "shown", "(I)I"⟩, prog_1_method_10_code, 2, some .int)
theorem zdd_X11_shown : zDd mM_X11_shown.1 1 := by unfold zDd; decide +kernel
noncomputable def mM_X11_takeText : zM := (⟨"SchemeEleven", "takeText", "([II)Z"⟩, prog_1_method_26_code, 5, some .boolean)
theorem zdd_X11_takeText : zDd mM_X11_takeText.1 2 := by unfold zDd; decide +kernel
noncomputable def mM_X11_tapeFour : zM := (⟨"SchemeEleven", "tapeFour", "(I)V"⟩, prog_1_method_21_code, 3, none)
theorem zdd_X11_tapeFour : zDd mM_X11_tapeFour.1 1 := by unfold zDd; decide +kernel
noncomputable def mM_X11_word : zM := (⟨"SchemeEleven", "word", "(I)I"⟩, prog_1_method_8_code, 2, some .int)
theorem zdd_X11_word : zDd mM_X11_word.1 1 := by unfold zDd; decide +kernel
noncomputable def mM_X11_write : zM := (⟨"SchemeEleven", "write", "(Ljava/lang/String;)V"⟩, prog_1_method_25_code, 3, none)
theorem zdd_X11_write : zDd mM_X11_write.1 1 := by unfold zDd; decide +kernel
noncomputable def mM_X11_writePrelude : zM := (⟨"SchemeEleven", "writePrelude", "()V"⟩, prog_1_method_24_code, 1, none)
theorem zdd_X11_writePrelude : zDd mM_X11_writePrelude.1 0 := by unfold zDd; decide +kernel
noncomputable def mM_X12_areRules : zM := (⟨"SchemeElevenModel", "areRules", "(I)Z"⟩, prog_14_method_112_code, 5, some .boolean)
theorem zdd_X12_areRules : zDd mM_X12_areRules.1 1 := by unfold zDd; decide +kernel
noncomputable def mM_X12_atLast : zM := (⟨"SchemeElevenModel", "atLast", "(I)I"⟩, prog_14_method_94_code, 3, some .int)
theorem zdd_X12_atLast : zDd mM_X12_atLast.1 1 := by unfold zDd; decide +kernel
noncomputable def mM_X12_atom : zM := (⟨"SchemeElevenModel", "atom", "(III)I"⟩, prog_14_method_81_code, 4, some .int)
theorem zdd_X12_atom : zDd mM_X12_atom.1 3 := by unfold zDd; decide +kernel
noncomputable def mM_X12_behind : zM := (⟨"SchemeElevenModel", "behind", "(II)I"⟩, prog_14_method_104_code, 5, some .int)
theorem zdd_X12_behind : zDd mM_X12_behind.1 2 := by unfold zDd; decide +kernel
noncomputable def mM_X12_blanks : zM := (⟨"SchemeElevenModel", "blanks", "()V"⟩, prog_14_method_85_code, 1, none)
theorem zdd_X12_blanks : zDd mM_X12_blanks.1 0 := by unfold zDd; decide +kernel
noncomputable def mM_X12_byteOf : zM := (⟨"SchemeElevenModel", "byteOf", "(I)I"⟩, prog_14_method_84_code, 2, some .int)
theorem zdd_X12_byteOf : zDd mM_X12_byteOf.1 1 := by unfold zDd; decide +kernel
noncomputable def mM_X12_cell : zM := (⟨"SchemeElevenModel", "cell", "(I)I"⟩, prog_14_method_37_code, 2, some .int)
theorem zdd_X12_cell : zDd mM_X12_cell.1 1 := by unfold zDd; decide +kernel
noncomputable def mM_X12_closes : zM := (⟨"SchemeElevenModel", "closes", "()V"⟩, prog_14_method_89_code, 2, none)
theorem zdd_X12_closes : zDd mM_X12_closes.1 0 := by unfold zDd; decide +kernel
noncomputable def mM_X12_comes : zM := (⟨"SchemeElevenModel", "comes", "(I)V"⟩, prog_14_method_91_code, 6, none)
theorem zdd_X12_comes : zDd mM_X12_comes.1 1 := by unfold zDd; decide +kernel
noncomputable def mM_X12_constant : zM := (⟨"SchemeElevenModel", "constant", "(II)V"⟩, prog_14_method_128_code, 3, none)
theorem zdd_X12_constant : zDd mM_X12_constant.1 2 := by unfold zDd; decide +kernel
noncomputable def mM_X12_copied : zM := (⟨"SchemeElevenModel", "copied", "(I)I"⟩, prog_14_method_147_code, 7, some .int)
theorem zdd_X12_copied : zDd mM_X12_copied.1 1 := by unfold zDd; decide +kernel
noncomputable def mM_X12_copy : zM := (⟨"SchemeElevenModel", "copy", "([II[III)V"⟩, prog_14_method_149_code, 6, none)
theorem zdd_X12_copy : zDd mM_X12_copy.1 5 := by unfold zDd; decide +kernel
noncomputable def mM_X12_definesSyntax : zM := (⟨"SchemeElevenModel", "definesSyntax", "(I)V"⟩, prog_14_method_148_code, 9, none)
theorem zdd_X12_definesSyntax : zDd mM_X12_definesSyntax.1 1 := by unfold zDd; decide +kernel
noncomputable def mM_X12_end : zM := (⟨"SchemeElevenModel", "end", "(I)Z"⟩, prog_14_method_154_code, 2, some .boolean)
theorem zdd_X12_end : zDd mM_X12_end.1 1 := by unfold zDd; decide +kernel
noncomputable def mM_X12_fault : zM := (⟨"SchemeElevenModel", "fault", "(I)I"⟩, prog_14_method_158_code, 2, some .int)
theorem zdd_X12_fault : zDd mM_X12_fault.1 1 := by unfold zDd; decide +kernel
noncomputable def mM_X12_feed : zM := (⟨"SchemeElevenModel", "feed", "(IIIII)I"⟩, prog_14_method_155_code, 6, some .int)
theorem zdd_X12_feed : zDd mM_X12_feed.1 5 := by unfold zDd; decide +kernel
noncomputable def mM_X12_feeds : zM := (⟨"SchemeElevenModel", "feeds", "(I)V"⟩, prog_14_method_156_code, 3, none)
theorem zdd_X12_feeds : zDd mM_X12_feeds.1 1 := by unfold zDd; decide +kernel
noncomputable def mM_X12_fetched : zM := (⟨"SchemeElevenModel", "fetched", "()I"⟩, prog_14_method_7_code, 2, some .int)
theorem zdd_X12_fetched : zDd mM_X12_fetched.1 0 := by unfold zDd; decide +kernel
noncomputable def mM_X12_form : zM := (⟨"SchemeElevenModel", "form", "(I)V"⟩, prog_14_method_144_code, 6, none)
theorem zdd_X12_form : zDd mM_X12_form.1 1 := by unfold zDd; decide +kernel
noncomputable def mM_X12_gathers : zM := (⟨"SchemeElevenModel", "gathers", "(II)Z"⟩, prog_14_method_109_code, 5, some .boolean)
theorem zdd_X12_gathers : zDd mM_X12_gathers.1 2 := by unfold zDd; decide +kernel
noncomputable def mM_X12_go : zM := (⟨"SchemeElevenModel", "go", "(I)I"⟩, prog_14_method_32_code, 3, some .int)
theorem zdd_X12_go : zDd mM_X12_go.1 1 := by unfold zDd; decide +kernel
noncomputable def mM_X12_hasAlias : zM := (⟨"SchemeElevenModel", "hasAlias", "(I)Z"⟩, prog_14_method_146_code, 3, some .boolean)
theorem zdd_X12_hasAlias : zDd mM_X12_hasAlias.1 1 := by unfold zDd; decide +kernel
noncomputable def mM_X12_hasDeeper : zM := (⟨"SchemeElevenModel", "hasDeeper", "(II)Z"⟩, prog_14_method_110_code, 5, some .boolean)
theorem zdd_X12_hasDeeper : zDd mM_X12_hasDeeper.1 2 := by unfold zDd; decide +kernel
noncomputable def mM_X12_held : zM := (⟨"SchemeElevenModel", "held", "(I)I"⟩, prog_14_method_35_code, 2, some .int)
theorem zdd_X12_held : zDd mM_X12_held.1 1 := by unfold zDd; decide +kernel
noncomputable def mM_X12_in : zM := (⟨"SchemeElevenModel", "in", "(III)Z"⟩, prog_14_method_2_code, 3, some .boolean)
theorem zdd_X12_in : zDd mM_X12_in.1 3 := by unfold zDd; decide +kernel
noncomputable def mM_X12_init : zM := (⟨"SchemeElevenModel", "<init>", "()V"⟩, prog_14_method_152_code, 1, none)
theorem zdd_X12_init : zDd mM_X12_init.1 0 := by unfold zDd; decide +kernel
noncomputable def mM_X12_input : zM := (⟨"SchemeElevenModel", "input", "(I)Z"⟩, prog_14_method_79_code, 2, some .boolean)
theorem zdd_X12_input : zDd mM_X12_input.1 1 := by unfold zDd; decide +kernel
noncomputable def mM_X12_isBenchPlace : zM := (⟨"SchemeElevenModel", "isBenchPlace", "(I)Z"⟩, prog_14_method_29_code, 1, some .boolean)
theorem zdd_X12_isBenchPlace : zDd mM_X12_isBenchPlace.1 1 := by unfold zDd; decide +kernel
noncomputable def mM_X12_isDots : zM := (⟨"SchemeElevenModel", "isDots", "(I)Z"⟩, prog_14_method_105_code, 2, some .boolean)
theorem zdd_X12_isDots : zDd mM_X12_isDots.1 1 := by unfold zDd; decide +kernel
noncomputable def mM_X12_isDotted : zM := (⟨"SchemeElevenModel", "isDotted", "(I)Z"⟩, prog_14_method_108_code, 2, some .boolean)
theorem zdd_X12_isDotted : zDd mM_X12_isDotted.1 1 := by unfold zDd; decide +kernel
noncomputable def mM_X12_isLiteral : zM := (⟨"SchemeElevenModel", "isLiteral", "(I)Z"⟩, prog_14_method_106_code, 3, some .boolean)
theorem zdd_X12_isLiteral : zDd mM_X12_isLiteral.1 1 := by unfold zDd; decide +kernel
noncomputable def mM_X12_isName : zM := (⟨"SchemeElevenModel", "isName", "(I)Z"⟩, prog_14_method_100_code, 2, some .boolean)
theorem zdd_X12_isName : zDd mM_X12_isName.1 1 := by unfold zDd; decide +kernel
noncomputable def mM_X12_isNamed : zM := (⟨"SchemeElevenModel", "isNamed", "(II)Z"⟩, prog_14_method_101_code, 3, some .boolean)
theorem zdd_X12_isNamed : zDd mM_X12_isNamed.1 2 := by unfold zDd; decide +kernel
noncomputable def mM_X12_isNumber : zM := (⟨"SchemeElevenModel", "isNumber", "(I)Z"⟩, prog_14_method_39_code, 1, some .boolean)
theorem zdd_X12_isNumber : zDd mM_X12_isNumber.1 1 := by unfold zDd; decide +kernel
noncomputable def mM_X12_isPrimitive : zM := (⟨"SchemeElevenModel", "isPrimitive", "(I)Z"⟩, prog_14_method_43_code, 1, some .boolean)
theorem zdd_X12_isPrimitive : zDd mM_X12_isPrimitive.1 1 := by unfold zDd; decide +kernel
noncomputable def mM_X12_isProcedure : zM := (⟨"SchemeElevenModel", "isProcedure", "(I)Z"⟩, prog_14_method_66_code, 2, some .boolean)
theorem zdd_X12_isProcedure : zDd mM_X12_isProcedure.1 1 := by unfold zDd; decide +kernel
noncomputable def mM_X12_isRight : zM := (⟨"SchemeElevenModel", "isRight", "(II)Z"⟩, prog_14_method_111_code, 5, some .boolean)
theorem zdd_X12_isRight : zDd mM_X12_isRight.1 2 := by unfold zDd; decide +kernel
noncomputable def mM_X12_isSign : zM := (⟨"SchemeElevenModel", "isSign", "(I)Z"⟩, prog_14_method_83_code, 1, some .boolean)
theorem zdd_X12_isSign : zDd mM_X12_isSign.1 1 := by unfold zDd; decide +kernel
noncomputable def mM_X12_is_ : zM := (⟨"SchemeElevenModel", "is", "(II)Z"⟩, prog_14_method_42_code, 3, some .boolean)
theorem zdd_X12_is_ : zDd mM_X12_is_.1 2 := by unfold zDd; decide +kernel
noncomputable def mM_X12_item : zM := (⟨"SchemeElevenModel", "item", "(I)V"⟩, prog_14_method_76_code, 5, none)
theorem zdd_X12_item : zDd mM_X12_item.1 1 := by unfold zDd; decide +kernel
noncomputable def mM_X12_lambdas : zM := (⟨"SchemeElevenModel", "lambdas", "()V"⟩, prog_14_method_143_code, 4, none)
theorem zdd_X12_lambdas : zDd mM_X12_lambdas.1 0 := by unfold zDd; decide +kernel
noncomputable def mM_X12_length : zM := (⟨"SchemeElevenModel", "length", "(I)I"⟩, prog_14_method_102_code, 4, some .int)
theorem zdd_X12_length : zDd mM_X12_length.1 1 := by unfold zDd; decide +kernel
noncomputable def mM_X12_letter : zM := (⟨"SchemeElevenModel", "letter", "(II)I"⟩, prog_14_method_163_code, 3, some .int)
theorem zdd_X12_letter : zDd mM_X12_letter.1 2 := by unfold zDd; decide +kernel
noncomputable def mM_X12_listed : zM := (⟨"SchemeElevenModel", "listed", "(II)I"⟩, prog_14_method_82_code, 4, some .int)
theorem zdd_X12_listed : zDd mM_X12_listed.1 2 := by unfold zDd; decide +kernel
noncomputable def mM_X12_load : zM := (⟨"SchemeElevenModel", "load", "()I"⟩, prog_14_method_157_code, 1, some .int)
theorem zdd_X12_load : zDd mM_X12_load.1 0 := by unfold zDd; decide +kernel
noncomputable def mM_X12_look : zM := (⟨"SchemeElevenModel", "look", "(I)I"⟩, prog_14_method_161_code, 2, some .int)
theorem zdd_X12_look : zDd mM_X12_look.1 1 := by unfold zDd; decide +kernel
noncomputable def mM_X12_macroOf : zM := (⟨"SchemeElevenModel", "macroOf", "(I)I"⟩, prog_14_method_98_code, 3, some .int)
theorem zdd_X12_macroOf : zDd mM_X12_macroOf.1 1 := by unfold zDd; decide +kernel
noncomputable def mM_X12_mayBegin : zM := (⟨"SchemeElevenModel", "mayBegin", "()Z"⟩, prog_14_method_87_code, 2, some .boolean)
theorem zdd_X12_mayBegin : zDd mM_X12_mayBegin.1 0 := by unfold zDd; decide +kernel
noncomputable def mM_X12_means : zM := (⟨"SchemeElevenModel", "means", "(II)V"⟩, prog_14_method_99_code, 8, none)
theorem zdd_X12_means : zDd mM_X12_means.1 2 := by unfold zDd; decide +kernel
noncomputable def mM_X12_out : zM := (⟨"SchemeElevenModel", "out", "(I)I"⟩, prog_14_method_78_code, 2, some .int)
theorem zdd_X12_out : zDd mM_X12_out.1 1 := by unfold zDd; decide +kernel
noncomputable def mM_X12_part : zM := (⟨"SchemeElevenModel", "part", "(II)I"⟩, prog_14_method_103_code, 5, some .int)
theorem zdd_X12_part : zDd mM_X12_part.1 2 := by unfold zDd; decide +kernel
noncomputable def mM_X12_peek : zM := (⟨"SchemeElevenModel", "peek", "(I)I"⟩, prog_14_method_33_code, 2, some .int)
theorem zdd_X12_peek : zDd mM_X12_peek.1 1 := by unfold zDd; decide +kernel
noncomputable def mM_X12_poke : zM := (⟨"SchemeElevenModel", "poke", "(II)Z"⟩, prog_14_method_30_code, 3, some .boolean)
theorem zdd_X12_poke : zDd mM_X12_poke.1 2 := by unfold zDd; decide +kernel
noncomputable def mM_X12_r : zM := (⟨"SchemeElevenModel", "\x72", "(I)I"⟩, prog_14_method_3_code, 2, some .int)
theorem zdd_X12_r : zDd mM_X12_r.1 1 := by unfold zDd; decide +kernel
noncomputable def mM_X12_readText : zM := (⟨"SchemeElevenModel", "readText", "()V"⟩, prog_14_method_86_code, 1, none)
theorem zdd_X12_readText : zDd mM_X12_readText.1 0 := by unfold zDd; decide +kernel
noncomputable def mM_X12_register : zM := (⟨"SchemeElevenModel", "register", "(I)I"⟩, prog_14_method_36_code, 2, some .int)
theorem zdd_X12_register : zDd mM_X12_register.1 1 := by unfold zDd; decide +kernel
noncomputable def mM_X12_reset : zM := (⟨"SchemeElevenModel", "reset", "()V"⟩, prog_14_method_153_code, 4, none)
theorem zdd_X12_reset : zDd mM_X12_reset.1 0 := by unfold zDd; decide +kernel
noncomputable def mM_X12_rowOfSigns : zM := (⟨"SchemeElevenModel", "rowOfSigns", "()V"⟩, prog_14_method_92_code, 6, none)
theorem zdd_X12_rowOfSigns : zDd mM_X12_rowOfSigns.1 0 := by unfold zDd; decide +kernel
noncomputable def mM_X12_run : zM := (⟨"SchemeElevenModel", "run", "(I)I"⟩, prog_14_method_159_code, 4, some .int)
theorem zdd_X12_run : zDd mM_X12_run.1 1 := by unfold zDd; decide +kernel
noncomputable def mM_X12_saves : zM := (⟨"SchemeElevenModel", "saves", "(Z)V"⟩, prog_14_method_150_code, 3, none)
theorem zdd_X12_saves : zDd mM_X12_saves.1 1 := by unfold zDd; decide +kernel
noncomputable def mM_X12_set : zM := (⟨"SchemeElevenModel", "set", "(II)Z"⟩, prog_14_method_31_code, 4, some .boolean)
theorem zdd_X12_set : zDd mM_X12_set.1 2 := by unfold zDd; decide +kernel
noncomputable def mM_X12_setCell : zM := (⟨"SchemeElevenModel", "setCell", "(II)V"⟩, prog_14_method_38_code, 3, none)
theorem zdd_X12_setCell : zDd mM_X12_setCell.1 2 := by unfold zDd; decide +kernel
noncomputable def mM_X12_setR : zM := (⟨"SchemeElevenModel", "setR", "(II)V"⟩, prog_14_method_4_code, 3, none)
theorem zdd_X12_setR : zDd mM_X12_setR.1 2 := by unfold zDd; decide +kernel
noncomputable def mM_X12_shown : zM := (⟨"SchemeElevenModel", "shown", "(I)I"⟩, prog_14_method_77_code, 2, some .int)
theorem zdd_X12_shown : zDd mM_X12_shown.1 1 := by unfold zDd; decide +kernel
noncomputable def mM_X12_single : zM := (⟨"SchemeElevenModel", "single", "(IZ)V"⟩, prog_14_method_22_code, 5, none)
theorem zdd_X12_single : zDd mM_X12_single.1 2 := by unfold zDd; decide +kernel
noncomputable def mM_X12_sized : zM := (⟨"SchemeElevenModel", "sized", "(I)V"⟩, prog_14_method_90_code, 6, none)
theorem zdd_X12_sized : zDd mM_X12_sized.1 1 := by unfold zDd; decide +kernel
noncomputable def mM_X12_step : zM := (⟨"SchemeElevenModel", "step", "()I"⟩, prog_14_method_15_code, 3, some .int)
theorem zdd_X12_step : zDd mM_X12_step.1 0 := by unfold zDd; decide +kernel
noncomputable def mM_X12_symbol : zM := (⟨"SchemeElevenModel", "symbol", "(I)I"⟩, prog_14_method_93_code, 5, some .int)
theorem zdd_X12_symbol : zDd mM_X12_symbol.1 1 := by unfold zDd; decide +kernel
noncomputable def mM_X12_takesText : zM := (⟨"SchemeElevenModel", "takesText", "()V"⟩, prog_14_method_151_code, 8, none)
theorem zdd_X12_takesText : zDd mM_X12_takesText.1 0 := by unfold zDd; decide +kernel
noncomputable def mM_X12_token : zM := (⟨"SchemeElevenModel", "token", "()V"⟩, prog_14_method_88_code, 3, none)
theorem zdd_X12_token : zDd mM_X12_token.1 0 := by unfold zDd; decide +kernel
noncomputable def mM_X12_told : zM := (⟨"SchemeElevenModel", "told", "(II)I"⟩, prog_14_method_34_code, 5, some .int)
theorem zdd_X12_told : zDd mM_X12_told.1 2 := by unfold zDd; decide +kernel
noncomputable def mM_X12_variableOf : zM := (⟨"SchemeElevenModel", "variableOf", "(I)I"⟩, prog_14_method_107_code, 3, some .int)
theorem zdd_X12_variableOf : zDd mM_X12_variableOf.1 1 := by unfold zDd; decide +kernel
noncomputable def mM_X12_word : zM := (⟨"SchemeElevenModel", "word", "(II)V"⟩, prog_14_method_122_code, 3, none)
theorem zdd_X12_word : zDd mM_X12_word.1 2 := by unfold zDd; decide +kernel
noncomputable def mM_X12_wordAt : zM := (⟨"SchemeElevenModel", "wordAt", "(I)I"⟩, prog_14_method_5_code, 2, some .int)
theorem zdd_X12_wordAt : zDd mM_X12_wordAt.1 1 := by unfold zDd; decide +kernel
noncomputable def mM_X12_word_ : zM := (⟨"SchemeElevenModel", "word", "(I)I"⟩, prog_14_method_162_code, 2, some .int)
theorem zdd_X12_word_ : zDd mM_X12_word_.1 1 := by unfold zDd; decide +kernel
noncomputable def mM_X12_write : zM := (⟨"SchemeElevenModel", "write", "(II)V"⟩, prog_14_method_75_code, 4, none)
theorem zdd_X12_write : zDd mM_X12_write.1 2 := by unfold zDd; decide +kernel
noncomputable def mM_X12_written : zM := (⟨"SchemeElevenModel", "written", "(I)V"⟩, prog_14_method_74_code, 2, none)
theorem zdd_X12_written : zDd mM_X12_written.1 1 := by unfold zDd; decide +kernel
noncomputable def mM_J0_checkIndex_df160 : zM := (⟨"java/lang/String", "checkIndex", "(II)V"⟩, prog_17_method_155_code, 2, none)
theorem zdd_J0_checkIndex_df160 : zDd mM_J0_checkIndex_df160.1 2 := by unfold zDd; decide +kernel
noncomputable def mM_J3_checkIndex_8e157 : zM := (⟨"jdk/internal/util/Preconditions", "checkIndex", "(IILjava/util/function/BiFunction;)I"⟩, prog_22_method_11_code, 3, some .int)
theorem zdd_J3_checkIndex_8e157 : zDd mM_J3_checkIndex_8e157.1 3 := by unfold zDd; decide +kernel
noncomputable def zlt_3_0 : zT (zM × Nat) 3 := ((((mM_J0_charAt_5068e, 0), (mM_J0_coder_7d493, 0)), ((mM_J0_indexOf_0f7a4, 0), (mM_J0_indexOf_7cf53, 0))), (((mM_J0_isLatin1_aae02, 0), (mM_J0_length_8abf5, 0)), ((mM_J1_canEncode_9a6ad, 0), (mM_J1_charAt_3b067, 0))))
noncomputable def zlt_3_1 : zT (zM × Nat) 3 := ((((mM_J1_indexOfChar_4cfef, 0), (mM_J1_indexOfChar_4cfef, 7)), ((mM_J1_indexOf_4cfef, 0), (mM_J7_fill_53178, 0))), (((mM_J7_fill_53178, 5), (mM_X0_begin, 0)), ((mM_X0_beginForm, 0), (mM_X0_codeConstant, 0))))
noncomputable def zlt_3_2 : zT (zM × Nat) 3 := ((((mM_X0_codeDefineSyntax, 0), (mM_X0_codeForm, 0)), ((mM_X0_emit, 0), (mM_X0_inTail, 0))), (((mM_X0_init, 0), (mM_X0_isBusy, 0)), ((mM_X0_meaningOfFirst, 0), (mM_X0_push, 0))))
noncomputable def zlt_3_3 : zT (zM × Nat) 3 := ((((mM_X0_second, 0), (mM_X0_tellMacro, 0)), ((mM_X0_third, 0), (mM_X0_work, 0))), (((mM_X1_clear, 0), (mM_X1_init, 0)), ((mM_X1_kind, 0), (mM_X2_addStatic, 0))))
noncomputable def zlt_3_4 : zT (zM × Nat) 3 := ((((mM_X2_addSymbol, 0), (mM_X2_addSymbol, 50)), ((mM_X2_addWord, 0), (mM_X2_clear, 0))), (((mM_X2_find, 0), (mM_X2_find, 3)), ((mM_X2_init, 0), (mM_X2_letterOf, 0))))
noncomputable def zlt_3_5 : zT (zM × Nat) 3 := ((((mM_X2_mark, 0), (mM_X2_placeOf, 0)), ((mM_X2_same, 0), (mM_X2_same, 3))), (((mM_X3_at, 0), (mM_X3_clear, 0)), ((mM_X3_holds, 0), (mM_X3_init, 0))))
noncomputable def zlt_3_6 : zT (zM × Nat) 3 := ((((mM_X3_low, 0), (mM_X3_put, 0)), ((mM_X3_putFlags, 0), (mM_X3_step, 0))), (((mM_X3_told, 0), (mM_X4_begin, 0)), ((mM_X4_depthOf, 0), (mM_X4_find, 0))))
noncomputable def zlt_3_7 : zT (zM × Nat) 3 := ((((mM_X4_find, 2), (mM_X4_hasTwins, 0)), ((mM_X4_hasTwins, 2), (mM_X4_init, 0))), (((mM_X4_isLiteral, 0), (mM_X4_isLiteral, 17)), ((mM_X4_learn, 0), (mM_X4_learn, 6))))
noncomputable def zlt_3_8 : zT (zM × Nat) 3 := ((((mM_X4_learnGroup, 0), (mM_X4_learnVariable, 0)), ((mM_X5_append, 0), (mM_X5_closeList, 0))), (((mM_X5_deliver, 0), (mM_X5_deliver, 4)), ((mM_X5_endOfToken, 0), (mM_X5_endOfToken, 25))))
noncomputable def zlt_3_9 : zT (zM × Nat) 3 := ((((mM_X5_formAt, 0), (mM_X5_init, 0)), ((mM_X5_isDigit, 0), (mM_X5_isSign, 0))), (((mM_X5_mayStand, 0), (mM_X5_readAll, 0)), ((mM_X5_readAll, 28), (mM_X5_readBoolean, 0))))
noncomputable def zlt_3_10 : zT (zM × Nat) 3 := ((((mM_X5_readMark, 0), (mM_X5_readName, 0)), ((mM_X5_readNumber, 0), (mM_X5_readNumber, 51))), (((mM_X5_readRow, 0), (mM_X5_skipBlanks, 0)), ((mM_X5_skipBlanks, 5), (mM_X6_clear, 0))))
noncomputable def zlt_3_11 : zT (zM × Nat) 3 := ((((mM_X6_init, 0), (mM_X6_offer, 0)), ((mM_X6_proceed, 0), (mM_X7_clear, 0))), (((mM_X7_init, 0), (mM_X7_isMacro, 0)), ((mM_X7_keep, 0), (mM_X7_keep, 17))))
noncomputable def zlt_3_12 : zT (zM × Nat) 3 := ((((mM_X7_keywordOf, 0), (mM_X7_mark, 0)), ((mM_X7_meaning, 0), (mM_X7_meaning, 15))), (((mM_X7_ofSymbol, 0), (mM_X7_tellMacro, 0)), ((mM_X8_begin, 0), (mM_X8_clear, 0))))
noncomputable def zlt_3_13 : zT (zM × Nat) 3 := ((((mM_X8_init, 0), (mM_X8_mark, 0)), ((mM_X8_part, 0), (mM_X8_render, 0))), (((mM_X9_areNames, 0), (mM_X9_areNames, 4)), ((mM_X9_begin, 0), (mM_X9_init, 0))))
noncomputable def zlt_3_14 : zT (zM × Nat) 3 := ((((mM_X9_isRule, 0), (mM_X9_isRules, 0)), ((mM_X9_isRules, 77), (mM_X9_isTemplate, 0))), (((mM_X9_isTemplate, 6), (mM_X10_add, 0)), ((mM_X10_addKept, 0), (mM_X10_begin, 0))))
noncomputable def zlt_3_15 : zT (zM × Nat) 3 := ((((mM_X10_clear, 0), (mM_X10_copy, 0)), ((mM_X10_copy, 12), (mM_X10_count, 0))), (((mM_X10_count, 4), (mM_X10_findsAlias, 0)), ((mM_X10_findsAlias, 5), (mM_X10_first, 0))))
noncomputable def zlt_3_16 : zT (zM × Nat) 3 := ((((mM_X10_hasAlias, 0), (mM_X10_init, 0)), ((mM_X10_isCons, 0), (mM_X10_isName, 0))), (((mM_X10_keep, 0), (mM_X10_kind, 0)), ((mM_X10_measure, 0), (mM_X10_nameOf, 0))))
noncomputable def zlt_3_17 : zT (zM × Nat) 3 := ((((mM_X10_place, 0), (mM_X10_repeats, 0)), ((mM_X10_rest, 0), (mM_X10_setFirst, 0))), (((mM_X10_setRest, 0), (mM_X10_symbolAtLast, 0)), ((mM_X10_turnKept, 0), (mM_X10_weigh, 0))))
noncomputable def zlt_3_18 : zT (zM × Nat) 3 := ((((mM_X10_weigh, 3), (mM_X11_clearScheme, 0)), ((mM_X11_end, 0), (mM_X11_fault, 0))), (((mM_X11_feed, 0), (mM_X11_go, 0)), ((mM_X11_go, 23), (mM_X11_held, 0))))
noncomputable def zlt_3_19 : zT (zM × Nat) 3 := ((((mM_X11_init, 0), (mM_X11_input, 0)), ((mM_X11_isPrimitive, 0), (mM_X11_letter, 0))), (((mM_X11_load, 0), (mM_X11_load, 50)), ((mM_X11_look, 0), (mM_X11_out, 0))))
noncomputable def zlt_3_20 : zT (zM × Nat) 3 := ((((mM_X11_peek, 0), (mM_X11_poke, 0)), ((mM_X11_readNames, 0), (mM_X11_readNames, 47))), (((mM_X11_register, 0), (mM_X11_reset, 0)), ((mM_X11_run, 0), (mM_X11_set, 0))))
noncomputable def zlt_3_21 : zT (zM × Nat) 3 := ((((mM_X11_shown, 0), (mM_X11_takeText, 0)), ((mM_X11_takeText, 39), (mM_X11_takeText, 97))), (((mM_X11_tapeFour, 0), (mM_X11_tapeFour, 3)), ((mM_X11_word, 0), (mM_X11_write, 0))))
noncomputable def zlt_3_22 : zT (zM × Nat) 3 := ((((mM_X11_write, 2), (mM_X11_writePrelude, 0)), ((mM_X12_areRules, 0), (mM_X12_areRules, 54))), (((mM_X12_areRules, 96), (mM_X12_atLast, 0)), ((mM_X12_atLast, 2), (mM_X12_atom, 0))))
noncomputable def zlt_3_23 : zT (zM × Nat) 3 := ((((mM_X12_behind, 0), (mM_X12_behind, 5)), ((mM_X12_blanks, 0), (mM_X12_byteOf, 0))), (((mM_X12_cell, 0), (mM_X12_closes, 0)), ((mM_X12_comes, 0), (mM_X12_comes, 2))))
noncomputable def zlt_3_24 : zT (zM × Nat) 3 := ((((mM_X12_constant, 0), (mM_X12_copied, 0)), ((mM_X12_copied, 10), (mM_X12_copy, 0))), (((mM_X12_copy, 3), (mM_X12_definesSyntax, 0)), ((mM_X12_definesSyntax, 139), (mM_X12_definesSyntax, 283))))
noncomputable def zlt_3_25 : zT (zM × Nat) 3 := ((((mM_X12_end, 0), (mM_X12_fault, 0)), ((mM_X12_feed, 0), (mM_X12_feeds, 0))), (((mM_X12_feeds, 3), (mM_X12_fetched, 0)), ((mM_X12_form, 0), (mM_X12_form, 13))))
noncomputable def zlt_3_26 : zT (zM × Nat) 3 := ((((mM_X12_gathers, 0), (mM_X12_gathers, 2)), ((mM_X12_go, 0), (mM_X12_go, 25))), (((mM_X12_hasAlias, 0), (mM_X12_hasAlias, 2)), ((mM_X12_hasDeeper, 0), (mM_X12_hasDeeper, 2))))
noncomputable def zlt_3_27 : zT (zM × Nat) 3 := ((((mM_X12_held, 0), (mM_X12_in, 0)), ((mM_X12_init, 0), (mM_X12_input, 0))), (((mM_X12_isBenchPlace, 0), (mM_X12_isDots, 0)), ((mM_X12_isDotted, 0), (mM_X12_isLiteral, 0))))
noncomputable def zlt_3_28 : zT (zM × Nat) 3 := ((((mM_X12_isLiteral, 5), (mM_X12_isName, 0)), ((mM_X12_isNamed, 0), (mM_X12_isNumber, 0))), (((mM_X12_isPrimitive, 0), (mM_X12_isProcedure, 0)), ((mM_X12_isRight, 0), (mM_X12_isRight, 27))))
noncomputable def zlt_3_29 : zT (zM × Nat) 3 := ((((mM_X12_isSign, 0), (mM_X12_is_, 0)), ((mM_X12_item, 0), (mM_X12_lambdas, 0))), (((mM_X12_lambdas, 2), (mM_X12_length, 0)), ((mM_X12_length, 4), (mM_X12_letter, 0))))
noncomputable def zlt_3_30 : zT (zM × Nat) 3 := ((((mM_X12_listed, 0), (mM_X12_load, 0)), ((mM_X12_look, 0), (mM_X12_macroOf, 0))), (((mM_X12_macroOf, 2), (mM_X12_mayBegin, 0)), ((mM_X12_means, 0), (mM_X12_means, 8))))
noncomputable def zlt_3_31 : zT (zM × Nat) 3 := ((((mM_X12_means, 17), (mM_X12_out, 0)), ((mM_X12_part, 0), (mM_X12_part, 5))), (((mM_X12_peek, 0), (mM_X12_poke, 0)), ((mM_X12_r, 0), (mM_X12_readText, 0))))
noncomputable def zlt_3_32 : zT (zM × Nat) 3 := ((((mM_X12_readText, 19), (mM_X12_register, 0)), ((mM_X12_reset, 0), (mM_X12_reset, 2))), (((mM_X12_reset, 25), (mM_X12_reset, 48)), ((mM_X12_reset, 172), (mM_X12_reset, 263))))
noncomputable def zlt_3_33 : zT (zM × Nat) 3 := ((((mM_X12_rowOfSigns, 0), (mM_X12_rowOfSigns, 128)), ((mM_X12_run, 0), (mM_X12_saves, 0))), (((mM_X12_saves, 2), (mM_X12_set, 0)), ((mM_X12_set, 35), (mM_X12_setCell, 0))))
noncomputable def zlt_3_34 : zT (zM × Nat) 3 := ((((mM_X12_setR, 0), (mM_X12_shown, 0)), ((mM_X12_single, 0), (mM_X12_sized, 0))), (((mM_X12_sized, 4), (mM_X12_sized, 49)), ((mM_X12_step, 0), (mM_X12_symbol, 0))))
noncomputable def zlt_3_35 : zT (zM × Nat) 3 := ((((mM_X12_symbol, 2), (mM_X12_symbol, 29)), ((mM_X12_symbol, 145), (mM_X12_takesText, 0))), (((mM_X12_takesText, 95), (mM_X12_takesText, 138)), ((mM_X12_token, 0), (mM_X12_token, 134))))
noncomputable def zlt_3_36 : zT (zM × Nat) 3 := ((((mM_X12_token, 250), (mM_X12_told, 0)), ((mM_X12_told, 17), (mM_X12_variableOf, 0))), (((mM_X12_variableOf, 2), (mM_X12_word, 0)), ((mM_X12_wordAt, 0), (mM_X12_word_, 0))))
noncomputable def zlt_3_37 : zT (zM × Nat) 3 := ((((mM_X12_write, 0), (mM_X12_written, 0)), ((mM_J0_charAt_5068e, 0), (mM_J0_charAt_5068e, 0))), (((mM_J0_charAt_5068e, 0), (mM_J0_charAt_5068e, 0)), ((mM_J0_charAt_5068e, 0), (mM_J0_charAt_5068e, 0))))
noncomputable def zlt_3_38 : zT (zM × Nat) 3 := ((((mM_J0_charAt_5068e, 0), (mM_J0_charAt_5068e, 0)), ((mM_J0_charAt_5068e, 0), (mM_J0_charAt_5068e, 0))), (((mM_J0_charAt_5068e, 0), (mM_J0_charAt_5068e, 0)), ((mM_J0_charAt_5068e, 0), (mM_J0_charAt_5068e, 0))))
noncomputable def zlt_3_39 : zT (zM × Nat) 3 := ((((mM_J0_charAt_5068e, 0), (mM_J0_charAt_5068e, 0)), ((mM_J0_charAt_5068e, 0), (mM_J0_charAt_5068e, 0))), (((mM_J0_charAt_5068e, 0), (mM_J0_charAt_5068e, 0)), ((mM_J0_charAt_5068e, 0), (mM_J0_charAt_5068e, 0))))
noncomputable def zlt_3_40 : zT (zM × Nat) 3 := ((((mM_J0_charAt_5068e, 0), (mM_J0_charAt_5068e, 0)), ((mM_J0_charAt_5068e, 0), (mM_J0_charAt_5068e, 0))), (((mM_J0_charAt_5068e, 0), (mM_J0_charAt_5068e, 0)), ((mM_J0_charAt_5068e, 0), (mM_J0_charAt_5068e, 0))))
noncomputable def zlt_3_41 : zT (zM × Nat) 3 := ((((mM_J0_charAt_5068e, 0), (mM_J0_charAt_5068e, 0)), ((mM_J0_charAt_5068e, 0), (mM_J0_charAt_5068e, 0))), (((mM_J0_charAt_5068e, 0), (mM_J0_charAt_5068e, 0)), ((mM_J0_charAt_5068e, 0), (mM_J0_charAt_5068e, 0))))
noncomputable def zlt_3_42 : zT (zM × Nat) 3 := ((((mM_J0_charAt_5068e, 0), (mM_J0_charAt_5068e, 0)), ((mM_J0_charAt_5068e, 0), (mM_J0_charAt_5068e, 0))), (((mM_J0_charAt_5068e, 0), (mM_J0_charAt_5068e, 0)), ((mM_J0_charAt_5068e, 0), (mM_J0_charAt_5068e, 0))))
noncomputable def zlt_3_43 : zT (zM × Nat) 3 := ((((mM_J0_charAt_5068e, 0), (mM_J0_charAt_5068e, 0)), ((mM_J0_charAt_5068e, 0), (mM_J0_charAt_5068e, 0))), (((mM_J0_charAt_5068e, 0), (mM_J0_charAt_5068e, 0)), ((mM_J0_charAt_5068e, 0), (mM_J0_charAt_5068e, 0))))
noncomputable def zlt_3_44 : zT (zM × Nat) 3 := ((((mM_J0_charAt_5068e, 0), (mM_J0_charAt_5068e, 0)), ((mM_J0_charAt_5068e, 0), (mM_J0_charAt_5068e, 0))), (((mM_J0_charAt_5068e, 0), (mM_J0_charAt_5068e, 0)), ((mM_J0_charAt_5068e, 0), (mM_J0_charAt_5068e, 0))))
noncomputable def zlt_3_45 : zT (zM × Nat) 3 := ((((mM_J0_charAt_5068e, 0), (mM_J0_charAt_5068e, 0)), ((mM_J0_charAt_5068e, 0), (mM_J0_charAt_5068e, 0))), (((mM_J0_charAt_5068e, 0), (mM_J0_charAt_5068e, 0)), ((mM_J0_charAt_5068e, 0), (mM_J0_charAt_5068e, 0))))
noncomputable def zlt_3_46 : zT (zM × Nat) 3 := ((((mM_J0_charAt_5068e, 0), (mM_J0_charAt_5068e, 0)), ((mM_J0_charAt_5068e, 0), (mM_J0_charAt_5068e, 0))), (((mM_J0_charAt_5068e, 0), (mM_J0_charAt_5068e, 0)), ((mM_J0_charAt_5068e, 0), (mM_J0_charAt_5068e, 0))))
noncomputable def zlt_3_47 : zT (zM × Nat) 3 := ((((mM_J0_charAt_5068e, 0), (mM_J0_charAt_5068e, 0)), ((mM_J0_charAt_5068e, 0), (mM_J0_charAt_5068e, 0))), (((mM_J0_charAt_5068e, 0), (mM_J0_charAt_5068e, 0)), ((mM_J0_charAt_5068e, 0), (mM_J0_charAt_5068e, 0))))
noncomputable def zlt_3_48 : zT (zM × Nat) 3 := ((((mM_J0_charAt_5068e, 0), (mM_J0_charAt_5068e, 0)), ((mM_J0_charAt_5068e, 0), (mM_J0_charAt_5068e, 0))), (((mM_J0_charAt_5068e, 0), (mM_J0_charAt_5068e, 0)), ((mM_J0_charAt_5068e, 0), (mM_J0_charAt_5068e, 0))))
noncomputable def zlt_3_49 : zT (zM × Nat) 3 := ((((mM_J0_charAt_5068e, 0), (mM_J0_charAt_5068e, 0)), ((mM_J0_charAt_5068e, 0), (mM_J0_charAt_5068e, 0))), (((mM_J0_charAt_5068e, 0), (mM_J0_charAt_5068e, 0)), ((mM_J0_charAt_5068e, 0), (mM_J0_charAt_5068e, 0))))
noncomputable def zlt_3_50 : zT (zM × Nat) 3 := ((((mM_J0_charAt_5068e, 0), (mM_J0_charAt_5068e, 0)), ((mM_J0_charAt_5068e, 0), (mM_J0_charAt_5068e, 0))), (((mM_J0_charAt_5068e, 0), (mM_J0_charAt_5068e, 0)), ((mM_J0_charAt_5068e, 0), (mM_J0_charAt_5068e, 0))))
noncomputable def zlt_3_51 : zT (zM × Nat) 3 := ((((mM_J0_charAt_5068e, 0), (mM_J0_charAt_5068e, 0)), ((mM_J0_charAt_5068e, 0), (mM_J0_charAt_5068e, 0))), (((mM_J0_charAt_5068e, 0), (mM_J0_charAt_5068e, 0)), ((mM_J0_charAt_5068e, 0), (mM_J0_charAt_5068e, 0))))
noncomputable def zlt_3_52 : zT (zM × Nat) 3 := ((((mM_J0_charAt_5068e, 0), (mM_J0_charAt_5068e, 0)), ((mM_J0_charAt_5068e, 0), (mM_J0_charAt_5068e, 0))), (((mM_J0_charAt_5068e, 0), (mM_J0_charAt_5068e, 0)), ((mM_J0_charAt_5068e, 0), (mM_J0_charAt_5068e, 0))))
noncomputable def zlt_3_53 : zT (zM × Nat) 3 := ((((mM_J0_charAt_5068e, 0), (mM_J0_charAt_5068e, 0)), ((mM_J0_charAt_5068e, 0), (mM_J0_charAt_5068e, 0))), (((mM_J0_charAt_5068e, 0), (mM_J0_charAt_5068e, 0)), ((mM_J0_charAt_5068e, 0), (mM_J0_charAt_5068e, 0))))
noncomputable def zlt_3_54 : zT (zM × Nat) 3 := ((((mM_J0_charAt_5068e, 0), (mM_J0_charAt_5068e, 0)), ((mM_J0_charAt_5068e, 0), (mM_J0_charAt_5068e, 0))), (((mM_J0_charAt_5068e, 0), (mM_J0_charAt_5068e, 0)), ((mM_J0_charAt_5068e, 0), (mM_J0_charAt_5068e, 0))))
noncomputable def zlt_3_55 : zT (zM × Nat) 3 := ((((mM_J0_charAt_5068e, 0), (mM_J0_charAt_5068e, 0)), ((mM_J0_charAt_5068e, 0), (mM_J0_charAt_5068e, 0))), (((mM_J0_charAt_5068e, 0), (mM_J0_charAt_5068e, 0)), ((mM_J0_charAt_5068e, 0), (mM_J0_charAt_5068e, 0))))
noncomputable def zlt_3_56 : zT (zM × Nat) 3 := ((((mM_J0_charAt_5068e, 0), (mM_J0_charAt_5068e, 0)), ((mM_J0_charAt_5068e, 0), (mM_J0_charAt_5068e, 0))), (((mM_J0_charAt_5068e, 0), (mM_J0_charAt_5068e, 0)), ((mM_J0_charAt_5068e, 0), (mM_J0_charAt_5068e, 0))))
noncomputable def zlt_3_57 : zT (zM × Nat) 3 := ((((mM_J0_charAt_5068e, 0), (mM_J0_charAt_5068e, 0)), ((mM_J0_charAt_5068e, 0), (mM_J0_charAt_5068e, 0))), (((mM_J0_charAt_5068e, 0), (mM_J0_charAt_5068e, 0)), ((mM_J0_charAt_5068e, 0), (mM_J0_charAt_5068e, 0))))
noncomputable def zlt_3_58 : zT (zM × Nat) 3 := ((((mM_J0_charAt_5068e, 0), (mM_J0_charAt_5068e, 0)), ((mM_J0_charAt_5068e, 0), (mM_J0_charAt_5068e, 0))), (((mM_J0_charAt_5068e, 0), (mM_J0_charAt_5068e, 0)), ((mM_J0_charAt_5068e, 0), (mM_J0_charAt_5068e, 0))))
noncomputable def zlt_3_59 : zT (zM × Nat) 3 := ((((mM_J0_charAt_5068e, 0), (mM_J0_charAt_5068e, 0)), ((mM_J0_charAt_5068e, 0), (mM_J0_charAt_5068e, 0))), (((mM_J0_charAt_5068e, 0), (mM_J0_charAt_5068e, 0)), ((mM_J0_charAt_5068e, 0), (mM_J0_charAt_5068e, 0))))
noncomputable def zlt_3_60 : zT (zM × Nat) 3 := ((((mM_J0_charAt_5068e, 0), (mM_J0_charAt_5068e, 0)), ((mM_J0_charAt_5068e, 0), (mM_J0_charAt_5068e, 0))), (((mM_J0_charAt_5068e, 0), (mM_J0_charAt_5068e, 0)), ((mM_J0_charAt_5068e, 0), (mM_J0_charAt_5068e, 0))))
noncomputable def zlt_3_61 : zT (zM × Nat) 3 := ((((mM_J0_charAt_5068e, 0), (mM_J0_charAt_5068e, 0)), ((mM_J0_charAt_5068e, 0), (mM_J0_charAt_5068e, 0))), (((mM_J0_charAt_5068e, 0), (mM_J0_charAt_5068e, 0)), ((mM_J0_charAt_5068e, 0), (mM_J0_charAt_5068e, 0))))
noncomputable def zlt_3_62 : zT (zM × Nat) 3 := ((((mM_J0_charAt_5068e, 0), (mM_J0_charAt_5068e, 0)), ((mM_J0_charAt_5068e, 0), (mM_J0_charAt_5068e, 0))), (((mM_J0_charAt_5068e, 0), (mM_J0_charAt_5068e, 0)), ((mM_J0_charAt_5068e, 0), (mM_J0_charAt_5068e, 0))))
noncomputable def zlt_3_63 : zT (zM × Nat) 3 := ((((mM_J0_charAt_5068e, 0), (mM_J0_charAt_5068e, 0)), ((mM_J0_charAt_5068e, 0), (mM_J0_charAt_5068e, 0))), (((mM_J0_charAt_5068e, 0), (mM_J0_charAt_5068e, 0)), ((mM_J0_charAt_5068e, 0), (mM_J0_charAt_5068e, 0))))
noncomputable def zlt_4_0 : zT (zM × Nat) 4 := (zlt_3_0, zlt_3_1)
noncomputable def zlt_4_1 : zT (zM × Nat) 4 := (zlt_3_2, zlt_3_3)
noncomputable def zlt_4_2 : zT (zM × Nat) 4 := (zlt_3_4, zlt_3_5)
noncomputable def zlt_4_3 : zT (zM × Nat) 4 := (zlt_3_6, zlt_3_7)
noncomputable def zlt_4_4 : zT (zM × Nat) 4 := (zlt_3_8, zlt_3_9)
noncomputable def zlt_4_5 : zT (zM × Nat) 4 := (zlt_3_10, zlt_3_11)
noncomputable def zlt_4_6 : zT (zM × Nat) 4 := (zlt_3_12, zlt_3_13)
noncomputable def zlt_4_7 : zT (zM × Nat) 4 := (zlt_3_14, zlt_3_15)
noncomputable def zlt_4_8 : zT (zM × Nat) 4 := (zlt_3_16, zlt_3_17)
noncomputable def zlt_4_9 : zT (zM × Nat) 4 := (zlt_3_18, zlt_3_19)
noncomputable def zlt_4_10 : zT (zM × Nat) 4 := (zlt_3_20, zlt_3_21)
noncomputable def zlt_4_11 : zT (zM × Nat) 4 := (zlt_3_22, zlt_3_23)
noncomputable def zlt_4_12 : zT (zM × Nat) 4 := (zlt_3_24, zlt_3_25)
noncomputable def zlt_4_13 : zT (zM × Nat) 4 := (zlt_3_26, zlt_3_27)
noncomputable def zlt_4_14 : zT (zM × Nat) 4 := (zlt_3_28, zlt_3_29)
noncomputable def zlt_4_15 : zT (zM × Nat) 4 := (zlt_3_30, zlt_3_31)
noncomputable def zlt_4_16 : zT (zM × Nat) 4 := (zlt_3_32, zlt_3_33)
noncomputable def zlt_4_17 : zT (zM × Nat) 4 := (zlt_3_34, zlt_3_35)
noncomputable def zlt_4_18 : zT (zM × Nat) 4 := (zlt_3_36, zlt_3_37)
noncomputable def zlt_4_19 : zT (zM × Nat) 4 := (zlt_3_38, zlt_3_39)
noncomputable def zlt_4_20 : zT (zM × Nat) 4 := (zlt_3_40, zlt_3_41)
noncomputable def zlt_4_21 : zT (zM × Nat) 4 := (zlt_3_42, zlt_3_43)
noncomputable def zlt_4_22 : zT (zM × Nat) 4 := (zlt_3_44, zlt_3_45)
noncomputable def zlt_4_23 : zT (zM × Nat) 4 := (zlt_3_46, zlt_3_47)
noncomputable def zlt_4_24 : zT (zM × Nat) 4 := (zlt_3_48, zlt_3_49)
noncomputable def zlt_4_25 : zT (zM × Nat) 4 := (zlt_3_50, zlt_3_51)
noncomputable def zlt_4_26 : zT (zM × Nat) 4 := (zlt_3_52, zlt_3_53)
noncomputable def zlt_4_27 : zT (zM × Nat) 4 := (zlt_3_54, zlt_3_55)
noncomputable def zlt_4_28 : zT (zM × Nat) 4 := (zlt_3_56, zlt_3_57)
noncomputable def zlt_4_29 : zT (zM × Nat) 4 := (zlt_3_58, zlt_3_59)
noncomputable def zlt_4_30 : zT (zM × Nat) 4 := (zlt_3_60, zlt_3_61)
noncomputable def zlt_4_31 : zT (zM × Nat) 4 := (zlt_3_62, zlt_3_63)
noncomputable def zlt_5_0 : zT (zM × Nat) 5 := (zlt_4_0, zlt_4_1)
noncomputable def zlt_5_1 : zT (zM × Nat) 5 := (zlt_4_2, zlt_4_3)
noncomputable def zlt_5_2 : zT (zM × Nat) 5 := (zlt_4_4, zlt_4_5)
noncomputable def zlt_5_3 : zT (zM × Nat) 5 := (zlt_4_6, zlt_4_7)
noncomputable def zlt_5_4 : zT (zM × Nat) 5 := (zlt_4_8, zlt_4_9)
noncomputable def zlt_5_5 : zT (zM × Nat) 5 := (zlt_4_10, zlt_4_11)
noncomputable def zlt_5_6 : zT (zM × Nat) 5 := (zlt_4_12, zlt_4_13)
noncomputable def zlt_5_7 : zT (zM × Nat) 5 := (zlt_4_14, zlt_4_15)
noncomputable def zlt_5_8 : zT (zM × Nat) 5 := (zlt_4_16, zlt_4_17)
noncomputable def zlt_5_9 : zT (zM × Nat) 5 := (zlt_4_18, zlt_4_19)
noncomputable def zlt_5_10 : zT (zM × Nat) 5 := (zlt_4_20, zlt_4_21)
noncomputable def zlt_5_11 : zT (zM × Nat) 5 := (zlt_4_22, zlt_4_23)
noncomputable def zlt_5_12 : zT (zM × Nat) 5 := (zlt_4_24, zlt_4_25)
noncomputable def zlt_5_13 : zT (zM × Nat) 5 := (zlt_4_26, zlt_4_27)
noncomputable def zlt_5_14 : zT (zM × Nat) 5 := (zlt_4_28, zlt_4_29)
noncomputable def zlt_5_15 : zT (zM × Nat) 5 := (zlt_4_30, zlt_4_31)
noncomputable def zlt_6_0 : zT (zM × Nat) 6 := (zlt_5_0, zlt_5_1)
noncomputable def zlt_6_1 : zT (zM × Nat) 6 := (zlt_5_2, zlt_5_3)
noncomputable def zlt_6_2 : zT (zM × Nat) 6 := (zlt_5_4, zlt_5_5)
noncomputable def zlt_6_3 : zT (zM × Nat) 6 := (zlt_5_6, zlt_5_7)
noncomputable def zlt_6_4 : zT (zM × Nat) 6 := (zlt_5_8, zlt_5_9)
noncomputable def zlt_6_5 : zT (zM × Nat) 6 := (zlt_5_10, zlt_5_11)
noncomputable def zlt_6_6 : zT (zM × Nat) 6 := (zlt_5_12, zlt_5_13)
noncomputable def zlt_6_7 : zT (zM × Nat) 6 := (zlt_5_14, zlt_5_15)
noncomputable def zlt_7_0 : zT (zM × Nat) 7 := (zlt_6_0, zlt_6_1)
noncomputable def zlt_7_1 : zT (zM × Nat) 7 := (zlt_6_2, zlt_6_3)
noncomputable def zlt_7_2 : zT (zM × Nat) 7 := (zlt_6_4, zlt_6_5)
noncomputable def zlt_7_3 : zT (zM × Nat) 7 := (zlt_6_6, zlt_6_7)
noncomputable def zlt_8_0 : zT (zM × Nat) 8 := (zlt_7_0, zlt_7_1)
noncomputable def zlt_8_1 : zT (zM × Nat) 8 := (zlt_7_2, zlt_7_3)
noncomputable def zlt_9_0 : zT (zM × Nat) 9 := (zlt_8_0, zlt_8_1)
noncomputable def zlt : zT (zM × Nat) 9 := zlt_9_0
noncomputable def zlab (i : Nat) : zM × Nat := zget 9 zlt i
theorem lb_0 : zlab 0 = (mM_J0_charAt_5068e, 0) := rfl
theorem lb_1 : zlab 1 = (mM_J0_coder_7d493, 0) := rfl
theorem lb_2 : zlab 2 = (mM_J0_indexOf_0f7a4, 0) := rfl
theorem lb_3 : zlab 3 = (mM_J0_indexOf_7cf53, 0) := rfl
theorem lb_4 : zlab 4 = (mM_J0_isLatin1_aae02, 0) := rfl
theorem lb_5 : zlab 5 = (mM_J0_length_8abf5, 0) := rfl
theorem lb_6 : zlab 6 = (mM_J1_canEncode_9a6ad, 0) := rfl
theorem lb_7 : zlab 7 = (mM_J1_charAt_3b067, 0) := rfl
theorem lb_8 : zlab 8 = (mM_J1_indexOfChar_4cfef, 0) := rfl
theorem lb_9 : zlab 9 = (mM_J1_indexOfChar_4cfef, 7) := rfl
theorem lb_10 : zlab 10 = (mM_J1_indexOf_4cfef, 0) := rfl
theorem lb_11 : zlab 11 = (mM_J7_fill_53178, 0) := rfl
theorem lb_12 : zlab 12 = (mM_J7_fill_53178, 5) := rfl
theorem lb_13 : zlab 13 = (mM_X0_begin, 0) := rfl
theorem lb_14 : zlab 14 = (mM_X0_beginForm, 0) := rfl
theorem lb_15 : zlab 15 = (mM_X0_codeConstant, 0) := rfl
theorem lb_16 : zlab 16 = (mM_X0_codeDefineSyntax, 0) := rfl
theorem lb_17 : zlab 17 = (mM_X0_codeForm, 0) := rfl
theorem lb_18 : zlab 18 = (mM_X0_emit, 0) := rfl
theorem lb_19 : zlab 19 = (mM_X0_inTail, 0) := rfl
theorem lb_20 : zlab 20 = (mM_X0_init, 0) := rfl
theorem lb_21 : zlab 21 = (mM_X0_isBusy, 0) := rfl
theorem lb_22 : zlab 22 = (mM_X0_meaningOfFirst, 0) := rfl
theorem lb_23 : zlab 23 = (mM_X0_push, 0) := rfl
theorem lb_24 : zlab 24 = (mM_X0_second, 0) := rfl
theorem lb_25 : zlab 25 = (mM_X0_tellMacro, 0) := rfl
theorem lb_26 : zlab 26 = (mM_X0_third, 0) := rfl
theorem lb_27 : zlab 27 = (mM_X0_work, 0) := rfl
theorem lb_28 : zlab 28 = (mM_X1_clear, 0) := rfl
theorem lb_29 : zlab 29 = (mM_X1_init, 0) := rfl
theorem lb_30 : zlab 30 = (mM_X1_kind, 0) := rfl
theorem lb_31 : zlab 31 = (mM_X2_addStatic, 0) := rfl
theorem lb_32 : zlab 32 = (mM_X2_addSymbol, 0) := rfl
theorem lb_33 : zlab 33 = (mM_X2_addSymbol, 50) := rfl
theorem lb_34 : zlab 34 = (mM_X2_addWord, 0) := rfl
theorem lb_35 : zlab 35 = (mM_X2_clear, 0) := rfl
theorem lb_36 : zlab 36 = (mM_X2_find, 0) := rfl
theorem lb_37 : zlab 37 = (mM_X2_find, 3) := rfl
theorem lb_38 : zlab 38 = (mM_X2_init, 0) := rfl
theorem lb_39 : zlab 39 = (mM_X2_letterOf, 0) := rfl
theorem lb_40 : zlab 40 = (mM_X2_mark, 0) := rfl
theorem lb_41 : zlab 41 = (mM_X2_placeOf, 0) := rfl
theorem lb_42 : zlab 42 = (mM_X2_same, 0) := rfl
theorem lb_43 : zlab 43 = (mM_X2_same, 3) := rfl
theorem lb_44 : zlab 44 = (mM_X3_at, 0) := rfl
theorem lb_45 : zlab 45 = (mM_X3_clear, 0) := rfl
theorem lb_46 : zlab 46 = (mM_X3_holds, 0) := rfl
theorem lb_47 : zlab 47 = (mM_X3_init, 0) := rfl
theorem lb_48 : zlab 48 = (mM_X3_low, 0) := rfl
theorem lb_49 : zlab 49 = (mM_X3_put, 0) := rfl
theorem lb_50 : zlab 50 = (mM_X3_putFlags, 0) := rfl
theorem lb_51 : zlab 51 = (mM_X3_step, 0) := rfl
theorem lb_52 : zlab 52 = (mM_X3_told, 0) := rfl
theorem lb_53 : zlab 53 = (mM_X4_begin, 0) := rfl
theorem lb_54 : zlab 54 = (mM_X4_depthOf, 0) := rfl
theorem lb_55 : zlab 55 = (mM_X4_find, 0) := rfl
theorem lb_56 : zlab 56 = (mM_X4_find, 2) := rfl
theorem lb_57 : zlab 57 = (mM_X4_hasTwins, 0) := rfl
theorem lb_58 : zlab 58 = (mM_X4_hasTwins, 2) := rfl
theorem lb_59 : zlab 59 = (mM_X4_init, 0) := rfl
theorem lb_60 : zlab 60 = (mM_X4_isLiteral, 0) := rfl
theorem lb_61 : zlab 61 = (mM_X4_isLiteral, 17) := rfl
theorem lb_62 : zlab 62 = (mM_X4_learn, 0) := rfl
theorem lb_63 : zlab 63 = (mM_X4_learn, 6) := rfl
theorem lb_64 : zlab 64 = (mM_X4_learnGroup, 0) := rfl
theorem lb_65 : zlab 65 = (mM_X4_learnVariable, 0) := rfl
theorem lb_66 : zlab 66 = (mM_X5_append, 0) := rfl
theorem lb_67 : zlab 67 = (mM_X5_closeList, 0) := rfl
theorem lb_68 : zlab 68 = (mM_X5_deliver, 0) := rfl
theorem lb_69 : zlab 69 = (mM_X5_deliver, 4) := rfl
theorem lb_70 : zlab 70 = (mM_X5_endOfToken, 0) := rfl
theorem lb_71 : zlab 71 = (mM_X5_endOfToken, 25) := rfl
theorem lb_72 : zlab 72 = (mM_X5_formAt, 0) := rfl
theorem lb_73 : zlab 73 = (mM_X5_init, 0) := rfl
theorem lb_74 : zlab 74 = (mM_X5_isDigit, 0) := rfl
theorem lb_75 : zlab 75 = (mM_X5_isSign, 0) := rfl
theorem lb_76 : zlab 76 = (mM_X5_mayStand, 0) := rfl
theorem lb_77 : zlab 77 = (mM_X5_readAll, 0) := rfl
theorem lb_78 : zlab 78 = (mM_X5_readAll, 28) := rfl
theorem lb_79 : zlab 79 = (mM_X5_readBoolean, 0) := rfl
theorem lb_80 : zlab 80 = (mM_X5_readMark, 0) := rfl
theorem lb_81 : zlab 81 = (mM_X5_readName, 0) := rfl
theorem lb_82 : zlab 82 = (mM_X5_readNumber, 0) := rfl
theorem lb_83 : zlab 83 = (mM_X5_readNumber, 51) := rfl
theorem lb_84 : zlab 84 = (mM_X5_readRow, 0) := rfl
theorem lb_85 : zlab 85 = (mM_X5_skipBlanks, 0) := rfl
theorem lb_86 : zlab 86 = (mM_X5_skipBlanks, 5) := rfl
theorem lb_87 : zlab 87 = (mM_X6_clear, 0) := rfl
theorem lb_88 : zlab 88 = (mM_X6_init, 0) := rfl
theorem lb_89 : zlab 89 = (mM_X6_offer, 0) := rfl
theorem lb_90 : zlab 90 = (mM_X6_proceed, 0) := rfl
theorem lb_91 : zlab 91 = (mM_X7_clear, 0) := rfl
theorem lb_92 : zlab 92 = (mM_X7_init, 0) := rfl
theorem lb_93 : zlab 93 = (mM_X7_isMacro, 0) := rfl
theorem lb_94 : zlab 94 = (mM_X7_keep, 0) := rfl
theorem lb_95 : zlab 95 = (mM_X7_keep, 17) := rfl
theorem lb_96 : zlab 96 = (mM_X7_keywordOf, 0) := rfl
theorem lb_97 : zlab 97 = (mM_X7_mark, 0) := rfl
theorem lb_98 : zlab 98 = (mM_X7_meaning, 0) := rfl
theorem lb_99 : zlab 99 = (mM_X7_meaning, 15) := rfl
theorem lb_100 : zlab 100 = (mM_X7_ofSymbol, 0) := rfl
theorem lb_101 : zlab 101 = (mM_X7_tellMacro, 0) := rfl
theorem lb_102 : zlab 102 = (mM_X8_begin, 0) := rfl
theorem lb_103 : zlab 103 = (mM_X8_clear, 0) := rfl
theorem lb_104 : zlab 104 = (mM_X8_init, 0) := rfl
theorem lb_105 : zlab 105 = (mM_X8_mark, 0) := rfl
theorem lb_106 : zlab 106 = (mM_X8_part, 0) := rfl
theorem lb_107 : zlab 107 = (mM_X8_render, 0) := rfl
theorem lb_108 : zlab 108 = (mM_X9_areNames, 0) := rfl
theorem lb_109 : zlab 109 = (mM_X9_areNames, 4) := rfl
theorem lb_110 : zlab 110 = (mM_X9_begin, 0) := rfl
theorem lb_111 : zlab 111 = (mM_X9_init, 0) := rfl
theorem lb_112 : zlab 112 = (mM_X9_isRule, 0) := rfl
theorem lb_113 : zlab 113 = (mM_X9_isRules, 0) := rfl
theorem lb_114 : zlab 114 = (mM_X9_isRules, 77) := rfl
theorem lb_115 : zlab 115 = (mM_X9_isTemplate, 0) := rfl
theorem lb_116 : zlab 116 = (mM_X9_isTemplate, 6) := rfl
theorem lb_117 : zlab 117 = (mM_X10_add, 0) := rfl
theorem lb_118 : zlab 118 = (mM_X10_addKept, 0) := rfl
theorem lb_119 : zlab 119 = (mM_X10_begin, 0) := rfl
theorem lb_120 : zlab 120 = (mM_X10_clear, 0) := rfl
theorem lb_121 : zlab 121 = (mM_X10_copy, 0) := rfl
theorem lb_122 : zlab 122 = (mM_X10_copy, 12) := rfl
theorem lb_123 : zlab 123 = (mM_X10_count, 0) := rfl
theorem lb_124 : zlab 124 = (mM_X10_count, 4) := rfl
theorem lb_125 : zlab 125 = (mM_X10_findsAlias, 0) := rfl
theorem lb_126 : zlab 126 = (mM_X10_findsAlias, 5) := rfl
theorem lb_127 : zlab 127 = (mM_X10_first, 0) := rfl
theorem lb_128 : zlab 128 = (mM_X10_hasAlias, 0) := rfl
theorem lb_129 : zlab 129 = (mM_X10_init, 0) := rfl
theorem lb_130 : zlab 130 = (mM_X10_isCons, 0) := rfl
theorem lb_131 : zlab 131 = (mM_X10_isName, 0) := rfl
theorem lb_132 : zlab 132 = (mM_X10_keep, 0) := rfl
theorem lb_133 : zlab 133 = (mM_X10_kind, 0) := rfl
theorem lb_134 : zlab 134 = (mM_X10_measure, 0) := rfl
theorem lb_135 : zlab 135 = (mM_X10_nameOf, 0) := rfl
theorem lb_136 : zlab 136 = (mM_X10_place, 0) := rfl
theorem lb_137 : zlab 137 = (mM_X10_repeats, 0) := rfl
theorem lb_138 : zlab 138 = (mM_X10_rest, 0) := rfl
theorem lb_139 : zlab 139 = (mM_X10_setFirst, 0) := rfl
theorem lb_140 : zlab 140 = (mM_X10_setRest, 0) := rfl
theorem lb_141 : zlab 141 = (mM_X10_symbolAtLast, 0) := rfl
theorem lb_142 : zlab 142 = (mM_X10_turnKept, 0) := rfl
theorem lb_143 : zlab 143 = (mM_X10_weigh, 0) := rfl
theorem lb_144 : zlab 144 = (mM_X10_weigh, 3) := rfl
theorem lb_145 : zlab 145 = (mM_X11_clearScheme, 0) := rfl
theorem lb_146 : zlab 146 = (mM_X11_end, 0) := rfl
theorem lb_147 : zlab 147 = (mM_X11_fault, 0) := rfl
theorem lb_148 : zlab 148 = (mM_X11_feed, 0) := rfl
theorem lb_149 : zlab 149 = (mM_X11_go, 0) := rfl
theorem lb_150 : zlab 150 = (mM_X11_go, 23) := rfl
theorem lb_151 : zlab 151 = (mM_X11_held, 0) := rfl
theorem lb_152 : zlab 152 = (mM_X11_init, 0) := rfl
theorem lb_153 : zlab 153 = (mM_X11_input, 0) := rfl
theorem lb_154 : zlab 154 = (mM_X11_isPrimitive, 0) := rfl
theorem lb_155 : zlab 155 = (mM_X11_letter, 0) := rfl
theorem lb_156 : zlab 156 = (mM_X11_load, 0) := rfl
theorem lb_157 : zlab 157 = (mM_X11_load, 50) := rfl
theorem lb_158 : zlab 158 = (mM_X11_look, 0) := rfl
theorem lb_159 : zlab 159 = (mM_X11_out, 0) := rfl
theorem lb_160 : zlab 160 = (mM_X11_peek, 0) := rfl
theorem lb_161 : zlab 161 = (mM_X11_poke, 0) := rfl
theorem lb_162 : zlab 162 = (mM_X11_readNames, 0) := rfl
theorem lb_163 : zlab 163 = (mM_X11_readNames, 47) := rfl
theorem lb_164 : zlab 164 = (mM_X11_register, 0) := rfl
theorem lb_165 : zlab 165 = (mM_X11_reset, 0) := rfl
theorem lb_166 : zlab 166 = (mM_X11_run, 0) := rfl
theorem lb_167 : zlab 167 = (mM_X11_set, 0) := rfl
theorem lb_168 : zlab 168 = (mM_X11_shown, 0) := rfl
theorem lb_169 : zlab 169 = (mM_X11_takeText, 0) := rfl
theorem lb_170 : zlab 170 = (mM_X11_takeText, 39) := rfl
theorem lb_171 : zlab 171 = (mM_X11_takeText, 97) := rfl
theorem lb_172 : zlab 172 = (mM_X11_tapeFour, 0) := rfl
theorem lb_173 : zlab 173 = (mM_X11_tapeFour, 3) := rfl
theorem lb_174 : zlab 174 = (mM_X11_word, 0) := rfl
theorem lb_175 : zlab 175 = (mM_X11_write, 0) := rfl
theorem lb_176 : zlab 176 = (mM_X11_write, 2) := rfl
theorem lb_177 : zlab 177 = (mM_X11_writePrelude, 0) := rfl
theorem lb_178 : zlab 178 = (mM_X12_areRules, 0) := rfl
theorem lb_179 : zlab 179 = (mM_X12_areRules, 54) := rfl
theorem lb_180 : zlab 180 = (mM_X12_areRules, 96) := rfl
theorem lb_181 : zlab 181 = (mM_X12_atLast, 0) := rfl
theorem lb_182 : zlab 182 = (mM_X12_atLast, 2) := rfl
theorem lb_183 : zlab 183 = (mM_X12_atom, 0) := rfl
theorem lb_184 : zlab 184 = (mM_X12_behind, 0) := rfl
theorem lb_185 : zlab 185 = (mM_X12_behind, 5) := rfl
theorem lb_186 : zlab 186 = (mM_X12_blanks, 0) := rfl
theorem lb_187 : zlab 187 = (mM_X12_byteOf, 0) := rfl
theorem lb_188 : zlab 188 = (mM_X12_cell, 0) := rfl
theorem lb_189 : zlab 189 = (mM_X12_closes, 0) := rfl
theorem lb_190 : zlab 190 = (mM_X12_comes, 0) := rfl
theorem lb_191 : zlab 191 = (mM_X12_comes, 2) := rfl
theorem lb_192 : zlab 192 = (mM_X12_constant, 0) := rfl
theorem lb_193 : zlab 193 = (mM_X12_copied, 0) := rfl
theorem lb_194 : zlab 194 = (mM_X12_copied, 10) := rfl
theorem lb_195 : zlab 195 = (mM_X12_copy, 0) := rfl
theorem lb_196 : zlab 196 = (mM_X12_copy, 3) := rfl
theorem lb_197 : zlab 197 = (mM_X12_definesSyntax, 0) := rfl
theorem lb_198 : zlab 198 = (mM_X12_definesSyntax, 139) := rfl
theorem lb_199 : zlab 199 = (mM_X12_definesSyntax, 283) := rfl
theorem lb_200 : zlab 200 = (mM_X12_end, 0) := rfl
theorem lb_201 : zlab 201 = (mM_X12_fault, 0) := rfl
theorem lb_202 : zlab 202 = (mM_X12_feed, 0) := rfl
theorem lb_203 : zlab 203 = (mM_X12_feeds, 0) := rfl
theorem lb_204 : zlab 204 = (mM_X12_feeds, 3) := rfl
theorem lb_205 : zlab 205 = (mM_X12_fetched, 0) := rfl
theorem lb_206 : zlab 206 = (mM_X12_form, 0) := rfl
theorem lb_207 : zlab 207 = (mM_X12_form, 13) := rfl
theorem lb_208 : zlab 208 = (mM_X12_gathers, 0) := rfl
theorem lb_209 : zlab 209 = (mM_X12_gathers, 2) := rfl
theorem lb_210 : zlab 210 = (mM_X12_go, 0) := rfl
theorem lb_211 : zlab 211 = (mM_X12_go, 25) := rfl
theorem lb_212 : zlab 212 = (mM_X12_hasAlias, 0) := rfl
theorem lb_213 : zlab 213 = (mM_X12_hasAlias, 2) := rfl
theorem lb_214 : zlab 214 = (mM_X12_hasDeeper, 0) := rfl
theorem lb_215 : zlab 215 = (mM_X12_hasDeeper, 2) := rfl
theorem lb_216 : zlab 216 = (mM_X12_held, 0) := rfl
theorem lb_217 : zlab 217 = (mM_X12_in, 0) := rfl
theorem lb_218 : zlab 218 = (mM_X12_init, 0) := rfl
theorem lb_219 : zlab 219 = (mM_X12_input, 0) := rfl
theorem lb_220 : zlab 220 = (mM_X12_isBenchPlace, 0) := rfl
theorem lb_221 : zlab 221 = (mM_X12_isDots, 0) := rfl
theorem lb_222 : zlab 222 = (mM_X12_isDotted, 0) := rfl
theorem lb_223 : zlab 223 = (mM_X12_isLiteral, 0) := rfl
theorem lb_224 : zlab 224 = (mM_X12_isLiteral, 5) := rfl
theorem lb_225 : zlab 225 = (mM_X12_isName, 0) := rfl
theorem lb_226 : zlab 226 = (mM_X12_isNamed, 0) := rfl
theorem lb_227 : zlab 227 = (mM_X12_isNumber, 0) := rfl
theorem lb_228 : zlab 228 = (mM_X12_isPrimitive, 0) := rfl
theorem lb_229 : zlab 229 = (mM_X12_isProcedure, 0) := rfl
theorem lb_230 : zlab 230 = (mM_X12_isRight, 0) := rfl
theorem lb_231 : zlab 231 = (mM_X12_isRight, 27) := rfl
theorem lb_232 : zlab 232 = (mM_X12_isSign, 0) := rfl
theorem lb_233 : zlab 233 = (mM_X12_is_, 0) := rfl
theorem lb_234 : zlab 234 = (mM_X12_item, 0) := rfl
theorem lb_235 : zlab 235 = (mM_X12_lambdas, 0) := rfl
theorem lb_236 : zlab 236 = (mM_X12_lambdas, 2) := rfl
theorem lb_237 : zlab 237 = (mM_X12_length, 0) := rfl
theorem lb_238 : zlab 238 = (mM_X12_length, 4) := rfl
theorem lb_239 : zlab 239 = (mM_X12_letter, 0) := rfl
theorem lb_240 : zlab 240 = (mM_X12_listed, 0) := rfl
theorem lb_241 : zlab 241 = (mM_X12_load, 0) := rfl
theorem lb_242 : zlab 242 = (mM_X12_look, 0) := rfl
theorem lb_243 : zlab 243 = (mM_X12_macroOf, 0) := rfl
theorem lb_244 : zlab 244 = (mM_X12_macroOf, 2) := rfl
theorem lb_245 : zlab 245 = (mM_X12_mayBegin, 0) := rfl
theorem lb_246 : zlab 246 = (mM_X12_means, 0) := rfl
theorem lb_247 : zlab 247 = (mM_X12_means, 8) := rfl
theorem lb_248 : zlab 248 = (mM_X12_means, 17) := rfl
theorem lb_249 : zlab 249 = (mM_X12_out, 0) := rfl
theorem lb_250 : zlab 250 = (mM_X12_part, 0) := rfl
theorem lb_251 : zlab 251 = (mM_X12_part, 5) := rfl
theorem lb_252 : zlab 252 = (mM_X12_peek, 0) := rfl
theorem lb_253 : zlab 253 = (mM_X12_poke, 0) := rfl
theorem lb_254 : zlab 254 = (mM_X12_r, 0) := rfl
theorem lb_255 : zlab 255 = (mM_X12_readText, 0) := rfl
theorem lb_256 : zlab 256 = (mM_X12_readText, 19) := rfl
theorem lb_257 : zlab 257 = (mM_X12_register, 0) := rfl
theorem lb_258 : zlab 258 = (mM_X12_reset, 0) := rfl
theorem lb_259 : zlab 259 = (mM_X12_reset, 2) := rfl
theorem lb_260 : zlab 260 = (mM_X12_reset, 25) := rfl
theorem lb_261 : zlab 261 = (mM_X12_reset, 48) := rfl
theorem lb_262 : zlab 262 = (mM_X12_reset, 172) := rfl
theorem lb_263 : zlab 263 = (mM_X12_reset, 263) := rfl
theorem lb_264 : zlab 264 = (mM_X12_rowOfSigns, 0) := rfl
theorem lb_265 : zlab 265 = (mM_X12_rowOfSigns, 128) := rfl
theorem lb_266 : zlab 266 = (mM_X12_run, 0) := rfl
theorem lb_267 : zlab 267 = (mM_X12_saves, 0) := rfl
theorem lb_268 : zlab 268 = (mM_X12_saves, 2) := rfl
theorem lb_269 : zlab 269 = (mM_X12_set, 0) := rfl
theorem lb_270 : zlab 270 = (mM_X12_set, 35) := rfl
theorem lb_271 : zlab 271 = (mM_X12_setCell, 0) := rfl
theorem lb_272 : zlab 272 = (mM_X12_setR, 0) := rfl
theorem lb_273 : zlab 273 = (mM_X12_shown, 0) := rfl
theorem lb_274 : zlab 274 = (mM_X12_single, 0) := rfl
theorem lb_275 : zlab 275 = (mM_X12_sized, 0) := rfl
theorem lb_276 : zlab 276 = (mM_X12_sized, 4) := rfl
theorem lb_277 : zlab 277 = (mM_X12_sized, 49) := rfl
theorem lb_278 : zlab 278 = (mM_X12_step, 0) := rfl
theorem lb_279 : zlab 279 = (mM_X12_symbol, 0) := rfl
theorem lb_280 : zlab 280 = (mM_X12_symbol, 2) := rfl
theorem lb_281 : zlab 281 = (mM_X12_symbol, 29) := rfl
theorem lb_282 : zlab 282 = (mM_X12_symbol, 145) := rfl
theorem lb_283 : zlab 283 = (mM_X12_takesText, 0) := rfl
theorem lb_284 : zlab 284 = (mM_X12_takesText, 95) := rfl
theorem lb_285 : zlab 285 = (mM_X12_takesText, 138) := rfl
theorem lb_286 : zlab 286 = (mM_X12_token, 0) := rfl
theorem lb_287 : zlab 287 = (mM_X12_token, 134) := rfl
theorem lb_288 : zlab 288 = (mM_X12_token, 250) := rfl
theorem lb_289 : zlab 289 = (mM_X12_told, 0) := rfl
theorem lb_290 : zlab 290 = (mM_X12_told, 17) := rfl
theorem lb_291 : zlab 291 = (mM_X12_variableOf, 0) := rfl
theorem lb_292 : zlab 292 = (mM_X12_variableOf, 2) := rfl
theorem lb_293 : zlab 293 = (mM_X12_word, 0) := rfl
theorem lb_294 : zlab 294 = (mM_X12_wordAt, 0) := rfl
theorem lb_295 : zlab 295 = (mM_X12_word_, 0) := rfl
theorem lb_296 : zlab 296 = (mM_X12_write, 0) := rfl
theorem lb_297 : zlab 297 = (mM_X12_written, 0) := rfl
theorem calS_J1_charAt_3b067 : zCalS zTw mM_J1_charAt_3b067 2 := ⟨by decide +kernel, w_1, w_2, w_3, zdd_J1_charAt_3b067, by decide +kernel, by decide +kernel⟩
theorem calV_J0_isLatin1_aae02 : zCalV zTw "java/lang/String" mM_J0_isLatin1_aae02 0 := ⟨by decide +kernel, w_6, w_7, w_8, w_9, zdd_J0_isLatin1_aae02, by decide +kernel, by decide +kernel⟩
theorem calV_J0_indexOf_7cf53 : zCalV zTw "java/lang/String" mM_J0_indexOf_7cf53 2 := ⟨by decide +kernel, w_13, w_7, w_14, w_15, zdd_J0_indexOf_7cf53, by decide +kernel, by decide +kernel⟩
theorem calS_J1_indexOf_4cfef : zCalS zTw mM_J1_indexOf_4cfef 4 := ⟨by decide +kernel, w_17, w_2, w_18, zdd_J1_indexOf_4cfef, by decide +kernel, by decide +kernel⟩
theorem calV_J0_length_8abf5 : zCalV zTw "java/lang/String" mM_J0_length_8abf5 0 := ⟨by decide +kernel, w_20, w_7, w_21, w_22, zdd_J0_length_8abf5, by decide +kernel, by decide +kernel⟩
theorem calV_J0_coder_7d493 : zCalV zTw "java/lang/String" mM_J0_coder_7d493 0 := ⟨by decide +kernel, w_24, w_7, w_25, w_26, zdd_J0_coder_7d493, by decide +kernel, by decide +kernel⟩
theorem calS_J1_indexOfChar_4cfef : zCalS zTw mM_J1_indexOfChar_4cfef 4 := ⟨by decide +kernel, w_29, w_2, w_30, zdd_J1_indexOfChar_4cfef, by decide +kernel, by decide +kernel⟩
theorem calS_J1_canEncode_9a6ad : zCalS zTw mM_J1_canEncode_9a6ad 1 := ⟨by decide +kernel, w_39, w_2, w_40, zdd_J1_canEncode_9a6ad, by decide +kernel, by decide +kernel⟩
theorem calV_X9_begin : zCalV zTw "SchemeEleven$Spreader" mM_X9_begin 0 := ⟨by decide +kernel, w_42, w_43, w_44, w_45, zdd_X9_begin, by decide +kernel, by decide +kernel⟩
theorem calV_X0_push : zCalV zTw "SchemeEleven$Coder" mM_X0_push 5 := ⟨by decide +kernel, w_48, w_49, w_50, v_2_1, zdd_X0_push, by decide +kernel, by decide +kernel⟩
theorem calV_X0_emit : zCalV zTw "SchemeEleven$Coder" mM_X0_emit 1 := ⟨by decide +kernel, w_56, w_49, w_57, v_2_8, zdd_X0_emit, by decide +kernel, by decide +kernel⟩
theorem calV_X0_inTail : zCalV zTw "SchemeEleven$Coder" mM_X0_inTail 0 := ⟨by decide +kernel, w_60, w_49, w_61, v_2_12, zdd_X0_inTail, by decide +kernel, by decide +kernel⟩
theorem calV_X0_third : zCalV zTw "SchemeEleven$Coder" mM_X0_third 0 := ⟨by decide +kernel, w_64, w_49, w_65, v_3_1, zdd_X0_third, by decide +kernel, by decide +kernel⟩
theorem calV_X10_hasAlias : zCalV zTw "SchemeEleven$Text" mM_X10_hasAlias 1 := ⟨by decide +kernel, w_68, w_69, w_70, w_71, zdd_X10_hasAlias, by decide +kernel, by decide +kernel⟩
theorem calV_X10_kind : zCalV zTw "SchemeEleven$Text" mM_X10_kind 1 := ⟨by decide +kernel, w_74, w_69, w_75, w_76, zdd_X10_kind, by decide +kernel, by decide +kernel⟩
theorem calV_X0_second : zCalV zTw "SchemeEleven$Coder" mM_X0_second 0 := ⟨by decide +kernel, w_78, w_49, w_79, v_2_3, zdd_X0_second, by decide +kernel, by decide +kernel⟩
theorem calV_X10_count : zCalV zTw "SchemeEleven$Text" mM_X10_count 1 := ⟨by decide +kernel, w_81, w_69, w_82, w_83, zdd_X10_count, by decide +kernel, by decide +kernel⟩
theorem calV_X7_isMacro : zCalV zTw "SchemeEleven$Scopes" mM_X7_isMacro 1 := ⟨by decide +kernel, w_85, w_86, w_87, w_88, zdd_X7_isMacro, by decide +kernel, by decide +kernel⟩
theorem calV_X7_keywordOf : zCalV zTw "SchemeEleven$Scopes" mM_X7_keywordOf 1 := ⟨by decide +kernel, w_91, w_86, w_92, w_93, zdd_X7_keywordOf, by decide +kernel, by decide +kernel⟩
theorem calV_X0_meaningOfFirst : zCalV zTw "SchemeEleven$Coder" mM_X0_meaningOfFirst 0 := ⟨by decide +kernel, w_95, w_49, w_96, v_3_12, zdd_X0_meaningOfFirst, by decide +kernel, by decide +kernel⟩
theorem calV_X2_addWord : zCalV zTw "SchemeEleven$Image" mM_X2_addWord 1 := ⟨by decide +kernel, w_98, w_99, w_100, w_101, zdd_X2_addWord, by decide +kernel, by decide +kernel⟩
theorem calI_X9_init : zCalI zTw mM_X9_init 2 := ⟨by decide +kernel, rfl, by decide +kernel, w_104, w_43, w_105, zdd_X9_init, by decide +kernel, by decide +kernel⟩
theorem calV_X7_meaning : zCalV zTw "SchemeEleven$Scopes" mM_X7_meaning 2 := ⟨by decide +kernel, w_114, w_86, w_115, w_116, zdd_X7_meaning, by decide +kernel, by decide +kernel⟩
theorem calV_X10_isName : zCalV zTw "SchemeEleven$Text" mM_X10_isName 1 := ⟨by decide +kernel, w_118, w_69, w_119, w_120, zdd_X10_isName, by decide +kernel, by decide +kernel⟩
theorem calV_X10_first : zCalV zTw "SchemeEleven$Text" mM_X10_first 1 := ⟨by decide +kernel, w_122, w_69, w_123, w_124, zdd_X10_first, by decide +kernel, by decide +kernel⟩
theorem calV_X10_rest : zCalV zTw "SchemeEleven$Text" mM_X10_rest 1 := ⟨by decide +kernel, w_126, w_69, w_127, w_128, zdd_X10_rest, by decide +kernel, by decide +kernel⟩
theorem calV_X0_codeConstant : zCalV zTw "SchemeEleven$Coder" mM_X0_codeConstant 1 := ⟨by decide +kernel, w_130, w_49, w_131, v_2_11, zdd_X0_codeConstant, by decide +kernel, by decide +kernel⟩
theorem calV_X2_placeOf : zCalV zTw "SchemeEleven$Image" mM_X2_placeOf 1 := ⟨by decide +kernel, w_133, w_99, w_134, w_135, zdd_X2_placeOf, by decide +kernel, by decide +kernel⟩
theorem calV_X7_tellMacro : zCalV zTw "SchemeEleven$Scopes" mM_X7_tellMacro 2 := ⟨by decide +kernel, w_137, w_86, w_138, w_139, zdd_X7_tellMacro, by decide +kernel, by decide +kernel⟩
theorem calV_X10_symbolAtLast : zCalV zTw "SchemeEleven$Text" mM_X10_symbolAtLast 1 := ⟨by decide +kernel, w_142, w_69, w_143, w_144, zdd_X10_symbolAtLast, by decide +kernel, by decide +kernel⟩
theorem calV_X0_tellMacro : zCalV zTw "SchemeEleven$Coder" mM_X0_tellMacro 1 := ⟨by decide +kernel, w_146, w_49, w_147, v_4_13, zdd_X0_tellMacro, by decide +kernel, by decide +kernel⟩
theorem calV_X9_isRules : zCalV zTw "SchemeEleven$Spreader" mM_X9_isRules 1 := ⟨by decide +kernel, w_149, w_43, w_150, w_151, zdd_X9_isRules, by decide +kernel, by decide +kernel⟩
theorem calV_X0_codeForm : zCalV zTw "SchemeEleven$Coder" mM_X0_codeForm 0 := ⟨by decide +kernel, w_153, w_49, w_154, v_3_11, zdd_X0_codeForm, by decide +kernel, by decide +kernel⟩
theorem calV_X0_codeDefineSyntax : zCalV zTw "SchemeEleven$Coder" mM_X0_codeDefineSyntax 0 := ⟨by decide +kernel, w_156, w_49, w_157, v_3_6, zdd_X0_codeDefineSyntax, by decide +kernel, by decide +kernel⟩
theorem calV_X3_put : zCalV zTw "SchemeEleven$Machine" mM_X3_put 2 := ⟨by decide +kernel, w_169, w_170, w_171, w_172, zdd_X3_put, by decide +kernel, by decide +kernel⟩
theorem calV_X2_addStatic : zCalV zTw "SchemeEleven$Image" mM_X2_addStatic 3 := ⟨by decide +kernel, w_179, w_99, w_180, w_181, zdd_X2_addStatic, by decide +kernel, by decide +kernel⟩
theorem calV_X2_same : zCalV zTw "SchemeEleven$Image" mM_X2_same 4 := ⟨by decide +kernel, w_185, w_99, w_186, v_1_11, zdd_X2_same, by decide +kernel, by decide +kernel⟩
theorem calV_X3_putFlags : zCalV zTw "SchemeEleven$Machine" mM_X3_putFlags 1 := ⟨by decide +kernel, w_193, w_170, w_194, w_195, zdd_X3_putFlags, by decide +kernel, by decide +kernel⟩
theorem calS_J7_fill_53178 : zCalS zTw mM_J7_fill_53178 2 := ⟨by decide +kernel, w_197, w_198, w_199, zdd_J7_fill_53178, by decide +kernel, by decide +kernel⟩
theorem calV_X3_low : zCalV zTw "SchemeEleven$Machine" mM_X3_low 1 := ⟨by decide +kernel, w_209, w_170, w_210, v_6_1, zdd_X3_low, by decide +kernel, by decide +kernel⟩
theorem calV_X3_holds : zCalV zTw "SchemeEleven$Machine" mM_X3_holds 1 := ⟨by decide +kernel, w_213, w_170, w_214, w_215, zdd_X3_holds, by decide +kernel, by decide +kernel⟩
theorem calV_X10_nameOf : zCalV zTw "SchemeEleven$Text" mM_X10_nameOf 1 := ⟨by decide +kernel, w_223, w_69, w_224, w_225, zdd_X10_nameOf, by decide +kernel, by decide +kernel⟩
theorem calV_X4_find : zCalV zTw "SchemeEleven$Pattern" mM_X4_find 1 := ⟨by decide +kernel, w_229, w_230, w_231, w_232, zdd_X4_find, by decide +kernel, by decide +kernel⟩
theorem calV_X10_isCons : zCalV zTw "SchemeEleven$Text" mM_X10_isCons 1 := ⟨by decide +kernel, w_246, w_69, w_247, w_248, zdd_X10_isCons, by decide +kernel, by decide +kernel⟩
theorem calV_X4_learnVariable : zCalV zTw "SchemeEleven$Pattern" mM_X4_learnVariable 3 := ⟨by decide +kernel, w_250, w_230, w_251, v_4_11, zdd_X4_learnVariable, by decide +kernel, by decide +kernel⟩
theorem calV_X4_isLiteral : zCalV zTw "SchemeEleven$Pattern" mM_X4_isLiteral 1 := ⟨by decide +kernel, w_253, w_230, w_254, w_255, zdd_X4_isLiteral, by decide +kernel, by decide +kernel⟩
theorem calV_X4_learn : zCalV zTw "SchemeEleven$Pattern" mM_X4_learn 4 := ⟨by decide +kernel, w_258, w_230, w_259, v_4_9, zdd_X4_learn, by decide +kernel, by decide +kernel⟩
theorem calV_X4_learnGroup : zCalV zTw "SchemeEleven$Pattern" mM_X4_learnGroup 3 := ⟨by decide +kernel, w_261, w_230, w_262, v_4_10, zdd_X4_learnGroup, by decide +kernel, by decide +kernel⟩
theorem calV_X10_repeats : zCalV zTw "SchemeEleven$Text" mM_X10_repeats 1 := ⟨by decide +kernel, w_265, w_69, w_266, w_267, zdd_X10_repeats, by decide +kernel, by decide +kernel⟩
theorem calV_X10_setRest : zCalV zTw "SchemeEleven$Text" mM_X10_setRest 2 := ⟨by decide +kernel, w_270, w_69, w_271, w_272, zdd_X10_setRest, by decide +kernel, by decide +kernel⟩
theorem calV_X10_add : zCalV zTw "SchemeEleven$Text" mM_X10_add 5 := ⟨by decide +kernel, w_276, w_69, w_277, w_278, zdd_X10_add, by decide +kernel, by decide +kernel⟩
theorem calV_X10_place : zCalV zTw "SchemeEleven$Text" mM_X10_place 1 := ⟨by decide +kernel, w_280, w_69, w_281, w_282, zdd_X10_place, by decide +kernel, by decide +kernel⟩
theorem calV_X5_append : zCalV zTw "SchemeEleven$Reader" mM_X5_append 2 := ⟨by decide +kernel, w_290, w_291, w_292, v_1_14, zdd_X5_append, by decide +kernel, by decide +kernel⟩
theorem calS_X5_isSign : zCalS zTw mM_X5_isSign 1 := ⟨by decide +kernel, w_294, w_291, w_295, zdd_X5_isSign, by decide +kernel, by decide +kernel⟩
theorem calS_X5_isDigit : zCalS zTw mM_X5_isDigit 1 := ⟨by decide +kernel, w_299, w_291, w_300, zdd_X5_isDigit, by decide +kernel, by decide +kernel⟩
theorem calS_X5_skipBlanks : zCalS zTw mM_X5_skipBlanks 3 := ⟨by decide +kernel, w_302, w_291, w_303, zdd_X5_skipBlanks, by decide +kernel, by decide +kernel⟩
theorem calV_X5_deliver : zCalV zTw "SchemeEleven$Reader" mM_X5_deliver 1 := ⟨by decide +kernel, w_305, w_291, w_306, v_1_12, zdd_X5_deliver, by decide +kernel, by decide +kernel⟩
theorem calV_X5_readRow : zCalV zTw "SchemeEleven$Reader" mM_X5_readRow 3 := ⟨by decide +kernel, w_308, w_291, w_309, v_1_6, zdd_X5_readRow, by decide +kernel, by decide +kernel⟩
theorem calV_X5_readMark : zCalV zTw "SchemeEleven$Reader" mM_X5_readMark 2 := ⟨by decide +kernel, w_311, w_291, w_312, v_1_3, zdd_X5_readMark, by decide +kernel, by decide +kernel⟩
theorem calS_X5_endOfToken : zCalS zTw mM_X5_endOfToken 3 := ⟨by decide +kernel, w_314, w_291, w_315, zdd_X5_endOfToken, by decide +kernel, by decide +kernel⟩
theorem calV_X5_mayStand : zCalV zTw "SchemeEleven$Reader" mM_X5_mayStand 1 := ⟨by decide +kernel, w_318, w_291, w_319, v_1_5, zdd_X5_mayStand, by decide +kernel, by decide +kernel⟩
theorem calV_X5_closeList : zCalV zTw "SchemeEleven$Reader" mM_X5_closeList 1 := ⟨by decide +kernel, w_321, w_291, w_322, v_1_4, zdd_X5_closeList, by decide +kernel, by decide +kernel⟩
theorem calV_X2_addSymbol : zCalV zTw "SchemeEleven$Image" mM_X2_addSymbol 3 := ⟨by decide +kernel, w_324, w_99, w_325, w_326, zdd_X2_addSymbol, by decide +kernel, by decide +kernel⟩
theorem calV_X2_find : zCalV zTw "SchemeEleven$Image" mM_X2_find 3 := ⟨by decide +kernel, w_328, w_99, w_329, w_330, zdd_X2_find, by decide +kernel, by decide +kernel⟩
theorem calV_X5_readName : zCalV zTw "SchemeEleven$Reader" mM_X5_readName 3 := ⟨by decide +kernel, w_333, w_291, w_334, v_1_10, zdd_X5_readName, by decide +kernel, by decide +kernel⟩
theorem calV_X5_readNumber : zCalV zTw "SchemeEleven$Reader" mM_X5_readNumber 3 := ⟨by decide +kernel, w_336, w_291, w_337, v_1_8, zdd_X5_readNumber, by decide +kernel, by decide +kernel⟩
theorem calV_X5_readBoolean : zCalV zTw "SchemeEleven$Reader" mM_X5_readBoolean 2 := ⟨by decide +kernel, w_339, w_291, w_340, v_1_7, zdd_X5_readBoolean, by decide +kernel, by decide +kernel⟩
theorem calV_X10_keep : zCalV zTw "SchemeEleven$Text" mM_X10_keep 1 := ⟨by decide +kernel, w_370, w_69, w_371, w_372, zdd_X10_keep, by decide +kernel, by decide +kernel⟩
theorem calV_X10_turnKept : zCalV zTw "SchemeEleven$Text" mM_X10_turnKept 0 := ⟨by decide +kernel, w_374, w_69, w_375, w_376, zdd_X10_turnKept, by decide +kernel, by decide +kernel⟩
theorem calV_X7_ofSymbol : zCalV zTw "SchemeEleven$Scopes" mM_X7_ofSymbol 1 := ⟨by decide +kernel, w_386, w_86, w_387, v_3_0, zdd_X7_ofSymbol, by decide +kernel, by decide +kernel⟩
theorem calV_X10_measure : zCalV zTw "SchemeEleven$Text" mM_X10_measure 3 := ⟨by decide +kernel, w_391, w_69, w_392, w_393, zdd_X10_measure, by decide +kernel, by decide +kernel⟩
theorem calS_X11_isPrimitive : zCalS zTw mM_X11_isPrimitive 1 := ⟨by decide +kernel, w_404, w_405, w_406, zdd_X11_isPrimitive, by decide +kernel, by decide +kernel⟩
theorem calV_X8_mark : zCalV zTw "SchemeEleven$Scribe" mM_X8_mark 2 := ⟨by decide +kernel, w_408, w_409, w_410, v_9_13, zdd_X8_mark, by decide +kernel, by decide +kernel⟩
theorem calV_X1_kind : zCalV zTw "SchemeEleven$Heap" mM_X1_kind 1 := ⟨by decide +kernel, w_412, w_413, w_414, w_415, zdd_X1_kind, by decide +kernel, by decide +kernel⟩
theorem calV_X8_part : zCalV zTw "SchemeEleven$Scribe" mM_X8_part 2 := ⟨by decide +kernel, w_417, w_409, w_418, v_9_8, zdd_X8_part, by decide +kernel, by decide +kernel⟩
theorem calV_X8_begin : zCalV zTw "SchemeEleven$Scribe" mM_X8_begin 0 := ⟨by decide +kernel, w_420, w_409, w_421, v_9_7, zdd_X8_begin, by decide +kernel, by decide +kernel⟩
theorem calI_X4_init : zCalI zTw mM_X4_init 1 := ⟨by decide +kernel, rfl, by decide +kernel, w_432, w_230, w_433, zdd_X4_init, by decide +kernel, by decide +kernel⟩
theorem calV_X9_isTemplate : zCalV zTw "SchemeEleven$Spreader" mM_X9_isTemplate 3 := ⟨by decide +kernel, w_440, w_43, w_441, v_4_12, zdd_X9_isTemplate, by decide +kernel, by decide +kernel⟩
theorem calV_X4_hasTwins : zCalV zTw "SchemeEleven$Pattern" mM_X4_hasTwins 0 := ⟨by decide +kernel, w_443, w_230, w_444, w_445, zdd_X4_hasTwins, by decide +kernel, by decide +kernel⟩
theorem calV_X4_begin : zCalV zTw "SchemeEleven$Pattern" mM_X4_begin 1 := ⟨by decide +kernel, w_447, w_230, w_448, w_449, zdd_X4_begin, by decide +kernel, by decide +kernel⟩
theorem calV_X9_isRule : zCalV zTw "SchemeEleven$Spreader" mM_X9_isRule 2 := ⟨by decide +kernel, w_453, w_43, w_454, v_4_8, zdd_X9_isRule, by decide +kernel, by decide +kernel⟩
theorem calV_X9_areNames : zCalV zTw "SchemeEleven$Spreader" mM_X9_areNames 1 := ⟨by decide +kernel, w_456, w_43, w_457, v_4_7, zdd_X9_areNames, by decide +kernel, by decide +kernel⟩
theorem calV_X4_depthOf : zCalV zTw "SchemeEleven$Pattern" mM_X4_depthOf 1 := ⟨by decide +kernel, w_460, w_230, w_461, w_462, zdd_X4_depthOf, by decide +kernel, by decide +kernel⟩
theorem calV_X10_begin : zCalV zTw "SchemeEleven$Text" mM_X10_begin 0 := ⟨by decide +kernel, w_476, w_69, w_477, w_478, zdd_X10_begin, by decide +kernel, by decide +kernel⟩
theorem calV_X10_addKept : zCalV zTw "SchemeEleven$Text" mM_X10_addKept 1 := ⟨by decide +kernel, w_481, w_69, w_482, v_5_14, zdd_X10_addKept, by decide +kernel, by decide +kernel⟩
theorem calV_X10_setFirst : zCalV zTw "SchemeEleven$Text" mM_X10_setFirst 2 := ⟨by decide +kernel, w_484, w_69, w_485, w_486, zdd_X10_setFirst, by decide +kernel, by decide +kernel⟩
theorem calV_X10_copy : zCalV zTw "SchemeEleven$Text" mM_X10_copy 2 := ⟨by decide +kernel, w_488, w_69, w_489, v_5_13, zdd_X10_copy, by decide +kernel, by decide +kernel⟩
theorem calV_X10_findsAlias : zCalV zTw "SchemeEleven$Text" mM_X10_findsAlias 2 := ⟨by decide +kernel, w_493, w_69, w_494, v_3_7, zdd_X10_findsAlias, by decide +kernel, by decide +kernel⟩
theorem calV_X10_weigh : zCalV zTw "SchemeEleven$Text" mM_X10_weigh 3 := ⟨by decide +kernel, w_498, w_69, w_499, v_4_14, zdd_X10_weigh, by decide +kernel, by decide +kernel⟩
theorem calV_X7_clear : zCalV zTw "SchemeEleven$Scopes" mM_X7_clear 0 := ⟨by decide +kernel, w_503, w_86, w_504, w_505, zdd_X7_clear, by decide +kernel, by decide +kernel⟩
theorem calV_X10_clear : zCalV zTw "SchemeEleven$Text" mM_X10_clear 0 := ⟨by decide +kernel, w_508, w_69, w_509, w_510, zdd_X10_clear, by decide +kernel, by decide +kernel⟩
theorem calV_X6_clear : zCalV zTw "SchemeEleven$Runner" mM_X6_clear 0 := ⟨by decide +kernel, w_513, w_514, w_515, w_516, zdd_X6_clear, by decide +kernel, by decide +kernel⟩
theorem calV_X8_clear : zCalV zTw "SchemeEleven$Scribe" mM_X8_clear 0 := ⟨by decide +kernel, w_519, w_409, w_520, w_521, zdd_X8_clear, by decide +kernel, by decide +kernel⟩
theorem calV_X1_clear : zCalV zTw "SchemeEleven$Heap" mM_X1_clear 0 := ⟨by decide +kernel, w_524, w_413, w_525, w_526, zdd_X1_clear, by decide +kernel, by decide +kernel⟩
theorem calV_X2_clear : zCalV zTw "SchemeEleven$Image" mM_X2_clear 0 := ⟨by decide +kernel, w_529, w_99, w_530, w_531, zdd_X2_clear, by decide +kernel, by decide +kernel⟩
theorem calV_X3_clear : zCalV zTw "SchemeEleven$Machine" mM_X3_clear 0 := ⟨by decide +kernel, w_534, w_170, w_535, w_536, zdd_X3_clear, by decide +kernel, by decide +kernel⟩
theorem calV_X11_tapeFour : zCalV zTw "SchemeEleven" mM_X11_tapeFour 1 := ⟨by decide +kernel, w_540, w_405, w_541, v_5_15, zdd_X11_tapeFour, by decide +kernel, by decide +kernel⟩
theorem calV_X3_step : zCalV zTw "SchemeEleven$Machine" mM_X3_step 0 := ⟨by decide +kernel, w_544, w_170, w_545, w_546, zdd_X3_step, by decide +kernel, by decide +kernel⟩
theorem calV_X3_told : zCalV zTw "SchemeEleven$Machine" mM_X3_told 1 := ⟨by decide +kernel, w_549, w_170, w_550, w_551, zdd_X3_told, by decide +kernel, by decide +kernel⟩
theorem calV_X11_takeText : zCalV zTw "SchemeEleven" mM_X11_takeText 2 := ⟨by decide +kernel, w_553, w_405, w_554, v_2_0, zdd_X11_takeText, by decide +kernel, by decide +kernel⟩
theorem calV_X11_writePrelude : zCalV zTw "SchemeEleven" mM_X11_writePrelude 0 := ⟨by decide +kernel, w_558, w_405, w_559, v_1_15, zdd_X11_writePrelude, by decide +kernel, by decide +kernel⟩
theorem calV_X11_readNames : zCalV zTw "SchemeEleven" mM_X11_readNames 0 := ⟨by decide +kernel, w_561, w_405, w_562, v_1_1, zdd_X11_readNames, by decide +kernel, by decide +kernel⟩
theorem calV_X11_clearScheme : zCalV zTw "SchemeEleven" mM_X11_clearScheme 0 := ⟨by decide +kernel, w_564, w_405, w_565, v_1_0, zdd_X11_clearScheme, by decide +kernel, by decide +kernel⟩
theorem calI_X0_init : zCalI zTw mM_X0_init 3 := ⟨by decide +kernel, rfl, by decide +kernel, w_569, w_49, w_570, zdd_X0_init, by decide +kernel, by decide +kernel⟩
theorem calI_X5_init : zCalI zTw mM_X5_init 2 := ⟨by decide +kernel, rfl, by decide +kernel, w_575, w_291, w_576, zdd_X5_init, by decide +kernel, by decide +kernel⟩
theorem calI_X7_init : zCalI zTw mM_X7_init 1 := ⟨by decide +kernel, rfl, by decide +kernel, w_580, w_86, w_581, zdd_X7_init, by decide +kernel, by decide +kernel⟩
theorem calI_X10_init : zCalI zTw mM_X10_init 0 := ⟨by decide +kernel, rfl, by decide +kernel, w_584, w_69, w_585, zdd_X10_init, by decide +kernel, by decide +kernel⟩
theorem calI_X6_init : zCalI zTw mM_X6_init 3 := ⟨by decide +kernel, rfl, by decide +kernel, w_589, w_514, w_590, zdd_X6_init, by decide +kernel, by decide +kernel⟩
theorem calI_X8_init : zCalI zTw mM_X8_init 2 := ⟨by decide +kernel, rfl, by decide +kernel, w_594, w_409, w_595, zdd_X8_init, by decide +kernel, by decide +kernel⟩
theorem calI_X1_init : zCalI zTw mM_X1_init 2 := ⟨by decide +kernel, rfl, by decide +kernel, w_599, w_413, w_600, zdd_X1_init, by decide +kernel, by decide +kernel⟩
theorem calI_X2_init : zCalI zTw mM_X2_init 1 := ⟨by decide +kernel, rfl, by decide +kernel, w_604, w_99, w_605, zdd_X2_init, by decide +kernel, by decide +kernel⟩
theorem calI_X3_init : zCalI zTw mM_X3_init 1 := ⟨by decide +kernel, rfl, by decide +kernel, w_609, w_170, w_610, zdd_X3_init, by decide +kernel, by decide +kernel⟩
theorem calV_X6_offer : zCalV zTw "SchemeEleven$Runner" mM_X6_offer 1 := ⟨by decide +kernel, w_617, w_514, w_618, w_619, zdd_X6_offer, by decide +kernel, by decide +kernel⟩
theorem calV_X2_letterOf : zCalV zTw "SchemeEleven$Image" mM_X2_letterOf 2 := ⟨by decide +kernel, w_621, w_99, w_622, w_623, zdd_X2_letterOf, by decide +kernel, by decide +kernel⟩
theorem calV_X3_at : zCalV zTw "SchemeEleven$Machine" mM_X3_at 1 := ⟨by decide +kernel, w_625, w_170, w_626, w_627, zdd_X3_at, by decide +kernel, by decide +kernel⟩
theorem calV_X5_readAll : zCalV zTw "SchemeEleven$Reader" mM_X5_readAll 2 := ⟨by decide +kernel, w_632, w_291, w_633, w_634, zdd_X5_readAll, by decide +kernel, by decide +kernel⟩
theorem calV_X11_write : zCalV zTw "SchemeEleven" mM_X11_write 1 := ⟨by decide +kernel, w_637, w_405, w_638, v_1_2, zdd_X11_write, by decide +kernel, by decide +kernel⟩
theorem calV_X6_proceed : zCalV zTw "SchemeEleven$Runner" mM_X6_proceed 1 := ⟨by decide +kernel, w_640, w_514, w_641, w_642, zdd_X6_proceed, by decide +kernel, by decide +kernel⟩
theorem calV_X8_render : zCalV zTw "SchemeEleven$Scribe" mM_X8_render 1 := ⟨by decide +kernel, w_646, w_409, w_647, w_648, zdd_X8_render, by decide +kernel, by decide +kernel⟩
theorem calV_X7_keep : zCalV zTw "SchemeEleven$Scopes" mM_X7_keep 0 := ⟨by decide +kernel, w_650, w_86, w_651, w_652, zdd_X7_keep, by decide +kernel, by decide +kernel⟩
theorem calV_X0_work : zCalV zTw "SchemeEleven$Coder" mM_X0_work 0 := ⟨by decide +kernel, w_654, w_49, w_655, w_656, zdd_X0_work, by decide +kernel, by decide +kernel⟩
theorem calV_X0_isBusy : zCalV zTw "SchemeEleven$Coder" mM_X0_isBusy 0 := ⟨by decide +kernel, w_658, w_49, w_659, w_660, zdd_X0_isBusy, by decide +kernel, by decide +kernel⟩
theorem calV_X0_beginForm : zCalV zTw "SchemeEleven$Coder" mM_X0_beginForm 1 := ⟨by decide +kernel, w_663, w_49, w_664, w_665, zdd_X0_beginForm, by decide +kernel, by decide +kernel⟩
theorem calV_X5_formAt : zCalV zTw "SchemeEleven$Reader" mM_X5_formAt 1 := ⟨by decide +kernel, w_667, w_291, w_668, w_669, zdd_X5_formAt, by decide +kernel, by decide +kernel⟩
theorem calV_X0_begin : zCalV zTw "SchemeEleven$Coder" mM_X0_begin 0 := ⟨by decide +kernel, w_671, w_49, w_672, w_673, zdd_X0_begin, by decide +kernel, by decide +kernel⟩
theorem calV_X7_mark : zCalV zTw "SchemeEleven$Scopes" mM_X7_mark 0 := ⟨by decide +kernel, w_675, w_86, w_676, w_677, zdd_X7_mark, by decide +kernel, by decide +kernel⟩
theorem calV_X2_mark : zCalV zTw "SchemeEleven$Image" mM_X2_mark 0 := ⟨by decide +kernel, w_679, w_99, w_680, w_681, zdd_X2_mark, by decide +kernel, by decide +kernel⟩
theorem calV_J0_charAt_5068e : zCalV zTw "java/lang/String" mM_J0_charAt_5068e 1 := ⟨by decide +kernel, w_683, w_7, w_684, w_685, zdd_J0_charAt_5068e, by decide +kernel, by decide +kernel⟩
theorem calV_X12_isRight : zCalV zTw "SchemeElevenModel" mM_X12_isRight 2 := ⟨by decide +kernel, w_689, w_690, w_691, v_16_5, zdd_X12_isRight, by decide +kernel, by decide +kernel⟩
theorem calV_X12_part : zCalV zTw "SchemeElevenModel" mM_X12_part 2 := ⟨by decide +kernel, w_693, w_690, w_694, v_13_14, zdd_X12_part, by decide +kernel, by decide +kernel⟩
theorem calV_X12_gathers : zCalV zTw "SchemeElevenModel" mM_X12_gathers 2 := ⟨by decide +kernel, w_696, w_690, w_697, v_14_6, zdd_X12_gathers, by decide +kernel, by decide +kernel⟩
theorem calV_X12_isName : zCalV zTw "SchemeElevenModel" mM_X12_isName 1 := ⟨by decide +kernel, w_699, w_690, w_700, v_13_9, zdd_X12_isName, by decide +kernel, by decide +kernel⟩
theorem calV_X12_length : zCalV zTw "SchemeElevenModel" mM_X12_length 1 := ⟨by decide +kernel, w_705, w_690, w_706, v_13_8, zdd_X12_length, by decide +kernel, by decide +kernel⟩
theorem calV_X12_behind : zCalV zTw "SchemeElevenModel" mM_X12_behind 2 := ⟨by decide +kernel, w_708, w_690, w_709, v_13_15, zdd_X12_behind, by decide +kernel, by decide +kernel⟩
theorem calV_X12_isNamed : zCalV zTw "SchemeElevenModel" mM_X12_isNamed 2 := ⟨by decide +kernel, w_712, w_690, w_713, v_14_3, zdd_X12_isNamed, by decide +kernel, by decide +kernel⟩
theorem calV_X12_byteOf : zCalV zTw "SchemeElevenModel" mM_X12_byteOf 1 := ⟨by decide +kernel, w_720, w_690, w_721, v_12_14, zdd_X12_byteOf, by decide +kernel, by decide +kernel⟩
theorem calV_X12_comes : zCalV zTw "SchemeElevenModel" mM_X12_comes 1 := ⟨by decide +kernel, w_726, w_690, w_727, v_13_3, zdd_X12_comes, by decide +kernel, by decide +kernel⟩
theorem calV_X12_sized : zCalV zTw "SchemeElevenModel" mM_X12_sized 1 := ⟨by decide +kernel, w_729, w_690, w_730, v_13_5, zdd_X12_sized, by decide +kernel, by decide +kernel⟩
theorem calV_X12_atom : zCalV zTw "SchemeElevenModel" mM_X12_atom 3 := ⟨by decide +kernel, w_732, w_690, w_733, v_13_2, zdd_X12_atom, by decide +kernel, by decide +kernel⟩
theorem calV_X12_listed : zCalV zTw "SchemeElevenModel" mM_X12_listed 2 := ⟨by decide +kernel, w_741, w_690, w_742, v_13_4, zdd_X12_listed, by decide +kernel, by decide +kernel⟩
theorem calV_X12_word : zCalV zTw "SchemeElevenModel" mM_X12_word 2 := ⟨by decide +kernel, w_746, w_690, w_747, v_15_3, zdd_X12_word, by decide +kernel, by decide +kernel⟩
theorem calV_X12_copied : zCalV zTw "SchemeElevenModel" mM_X12_copied 1 := ⟨by decide +kernel, w_749, w_690, w_750, v_16_12, zdd_X12_copied, by decide +kernel, by decide +kernel⟩
theorem calV_X12_constant : zCalV zTw "SchemeElevenModel" mM_X12_constant 2 := ⟨by decide +kernel, w_755, w_690, w_756, v_15_6, zdd_X12_constant, by decide +kernel, by decide +kernel⟩
theorem calV_X12_macroOf : zCalV zTw "SchemeElevenModel" mM_X12_macroOf 1 := ⟨by decide +kernel, w_762, w_690, w_763, v_13_12, zdd_X12_macroOf, by decide +kernel, by decide +kernel⟩
theorem calV_X12_areRules : zCalV zTw "SchemeElevenModel" mM_X12_areRules 1 := ⟨by decide +kernel, w_765, w_690, w_766, v_16_4, zdd_X12_areRules, by decide +kernel, by decide +kernel⟩
theorem calV_X12_hasAlias : zCalV zTw "SchemeElevenModel" mM_X12_hasAlias 1 := ⟨by decide +kernel, w_768, w_690, w_769, v_16_11, zdd_X12_hasAlias, by decide +kernel, by decide +kernel⟩
theorem calS_X12_in : zCalS zTw mM_X12_in 3 := ⟨by decide +kernel, w_772, w_690, w_773, zdd_X12_in, by decide +kernel, by decide +kernel⟩
theorem calV_X12_feeds : zCalV zTw "SchemeElevenModel" mM_X12_feeds 1 := ⟨by decide +kernel, w_777, w_690, w_778, v_16_14, zdd_X12_feeds, by decide +kernel, by decide +kernel⟩
theorem calV_X12_setR : zCalV zTw "SchemeElevenModel" mM_X12_setR 2 := ⟨by decide +kernel, w_781, w_690, w_782, v_10_8, zdd_X12_setR, by decide +kernel, by decide +kernel⟩
theorem calV_X12_r : zCalV zTw "SchemeElevenModel" mM_X12_r 1 := ⟨by decide +kernel, w_784, w_690, w_785, v_10_6, zdd_X12_r, by decide +kernel, by decide +kernel⟩
theorem calV_X12_wordAt : zCalV zTw "SchemeElevenModel" mM_X12_wordAt 1 := ⟨by decide +kernel, w_788, w_690, w_789, v_10_7, zdd_X12_wordAt, by decide +kernel, by decide +kernel⟩
theorem calV_X12_lambdas : zCalV zTw "SchemeElevenModel" mM_X12_lambdas 0 := ⟨by decide +kernel, w_793, w_690, w_794, v_16_13, zdd_X12_lambdas, by decide +kernel, by decide +kernel⟩
theorem calV_X12_definesSyntax : zCalV zTw "SchemeElevenModel" mM_X12_definesSyntax 1 := ⟨by decide +kernel, w_796, w_690, w_797, v_16_10, zdd_X12_definesSyntax, by decide +kernel, by decide +kernel⟩
theorem calV_X12_means : zCalV zTw "SchemeElevenModel" mM_X12_means 2 := ⟨by decide +kernel, w_801, w_690, w_802, v_13_10, zdd_X12_means, by decide +kernel, by decide +kernel⟩
theorem calV_X12_variableOf : zCalV zTw "SchemeElevenModel" mM_X12_variableOf 1 := ⟨by decide +kernel, w_807, w_690, w_808, v_14_7, zdd_X12_variableOf, by decide +kernel, by decide +kernel⟩
theorem calV_X12_isLiteral : zCalV zTw "SchemeElevenModel" mM_X12_isLiteral 1 := ⟨by decide +kernel, w_810, w_690, w_811, v_14_5, zdd_X12_isLiteral, by decide +kernel, by decide +kernel⟩
theorem calV_X12_isDots : zCalV zTw "SchemeElevenModel" mM_X12_isDots 1 := ⟨by decide +kernel, w_813, w_690, w_814, v_14_2, zdd_X12_isDots, by decide +kernel, by decide +kernel⟩
theorem calV_X12_isDotted : zCalV zTw "SchemeElevenModel" mM_X12_isDotted 1 := ⟨by decide +kernel, w_816, w_690, w_817, v_14_1, zdd_X12_isDotted, by decide +kernel, by decide +kernel⟩
theorem calV_X12_step : zCalV zTw "SchemeElevenModel" mM_X12_step 0 := ⟨by decide +kernel, w_820, w_690, w_821, v_10_4, zdd_X12_step, by decide +kernel, by decide +kernel⟩
theorem calV_X12_hasDeeper : zCalV zTw "SchemeElevenModel" mM_X12_hasDeeper 2 := ⟨by decide +kernel, w_824, w_690, w_825, v_16_6, zdd_X12_hasDeeper, by decide +kernel, by decide +kernel⟩
theorem calV_X12_told : zCalV zTw "SchemeElevenModel" mM_X12_told 2 := ⟨by decide +kernel, w_827, w_690, w_828, v_11_13, zdd_X12_told, by decide +kernel, by decide +kernel⟩
theorem calV_X12_reset : zCalV zTw "SchemeElevenModel" mM_X12_reset 0 := ⟨by decide +kernel, w_830, w_690, w_831, w_832, zdd_X12_reset, by decide +kernel, by decide +kernel⟩
theorem calV_X12_atLast : zCalV zTw "SchemeElevenModel" mM_X12_atLast 1 := ⟨by decide +kernel, w_876, w_690, w_877, v_14_4, zdd_X12_atLast, by decide +kernel, by decide +kernel⟩
theorem calV_X12_is_ : zCalV zTw "SchemeElevenModel" mM_X12_is_ 2 := ⟨by decide +kernel, w_879, w_690, w_880, v_12_1, zdd_X12_is_, by decide +kernel, by decide +kernel⟩
theorem calS_X12_isPrimitive : zCalS zTw mM_X12_isPrimitive 1 := ⟨by decide +kernel, w_882, w_690, w_883, zdd_X12_isPrimitive, by decide +kernel, by decide +kernel⟩
theorem calV_J0_indexOf_0f7a4 : zCalV zTw "java/lang/String" mM_J0_indexOf_0f7a4 1 := ⟨by decide +kernel, w_885, w_7, w_886, w_887, zdd_J0_indexOf_0f7a4, by decide +kernel, by decide +kernel⟩
theorem calV_X12_isProcedure : zCalV zTw "SchemeElevenModel" mM_X12_isProcedure 1 := ⟨by decide +kernel, w_889, w_690, w_890, v_12_4, zdd_X12_isProcedure, by decide +kernel, by decide +kernel⟩
theorem calS_X12_isNumber : zCalS zTw mM_X12_isNumber 1 := ⟨by decide +kernel, w_892, w_690, w_893, zdd_X12_isNumber, by decide +kernel, by decide +kernel⟩
theorem calV_X12_takesText : zCalV zTw "SchemeElevenModel" mM_X12_takesText 0 := ⟨by decide +kernel, w_899, w_690, w_900, v_12_10, zdd_X12_takesText, by decide +kernel, by decide +kernel⟩
theorem calS_X12_isBenchPlace : zCalS zTw mM_X12_isBenchPlace 1 := ⟨by decide +kernel, w_910, w_690, w_911, zdd_X12_isBenchPlace, by decide +kernel, by decide +kernel⟩
theorem calV_X12_blanks : zCalV zTw "SchemeElevenModel" mM_X12_blanks 0 := ⟨by decide +kernel, w_913, w_690, w_914, v_12_13, zdd_X12_blanks, by decide +kernel, by decide +kernel⟩
theorem calV_X12_token : zCalV zTw "SchemeElevenModel" mM_X12_token 0 := ⟨by decide +kernel, w_916, w_690, w_917, v_12_15, zdd_X12_token, by decide +kernel, by decide +kernel⟩
theorem calV_X12_setCell : zCalV zTw "SchemeElevenModel" mM_X12_setCell 2 := ⟨by decide +kernel, w_921, w_690, w_922, v_12_9, zdd_X12_setCell, by decide +kernel, by decide +kernel⟩
theorem calV_X12_symbol : zCalV zTw "SchemeElevenModel" mM_X12_symbol 1 := ⟨by decide +kernel, w_924, w_690, w_925, v_12_7, zdd_X12_symbol, by decide +kernel, by decide +kernel⟩
theorem calV_X12_mayBegin : zCalV zTw "SchemeElevenModel" mM_X12_mayBegin 0 := ⟨by decide +kernel, w_929, w_690, w_930, v_13_0, zdd_X12_mayBegin, by decide +kernel, by decide +kernel⟩
theorem calS_X12_copy : zCalS zTw mM_X12_copy 5 := ⟨by decide +kernel, w_933, w_690, w_934, zdd_X12_copy, by decide +kernel, by decide +kernel⟩
theorem calV_X12_written : zCalV zTw "SchemeElevenModel" mM_X12_written 1 := ⟨by decide +kernel, w_938, w_690, w_939, v_11_14, zdd_X12_written, by decide +kernel, by decide +kernel⟩
theorem calV_X12_single : zCalV zTw "SchemeElevenModel" mM_X12_single 2 := ⟨by decide +kernel, w_943, w_690, w_944, v_11_4, zdd_X12_single, by decide +kernel, by decide +kernel⟩
theorem calV_X12_fetched : zCalV zTw "SchemeElevenModel" mM_X12_fetched 0 := ⟨by decide +kernel, w_946, w_690, w_947, v_10_5, zdd_X12_fetched, by decide +kernel, by decide +kernel⟩
theorem calV_X12_form : zCalV zTw "SchemeElevenModel" mM_X12_form 1 := ⟨by decide +kernel, w_949, w_690, w_950, v_13_7, zdd_X12_form, by decide +kernel, by decide +kernel⟩
theorem calV_X12_readText : zCalV zTw "SchemeElevenModel" mM_X12_readText 0 := ⟨by decide +kernel, w_952, w_690, w_953, v_12_12, zdd_X12_readText, by decide +kernel, by decide +kernel⟩
theorem calV_X12_saves : zCalV zTw "SchemeElevenModel" mM_X12_saves 1 := ⟨by decide +kernel, w_960, w_690, w_961, v_12_11, zdd_X12_saves, by decide +kernel, by decide +kernel⟩
theorem calV_X12_rowOfSigns : zCalV zTw "SchemeElevenModel" mM_X12_rowOfSigns 0 := ⟨by decide +kernel, w_963, w_690, w_964, v_13_6, zdd_X12_rowOfSigns, by decide +kernel, by decide +kernel⟩
theorem calS_X12_isSign : zCalS zTw mM_X12_isSign 1 := ⟨by decide +kernel, w_966, w_690, w_967, zdd_X12_isSign, by decide +kernel, by decide +kernel⟩
theorem calV_X12_closes : zCalV zTw "SchemeElevenModel" mM_X12_closes 0 := ⟨by decide +kernel, w_969, w_690, w_970, v_13_1, zdd_X12_closes, by decide +kernel, by decide +kernel⟩
theorem calV_X12_cell : zCalV zTw "SchemeElevenModel" mM_X12_cell 1 := ⟨by decide +kernel, w_972, w_690, w_973, v_12_2, zdd_X12_cell, by decide +kernel, by decide +kernel⟩
theorem calV_X12_item : zCalV zTw "SchemeElevenModel" mM_X12_item 1 := ⟨by decide +kernel, w_975, w_690, w_976, v_12_3, zdd_X12_item, by decide +kernel, by decide +kernel⟩
theorem calV_X12_write : zCalV zTw "SchemeElevenModel" mM_X12_write 2 := ⟨by decide +kernel, w_980, w_690, w_981, v_11_15, zdd_X12_write, by decide +kernel, by decide +kernel⟩
