theorem goodIn_k {big ws : List Cond} {w0 : Cond} (hc : w0 ∈ big) (hg : goodWord w0 = true) (h : GoodIn big ws) : GoodIn big (w0 :: ws) := fun w hw => (List.mem_cons.mp hw).elim (fun e => by rw [e]; exact ⟨hc, good_of_word hg⟩) (h w)
set_option maxRecDepth 20000 in
theorem wsL_law_in0_r1 : ∀ w ∈ wsL_law0_r1, w ∈ lw_tbl := fun w h => (goodIn_p wsL_law0_r1 [25, 28] (by decide +kernel) (by decide +kernel) w h).1
set_option maxRecDepth 20000 in
theorem wsL_law_in0_r2 : ∀ w ∈ wsL_law0_r2, w ∈ lw_tbl := fun w h => (goodIn_p wsL_law0_r2 [33, 39, 56] (by decide +kernel) (by decide +kernel) w h).1
set_option maxRecDepth 20000 in
theorem wsL_law_in0_r3_0 : ∀ w ∈ ([Cond.methodLink RX5 18 yX1_init, Cond.instanceMethod yX1_init, Cond.code yX1_init cX1_init 2 none, Cond.methodLink RX1 1 objectInit, Cond.classLink RX1 9 RX4, Cond.fieldLink RX1 11 "SettlingJars$History" "saved" "[LSettlingJars$State;", Cond.methodLink RX1 15 yX4_init, Cond.instanceMethod yX0_init, Cond.code yX0_init cX0_init 1 none, Cond.methodLink RX0 3 objectInit, Cond.arrayClass .char, Cond.fieldLink RX0 11 "SettlingJars$Charge" "signs" "[C", Cond.methodLink RL 117 yL_told, Cond.static yL_told, Cond.initialized RL] : List Cond), w ∈ lw_tbl := fun w h => (goodIn_p _ [91, 110] (by decide +kernel) (by decide +kernel) w h).1
set_option maxRecDepth 100000 in
theorem wsL_law_in0_r3_1 : Cond.code yL_told cL_told 11 (some .boolean) ∈ lw_tbl := List.mem_of_getElem? (i := 266) rfl
set_option maxRecDepth 20000 in
theorem wsL_law_in0_r3_2 : ∀ w ∈ ([Cond.methodLink RL 68 yL_toldJar, Cond.static yL_toldJar] : List Cond), w ∈ lw_tbl := fun w h => (goodIn_p _ [] (by decide +kernel) (by decide +kernel) w h).1
set_option maxRecDepth 100000 in
theorem wsL_law_in0_r3_3 : Cond.code yL_toldJar cL_toldJar 12 (some .boolean) ∈ lw_tbl := List.mem_of_getElem? (i := 269) rfl
set_option maxRecDepth 20000 in
theorem wsL_law_in0_r3_4 : ∀ w ∈ ([Cond.methodLink RL 35 yX5_slice, Cond.instanceMethod yX5_slice, Cond.selects RX5 yX5_slice yX5_slice, Cond.code yX5_slice cX5_slice 4 (some .int), Cond.fieldLink RX5 71 "SettlingJars$State" "jars" "[LSettlingJars$Jar;"] : List Cond), w ∈ lw_tbl := fun w h => (goodIn_p _ [273] (by decide +kernel) (by decide +kernel) w h).1
theorem wsL_law_in0_r3 : ∀ w ∈ wsL_law0_r3, w ∈ lw_tbl := by
  show ∀ w ∈ ([Cond.methodLink RX5 18 yX1_init, Cond.instanceMethod yX1_init, Cond.code yX1_init cX1_init 2 none, Cond.methodLink RX1 1 objectInit, Cond.classLink RX1 9 RX4, Cond.fieldLink RX1 11 "SettlingJars$History" "saved" "[LSettlingJars$State;", Cond.methodLink RX1 15 yX4_init, Cond.instanceMethod yX0_init, Cond.code yX0_init cX0_init 1 none, Cond.methodLink RX0 3 objectInit, Cond.arrayClass .char, Cond.fieldLink RX0 11 "SettlingJars$Charge" "signs" "[C", Cond.methodLink RL 117 yL_told, Cond.static yL_told, Cond.initialized RL] : List Cond) ++ ([Cond.code yL_told cL_told 11 (some .boolean)] ++ (([Cond.methodLink RL 68 yL_toldJar, Cond.static yL_toldJar] : List Cond) ++ ([Cond.code yL_toldJar cL_toldJar 12 (some .boolean)] ++ (([Cond.methodLink RL 35 yX5_slice, Cond.instanceMethod yX5_slice, Cond.selects RX5 yX5_slice yX5_slice, Cond.code yX5_slice cX5_slice 4 (some .int), Cond.fieldLink RX5 71 "SettlingJars$State" "jars" "[LSettlingJars$Jar;"] : List Cond))))), w ∈ lw_tbl
  exact List.forall_mem_append.mpr ⟨wsL_law_in0_r3_0, List.forall_mem_append.mpr ⟨List.forall_mem_cons.mpr ⟨wsL_law_in0_r3_1, fun _ h => absurd h List.not_mem_nil⟩, List.forall_mem_append.mpr ⟨wsL_law_in0_r3_2, List.forall_mem_append.mpr ⟨List.forall_mem_cons.mpr ⟨wsL_law_in0_r3_3, fun _ h => absurd h List.not_mem_nil⟩, wsL_law_in0_r3_4⟩⟩⟩⟩
set_option maxRecDepth 20000 in
theorem wsL_law_in0_r4 : ∀ w ∈ wsL_law0_r4, w ∈ lw_tbl := fun w h => (goodIn_p wsL_law0_r4 [276, 279, 140, 299, 224] (by decide +kernel) (by decide +kernel) w h).1
set_option maxRecDepth 20000 in
theorem wsL_law_in0_r5 : ∀ w ∈ wsL_law0_r5, w ∈ lw_tbl := fun w h => (goodIn_p wsL_law0_r5 [228, 240, 252, 303, 307, 311] (by decide +kernel) (by decide +kernel) w h).1
set_option maxRecDepth 20000 in
theorem wsL_law_in0_r6 : ∀ w ∈ wsL_law0_r6, w ∈ lw_tbl := fun w h => (goodIn_p wsL_law0_r6 [315, 319, 323, 327, 331, 334] (by decide +kernel) (by decide +kernel) w h).1
set_option maxRecDepth 20000 in
theorem wsL_law_in0_r7 : ∀ w ∈ wsL_law0_r7, w ∈ lw_tbl := fun w h => (goodIn_p wsL_law0_r7 [337, 340, 343, 347, 351, 355, 359] (by decide +kernel) (by decide +kernel) w h).1
set_option maxRecDepth 20000 in
theorem wsL_law_in0_r8 : ∀ w ∈ wsL_law0_r8, w ∈ lw_tbl := fun w h => (goodIn_p wsL_law0_r8 [216, 220, 364, 368, 372, 376] (by decide +kernel) (by decide +kernel) w h).1
set_option maxRecDepth 20000 in
theorem wsL_law_in0_r9_0 : ∀ w ∈ ([Cond.methodLink RX2 92 yX2_allOf, Cond.instanceMethod yX2_allOf, Cond.selects RX2 yX2_allOf yX2_allOf, Cond.code yX2_allOf cX2_allOf 4 (some .int), Cond.methodLink RL 51 yL_prop, Cond.static yL_prop] : List Cond), w ∈ lw_tbl := fun w h => (goodIn_p _ [381] (by decide +kernel) (by decide +kernel) w h).1
set_option maxRecDepth 100000 in
theorem wsL_law_in0_r9_1 : Cond.code yL_prop cL_prop 9 (some .int) ∈ lw_tbl := List.mem_of_getElem? (i := 384) rfl
set_option maxRecDepth 20000 in
theorem wsL_law_in0_r9_2 : ∀ w ∈ ([Cond.methodLink RL 28 yL_sum, Cond.static yL_sum, Cond.code yL_sum cL_sum 5 (some .int), Cond.methodLink RL 54 yL_at, Cond.static yL_at, Cond.code yL_at cL_at 2 (some .int), Cond.methodLink RL 57 yX5_purest, Cond.instanceMethod yX5_purest, Cond.selects RX5 yX5_purest yX5_purest, Cond.code yX5_purest cX5_purest 3 (some .int), Cond.methodLink RX5 206 yX2_purestSlice, Cond.instanceMethod yX2_purestSlice, Cond.selects RX2 yX2_purestSlice yX2_purestSlice, Cond.code yX2_purestSlice cX2_purestSlice 8 (some .int), Cond.methodLink RL 60 yX5_meanDepth, Cond.instanceMethod yX5_meanDepth, Cond.selects RX5 yX5_meanDepth yX5_meanDepth] : List Cond), w ∈ lw_tbl := fun w h => (goodIn_p _ [387, 263, 391, 395] (by decide +kernel) (by decide +kernel) w h).1
theorem wsL_law_in0_r9 : ∀ w ∈ wsL_law0_r9, w ∈ lw_tbl := by
  show ∀ w ∈ ([Cond.methodLink RX2 92 yX2_allOf, Cond.instanceMethod yX2_allOf, Cond.selects RX2 yX2_allOf yX2_allOf, Cond.code yX2_allOf cX2_allOf 4 (some .int), Cond.methodLink RL 51 yL_prop, Cond.static yL_prop] : List Cond) ++ ([Cond.code yL_prop cL_prop 9 (some .int)] ++ (([Cond.methodLink RL 28 yL_sum, Cond.static yL_sum, Cond.code yL_sum cL_sum 5 (some .int), Cond.methodLink RL 54 yL_at, Cond.static yL_at, Cond.code yL_at cL_at 2 (some .int), Cond.methodLink RL 57 yX5_purest, Cond.instanceMethod yX5_purest, Cond.selects RX5 yX5_purest yX5_purest, Cond.code yX5_purest cX5_purest 3 (some .int), Cond.methodLink RX5 206 yX2_purestSlice, Cond.instanceMethod yX2_purestSlice, Cond.selects RX2 yX2_purestSlice yX2_purestSlice, Cond.code yX2_purestSlice cX2_purestSlice 8 (some .int), Cond.methodLink RL 60 yX5_meanDepth, Cond.instanceMethod yX5_meanDepth, Cond.selects RX5 yX5_meanDepth yX5_meanDepth] : List Cond))), w ∈ lw_tbl
  exact List.forall_mem_append.mpr ⟨wsL_law_in0_r9_0, List.forall_mem_append.mpr ⟨List.forall_mem_cons.mpr ⟨wsL_law_in0_r9_1, fun _ h => absurd h List.not_mem_nil⟩, wsL_law_in0_r9_2⟩⟩
set_option maxRecDepth 20000 in
theorem wsL_law_in0_r10 : ∀ w ∈ wsL_law0_r10, w ∈ lw_tbl := fun w h => (goodIn_p wsL_law0_r10 [399, 404, 407, 411, 415] (by decide +kernel) (by decide +kernel) w h).1
set_option maxRecDepth 20000 in
theorem wsL_law_in0_r11 : ∀ w ∈ wsL_law0_r11, w ∈ lw_tbl := fun w h => (goodIn_p wsL_law0_r11 [419, 137, 212, 232, 236] (by decide +kernel) (by decide +kernel) w h).1
set_option maxRecDepth 20000 in
theorem wsL_law_in0_r12_0 : ∀ w ∈ ([Cond.code yX4_clearSlices cX4_clearSlices 3 (some .int), Cond.methodLink RX4 64 yX2_clearSlices, Cond.instanceMethod yX2_clearSlices, Cond.selects RX2 yX2_clearSlices yX2_clearSlices, Cond.code yX2_clearSlices cX2_clearSlices 4 (some .int), Cond.methodLink RX5 174 yX1_size, Cond.instanceMethod yX1_size, Cond.selects RX1 yX1_size yX1_size, Cond.code yX1_size cX1_size 1 (some .int), Cond.fieldLink RX1 16 "SettlingJars$History" "size" "I", Cond.methodLink RL 121 yL_cell, Cond.static yL_cell, Cond.code yL_cell cL_cell 2 (some .int), Cond.constant RL 7 (608135816), Cond.methodLink RL 125 yL_act, Cond.static yL_act] : List Cond), w ∈ lw_tbl := fun w h => (goodIn_p _ [244, 248, 256, 259] (by decide +kernel) (by decide +kernel) w h).1
set_option maxRecDepth 100000 in
theorem wsL_law_in0_r12_1 : Cond.code yL_act cL_act 18 (some .boolean) ∈ lw_tbl := List.mem_of_getElem? (i := 464) rfl
set_option maxRecDepth 20000 in
theorem wsL_law_in0_r12_2 : ∀ w ∈ ([Cond.methodLink RL 91 yX5_pour, Cond.instanceMethod yX5_pour, Cond.selects RX5 yX5_pour yX5_pour, Cond.code yX5_pour cX5_pour 6 (some .int), Cond.methodLink RX5 75 yX5_needRoom, Cond.static yX5_needRoom, Cond.code yX5_needRoom cX5_needRoom 2 none] : List Cond), w ∈ lw_tbl := fun w h => (goodIn_p _ [468, 471] (by decide +kernel) (by decide +kernel) w h).1
theorem wsL_law_in0_r12 : ∀ w ∈ wsL_law0_r12, w ∈ lw_tbl := by
  show ∀ w ∈ ([Cond.code yX4_clearSlices cX4_clearSlices 3 (some .int), Cond.methodLink RX4 64 yX2_clearSlices, Cond.instanceMethod yX2_clearSlices, Cond.selects RX2 yX2_clearSlices yX2_clearSlices, Cond.code yX2_clearSlices cX2_clearSlices 4 (some .int), Cond.methodLink RX5 174 yX1_size, Cond.instanceMethod yX1_size, Cond.selects RX1 yX1_size yX1_size, Cond.code yX1_size cX1_size 1 (some .int), Cond.fieldLink RX1 16 "SettlingJars$History" "size" "I", Cond.methodLink RL 121 yL_cell, Cond.static yL_cell, Cond.code yL_cell cL_cell 2 (some .int), Cond.constant RL 7 (608135816), Cond.methodLink RL 125 yL_act, Cond.static yL_act] : List Cond) ++ ([Cond.code yL_act cL_act 18 (some .boolean)] ++ (([Cond.methodLink RL 91 yX5_pour, Cond.instanceMethod yX5_pour, Cond.selects RX5 yX5_pour yX5_pour, Cond.code yX5_pour cX5_pour 6 (some .int), Cond.methodLink RX5 75 yX5_needRoom, Cond.static yX5_needRoom, Cond.code yX5_needRoom cX5_needRoom 2 none] : List Cond))), w ∈ lw_tbl
  exact List.forall_mem_append.mpr ⟨wsL_law_in0_r12_0, List.forall_mem_append.mpr ⟨List.forall_mem_cons.mpr ⟨wsL_law_in0_r12_1, fun _ h => absurd h List.not_mem_nil⟩, wsL_law_in0_r12_2⟩⟩
set_option maxRecDepth 20000 in
theorem wsL_law_in0_r13 : ∀ w ∈ wsL_law0_r13, w ∈ lw_tbl := fun w h => (goodIn_p wsL_law0_r13 [491, 495, 499] (by decide +kernel) (by decide +kernel) w h).1
set_option maxRecDepth 20000 in
theorem wsL_law_in0_r14 : ∀ w ∈ wsL_law0_r14, w ∈ lw_tbl := fun w h => (goodIn_p wsL_law0_r14 [431, 451, 508, 438, 442, 446] (by decide +kernel) (by decide +kernel) w h).1
set_option maxRecDepth 20000 in
theorem wsL_law_in0_r15 : ∀ w ∈ wsL_law0_r15, w ∈ lw_tbl := fun w h => (goodIn_p wsL_law0_r15 [513, 517, 521, 526, 532] (by decide +kernel) (by decide +kernel) w h).1
set_option maxRecDepth 20000 in
theorem wsL_law_in0_r16_0 : ∀ w ∈ ([Cond.methodLink RL 107 yX5_turn, Cond.instanceMethod yX5_turn, Cond.selects RX5 yX5_turn yX5_turn, Cond.code yX5_turn cX5_turn 2 (some .int), Cond.methodLink RX5 113 yX2_turnOver, Cond.instanceMethod yX2_turnOver, Cond.selects RX2 yX2_turnOver yX2_turnOver, Cond.code yX2_turnOver cX2_turnOver 4 none, Cond.methodLink RX5 116 yX2_packedSlices, Cond.methodLink RL 110 yX5_setSpeed, Cond.instanceMethod yX5_setSpeed, Cond.selects RX5 yX5_setSpeed yX5_setSpeed, Cond.code yX5_setSpeed cX5_setSpeed 4 (some .int), Cond.methodLink RL 113 yX5_set, Cond.instanceMethod yX5_set, Cond.selects RX5 yX5_set yX5_set, Cond.code yX5_set cX5_set 4 (some .int), Cond.fieldLink RX5 41 "SettlingJars$Settings" "LEAST" "[I", Cond.fieldLink RX5 47 "SettlingJars$Settings" "GREATEST" "[I", Cond.methodLink RL 129 yL_ahead, Cond.static yL_ahead] : List Cond), w ∈ lw_tbl := fun w h => (goodIn_p _ [536, 540, 545, 549] (by decide +kernel) (by decide +kernel) w h).1
set_option maxRecDepth 100000 in
theorem wsL_law_in0_r16_1 : Cond.code yL_ahead cL_ahead 13 (some .boolean) ∈ lw_tbl := List.mem_of_getElem? (i := 423) rfl
set_option maxRecDepth 20000 in
theorem wsL_law_in0_r16_2 : ∀ w ∈ ([Cond.methodLink RL 82 yX5_ifSettled, Cond.instanceMethod yX5_ifSettled] : List Cond), w ∈ lw_tbl := fun w h => (goodIn_p _ [] (by decide +kernel) (by decide +kernel) w h).1
theorem wsL_law_in0_r16 : ∀ w ∈ wsL_law0_r16, w ∈ lw_tbl := by
  show ∀ w ∈ ([Cond.methodLink RL 107 yX5_turn, Cond.instanceMethod yX5_turn, Cond.selects RX5 yX5_turn yX5_turn, Cond.code yX5_turn cX5_turn 2 (some .int), Cond.methodLink RX5 113 yX2_turnOver, Cond.instanceMethod yX2_turnOver, Cond.selects RX2 yX2_turnOver yX2_turnOver, Cond.code yX2_turnOver cX2_turnOver 4 none, Cond.methodLink RX5 116 yX2_packedSlices, Cond.methodLink RL 110 yX5_setSpeed, Cond.instanceMethod yX5_setSpeed, Cond.selects RX5 yX5_setSpeed yX5_setSpeed, Cond.code yX5_setSpeed cX5_setSpeed 4 (some .int), Cond.methodLink RL 113 yX5_set, Cond.instanceMethod yX5_set, Cond.selects RX5 yX5_set yX5_set, Cond.code yX5_set cX5_set 4 (some .int), Cond.fieldLink RX5 41 "SettlingJars$Settings" "LEAST" "[I", Cond.fieldLink RX5 47 "SettlingJars$Settings" "GREATEST" "[I", Cond.methodLink RL 129 yL_ahead, Cond.static yL_ahead] : List Cond) ++ ([Cond.code yL_ahead cL_ahead 13 (some .boolean)] ++ (([Cond.methodLink RL 82 yX5_ifSettled, Cond.instanceMethod yX5_ifSettled] : List Cond))), w ∈ lw_tbl
  exact List.forall_mem_append.mpr ⟨wsL_law_in0_r16_0, List.forall_mem_append.mpr ⟨List.forall_mem_cons.mpr ⟨wsL_law_in0_r16_1, fun _ h => absurd h List.not_mem_nil⟩, wsL_law_in0_r16_2⟩⟩
set_option maxRecDepth 20000 in
theorem wsL_law_in0_r17 : ∀ w ∈ wsL_law0_r17, w ∈ lw_tbl := fun w h => (goodIn_p wsL_law0_r17 [427, 455, 461] (by decide +kernel) (by decide +kernel) w h).1
theorem wsL_law_in0_wsX50 : ∀ w ∈ wsX50, w ∈ lw_tbl := fun w h => (goodIn_p wsX50 [] (by decide +kernel) (by decide +kernel) w h).1
theorem wsL_law_in0_wsX40 : ∀ w ∈ wsX40, w ∈ lw_tbl := fun w h => (goodIn_p wsX40 [] (by decide +kernel) (by decide +kernel) w h).1
theorem wsL_law_in0_wsX10 : ∀ w ∈ wsX10, w ∈ lw_tbl := fun w h => (goodIn_p wsX10 [] (by decide +kernel) (by decide +kernel) w h).1
theorem wsL_law_in0_wsX00 : ∀ w ∈ wsX00, w ∈ lw_tbl := fun w h => (goodIn_p wsX00 [] (by decide +kernel) (by decide +kernel) w h).1
theorem wsL_law_in0_wsX20 : ∀ w ∈ wsX20, w ∈ lw_tbl := fun w h => (goodIn_p wsX20 [] (by decide +kernel) (by decide +kernel) w h).1
theorem wsL_law_in0_wsX30 : ∀ w ∈ wsX30, w ∈ lw_tbl := fun w h => (goodIn_p wsX30 [] (by decide +kernel) (by decide +kernel) w h).1
theorem wsL_law_in0 : ∀ w ∈ wsL_law0, w ∈ lw_tbl := List.forall_mem_append.mpr ⟨List.forall_mem_append.mpr ⟨List.forall_mem_append.mpr ⟨List.forall_mem_append.mpr ⟨List.forall_mem_append.mpr ⟨List.forall_mem_append.mpr ⟨List.forall_mem_append.mpr ⟨List.forall_mem_append.mpr ⟨wsL_law_in0_r1, List.forall_mem_append.mpr ⟨wsL_law_in0_r2, List.forall_mem_append.mpr ⟨wsL_law_in0_r3, List.forall_mem_append.mpr ⟨wsL_law_in0_r4, List.forall_mem_append.mpr ⟨wsL_law_in0_r5, List.forall_mem_append.mpr ⟨wsL_law_in0_r6, List.forall_mem_append.mpr ⟨wsL_law_in0_r7, List.forall_mem_append.mpr ⟨wsL_law_in0_r8, List.forall_mem_append.mpr ⟨wsL_law_in0_r9, List.forall_mem_append.mpr ⟨wsL_law_in0_r10, List.forall_mem_append.mpr ⟨wsL_law_in0_r11, List.forall_mem_append.mpr ⟨wsL_law_in0_r12, List.forall_mem_append.mpr ⟨wsL_law_in0_r13, List.forall_mem_append.mpr ⟨wsL_law_in0_r14, List.forall_mem_append.mpr ⟨wsL_law_in0_r15, List.forall_mem_append.mpr ⟨wsL_law_in0_r16, wsL_law_in0_r17⟩⟩⟩⟩⟩⟩⟩⟩⟩⟩⟩⟩⟩⟩⟩⟩, wsL_law_in0_wsX50⟩, wsL_law_in0_wsX40⟩, wsL_law_in0_wsX10⟩, wsL_law_in0_wsX00⟩, wsL_law_in0_wsX20⟩, wsL_law_in0_wsX30⟩, fun _ h => absurd h List.not_mem_nil⟩
theorem wsL_law_x0 : ∀ w ∈ (vx_atS RX5 257 "java/lang/IndexOutOfBoundsException" ["java/lang/RuntimeException", "java/lang/Exception"]).filter goodWord, w ∈ lw_tbl := by decide +kernel
theorem wsL_law_x1 : ∀ w ∈ (vx_atS RX5 104 "java/lang/IllegalArgumentException" ["java/lang/RuntimeException", "java/lang/Exception"]).filter goodWord, w ∈ lw_tbl := by decide +kernel
theorem wsL_law_x2 : ∀ w ∈ (vx_atS RX5 128 "java/lang/IllegalStateException" ["java/lang/RuntimeException", "java/lang/Exception"]).filter goodWord, w ∈ lw_tbl := by decide +kernel
theorem wsL_law_in : ∀ w ∈ wsL_law, w ∈ lw_tbl := fun w h => (List.mem_append.mp h).elim (fun h => (List.mem_append.mp h).elim (fun h => (List.mem_append.mp h).elim (fun h => wsL_law_in0 w h) (fun h => wsL_law_x0 w h)) (fun h => wsL_law_x1 w h)) (fun h => wsL_law_x2 w h)
theorem inlX0 : ∀ w ∈ wsX00, w ∈ wsL_law := fun _ h => List.mem_append_left _ (List.mem_append_left _ (List.mem_append_left _ (List.mem_append_left _ (List.mem_append_left _ (List.mem_append_left _ (List.mem_append_right _ h))))))
theorem inX0 : ∀ w ∈ wsX00, w ∈ lw_tbl := fun w h => wsL_law_in w (inlX0 w h)
theorem inlX1 : ∀ w ∈ wsX10, w ∈ wsL_law := fun _ h => List.mem_append_left _ (List.mem_append_left _ (List.mem_append_left _ (List.mem_append_left _ (List.mem_append_left _ (List.mem_append_left _ (List.mem_append_left _ (List.mem_append_right _ h)))))))
theorem inX1 : ∀ w ∈ wsX10, w ∈ lw_tbl := fun w h => wsL_law_in w (inlX1 w h)
theorem inlX2 : ∀ w ∈ wsX20, w ∈ wsL_law := fun _ h => List.mem_append_left _ (List.mem_append_left _ (List.mem_append_left _ (List.mem_append_left _ (List.mem_append_left _ (List.mem_append_right _ h)))))
theorem inX2 : ∀ w ∈ wsX20, w ∈ lw_tbl := fun w h => wsL_law_in w (inlX2 w h)
theorem inlX3 : ∀ w ∈ wsX30, w ∈ wsL_law := fun _ h => List.mem_append_left _ (List.mem_append_left _ (List.mem_append_left _ (List.mem_append_left _ (List.mem_append_right _ h))))
theorem inX3 : ∀ w ∈ wsX30, w ∈ lw_tbl := fun w h => wsL_law_in w (inlX3 w h)
theorem inlX4 : ∀ w ∈ wsX40, w ∈ wsL_law := fun _ h => List.mem_append_left _ (List.mem_append_left _ (List.mem_append_left _ (List.mem_append_left _ (List.mem_append_left _ (List.mem_append_left _ (List.mem_append_left _ (List.mem_append_left _ (List.mem_append_right _ h))))))))
theorem inX4 : ∀ w ∈ wsX40, w ∈ lw_tbl := fun w h => wsL_law_in w (inlX4 w h)
theorem inlX5 : ∀ w ∈ wsX50, w ∈ wsL_law := fun _ h => List.mem_append_left _ (List.mem_append_left _ (List.mem_append_left _ (List.mem_append_left _ (List.mem_append_left _ (List.mem_append_left _ (List.mem_append_left _ (List.mem_append_left _ (List.mem_append_left _ (List.mem_append_right _ h)))))))))
theorem inX5 : ∀ w ∈ wsX50, w ∈ lw_tbl := fun w h => wsL_law_in w (inlX5 w h)
theorem inX6 : ∀ w ∈ wsX60, w ∈ lw_tbl := by decide +kernel
theorem inJ9 : ∀ w ∈ wsJ90, w ∈ lw_tbl := by decide +kernel
theorem inJ0 : ∀ w ∈ wsJ00, w ∈ lw_tbl := by decide +kernel
theorem inJ10 : ∀ w ∈ wsJ100, w ∈ lw_tbl := by decide +kernel
