theorem mi_ap {a b : List Cond} (ha : ∀ w ∈ a, w ∈ lw_tbl) (hb : ∀ w ∈ b, w ∈ lw_tbl) : ∀ w ∈ a ++ b, w ∈ lw_tbl := fun w h => (List.mem_append.mp h).elim (ha w) (hb w)
set_option maxRecDepth 20000 in
theorem mi_1 : ∀ w ∈ wsL_law0_r1, w ∈ lw_tbl := fun w h => (goodIn_p wsL_law0_r1 [35, 38, 46] (by decide +kernel) (by decide +kernel) w h).1
set_option maxRecDepth 20000 in
theorem mi_2_0 : ∀ w ∈ ([Cond.classLink RX1 10 RX1, Cond.fieldLink RX1 24 "DeadlineCalls$Service" "row" "[LDeadlineCalls$Service;", Cond.fieldLink RX1 28 "DeadlineCalls$Service" "counts" "[I", Cond.fieldLink RX1 32 "DeadlineCalls$Service" "number" "I", Cond.methodLink RL 155 yL_runs, Cond.static yL_runs, Cond.initialized RL] : List Cond), w ∈ lw_tbl := fun w h => (goodIn_p [Cond.classLink RX1 10 RX1, Cond.fieldLink RX1 24 "DeadlineCalls$Service" "row" "[LDeadlineCalls$Service;", Cond.fieldLink RX1 28 "DeadlineCalls$Service" "counts" "[I", Cond.fieldLink RX1 32 "DeadlineCalls$Service" "number" "I", Cond.methodLink RL 155 yL_runs, Cond.static yL_runs, Cond.initialized RL] [] (by decide +kernel) (by decide +kernel) w h).1
set_option maxRecDepth 100000 in
theorem mi_2_1 : ∀ w ∈ ([Cond.code yL_runs cL_runs 21 (some .boolean)] : List Cond), w ∈ lw_tbl := fun w h => by
  rw [List.mem_singleton.mp h]
  exact List.mem_of_getElem? (i := 126) rfl
set_option maxRecDepth 20000 in
theorem mi_2_2 : ∀ w ∈ ([Cond.methodLink RL 138 yL_isTold, Cond.static yL_isTold] : List Cond), w ∈ lw_tbl := fun w h => (goodIn_p [Cond.methodLink RL 138 yL_isTold, Cond.static yL_isTold] [] (by decide +kernel) (by decide +kernel) w h).1
set_option maxRecDepth 100000 in
theorem mi_2_3 : ∀ w ∈ ([Cond.code yL_isTold cL_isTold 13 (some .boolean)] : List Cond), w ∈ lw_tbl := fun w h => by
  rw [List.mem_singleton.mp h]
  exact List.mem_of_getElem? (i := 129) rfl
set_option maxRecDepth 20000 in
theorem mi_2_4 : ∀ w ∈ ([Cond.methodLink RL 59 yL_get, Cond.static yL_get, Cond.code yL_get cL_get 4 (some .int), Cond.methodLink RL 95 yL_state, Cond.static yL_state, Cond.codeWith yL_state cL_state 4 (some .int) [(0, 6, 9, 14)], Cond.classLink RL 14 "java/lang/IndexOutOfBoundsException", Cond.methodLink RL 38 yX2_state, Cond.instanceMethod yX2_state, Cond.selects RX2 yX2_state yX2_state, Cond.code yX2_state cX2_state 2 (some .int), Cond.fieldLink RX2 131 "DeadlineCalls$Call" "state" "I", Cond.methodLink RX2 90 yX2_callAt] : List Cond), w ∈ lw_tbl := fun w h => (goodIn_p [Cond.methodLink RL 59 yL_get, Cond.static yL_get, Cond.code yL_get cL_get 4 (some .int), Cond.methodLink RL 95 yL_state, Cond.static yL_state, Cond.codeWith yL_state cL_state 4 (some .int) [(0, 6, 9, 14)], Cond.classLink RL 14 "java/lang/IndexOutOfBoundsException", Cond.methodLink RL 38 yX2_state, Cond.instanceMethod yX2_state, Cond.selects RX2 yX2_state yX2_state, Cond.code yX2_state cX2_state 2 (some .int), Cond.fieldLink RX2 131 "DeadlineCalls$Call" "state" "I", Cond.methodLink RX2 90 yX2_callAt] [132, 140] (by decide +kernel) (by decide +kernel) w h).1
set_option maxRecDepth 20000 in
theorem mi_2 : ∀ w ∈ wsL_law0_r2, w ∈ lw_tbl := (mi_ap mi_2_0 (mi_ap mi_2_1 (mi_ap mi_2_2 (mi_ap mi_2_3 mi_2_4))))
set_option maxRecDepth 20000 in
theorem mi_3 : ∀ w ∈ wsL_law0_r3, w ∈ lw_tbl := fun w h => (goodIn_p wsL_law0_r3 [144, 216, 220, 224] (by decide +kernel) (by decide +kernel) w h).1
set_option maxRecDepth 20000 in
theorem mi_4 : ∀ w ∈ wsL_law0_r4, w ∈ lw_tbl := fun w h => (goodIn_p wsL_law0_r4 [231, 234, 238, 242] (by decide +kernel) (by decide +kernel) w h).1
set_option maxRecDepth 20000 in
theorem mi_5 : ∀ w ∈ wsL_law0_r5, w ∈ lw_tbl := fun w h => (goodIn_p wsL_law0_r5 [246, 249, 256, 260, 265] (by decide +kernel) (by decide +kernel) w h).1
set_option maxRecDepth 20000 in
theorem mi_6 : ∀ w ∈ wsL_law0_r6, w ∈ lw_tbl := fun w h => (goodIn_p wsL_law0_r6 [269, 277, 280, 300, 303] (by decide +kernel) (by decide +kernel) w h).1
set_option maxRecDepth 20000 in
theorem mi_7 : ∀ w ∈ wsL_law0_r7, w ∈ lw_tbl := fun w h => (goodIn_p wsL_law0_r7 [310, 314, 319, 323] (by decide +kernel) (by decide +kernel) w h).1
set_option maxRecDepth 20000 in
theorem mi_8 : ∀ w ∈ wsL_law0_r8, w ∈ lw_tbl := fun w h => (goodIn_p wsL_law0_r8 [331, 351, 355, 359] (by decide +kernel) (by decide +kernel) w h).1
set_option maxRecDepth 20000 in
theorem mi_9 : ∀ w ∈ wsL_law0_r9, w ∈ lw_tbl := fun w h => (goodIn_p wsL_law0_r9 [363, 367, 374, 378] (by decide +kernel) (by decide +kernel) w h).1
set_option maxRecDepth 20000 in
theorem mi_10 : ∀ w ∈ wsL_law0_r10, w ∈ lw_tbl := fun w h => (goodIn_p wsL_law0_r10 [382, 386, 390, 394, 398] (by decide +kernel) (by decide +kernel) w h).1
set_option maxRecDepth 20000 in
theorem mi_11 : ∀ w ∈ wsL_law0_r11, w ∈ lw_tbl := fun w h => (goodIn_p wsL_law0_r11 [402, 406, 411, 415] (by decide +kernel) (by decide +kernel) w h).1
set_option maxRecDepth 20000 in
theorem mi_12 : ∀ w ∈ wsL_law0_r12, w ∈ lw_tbl := fun w h => (goodIn_p wsL_law0_r12 [419, 423, 427, 431] (by decide +kernel) (by decide +kernel) w h).1
set_option maxRecDepth 20000 in
theorem mi_13 : ∀ w ∈ wsL_law0_r13, w ∈ lw_tbl := fun w h => (goodIn_p wsL_law0_r13 [435, 439, 443, 447, 451, 455] (by decide +kernel) (by decide +kernel) w h).1
set_option maxRecDepth 20000 in
theorem mi_14 : ∀ w ∈ wsL_law0_r14, w ∈ lw_tbl := fun w h => (goodIn_p wsL_law0_r14 [530, 534, 538, 543] (by decide +kernel) (by decide +kernel) w h).1
set_option maxRecDepth 20000 in
theorem mi_15_0 : ∀ w ∈ ([Cond.selects RX1 yX1_hasRoom yX1_hasRoom, Cond.code yX1_hasRoom cX1_hasRoom 1 (some .boolean), Cond.methodLink RX2 125 yX2_startQueued, Cond.instanceMethod yX2_startQueued, Cond.selects RX2 yX2_startQueued yX2_startQueued, Cond.code yX2_startQueued cX2_startQueued 3 none, Cond.methodLink RX2 282 yX2_startQueuedOf, Cond.instanceMethod yX2_startQueuedOf, Cond.selects RX2 yX2_startQueuedOf yX2_startQueuedOf, Cond.code yX2_startQueuedOf cX2_startQueuedOf 3 none, Cond.methodLink RL 136 yL_call, Cond.static yL_call, Cond.codeWith yL_call cL_call 5 (some .int) [(0, 7, 10, 14), (0, 7, 15, 16), (0, 7, 20, 22)], Cond.methodLink RL 28 yX2_call, Cond.instanceMethod yX2_call, Cond.selects RX2 yX2_call yX2_call, Cond.code yX2_call cX2_call 5 (some .int), Cond.methodLink RL 142 yL_cell, Cond.static yL_cell, Cond.code yL_cell cL_cell 2 (some .int), Cond.constant RL 7 (1205455845), Cond.methodLink RL 146 yL_sets, Cond.static yL_sets] : List Cond), w ∈ lw_tbl := fun w h => (goodIn_p [Cond.selects RX1 yX1_hasRoom yX1_hasRoom, Cond.code yX1_hasRoom cX1_hasRoom 1 (some .boolean), Cond.methodLink RX2 125 yX2_startQueued, Cond.instanceMethod yX2_startQueued, Cond.selects RX2 yX2_startQueued yX2_startQueued, Cond.code yX2_startQueued cX2_startQueued 3 none, Cond.methodLink RX2 282 yX2_startQueuedOf, Cond.instanceMethod yX2_startQueuedOf, Cond.selects RX2 yX2_startQueuedOf yX2_startQueuedOf, Cond.code yX2_startQueuedOf cX2_startQueuedOf 3 none, Cond.methodLink RL 136 yL_call, Cond.static yL_call, Cond.codeWith yL_call cL_call 5 (some .int) [(0, 7, 10, 14), (0, 7, 15, 16), (0, 7, 20, 22)], Cond.methodLink RL 28 yX2_call, Cond.instanceMethod yX2_call, Cond.selects RX2 yX2_call yX2_call, Cond.code yX2_call cX2_call 5 (some .int), Cond.methodLink RL 142 yL_cell, Cond.static yL_cell, Cond.code yL_cell cL_cell 2 (some .int), Cond.constant RL 7 (1205455845), Cond.methodLink RL 146 yL_sets, Cond.static yL_sets] [547, 551, 555, 562, 566] (by decide +kernel) (by decide +kernel) w h).1
set_option maxRecDepth 100000 in
theorem mi_15_1 : ∀ w ∈ ([Cond.code yL_sets cL_sets 10 (some .boolean)] : List Cond), w ∈ lw_tbl := fun w h => by
  rw [List.mem_singleton.mp h]
  exact List.mem_of_getElem? (i := 570) rfl
set_option maxRecDepth 20000 in
theorem mi_15 : ∀ w ∈ wsL_law0_r15, w ∈ lw_tbl := (mi_ap mi_15_0 mi_15_1)
set_option maxRecDepth 20000 in
theorem mi_16 : ∀ w ∈ wsL_law0_r16, w ∈ lw_tbl := fun w h => (goodIn_p wsL_law0_r16 [577, 584, 589] (by decide +kernel) (by decide +kernel) w h).1
set_option maxRecDepth 20000 in
theorem mi_17_0 : ∀ w ∈ ([Cond.methodLink RL 24 yX2_setRoom, Cond.instanceMethod yX2_setRoom, Cond.selects RX2 yX2_setRoom yX2_setRoom, Cond.code yX2_setRoom cX2_setRoom 7 (some .int), Cond.fieldLink RX2 61 "DeadlineCalls$Service" "workers" "I", Cond.fieldLink RX2 64 "DeadlineCalls$Service" "room" "I", Cond.fieldLink RX2 67 "DeadlineCalls$Service" "patience" "I", Cond.methodLink RL 79 yL_begin, Cond.static yL_begin] : List Cond), w ∈ lw_tbl := fun w h => (goodIn_p [Cond.methodLink RL 24 yX2_setRoom, Cond.instanceMethod yX2_setRoom, Cond.selects RX2 yX2_setRoom yX2_setRoom, Cond.code yX2_setRoom cX2_setRoom 7 (some .int), Cond.fieldLink RX2 61 "DeadlineCalls$Service" "workers" "I", Cond.fieldLink RX2 64 "DeadlineCalls$Service" "room" "I", Cond.fieldLink RX2 67 "DeadlineCalls$Service" "patience" "I", Cond.methodLink RL 79 yL_begin, Cond.static yL_begin] [597] (by decide +kernel) (by decide +kernel) w h).1
set_option maxRecDepth 100000 in
theorem mi_17_1 : ∀ w ∈ ([Cond.code yL_begin cL_begin 13 none] : List Cond), w ∈ lw_tbl := fun w h => by
  rw [List.mem_singleton.mp h]
  exact List.mem_of_getElem? (i := 600) rfl
set_option maxRecDepth 20000 in
theorem mi_17_2 : ∀ w ∈ ([Cond.methodLink RL 67 yL_end, Cond.static yL_end] : List Cond), w ∈ lw_tbl := fun w h => (goodIn_p [Cond.methodLink RL 67 yL_end, Cond.static yL_end] [] (by decide +kernel) (by decide +kernel) w h).1
set_option maxRecDepth 100000 in
theorem mi_17_3 : ∀ w ∈ ([Cond.code yL_end cL_end 10 none] : List Cond), w ∈ lw_tbl := fun w h => by
  rw [List.mem_singleton.mp h]
  exact List.mem_of_getElem? (i := 603) rfl
set_option maxRecDepth 20000 in
theorem mi_17_4 : ∀ w ∈ ([Cond.methodLink RL 53 yL_put, Cond.static yL_put, Cond.code yL_put cL_put 5 none, Cond.methodLink RL 150 yL_tick, Cond.static yL_tick] : List Cond), w ∈ lw_tbl := fun w h => (goodIn_p [Cond.methodLink RL 53 yL_put, Cond.static yL_put, Cond.code yL_put cL_put 5 none, Cond.methodLink RL 150 yL_tick, Cond.static yL_tick] [606] (by decide +kernel) (by decide +kernel) w h).1
set_option maxRecDepth 100000 in
theorem mi_17_5 : ∀ w ∈ ([Cond.code yL_tick cL_tick 11 none] : List Cond), w ∈ lw_tbl := fun w h => by
  rw [List.mem_singleton.mp h]
  exact List.mem_of_getElem? (i := 609) rfl
set_option maxRecDepth 20000 in
theorem mi_17_6 : ∀ w ∈ ([Cond.methodLink RL 71 yL_fault, Cond.static yL_fault, Cond.code yL_fault cL_fault 3 none, Cond.methodLink RL 75 yL_look, Cond.static yL_look] : List Cond), w ∈ lw_tbl := fun w h => (goodIn_p [Cond.methodLink RL 71 yL_fault, Cond.static yL_fault, Cond.code yL_fault cL_fault 3 none, Cond.methodLink RL 75 yL_look, Cond.static yL_look] [612] (by decide +kernel) (by decide +kernel) w h).1
set_option maxRecDepth 20000 in
theorem mi_17 : ∀ w ∈ wsL_law0_r17, w ∈ lw_tbl := (mi_ap mi_17_0 (mi_ap mi_17_1 (mi_ap mi_17_2 (mi_ap mi_17_3 (mi_ap mi_17_4 (mi_ap mi_17_5 mi_17_6))))))
set_option maxRecDepth 100000 in
theorem mi_18_1 : ∀ w ∈ ([Cond.code yL_look cL_look 10 none] : List Cond), w ∈ lw_tbl := fun w h => by
  rw [List.mem_singleton.mp h]
  exact List.mem_of_getElem? (i := 615) rfl
set_option maxRecDepth 20000 in
theorem mi_18 : ∀ w ∈ wsL_law0_r18, w ∈ lw_tbl := mi_18_1
set_option maxRecDepth 20000 in
theorem mi_x0 : ∀ w ∈ wsX20, w ∈ lw_tbl := fun w h => (goodIn_p wsX20 [] (by decide +kernel) (by decide +kernel) w h).1
set_option maxRecDepth 20000 in
theorem mi_x1 : ∀ w ∈ wsX10, w ∈ lw_tbl := fun w h => (goodIn_p wsX10 [] (by decide +kernel) (by decide +kernel) w h).1
set_option maxRecDepth 20000 in
theorem mi_x2 : ∀ w ∈ wsX00, w ∈ lw_tbl := fun w h => (goodIn_p wsX00 [] (by decide +kernel) (by decide +kernel) w h).1
theorem wsL_law_x0 : ∀ w ∈ (vx_atS RX2 166 "java/lang/IndexOutOfBoundsException" ["java/lang/RuntimeException", "java/lang/Exception"]).filter goodWord, w ∈ lw_tbl := by decide +kernel
theorem wsL_law_x1 : ∀ w ∈ (vx_atS RX2 46 "java/lang/IllegalArgumentException" ["java/lang/RuntimeException", "java/lang/Exception"]).filter goodWord, w ∈ lw_tbl := by decide +kernel
theorem wsL_law_x2 : ∀ w ∈ (vx_atS RX2 57 "java/lang/IllegalStateException" ["java/lang/RuntimeException", "java/lang/Exception"]).filter goodWord, w ∈ lw_tbl := by decide +kernel
theorem wsL_law_in0 : ∀ w ∈ wsL_law0, w ∈ lw_tbl := (mi_ap (mi_ap (mi_ap (mi_ap (mi_ap mi_1 (mi_ap mi_2 (mi_ap mi_3 (mi_ap mi_4 (mi_ap mi_5 (mi_ap mi_6 (mi_ap mi_7 (mi_ap mi_8 (mi_ap mi_9 (mi_ap mi_10 (mi_ap mi_11 (mi_ap mi_12 (mi_ap mi_13 (mi_ap mi_14 (mi_ap mi_15 (mi_ap mi_16 (mi_ap mi_17 mi_18))))))))))))))))) mi_x0) mi_x1) mi_x2) (fun _ h => absurd h List.not_mem_nil))
theorem wsL_law_in : ∀ w ∈ wsL_law, w ∈ lw_tbl := (mi_ap (mi_ap (mi_ap wsL_law_in0 wsL_law_x0) wsL_law_x1) wsL_law_x2)
theorem mNw_in : ∀ w ∈ mNw, w ∈ lw_tbl := by decide +kernel
theorem mSt_in : ∀ q ∈ mStr, Cond.stringRef RX2 q.1 q.2 ∈ lw_tbl := by decide +kernel
