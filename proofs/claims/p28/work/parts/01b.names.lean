set_option maxRecDepth 20000 in
theorem in_wsL_law0_r1 : ∀ w ∈ wsL_law0_r1, w ∈ lw_tbl := fun w h => (goodIn_p wsL_law0_r1 [27, 30] (by decide +kernel) (by decide +kernel) w h).1
set_option maxRecDepth 20000 in
theorem in_wsL_law0_r2 : ∀ w ∈ wsL_law0_r2, w ∈ lw_tbl := fun w h => (goodIn_p wsL_law0_r2 [35, 41, 101] (by decide +kernel) (by decide +kernel) w h).1
def wsL_law0_r3_A : List Cond := [Cond.fieldLink RX2 11 "CreaseMaps$History" "states" "[LCreaseMaps$State;", Cond.methodLink RX2 17 yX5_init, Cond.instanceMethod yX4_init, Cond.code yX4_init cX4_init 1 none, Cond.methodLink RX4 3 objectInit, Cond.fieldLink RX4 9 "CreaseMaps$MapText" "signs" "[I", Cond.instanceMethod yX1_init, Cond.code yX1_init cX1_init 1 none, Cond.methodLink RX1 3 objectInit, Cond.fieldLink RX1 9 "CreaseMaps$Census" "masks" "[I", Cond.methodLink RL 95 yL_holds, Cond.static yL_holds, Cond.initialized RL]
def wsL_law0_r3_B : List Cond := [Cond.methodLink RL 51 yL_folded, Cond.static yL_folded, Cond.code yL_folded cL_folded 3 (some .int), Cond.methodLink RL 9 yX6_creaseOf, Cond.instanceMethod yX6_creaseOf, Cond.selects RX6 yX6_creaseOf yX6_creaseOf, Cond.code yX6_creaseOf cX6_creaseOf 3 (some .int), Cond.fieldLink RX6 63 "CreaseMaps$State" "folded" "I", Cond.fieldLink RX6 199 "CreaseMaps$State" "wear" "[I", Cond.fieldLink RX6 48 "CreaseMaps$State" "torn" "I"]
set_option maxRecDepth 20000 in
theorem in_wsL_law0_r3_A : ∀ w ∈ wsL_law0_r3_A, w ∈ lw_tbl := fun w h => (goodIn_p wsL_law0_r3_A [118, 130] (by decide +kernel) (by decide +kernel) w h).1
set_option maxRecDepth 20000 in
theorem in_wsL_law0_r3_B : ∀ w ∈ wsL_law0_r3_B, w ∈ lw_tbl := fun w h => (goodIn_p wsL_law0_r3_B [351, 355] (by decide +kernel) (by decide +kernel) w h).1
set_option maxRecDepth 20000 in
theorem in_wsL_law0_r3_C : Cond.code yL_holds cL_holds 16 (some .boolean) ∈ lw_tbl := List.mem_of_getElem? (i := 482) rfl
theorem in_wsL_law0_r3 : ∀ w ∈ wsL_law0_r3, w ∈ lw_tbl := fun w h => (List.mem_append.mp (show w ∈ wsL_law0_r3_A ++ (Cond.code yL_holds cL_holds 16 (some .boolean) :: wsL_law0_r3_B) from h)).elim (in_wsL_law0_r3_A w) (fun h => (List.mem_cons.mp h).elim (fun e => e ▸ in_wsL_law0_r3_C) (in_wsL_law0_r3_B w))
set_option maxRecDepth 20000 in
theorem in_wsL_law0_r4 : ∀ w ∈ wsL_law0_r4, w ∈ lw_tbl := fun w h => (goodIn_p wsL_law0_r4 [358, 298, 344, 321] (by decide +kernel) (by decide +kernel) w h).1
