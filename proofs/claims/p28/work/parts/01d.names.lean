set_option maxRecDepth 20000 in
theorem in_wsL_law0_r10 : ∀ w ∈ wsL_law0_r10, w ∈ lw_tbl := fun w h => (goodIn_p wsL_law0_r10 [524, 528, 532, 538, 465, 385] (by decide +kernel) (by decide +kernel) w h).1
set_option maxRecDepth 20000 in
theorem in_wsL_law0_r11 : ∀ w ∈ wsL_law0_r11, w ∈ lw_tbl := fun w h => (goodIn_p wsL_law0_r11 [162, 165, 237] (by decide +kernel) (by decide +kernel) w h).1
def wsL_law0_r12_A : List Cond := [Cond.selects RX0 yX0_copyFrom yX0_copyFrom, Cond.code yX0_copyFrom cX0_copyFrom 2 none, Cond.methodLink RX0 40 arraycopyName, Cond.methodLink RL 101 yL_cell, Cond.static yL_cell, Cond.code yL_cell cL_cell 2 (some .int), Cond.constant RL 7 (40503), Cond.methodLink RL 105 yL_change, Cond.static yL_change]
def wsL_law0_r12_B : List Cond := [Cond.methodLink RL 24 yX6_fold, Cond.instanceMethod yX6_fold, Cond.selects RX6 yX6_fold yX6_fold, Cond.code yX6_fold cX6_fold 2 (some .int), Cond.methodLink RX6 45 yX6_beforeChange, Cond.instanceMethod yX6_beforeChange, Cond.selects RX6 yX6_beforeChange yX6_beforeChange, Cond.code yX6_beforeChange cX6_beforeChange 1 none, Cond.methodLink RX6 292 yX2_save, Cond.instanceMethod yX2_save, Cond.selects RX2 yX2_save yX2_save, Cond.code yX2_save cX2_save 2 none, Cond.fieldLink RX2 18 "CreaseMaps$History" "size" "I", Cond.methodLink RX2 22 yX2_dropOldest]
set_option maxRecDepth 20000 in
theorem in_wsL_law0_r12_A : ∀ w ∈ wsL_law0_r12_A, w ∈ lw_tbl := fun w h => (goodIn_p wsL_law0_r12_A [244, 347] (by decide +kernel) (by decide +kernel) w h).1
set_option maxRecDepth 20000 in
theorem in_wsL_law0_r12_B : ∀ w ∈ wsL_law0_r12_B, w ∈ lw_tbl := fun w h => (goodIn_p wsL_law0_r12_B [390, 269, 273] (by decide +kernel) (by decide +kernel) w h).1
set_option maxRecDepth 20000 in
theorem in_wsL_law0_r12_C : Cond.code yL_change cL_change 19 (some .boolean) ∈ lw_tbl := List.mem_of_getElem? (i := 382) rfl
theorem in_wsL_law0_r12 : ∀ w ∈ wsL_law0_r12, w ∈ lw_tbl := fun w h => (List.mem_append.mp (show w ∈ wsL_law0_r12_A ++ (Cond.code yL_change cL_change 19 (some .boolean) :: wsL_law0_r12_B) from h)).elim (in_wsL_law0_r12_A w) (fun h => (List.mem_cons.mp h).elim (fun e => e ▸ in_wsL_law0_r12_C) (in_wsL_law0_r12_B w))
