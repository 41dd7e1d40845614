set_option maxRecDepth 20000 in
theorem in_wsL_law0_r5 : ∀ w ∈ wsL_law0_r5, w ∈ lw_tbl := fun w h => (goodIn_p wsL_law0_r5 [325, 328, 314, 331, 311, 378, 485] (by decide +kernel) (by decide +kernel) w h).1
set_option maxRecDepth 20000 in
theorem in_wsL_law0_r6 : ∀ w ∈ wsL_law0_r6, w ∈ lw_tbl := fun w h => (goodIn_p wsL_law0_r6 [406, 409, 489, 493, 496, 449] (by decide +kernel) (by decide +kernel) w h).1
set_option maxRecDepth 20000 in
theorem in_wsL_law0_r7 : ∀ w ∈ wsL_law0_r7, w ∈ lw_tbl := fun w h => (goodIn_p wsL_law0_r7 [456, 317, 295] (by decide +kernel) (by decide +kernel) w h).1
set_option maxRecDepth 20000 in
theorem in_wsL_law0_r8 : ∀ w ∈ wsL_law0_r8, w ∈ lw_tbl := fun w h => (goodIn_p wsL_law0_r8 [302, 308, 334, 338, 341, 433] (by decide +kernel) (by decide +kernel) w h).1
def wsL_law0_r9_A : List Cond := [Cond.selects RX6 yX6_weakest yX6_weakest, Cond.code yX6_weakest cX6_weakest 4 (some .int), Cond.methodLink RL 74 yL_areFoldings, Cond.static yL_areFoldings]
def wsL_law0_r9_B : List Cond := [Cond.methodLink RL 81 yX6_sureShare, Cond.instanceMethod yX6_sureShare, Cond.selects RX6 yX6_sureShare yX6_sureShare, Cond.code yX6_sureShare cX6_sureShare 2 (some .double), Cond.methodLink RL 85 yX6_folding, Cond.instanceMethod yX6_folding, Cond.selects RX6 yX6_folding yX6_folding, Cond.code yX6_folding cX6_folding 2 (some .int), Cond.methodLink RX6 236 yX1_maskAt, Cond.instanceMethod yX1_maskAt, Cond.selects RX1 yX1_maskAt yX1_maskAt, Cond.code yX1_maskAt cX1_maskAt 2 (some .int), Cond.methodLink RL 78 yL_asks, Cond.static yL_asks, Cond.code yL_asks cL_asks 12 (some .boolean), Cond.methodLink RL 88 yX6_bestQuestion, Cond.instanceMethod yX6_bestQuestion, Cond.selects RX6 yX6_bestQuestion yX6_bestQuestion, Cond.code yX6_bestQuestion cX6_bestQuestion 6 (some .int)]
set_option maxRecDepth 20000 in
theorem in_wsL_law0_r9_A : ∀ w ∈ wsL_law0_r9_A, w ∈ lw_tbl := fun w h => (goodIn_p wsL_law0_r9_A [445] (by decide +kernel) (by decide +kernel) w h).1
set_option maxRecDepth 20000 in
theorem in_wsL_law0_r9_B : ∀ w ∈ wsL_law0_r9_B, w ∈ lw_tbl := fun w h => (goodIn_p wsL_law0_r9_B [504, 508, 513, 516, 520] (by decide +kernel) (by decide +kernel) w h).1
set_option maxRecDepth 20000 in
theorem in_wsL_law0_r9_C : Cond.code yL_areFoldings cL_areFoldings 14 (some .boolean) ∈ lw_tbl := List.mem_of_getElem? (i := 500) rfl
theorem in_wsL_law0_r9 : ∀ w ∈ wsL_law0_r9, w ∈ lw_tbl := fun w h => (List.mem_append.mp (show w ∈ wsL_law0_r9_A ++ (Cond.code yL_areFoldings cL_areFoldings 14 (some .boolean) :: wsL_law0_r9_B) from h)).elim (in_wsL_law0_r9_A w) (fun h => (List.mem_cons.mp h).elim (fun e => e ▸ in_wsL_law0_r9_C) (in_wsL_law0_r9_B w))
