set_option maxRecDepth 20000 in
theorem tbl_r1 : GoodIn lw_tbl wsL_law0_r1 := goodIn_p wsL_law0_r1 [51, 54] (by decide +kernel) (by decide +kernel)
set_option maxRecDepth 20000 in
theorem tbl_r2 : GoodIn lw_tbl wsL_law0_r2 := goodIn_p wsL_law0_r2 [398, 84, 87, 158] (by decide +kernel) (by decide +kernel)
set_option maxRecDepth 20000 in
theorem tbl_r3 : GoodIn lw_tbl wsL_law0_r3 := goodIn_p wsL_law0_r3 [162, 418, 421, 425, 429] (by decide +kernel) (by decide +kernel)
set_option maxRecDepth 20000 in
theorem tbl_r4 : GoodIn lw_tbl wsL_law0_r4 := goodIn_p wsL_law0_r4 [414, 173, 434, 438] (by decide +kernel) (by decide +kernel)
set_option maxRecDepth 20000 in
theorem tbl_r5 : GoodIn lw_tbl wsL_law0_r5 := goodIn_p wsL_law0_r5 [442, 446, 450, 196, 454] (by decide +kernel) (by decide +kernel)
set_option maxRecDepth 20000 in
theorem tbl_r6 : GoodIn lw_tbl wsL_law0_r6 := goodIn_p wsL_law0_r6 [203, 458, 210, 214, 218] (by decide +kernel) (by decide +kernel)
set_option maxRecDepth 20000 in
theorem tbl_r7 : GoodIn lw_tbl wsL_law0_r7 := goodIn_p wsL_law0_r7 [221, 226, 230, 234, 462, 466] (by decide +kernel) (by decide +kernel)
set_option maxRecDepth 20000 in
theorem tbl_r8 : GoodIn lw_tbl wsL_law0_r8 := goodIn_p wsL_law0_r8 [470, 474, 478, 241, 482] (by decide +kernel) (by decide +kernel)
set_option maxRecDepth 20000 in
theorem tbl_r9 : GoodIn lw_tbl wsL_law0_r9 := goodIn_p wsL_law0_r9 [248, 252, 256, 486] (by decide +kernel) (by decide +kernel)
set_option maxRecDepth 20000 in
theorem tbl_r10 : GoodIn lw_tbl wsL_law0_r10 := goodIn_p wsL_law0_r10 [264, 285, 288, 292, 296, 300] (by decide +kernel) (by decide +kernel)
set_option maxRecDepth 20000 in
theorem tbl_r11 : GoodIn lw_tbl wsL_law0_r11 := goodIn_p wsL_law0_r11 [304, 314, 307, 310, 318, 322] (by decide +kernel) (by decide +kernel)
set_option maxRecDepth 20000 in
theorem tbl_r12 : GoodIn lw_tbl wsL_law0_r12 := goodIn_p wsL_law0_r12 [326, 491, 495, 499, 503, 507] (by decide +kernel) (by decide +kernel)
set_option maxRecDepth 20000 in
theorem tbl_r13 : GoodIn lw_tbl wsL_law0_r13 := goodIn_p wsL_law0_r13 [511, 333, 338, 342, 345, 349] (by decide +kernel) (by decide +kernel)
set_option maxRecDepth 20000 in
theorem tbl_r14 : GoodIn lw_tbl wsL_law0_r14 := goodIn_p wsL_law0_r14 [515, 356, 519, 363] (by decide +kernel) (by decide +kernel)
set_option maxRecDepth 20000 in
theorem tbl_r15 : GoodIn lw_tbl wsL_law0_r15 := goodIn_p wsL_law0_r15 [523, 370, 527, 377, 531] (by decide +kernel) (by decide +kernel)
set_option maxRecDepth 20000 in
theorem tbl_r16 : GoodIn lw_tbl wsL_law0_r16 := goodIn_p wsL_law0_r16 [384, 535, 392, 539] (by decide +kernel) (by decide +kernel)
set_option maxRecDepth 20000 in
theorem tbl_X0 : GoodIn lw_tbl wsX00 := goodIn_of _ (by decide +kernel)
set_option maxRecDepth 20000 in
theorem tbl_X1 : GoodIn lw_tbl wsX10 := goodIn_of _ (by decide +kernel)
theorem wsL_law_in0 : GoodIn lw_tbl wsL_law0 := goodIn_app (goodIn_app (goodIn_app (goodIn_app tbl_r1 (goodIn_app tbl_r2 (goodIn_app tbl_r3 (goodIn_app tbl_r4 (goodIn_app tbl_r5 (goodIn_app tbl_r6 (goodIn_app tbl_r7 (goodIn_app tbl_r8 (goodIn_app tbl_r9 (goodIn_app tbl_r10 (goodIn_app tbl_r11 (goodIn_app tbl_r12 (goodIn_app tbl_r13 (goodIn_app tbl_r14 (goodIn_app tbl_r15 tbl_r16))))))))))))))) tbl_X0) tbl_X1) (fun _ h => nomatch h)
theorem wsL_law_x0 : ∀ w ∈ (vx_atS RX0 99 "java/lang/IndexOutOfBoundsException" ["java/lang/RuntimeException", "java/lang/Exception"]).filter goodWord, w ∈ lw_tbl := by decide +kernel
theorem wsL_law_x1 : ∀ w ∈ (vx_atS RX0 48 "java/lang/IllegalStateException" ["java/lang/RuntimeException", "java/lang/Exception"]).filter goodWord, w ∈ lw_tbl := by decide +kernel
theorem wsL_law_x2 : ∀ w ∈ (vx_atS RX0 71 "java/lang/IllegalArgumentException" ["java/lang/RuntimeException", "java/lang/Exception"]).filter goodWord, w ∈ lw_tbl := by decide +kernel
theorem wsL_law_in : ∀ w ∈ wsL_law, w ∈ lw_tbl := fun w h => (List.mem_append.mp h).elim (fun h => (List.mem_append.mp h).elim (fun h => (List.mem_append.mp h).elim (fun h => (wsL_law_in0 w h).1) (fun h => wsL_law_x0 w h)) (fun h => wsL_law_x1 w h)) (fun h => wsL_law_x2 w h)
theorem inlX0 : ∀ w ∈ wsX00, w ∈ wsL_law := fun _ h => List.mem_append_left _ (List.mem_append_left _ (List.mem_append_left _ (List.mem_append_left _ (List.mem_append_left _ (List.mem_append_right _ h)))))
theorem inX0 : ∀ w ∈ wsX00, w ∈ lw_tbl := fun w h => wsL_law_in w (inlX0 w h)
theorem inlX1 : ∀ w ∈ wsX10, w ∈ wsL_law := fun _ h => List.mem_append_left _ (List.mem_append_left _ (List.mem_append_left _ (List.mem_append_left _ (List.mem_append_right _ h))))
theorem inX1 : ∀ w ∈ wsX10, w ∈ lw_tbl := fun w h => wsL_law_in w (inlX1 w h)
