theorem in_wsX20 : ∀ w ∈ wsX20, w ∈ lw_tbl := by decide +kernel
theorem in_wsX30 : ∀ w ∈ wsX30, w ∈ lw_tbl := by decide +kernel
theorem in_wsX00 : ∀ w ∈ wsX00, w ∈ lw_tbl := by decide +kernel
theorem in_wsX10 : ∀ w ∈ wsX10, w ∈ lw_tbl := by decide +kernel
theorem in_wsJx : ∀ w ∈ wsJx000600, w ∈ lw_tbl := by decide +kernel
theorem in_x0 : ∀ w ∈ xaIAE.filter goodWord, w ∈ lw_tbl := by decide +kernel
theorem in_x1 : ∀ w ∈ xaUOE.filter goodWord, w ∈ lw_tbl := by decide +kernel
theorem in_x2 : ∀ w ∈ xaISE.filter goodWord, w ∈ lw_tbl := by decide +kernel
theorem in_x3 : ∀ w ∈ xnW.filter goodWord, w ∈ lw_tbl := by decide +kernel
theorem in_x4 : ∀ w ∈ xaAIE.filter goodWord, w ∈ lw_tbl := by decide +kernel
theorem in_x5 : Cond.classLink RL 37 xAIE ∈ lw_tbl := by decide +kernel
theorem in_gXW : ∀ w ∈ gXW, w ∈ lw_tbl := by decide +kernel
theorem inA {α : Type} {a b t : List α} (h1 : ∀ w ∈ a, w ∈ t) (h2 : ∀ w ∈ b, w ∈ t) : ∀ w ∈ a ++ b, w ∈ t := fun w h => (List.mem_append.mp h).elim (h1 w) (h2 w)
theorem in_law0 : ∀ w ∈ wsL_law0, w ∈ lw_tbl := inA (inA (inA (inA (inA (inA (inA in_wsL_law0_r1 (inA in_wsL_law0_r2 (inA in_wsL_law0_r3 (inA in_wsL_law0_r4 (inA in_wsL_law0_r5 (inA in_wsL_law0_r6 (inA in_wsL_law0_r7 (inA in_wsL_law0_r8 (inA in_wsL_law0_r9 (inA in_wsL_law0_r10 (inA in_wsL_law0_r11 (inA in_wsL_law0_r12 (inA in_wsL_law0_r13 (inA in_wsL_law0_r14 (inA in_wsL_law0_r15 (inA in_wsL_law0_r16 (inA in_wsL_law0_r17 (inA in_wsL_law0_r18 in_wsL_law0_r19)))))))))))))))))) in_wsX20) in_wsX30) in_wsX00) in_wsX10) in_wsJx) (fun _ h => nomatch h)
def wnL_law : List Cond := wsL_law0 ++ (vx_atS RX2 55 "java/lang/IllegalArgumentException" ["java/lang/RuntimeException", "java/lang/Exception"]).filter goodWord ++ (vx_atS RX2 68 "java/lang/UnsupportedOperationException" ["java/lang/RuntimeException", "java/lang/Exception"]).filter goodWord ++ (vx_atS RX2 165 "java/lang/IllegalStateException" ["java/lang/RuntimeException", "java/lang/Exception"]).filter goodWord ++ xnW.filter goodWord
def wqL_law : List Cond := wnL_law ++ (.classLink RL 37 xAIE :: xaAIE.filter goodWord)
theorem wqL_law_in : ∀ w ∈ wqL_law, w ∈ lw_tbl := inA (inA (inA (inA (inA in_law0 in_x0) in_x1) in_x2) in_x3) (fun w h => (List.mem_cons.mp h).elim (fun e => e ▸ in_x5) (in_x4 w))
