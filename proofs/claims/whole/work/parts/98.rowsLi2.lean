set_option maxRecDepth 20000 in
theorem inLc0 : ∀ w ∈ wsX00, w ∈ lw_tbl := by decide +kernel
set_option maxRecDepth 20000 in
theorem inLc1 : ∀ w ∈ wsX10, w ∈ lw_tbl := by decide +kernel
set_option maxRecDepth 20000 in
theorem inLc2 : ∀ w ∈ wsX20, w ∈ lw_tbl := by decide +kernel
set_option maxRecDepth 20000 in
theorem inLc3 : ∀ w ∈ wsX30, w ∈ lw_tbl := by decide +kernel
set_option maxRecDepth 20000 in
theorem inLc4 : ∀ w ∈ wsX40, w ∈ lw_tbl := by decide +kernel
set_option maxRecDepth 20000 in
theorem inLc5 : ∀ w ∈ wsX50, w ∈ lw_tbl := by decide +kernel
set_option maxRecDepth 20000 in
theorem inLc6 : ∀ w ∈ wsX60, w ∈ lw_tbl := by decide +kernel
set_option maxRecDepth 20000 in
theorem inLc7 : ∀ w ∈ wsX70, w ∈ lw_tbl := by decide +kernel
set_option maxRecDepth 20000 in
theorem inLc8 : ∀ w ∈ wsX80, w ∈ lw_tbl := by decide +kernel
theorem in_app {a b : List Cond} (h1 : ∀ w ∈ a, w ∈ lw_tbl) (h2 : ∀ w ∈ b, w ∈ lw_tbl) : ∀ w ∈ a ++ b, w ∈ lw_tbl := fun w h => (List.mem_append.mp h).elim (h1 w) (h2 w)
theorem wsL_law_in : ∀ w ∈ wsL_law, w ∈ lw_tbl := in_app (in_app (in_app (in_app (in_app (in_app (in_app (in_app (in_app (in_app (in_app inLr1 (in_app inLr2 (in_app inLr3 (in_app inLr4 (in_app inLr5 (in_app inLr6 (in_app inLr7 (in_app inLr8 (in_app inLr9 (in_app inLr10 (in_app inLr11 (in_app inLr12 (in_app inLr13 (in_app inLr14 (in_app inLr15 (in_app inLr16 (in_app inLr17 (in_app inLr18 (in_app inLr19 (in_app inLr20 (in_app inLr21 (in_app inLr22 (in_app inLr23 (in_app inLr24 (in_app inLr25 (in_app inLr26 (in_app inLr27 (in_app inLr28 (in_app inLr29 (in_app inLr30 (in_app inLr31 (in_app inLr32 (in_app inLr33 (in_app inLr34 (in_app inLr35 (in_app inLr36 (in_app inLr37 (in_app inLr38 (in_app inLr39 (in_app inLr40 (in_app inLr41 (inLr42)))))))))))))))))))))))))))))))))))))))))) inLc7) inLc8) inLc4) inLc2) inLc6) inLc1) inLc3) inLc5) inLc0) (fun _ h => absurd h List.not_mem_nil)
