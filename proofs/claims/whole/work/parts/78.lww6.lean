set_option maxRecDepth 20000 in
theorem lw_w19 : ∀ w ∈ wsL_law0_r19, w ∈ lw_tbl := by decide +kernel
set_option maxRecDepth 20000 in
theorem lw_w20 : ∀ w ∈ wsL_law0_r20, w ∈ lw_tbl := by decide +kernel
set_option maxRecDepth 20000 in
theorem lw_w21 : ∀ w ∈ wsL_law0_r21, w ∈ lw_tbl := by decide +kernel
theorem wsL_law_in : ∀ w ∈ wsL_law, w ∈ lw_tbl := by
  intro w h
  rcases List.mem_append.mp h with h | h
  · rcases List.mem_append.mp h with h | h
    · rcases List.mem_append.mp h with h | h
      · rcases List.mem_append.mp h with h | h
        · rcases List.mem_append.mp h with h | h
          · rcases List.mem_append.mp h with h | h
            · rcases List.mem_append.mp h with h | h
              · rcases List.mem_append.mp h with h | h
                · exact (List.mem_append.mp h).elim (fun h => lw_w1 w h) (fun h => (List.mem_append.mp h).elim (fun h => lw_w2 w h) (fun h => (List.mem_append.mp h).elim (fun h => lw_w3 w h) (fun h => (List.mem_append.mp h).elim (fun h => lw_w4 w h) (fun h => (List.mem_append.mp h).elim (fun h => lw_w5 w h) (fun h => (List.mem_append.mp h).elim (fun h => lw_w6 w h) (fun h => (List.mem_append.mp h).elim (fun h => lw_w7 w h) (fun h => (List.mem_append.mp h).elim (fun h => lw_w8 w h) (fun h => (List.mem_append.mp h).elim (fun h => lw_w9 w h) (fun h => (List.mem_append.mp h).elim (fun h => lw_w10 w h) (fun h => (List.mem_append.mp h).elim (fun h => lw_w11 w h) (fun h => (List.mem_append.mp h).elim (fun h => lw_w12 w h) (fun h => (List.mem_append.mp h).elim (fun h => lw_w13 w h) (fun h => (List.mem_append.mp h).elim (fun h => lw_w14 w h) (fun h => (List.mem_append.mp h).elim (fun h => lw_w15 w h) (fun h => (List.mem_append.mp h).elim (fun h => lw_w16 w h) (fun h => (List.mem_append.mp h).elim (fun h => lw_w17 w h) (fun h => (List.mem_append.mp h).elim (fun h => lw_w18 w h) (fun h => (List.mem_append.mp h).elim (fun h => lw_w19 w h) (fun h => (List.mem_append.mp h).elim (fun h => lw_w20 w h) (fun h => lw_w21 w h))))))))))))))))))))
                · exact lwX2 w h
              · exact lwX3 w h
            · exact lwX0 w h
          · exact lwX1 w h
        · exact lwJ4 w h
      · cases h
    · exact lw_x0 w h
  · exact lw_x1 w h
