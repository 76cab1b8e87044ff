theorem TB_in : ∀ w ∈ TB, w ∈ lw_tbl := by
  have h : ∀ w ∈ wsL_law0, w ∈ lw_tbl := by
    unfold wsL_law0
    simp only [List.forall_mem_append]
    exact ⟨⟨⟨⟨⟨⟨⟨⟨⟨⟨⟨tbr1, ⟨tbr2, ⟨tbr3, ⟨tbr4, ⟨tbr5, ⟨tbr6, ⟨tbr7, ⟨tbr8, ⟨tbr9, ⟨tbr10, ⟨tbr11, ⟨tbr12, ⟨tbr13, ⟨tbr14, ⟨tbr15, ⟨tbr16, ⟨tbr17, ⟨tbr18, ⟨tbr19, ⟨tbr20, ⟨tbr21, ⟨tbr22, ⟨tbr23, ⟨tbr24, ⟨tbr25, ⟨tbr26, ⟨tbr27, ⟨tbr28, ⟨tbr29, ⟨tbr30, ⟨tbr31, ⟨tbr32, ⟨tbr33, ⟨tbr34, ⟨tbr35, ⟨tbr36, ⟨tbr37, ⟨tbr38, ⟨tbr39, ⟨tbr40, ⟨tbr41, ⟨tbr42, ⟨tbr43, ⟨tbr44, ⟨tbr45, tbr46⟩⟩⟩⟩⟩⟩⟩⟩⟩⟩⟩⟩⟩⟩⟩⟩⟩⟩⟩⟩⟩⟩⟩⟩⟩⟩⟩⟩⟩⟩⟩⟩⟩⟩⟩⟩⟩⟩⟩⟩⟩⟩⟩⟩⟩, tb_wsX90⟩, tb_wsX100⟩, tb_wsX70⟩, tb_wsX40⟩, tb_wsX00⟩, tb_wsX20⟩, tb_wsX30⟩, tb_wsX80⟩, tb_wsX50⟩, fun _ h => absurd h List.not_mem_nil⟩
  exact h
