/-! the two constructors' words, with the class of rows of rows of rows -/
def wsX11_init2 : List Cond := wsX11_init ++ [.classLink RX11 16 "[[[I"]
def wsL_law2 : List Cond := wsL_law ++ [.classLink RX11 16 "[[[I"]
theorem gX11_init2_X10_init : GoodIn wsX11_init2 wsX10_init := fun w h => ⟨List.mem_append_left _ (gX11_init_X10_init w h).1, (gX11_init_X10_init w h).2⟩
theorem gL_law2_X11_init2 : GoodIn wsL_law2 wsX11_init2 := fun w h => (List.mem_append.mp h).elim (fun h => ⟨List.mem_append_left _ (gL_law_X11_init w h).1, (gL_law_X11_init w h).2⟩) (fun h => ⟨List.mem_append_right _ h, by rw [List.mem_singleton.mp h]; exact good_of_word rfl⟩)
set_option maxRecDepth 20000 in
theorem lw_cube : Cond.classLink RX11 16 "[[[I" ∈ lw_tbl := by decide +kernel
