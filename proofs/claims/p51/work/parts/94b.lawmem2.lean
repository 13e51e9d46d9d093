set_option maxRecDepth 20000 in
theorem mW_599 : Cond.classLink RL 211 RJ4 ∈ wsL_law := List.mem_of_getElem? (i := 599) (by decide +kernel)
set_option maxRecDepth 20000 in
theorem mW_600 : Cond.instantiable RJ4 4 ∈ wsL_law := List.mem_of_getElem? (i := 600) (by decide +kernel)
set_option maxRecDepth 20000 in
theorem mW_601 : Cond.initialized RJ4 ∈ wsL_law := List.mem_of_getElem? (i := 601) (by decide +kernel)
set_option maxRecDepth 20000 in
theorem mW_607 : Cond.methodLink RL 213 yJ4_init_da8c8 ∈ wsL_law := List.mem_of_getElem? (i := 607) (by decide +kernel)
set_option maxRecDepth 20000 in
theorem mW_608 : Cond.instanceMethod yJ4_init_da8c8 ∈ wsL_law := List.mem_of_getElem? (i := 608) (by decide +kernel)
