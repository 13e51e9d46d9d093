set_option maxRecDepth 20000 in
theorem mW_91 : Cond.constant RL 7 (69069) ∈ wsL_law := List.mem_of_getElem? (i := 91) (by decide +kernel)
set_option maxRecDepth 20000 in
theorem mW_92 : Cond.constant RL 8 (1103515245) ∈ wsL_law := List.mem_of_getElem? (i := 92) (by decide +kernel)
set_option maxRecDepth 20000 in
theorem mW_96 : Cond.classLink RL 63 "java/lang/IndexOutOfBoundsException" ∈ wsL_law := List.mem_of_getElem? (i := 96) (by decide +kernel)
