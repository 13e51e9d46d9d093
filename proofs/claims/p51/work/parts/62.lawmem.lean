set_option maxRecDepth 20000 in
theorem mW_38 : Cond.arrayClass .int ∈ wsL_law := List.mem_of_getElem? (i := 38) (by decide +kernel)
set_option maxRecDepth 20000 in
theorem mW_91 : Cond.constant RL 7 (69069) ∈ wsL_law := List.mem_of_getElem? (i := 91) (by decide +kernel)
set_option maxRecDepth 20000 in
theorem mW_92 : Cond.constant RL 8 (1103515245) ∈ wsL_law := List.mem_of_getElem? (i := 92) (by decide +kernel)
set_option maxRecDepth 20000 in
theorem mW_96 : Cond.classLink RL 63 "java/lang/IndexOutOfBoundsException" ∈ wsL_law := List.mem_of_getElem? (i := 96) (by decide +kernel)
set_option maxRecDepth 20000 in
theorem mW_137 : Cond.static Lib.Math.min.name ∈ wsL_law := List.mem_of_getElem? (i := 137) (by decide +kernel)
set_option maxRecDepth 20000 in
theorem mW_138 : Cond.initialized "java/lang/Math" ∈ wsL_law := List.mem_of_getElem? (i := 138) (by decide +kernel)
set_option maxRecDepth 20000 in
theorem mW_139 : Cond.code Lib.Math.min.name Lib.Math.min.code 2 (some .int) ∈ wsL_law := List.mem_of_getElem? (i := 139) (by decide +kernel)
set_option maxRecDepth 20000 in
theorem mW_312 : Cond.static Lib.Math.max.name ∈ wsL_law := List.mem_of_getElem? (i := 312) (by decide +kernel)
set_option maxRecDepth 20000 in
theorem mW_313 : Cond.code Lib.Math.max.name Lib.Math.max.code 2 (some .int) ∈ wsL_law := List.mem_of_getElem? (i := 313) (by decide +kernel)
set_option maxRecDepth 20000 in
theorem mW_402 : Cond.methodLink RL 146 Lib.Math.max.name ∈ wsL_law := List.mem_of_getElem? (i := 402) (by decide +kernel)
set_option maxRecDepth 20000 in
theorem mW_411 : Cond.methodLink RL 190 Lib.Math.min.name ∈ wsL_law := List.mem_of_getElem? (i := 411) (by decide +kernel)
set_option maxRecDepth 20000 in
theorem mW_412 : Cond.constantDouble RL 203 (4627730092099895296) ∈ wsL_law := List.mem_of_getElem? (i := 412) (by decide +kernel)
set_option maxRecDepth 20000 in
theorem mW_827 : Cond.constantFloat RL 261 (1103626240) ∈ wsL_law := List.mem_of_getElem? (i := 827) (by decide +kernel)
