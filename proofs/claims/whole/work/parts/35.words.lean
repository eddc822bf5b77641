/-! words of the tables by their places -/
theorem mp_ps {ws : List Cond} (ps : List Nat) (h : ws = ps.filterMap (fun i => lw_tbl[i]?)) : ∀ w ∈ ws, w ∈ lw_tbl := by
  intro w hw
  rw [h] at hw
  obtain ⟨i, -, hi⟩ := List.mem_filterMap.mp hw
  exact List.mem_of_getElem? hi
theorem mp_a {A B : List Cond} (h1 : ∀ w ∈ A, w ∈ lw_tbl) (h2 : ∀ w ∈ B, w ∈ lw_tbl) : ∀ w ∈ A ++ B, w ∈ lw_tbl := fun w h => (List.mem_append.mp h).elim (h1 w) (h2 w)
theorem mp_c {A : List Cond} {x : Cond} (i : Nat) (h : lw_tbl[i]? = some x) (h2 : ∀ w ∈ A, w ∈ lw_tbl) : ∀ w ∈ x :: A, w ∈ lw_tbl := fun w hw => (List.mem_cons.mp hw).elim (fun e => e ▸ List.mem_of_getElem? h) (h2 w)
theorem st_vx158 : ∀ w ∈ (vx_atS RX3 158 "java/lang/IndexOutOfBoundsException" ["java/lang/RuntimeException", "java/lang/Exception"]).filter goodWord, w ∈ lw_tbl := by decide +kernel
theorem st_vx57 : ∀ w ∈ (vx_atS RX3 57 "java/lang/IllegalStateException" ["java/lang/RuntimeException", "java/lang/Exception"]).filter goodWord, w ∈ lw_tbl := by decide +kernel
theorem st_vx88 : ∀ w ∈ (vx_atS RX3 88 "java/lang/IllegalArgumentException" ["java/lang/RuntimeException", "java/lang/Exception"]).filter goodWord, w ∈ lw_tbl := by decide +kernel
set_option maxRecDepth 100000 in
theorem lin_X3_put : ∀ w ∈ wsX3_put, w ∈ lw_tbl := mp_c 159 rfl (mp_a (mp_a (mp_a (mp_a (mp_a (mp_a (mp_a (mp_ps [276, 50, 122, 84, 310, 160, 161, 40, 162, 163, 47, 231, 233, 1, 234, 121, 126, 235, 236, 237, 42, 238, 69, 327] rfl) (mp_a (mp_ps [331, 308, 314, 316, 239, 241, 2, 242, 83, 85, 86, 88, 89, 90, 91, 93, 94, 95, 243, 244, 48, 245, 246, 248] rfl) (mp_a (mp_ps [3, 249, 312, 318, 321, 324, 250, 252, 4, 253, 254, 256, 5, 257, 258, 260, 6, 261, 262, 263, 264, 265, 266, 267] rfl) (mp_a (mp_ps [268, 269, 270, 271, 49, 272, 273, 274, 275, 292, 294, 7, 295, 71, 297, 299, 8, 300, 123, 301, 302, 51, 303, 304] rfl) (mp_a (mp_ps [305, 306, 60, 61, 317, 320, 323, 329, 307, 309, 311, 313, 315, 326, 353, 354, 355, 41, 356, 68, 330, 70, 357, 358] rfl) (mp_ps [359, 360] rfl)))))) st_in3) st_in0) st_in1) st_in2) st_vx57) st_vx158)
set_option maxRecDepth 100000 in
theorem lin_X3_take : ∀ w ∈ wsX3_take, w ∈ lw_tbl := mp_c 367 rfl (mp_a (mp_a (mp_a (mp_a (mp_a (mp_a (mp_a (mp_ps [276, 50, 122, 84, 160, 161, 40, 162, 163, 47, 231, 233, 1, 234, 121, 126, 235, 236, 237, 42, 238, 69, 327, 331] rfl) (mp_a (mp_ps [308, 314, 316, 239, 241, 2, 242, 83, 85, 86, 88, 89, 90, 91, 93, 94, 95, 243, 244, 48, 245, 246, 248, 3] rfl) (mp_a (mp_ps [249, 312, 318, 321, 324, 250, 252, 4, 253, 254, 256, 5, 257, 258, 260, 6, 261, 262, 263, 264, 265, 266, 267, 268] rfl) (mp_a (mp_ps [269, 270, 271, 49, 272, 273, 274, 275, 292, 294, 7, 295, 71, 297, 299, 8, 300, 123, 301, 302, 51, 303, 304, 305] rfl) (mp_a (mp_ps [306, 60, 61, 317, 320, 323, 329, 307, 309, 311, 313, 315, 326, 353, 354, 355, 41, 356, 68, 330, 70, 357, 358, 359] rfl) (mp_ps [360] rfl)))))) st_in3) st_in0) st_in2) st_in1) st_vx57) st_vx158)
set_option maxRecDepth 100000 in
theorem lin_X3_where : ∀ w ∈ wsX3_where, w ∈ lw_tbl := mp_c 375 rfl (mp_a (mp_a (mp_a (mp_a (mp_a (mp_a (mp_ps [122, 84, 160, 161, 40, 162, 163, 47, 231, 233, 1, 234, 121, 126, 235, 236, 237, 42, 238, 69, 327, 331, 308, 314] rfl) (mp_a (mp_ps [316, 239, 241, 2, 242, 83, 85, 86, 88, 89, 90, 91, 93, 94, 95, 243, 244, 48, 245, 246, 248, 3, 249, 312] rfl) (mp_a (mp_ps [318, 321, 324, 250, 252, 4, 253, 254, 256, 5, 257, 258, 260, 6, 261, 262, 263, 264, 265, 266, 267, 268, 269, 270] rfl) (mp_ps [271, 49, 272, 273, 274, 275] rfl)))) st_in3) st_in0) st_in2) st_in1) st_vx158)
set_option maxRecDepth 100000 in
theorem lin_X3_whereByAll : ∀ w ∈ wsX3_whereByAll, w ∈ lw_tbl := mp_c 382 rfl (mp_a (mp_a (mp_a (mp_a (mp_a (mp_a (mp_ps [122, 84, 160, 161, 40, 162, 163, 47, 383, 385, 9, 386, 121, 126, 235, 236, 237, 42, 238, 69, 327, 331, 308, 314] rfl) (mp_a (mp_ps [316, 239, 241, 2, 242, 83, 85, 86, 88, 89, 90, 91, 93, 94, 95, 243, 244, 48, 245, 246, 248, 3, 249, 312] rfl) (mp_a (mp_ps [318, 321, 324, 250, 252, 4, 253, 254, 256, 5, 257, 258, 260, 6, 261, 262, 263, 264, 265, 266, 267, 268, 269, 270] rfl) (mp_ps [271, 49, 272, 273, 274, 275] rfl)))) st_in3) st_in0) st_in2) st_in1) st_vx158)
set_option maxRecDepth 100000 in
theorem lin_X3_count : ∀ w ∈ wsX3_count, w ∈ lw_tbl := mp_c 393 rfl (mp_a (mp_a (mp_a (mp_a (mp_a (mp_a (mp_ps [122, 160, 161, 40, 162, 163, 47, 231, 233, 1, 234, 121, 126, 235, 236, 237, 42, 238, 69, 327, 331, 308, 314, 316] rfl) (mp_a (mp_ps [239, 241, 2, 242, 83, 85, 86, 88, 89, 90, 91, 93, 94, 95, 243, 244, 48, 245, 246, 248, 3, 249, 312, 318] rfl) (mp_a (mp_ps [321, 324, 250, 252, 4, 253, 254, 256, 5, 257, 258, 260, 6, 261, 262, 263, 264, 265, 266, 267, 268, 269, 270, 271] rfl) (mp_ps [49, 272, 273, 274, 275, 394, 395, 396, 397] rfl)))) st_in3) st_in2) st_in1) st_in0) st_vx158)
set_option maxRecDepth 100000 in
theorem lin_X3_countByAll : ∀ w ∈ wsX3_countByAll, w ∈ lw_tbl := mp_c 404 rfl (mp_a (mp_a (mp_a (mp_a (mp_a (mp_a (mp_ps [122, 160, 161, 40, 162, 163, 47, 383, 385, 9, 386, 121, 126, 235, 236, 237, 42, 238, 69, 327, 331, 308, 314, 316] rfl) (mp_a (mp_ps [239, 241, 2, 242, 83, 85, 86, 88, 89, 90, 91, 93, 94, 95, 243, 244, 48, 245, 246, 248, 3, 249, 312, 318] rfl) (mp_a (mp_ps [321, 324, 250, 252, 4, 253, 254, 256, 5, 257, 258, 260, 6, 261, 262, 263, 264, 265, 266, 267, 268, 269, 270, 271] rfl) (mp_ps [49, 272, 273, 274, 275, 394, 395, 396, 397] rfl)))) st_in3) st_in2) st_in1) st_in0) st_vx158)
set_option maxRecDepth 100000 in
theorem lin_X3_claims : ∀ w ∈ wsX3_claims, w ∈ lw_tbl := mp_c 411 rfl (mp_a (mp_a (mp_a (mp_a (mp_a (mp_a (mp_ps [122, 160, 161, 40, 162, 163, 47, 231, 233, 1, 234, 121, 126, 235, 236, 237, 42, 238, 69, 327, 331, 308, 314, 316] rfl) (mp_a (mp_ps [239, 241, 2, 242, 83, 85, 86, 88, 89, 90, 91, 93, 94, 95, 243, 244, 48, 245, 246, 248, 3, 249, 312, 318] rfl) (mp_a (mp_ps [321, 324, 250, 252, 4, 253, 254, 256, 5, 257, 258, 260, 6, 261, 262, 263, 264, 265, 266, 267, 268, 269, 270, 271] rfl) (mp_ps [49, 272, 273, 274, 275, 412, 413, 414, 415] rfl)))) st_in3) st_in2) st_in1) st_in0) st_vx158)
set_option maxRecDepth 100000 in
theorem lin_X3_meet : ∀ w ∈ wsX3_meet, w ∈ lw_tbl := mp_c 423 rfl (mp_a (mp_a (mp_a (mp_a (mp_a (mp_ps [424, 52, 123, 440, 441, 53, 442, 121, 160, 161, 40, 162, 163, 47, 443, 444, 445, 41, 446, 68, 328, 330] rfl) st_in3) st_in2) st_in1) st_vx88) st_vx158)
set_option maxRecDepth 100000 in
theorem lin_X3_known : ∀ w ∈ wsX3_known, w ∈ lw_tbl := mp_c 453 rfl (mp_a (mp_a (mp_a (mp_a (mp_ps [121, 160, 161, 40, 162, 163, 47, 454, 455, 456, 41, 457, 68, 328, 330] rfl) st_in3) st_in2) st_in1) st_vx158)
set_option maxRecDepth 100000 in
theorem lin_X3_clock : ∀ w ∈ wsX3_clock, w ∈ lw_tbl := mp_c 464 rfl (mp_a (mp_a (mp_ps [123, 160, 161, 40, 162, 163, 47] rfl) st_in3) st_vx158)
set_option maxRecDepth 100000 in
theorem lin_X3_guest : ∀ w ∈ wsX3_guest, w ∈ lw_tbl := mp_c 471 rfl (mp_a (mp_a (mp_a (mp_a (mp_a (mp_a (mp_a (mp_ps [319, 322, 325, 310, 160, 161, 40, 162, 163, 47, 472, 473, 474, 424, 52, 292, 294, 7, 295, 276, 50, 121, 71, 297] rfl) (mp_a (mp_ps [299, 8, 300, 123, 301, 302, 51, 303, 304, 305, 306, 60, 61, 317, 320, 323, 329, 307, 309, 311, 313, 315, 326, 353] rfl) (mp_ps [354, 355, 41, 356, 68, 330, 70, 357, 358, 359, 360] rfl))) st_in1) st_in3) st_in2) st_vx158) st_vx88) st_vx57)
set_option maxRecDepth 100000 in
theorem lin_X3_guests : ∀ w ∈ wsX3_guests, w ∈ lw_tbl := mp_c 482 rfl (mp_a (mp_a (mp_a (mp_a (mp_a (mp_a (mp_a (mp_ps [122, 160, 161, 40, 162, 163, 47, 472, 473, 474, 424, 52, 231, 233, 1, 234, 121, 126, 235, 236, 237, 42, 238, 69] rfl) (mp_a (mp_ps [327, 331, 308, 314, 316, 239, 241, 2, 242, 83, 85, 86, 88, 89, 90, 91, 93, 94, 95, 243, 244, 48, 245, 246] rfl) (mp_a (mp_ps [248, 3, 249, 312, 318, 321, 324, 250, 252, 4, 253, 254, 256, 5, 257, 258, 260, 6, 261, 262, 263, 264, 265, 266] rfl) (mp_ps [267, 268, 269, 270, 271, 49, 272, 273, 274, 275, 483] rfl)))) st_in3) st_in2) st_in1) st_in0) st_vx158) st_vx88)
set_option maxRecDepth 100000 in
theorem lin_X3_setNeed : ∀ w ∈ wsX3_setNeed, w ∈ lw_tbl := mp_c 490 rfl (mp_a (mp_a (mp_a (mp_ps [124, 160, 161, 40, 162, 163, 47, 472, 473, 474, 424, 52] rfl) st_in3) st_vx158) st_vx88)
set_option maxRecDepth 100000 in
theorem lin_X3_plan : ∀ w ∈ wsX3_plan, w ∈ lw_tbl := mp_c 497 rfl (mp_a (mp_a (mp_a (mp_a (mp_a (mp_a (mp_a (mp_a (mp_ps [276, 50, 127, 125, 126, 160, 161, 40, 162, 163, 47, 472, 473, 474, 424, 52, 231, 233, 1, 234, 122, 121, 235, 236] rfl) (mp_a (mp_ps [237, 42, 238, 69, 327, 331, 308, 314, 316, 239, 241, 2, 242, 83, 85, 86, 88, 89, 90, 91, 93, 94, 95, 243] rfl) (mp_a (mp_ps [244, 48, 245, 246, 248, 3, 249, 312, 318, 321, 324, 250, 252, 4, 253, 254, 256, 5, 257, 258, 260, 6, 261, 262] rfl) (mp_a (mp_ps [263, 264, 265, 266, 267, 268, 269, 270, 271, 49, 272, 273, 274, 275, 498, 500, 10, 501, 124, 502, 503, 504, 505, 292] rfl) (mp_a (mp_ps [294, 7, 295, 71, 297, 299, 8, 300, 123, 301, 302, 51, 303, 304, 305, 306, 60, 61, 317, 320, 323, 329, 307, 309] rfl) (mp_ps [311, 313, 315, 326, 353, 354, 355, 41, 356, 68, 330, 70, 357, 358, 359, 360] rfl)))))) st_in3) st_in2) st_in1) st_in0) st_vx57) st_vx158) st_vx88)
set_option maxRecDepth 100000 in
theorem lin_X3_keep : ∀ w ∈ wsX3_keep, w ∈ lw_tbl := mp_c 514 rfl (mp_a (mp_a (mp_a (mp_a (mp_a (mp_a (mp_a (mp_ps [127, 160, 161, 40, 162, 163, 47, 231, 233, 1, 234, 122, 121, 126, 235, 236, 237, 42, 238, 69, 327, 331, 308, 314] rfl) (mp_a (mp_ps [316, 239, 241, 2, 242, 83, 85, 86, 88, 89, 90, 91, 93, 94, 95, 243, 244, 48, 245, 246, 248, 3, 249, 312] rfl) (mp_a (mp_ps [318, 321, 324, 250, 252, 4, 253, 254, 256, 5, 257, 258, 260, 6, 261, 262, 263, 264, 265, 266, 267, 268, 269, 270] rfl) (mp_a (mp_ps [271, 49, 272, 273, 274, 275, 515, 517, 11, 518, 276, 50, 92, 520, 522, 12, 523, 540, 541, 53, 542, 524, 526, 13] rfl) (mp_a (mp_ps [527, 124, 125, 440, 441, 442, 528, 529, 530, 531, 532, 533, 534, 535, 536, 537, 538, 539, 292, 294, 7, 295, 71, 543] rfl) (mp_a (mp_ps [545, 14, 546, 547, 297, 299, 8, 300, 123, 301, 302, 51, 303, 304, 305, 306, 60, 61, 317, 320, 323, 329, 307, 309] rfl) (mp_ps [311, 313, 315, 326, 353, 354, 355, 41, 356, 68, 330, 70, 357, 358, 359, 360] rfl))))))) st_in3) st_in2) st_in1) st_in0) st_vx158) st_vx57)
set_option maxRecDepth 100000 in
theorem lin_X3_drop : ∀ w ∈ wsX3_drop, w ∈ lw_tbl := mp_c 554 rfl (mp_a (mp_a (mp_a (mp_a (mp_a (mp_a (mp_a (mp_ps [127, 160, 161, 40, 162, 163, 47, 231, 233, 1, 234, 122, 121, 126, 235, 236, 237, 42, 238, 69, 327, 331, 308, 314] rfl) (mp_a (mp_ps [316, 239, 241, 2, 242, 83, 85, 86, 88, 89, 90, 91, 93, 94, 95, 243, 244, 48, 245, 246, 248, 3, 249, 312] rfl) (mp_a (mp_ps [318, 321, 324, 250, 252, 4, 253, 254, 256, 5, 257, 258, 260, 6, 261, 262, 263, 264, 265, 266, 267, 268, 269, 270] rfl) (mp_a (mp_ps [271, 49, 272, 273, 274, 275, 515, 517, 11, 518, 276, 50, 92, 292, 294, 7, 295, 71, 297, 299, 8, 300, 123, 301] rfl) (mp_a (mp_ps [302, 51, 303, 304, 305, 306, 60, 61, 317, 320, 323, 329, 307, 309, 311, 313, 315, 326, 353, 354, 355, 41, 356, 68] rfl) (mp_ps [330, 70, 357, 358, 359, 360, 555, 557, 15, 558, 528, 529, 530, 531] rfl)))))) st_in3) st_in2) st_in1) st_in0) st_vx158) st_vx57)
set_option maxRecDepth 100000 in
theorem lin_X3_bake : ∀ w ∈ wsX3_bake, w ∈ lw_tbl := mp_c 565 rfl (mp_a (mp_a (mp_a (mp_a (mp_a (mp_a (mp_a (mp_ps [276, 50, 127, 122, 87, 160, 161, 40, 162, 163, 47, 231, 233, 1, 234, 121, 126, 235, 236, 237, 42, 238, 69, 327] rfl) (mp_a (mp_ps [331, 308, 314, 316, 239, 241, 2, 242, 83, 85, 86, 88, 89, 90, 91, 93, 94, 95, 243, 244, 48, 245, 246, 248] rfl) (mp_a (mp_ps [3, 249, 312, 318, 321, 324, 250, 252, 4, 253, 254, 256, 5, 257, 258, 260, 6, 261, 262, 263, 264, 265, 266, 267] rfl) (mp_a (mp_ps [268, 269, 270, 271, 49, 272, 273, 274, 275, 515, 517, 11, 518, 92, 524, 526, 13, 527, 124, 125, 440, 441, 53, 442] rfl) (mp_a (mp_ps [528, 529, 530, 531, 555, 557, 15, 558, 292, 294, 7, 295, 71, 297, 299, 8, 300, 123, 301, 302, 51, 303, 304, 305] rfl) (mp_a (mp_ps [306, 60, 61, 317, 320, 323, 329, 307, 309, 311, 313, 315, 326, 353, 354, 355, 41, 356, 68, 330, 70, 357, 358, 359] rfl) (mp_ps [360] rfl))))))) st_in3) st_in0) st_in2) st_in1) st_vx57) st_vx158)
set_option maxRecDepth 100000 in
theorem lin_X3_cake : ∀ w ∈ wsX3_cake, w ∈ lw_tbl := mp_c 573 rfl (mp_a (mp_a (mp_a (mp_a (mp_a (mp_a (mp_ps [127, 122, 92, 160, 161, 40, 162, 163, 47, 231, 233, 1, 234, 121, 126, 235, 236, 237, 42, 238, 69, 327, 331, 308] rfl) (mp_a (mp_ps [314, 316, 239, 241, 2, 242, 83, 85, 86, 88, 89, 90, 91, 93, 94, 95, 243, 244, 48, 245, 246, 248, 3, 249] rfl) (mp_a (mp_ps [312, 318, 321, 324, 250, 252, 4, 253, 254, 256, 5, 257, 258, 260, 6, 261, 262, 263, 264, 265, 266, 267, 268, 269] rfl) (mp_ps [270, 271, 49, 272, 273, 274, 275] rfl)))) st_in3) st_in0) st_in2) st_in1) st_vx158)
set_option maxRecDepth 100000 in
theorem lin_X3_keptFor : ∀ w ∈ wsX3_keptFor, w ∈ lw_tbl := mp_c 580 rfl (mp_a (mp_a (mp_a (mp_a (mp_a (mp_a (mp_ps [122, 87, 160, 161, 40, 162, 163, 47, 231, 233, 1, 234, 121, 126, 235, 236, 237, 42, 238, 69, 327, 331, 308, 314] rfl) (mp_a (mp_ps [316, 239, 241, 2, 242, 83, 85, 86, 88, 89, 90, 91, 93, 94, 95, 243, 244, 48, 245, 246, 248, 3, 249, 312] rfl) (mp_a (mp_ps [318, 321, 324, 250, 252, 4, 253, 254, 256, 5, 257, 258, 260, 6, 261, 262, 263, 264, 265, 266, 267, 268, 269, 270] rfl) (mp_ps [271, 49, 272, 273, 274, 275] rfl)))) st_in3) st_in0) st_in2) st_in1) st_vx158)
set_option maxRecDepth 100000 in
theorem lin_X3_keptByAll : ∀ w ∈ wsX3_keptByAll, w ∈ lw_tbl := mp_c 587 rfl (mp_a (mp_a (mp_a (mp_a (mp_a (mp_a (mp_ps [122, 87, 160, 161, 40, 162, 163, 47, 383, 385, 9, 386, 121, 126, 235, 236, 237, 42, 238, 69, 327, 331, 308, 314] rfl) (mp_a (mp_ps [316, 239, 241, 2, 242, 83, 85, 86, 88, 89, 90, 91, 93, 94, 95, 243, 244, 48, 245, 246, 248, 3, 249, 312] rfl) (mp_a (mp_ps [318, 321, 324, 250, 252, 4, 253, 254, 256, 5, 257, 258, 260, 6, 261, 262, 263, 264, 265, 266, 267, 268, 269, 270] rfl) (mp_ps [271, 49, 272, 273, 274, 275] rfl)))) st_in3) st_in0) st_in2) st_in1) st_vx158)
set_option maxRecDepth 100000 in
theorem lin_X3_lacks : ∀ w ∈ wsX3_lacks, w ∈ lw_tbl := mp_c 594 rfl (mp_a (mp_a (mp_a (mp_a (mp_a (mp_a (mp_ps [127, 122, 92, 160, 161, 40, 162, 163, 47, 231, 233, 1, 234, 121, 126, 235, 236, 237, 42, 238, 69, 327, 331, 308] rfl) (mp_a (mp_ps [314, 316, 239, 241, 2, 242, 83, 85, 86, 88, 89, 90, 91, 93, 94, 95, 243, 244, 48, 245, 246, 248, 3, 249] rfl) (mp_a (mp_ps [312, 318, 321, 324, 250, 252, 4, 253, 254, 256, 5, 257, 258, 260, 6, 261, 262, 263, 264, 265, 266, 267, 268, 269] rfl) (mp_ps [270, 271, 49, 272, 273, 274, 275, 524, 526, 13, 527, 124, 125, 440, 441, 53, 442, 528, 529, 530, 531] rfl)))) st_in3) st_in0) st_in2) st_in1) st_vx158)
set_option maxRecDepth 100000 in
theorem lin_X3_isUnfit : ∀ w ∈ wsX3_isUnfit, w ∈ lw_tbl := mp_c 601 rfl (mp_a (mp_a (mp_a (mp_a (mp_a (mp_a (mp_ps [127, 122, 92, 125, 126, 160, 161, 40, 162, 163, 47, 231, 233, 1, 234, 121, 235, 236, 237, 42, 238, 69, 327, 331] rfl) (mp_a (mp_ps [308, 314, 316, 239, 241, 2, 242, 83, 85, 86, 88, 89, 90, 91, 93, 94, 95, 243, 244, 48, 245, 246, 248, 3] rfl) (mp_a (mp_ps [249, 312, 318, 321, 324, 250, 252, 4, 253, 254, 256, 5, 257, 258, 260, 6, 261, 262, 263, 264, 265, 266, 267, 268] rfl) (mp_ps [269, 270, 271, 49, 272, 273, 274, 275, 498, 500, 10, 501, 124, 502, 503, 504, 505] rfl)))) st_in3) st_in0) st_in2) st_in1) st_vx158)
set_option maxRecDepth 100000 in
theorem lin_X3_isSpoilt : ∀ w ∈ wsX3_isSpoilt, w ∈ lw_tbl := mp_c 608 rfl (mp_a (mp_a (mp_a (mp_a (mp_a (mp_a (mp_ps [127, 122, 92, 96, 160, 161, 40, 162, 163, 47, 231, 233, 1, 234, 121, 126, 235, 236, 237, 42, 238, 69, 327, 331] rfl) (mp_a (mp_ps [308, 314, 316, 239, 241, 2, 242, 83, 85, 86, 88, 89, 90, 91, 93, 94, 95, 243, 244, 48, 245, 246, 248, 3] rfl) (mp_a (mp_ps [249, 312, 318, 321, 324, 250, 252, 4, 253, 254, 256, 5, 257, 258, 260, 6, 261, 262, 263, 264, 265, 266, 267, 268] rfl) (mp_ps [269, 270, 271, 49, 272, 273, 274, 275] rfl)))) st_in3) st_in0) st_in2) st_in1) st_vx158)
set_option maxRecDepth 100000 in
theorem lin_X3_missing : ∀ w ∈ wsX3_missing, w ∈ lw_tbl := mp_c 615 rfl (mp_a (mp_a (mp_a (mp_a (mp_a (mp_a (mp_ps [127, 122, 92, 124, 125, 440, 441, 53, 442, 160, 161, 40, 162, 163, 47, 231, 233, 1, 234, 121, 126, 235, 236, 237] rfl) (mp_a (mp_ps [42, 238, 69, 327, 331, 308, 314, 316, 239, 241, 2, 242, 83, 85, 86, 88, 89, 90, 91, 93, 94, 95, 243, 244] rfl) (mp_a (mp_ps [48, 245, 246, 248, 3, 249, 312, 318, 321, 324, 250, 252, 4, 253, 254, 256, 5, 257, 258, 260, 6, 261, 262, 263] rfl) (mp_ps [264, 265, 266, 267, 268, 269, 270, 271, 49, 272, 273, 274, 275, 394, 395, 396, 397] rfl)))) st_in3) st_in0) st_in2) st_in1) st_vx158)
set_option maxRecDepth 100000 in
theorem lin_X3_words : ∀ w ∈ wsX3_words, w ∈ lw_tbl := mp_c 146 rfl (mp_a (mp_a (mp_ps [121, 71] rfl) st_in3) st_in2)
set_option maxRecDepth 100000 in
theorem lin_X3_cakes : ∀ w ∈ wsX3_cakes, w ∈ lw_tbl := mp_c 150 rfl (mp_a (mp_ps [127] rfl) st_in3)
set_option maxRecDepth 100000 in
theorem lin_X3_init : ∀ w ∈ wsX3_init, w ∈ lw_tbl := mp_c 58 rfl (mp_a (mp_a (mp_a (mp_a (mp_ps [59, 60, 61, 62, 63, 41, 121, 77, 78, 42, 122, 118, 123, 119, 124, 125, 126, 127, 65, 66, 67, 68, 70, 80] rfl) (mp_ps [81, 82, 83, 85, 86, 88, 89, 90, 91, 93, 94, 95] rfl)) st_in2) st_in3) st_in0)
set_option maxRecDepth 100000 in
theorem lin_put : ∀ w ∈ wvL_put, w ∈ lw_tbl := mp_c 153 rfl (mp_a (mp_ps [154, 155, 156, 157, 158, 40] rfl) lin_X3_put)
set_option maxRecDepth 100000 in
theorem lin_take : ∀ w ∈ wvL_take, w ∈ lw_tbl := mp_c 363 rfl (mp_a (mp_ps [154, 155, 364, 365, 366, 40] rfl) lin_X3_take)
set_option maxRecDepth 100000 in
theorem lin_where : ∀ w ∈ wvL_where, w ∈ lw_tbl := mp_c 371 rfl (mp_a (mp_ps [154, 372, 373, 374, 40] rfl) lin_X3_where)
set_option maxRecDepth 100000 in
theorem lin_whereByAll : ∀ w ∈ wvL_whereByAll, w ∈ lw_tbl := mp_c 378 rfl (mp_a (mp_ps [154, 379, 380, 381, 40] rfl) lin_X3_whereByAll)
set_option maxRecDepth 100000 in
theorem lin_count : ∀ w ∈ wvL_count, w ∈ lw_tbl := mp_c 389 rfl (mp_a (mp_ps [154, 390, 391, 392, 40] rfl) lin_X3_count)
set_option maxRecDepth 100000 in
theorem lin_countByAll : ∀ w ∈ wvL_countByAll, w ∈ lw_tbl := mp_c 400 rfl (mp_a (mp_ps [154, 401, 402, 403, 40] rfl) lin_X3_countByAll)
set_option maxRecDepth 100000 in
theorem lin_claims : ∀ w ∈ wvL_claims, w ∈ lw_tbl := mp_c 407 rfl (mp_a (mp_ps [154, 408, 409, 410, 40] rfl) lin_X3_claims)
set_option maxRecDepth 100000 in
theorem lin_meet : ∀ w ∈ wvL_meet, w ∈ lw_tbl := mp_c 418 rfl (mp_a (mp_ps [154, 419, 420, 421, 422, 40] rfl) lin_X3_meet)
set_option maxRecDepth 100000 in
theorem lin_known : ∀ w ∈ wvL_known, w ∈ lw_tbl := mp_c 449 rfl (mp_a (mp_ps [154, 450, 451, 452, 40] rfl) lin_X3_known)
set_option maxRecDepth 100000 in
theorem lin_clock : ∀ w ∈ wvL_clock, w ∈ lw_tbl := mp_c 460 rfl (mp_a (mp_ps [154, 461, 462, 463, 40] rfl) lin_X3_clock)
set_option maxRecDepth 100000 in
theorem lin_guest : ∀ w ∈ wvL_guest, w ∈ lw_tbl := mp_c 467 rfl (mp_a (mp_ps [154, 419, 155, 468, 469, 470, 40] rfl) lin_X3_guest)
set_option maxRecDepth 100000 in
theorem lin_guests : ∀ w ∈ wvL_guests, w ∈ lw_tbl := mp_c 478 rfl (mp_a (mp_ps [154, 419, 479, 480, 481, 40] rfl) lin_X3_guests)
set_option maxRecDepth 100000 in
theorem lin_setNeed : ∀ w ∈ wvL_setNeed, w ∈ lw_tbl := mp_c 486 rfl (mp_a (mp_ps [154, 419, 487, 488, 489, 40] rfl) lin_X3_setNeed)
set_option maxRecDepth 100000 in
theorem lin_plan : ∀ w ∈ wvL_plan, w ∈ lw_tbl := mp_c 493 rfl (mp_a (mp_ps [154, 419, 155, 494, 495, 496, 40] rfl) lin_X3_plan)
set_option maxRecDepth 100000 in
theorem lin_keep : ∀ w ∈ wvL_keep, w ∈ lw_tbl := mp_c 510 rfl (mp_a (mp_ps [154, 155, 511, 512, 513, 40] rfl) lin_X3_keep)
set_option maxRecDepth 100000 in
theorem lin_drop : ∀ w ∈ wvL_drop, w ∈ lw_tbl := mp_c 550 rfl (mp_a (mp_ps [154, 155, 551, 552, 553, 40] rfl) lin_X3_drop)
set_option maxRecDepth 100000 in
theorem lin_bake : ∀ w ∈ wvL_bake, w ∈ lw_tbl := mp_c 561 rfl (mp_a (mp_ps [154, 155, 562, 563, 564, 40] rfl) lin_X3_bake)
set_option maxRecDepth 100000 in
theorem lin_cake : ∀ w ∈ wvL_cake, w ∈ lw_tbl := mp_c 569 rfl (mp_a (mp_ps [154, 570, 571, 572, 40] rfl) lin_X3_cake)
set_option maxRecDepth 100000 in
theorem lin_keptFor : ∀ w ∈ wvL_keptFor, w ∈ lw_tbl := mp_c 576 rfl (mp_a (mp_ps [154, 577, 578, 579, 40] rfl) lin_X3_keptFor)
set_option maxRecDepth 100000 in
theorem lin_keptByAll : ∀ w ∈ wvL_keptByAll, w ∈ lw_tbl := mp_c 583 rfl (mp_a (mp_ps [154, 584, 585, 586, 40] rfl) lin_X3_keptByAll)
set_option maxRecDepth 100000 in
theorem lin_lacks : ∀ w ∈ wvL_lacks, w ∈ lw_tbl := mp_c 590 rfl (mp_a (mp_ps [154, 591, 592, 593, 40] rfl) lin_X3_lacks)
set_option maxRecDepth 100000 in
theorem lin_isUnfit : ∀ w ∈ wvL_isUnfit, w ∈ lw_tbl := mp_c 597 rfl (mp_a (mp_ps [154, 598, 599, 600, 40] rfl) lin_X3_isUnfit)
set_option maxRecDepth 100000 in
theorem lin_isSpoilt : ∀ w ∈ wvL_isSpoilt, w ∈ lw_tbl := mp_c 604 rfl (mp_a (mp_ps [154, 605, 606, 607, 40] rfl) lin_X3_isSpoilt)
set_option maxRecDepth 100000 in
theorem lin_missing : ∀ w ∈ wvL_missing, w ∈ lw_tbl := mp_c 611 rfl (mp_a (mp_ps [154, 612, 613, 614, 40] rfl) lin_X3_missing)
set_option maxRecDepth 100000 in
theorem lin_X4_put : ∀ w ∈ wsX4_put, w ∈ lw_tbl := mp_c 688 rfl (mp_a (mp_a (mp_ps [638, 689, 691, 16, 43, 692, 693, 694, 695, 696, 697, 698, 699, 700, 701, 702, 704, 17, 705, 623, 624, 706, 708, 18] rfl) (mp_a (mp_ps [709, 622, 710, 712, 19, 713, 631, 714, 716, 20, 717, 626, 718, 720, 21, 721, 625, 722, 724, 22, 725, 726, 728, 23] rfl) (mp_ps [729, 632, 627] rfl))) st_in4)
set_option maxRecDepth 100000 in
theorem lin_X4_take : ∀ w ∈ wsX4_take, w ∈ lw_tbl := mp_c 733 rfl (mp_a (mp_a (mp_ps [638, 689, 691, 16, 43, 692, 693, 694, 695, 696, 697, 698, 699, 700, 701, 702, 704, 17, 705, 623, 624, 706, 708, 18] rfl) (mp_a (mp_ps [709, 622, 710, 712, 19, 713, 631, 714, 716, 20, 717, 626, 718, 720, 21, 721, 625, 722, 724, 22, 725, 726, 728, 23] rfl) (mp_ps [729, 632, 627] rfl))) st_in4)
set_option maxRecDepth 100000 in
theorem lin_X4_where : ∀ w ∈ wsX4_where, w ∈ lw_tbl := mp_c 737 rfl (mp_a (mp_a (mp_ps [689, 691, 16, 43, 692, 638, 693, 694, 695, 696, 697, 698, 699, 700, 701, 702, 704, 17, 705, 623, 624, 706, 708, 18] rfl) (mp_ps [709, 622, 710, 712, 19, 713, 631, 714, 716, 20, 717, 626, 718, 720, 21, 721, 625] rfl)) st_in4)
set_option maxRecDepth 100000 in
theorem lin_X4_whereByAll : ∀ w ∈ wsX4_whereByAll, w ∈ lw_tbl := mp_c 741 rfl (mp_a (mp_a (mp_ps [638, 699, 700, 43, 701, 696, 697, 698, 702, 704, 17, 705, 623, 624, 706, 708, 18, 709, 622, 710, 712, 19, 713, 631] rfl) (mp_ps [714, 716, 20, 717, 626, 718, 720, 21, 721, 625] rfl)) st_in4)
set_option maxRecDepth 100000 in
theorem lin_X4_count : ∀ w ∈ wsX4_count, w ∈ lw_tbl := mp_c 745 rfl (mp_a (mp_a (mp_ps [638, 693, 694, 43, 695, 696, 697, 698, 746, 747, 748, 749, 751, 24, 752, 702, 704, 17, 705, 623, 624, 706, 708, 18] rfl) (mp_ps [709, 622, 710, 712, 19, 713, 631, 714, 716, 20, 717, 626, 718, 720, 21, 721, 625] rfl)) st_in4)
set_option maxRecDepth 100000 in
theorem lin_X4_countByAll : ∀ w ∈ wsX4_countByAll, w ∈ lw_tbl := mp_c 756 rfl (mp_a (mp_a (mp_ps [638, 746, 747, 43, 748, 696, 697, 698, 749, 751, 24, 752, 702, 704, 17, 705, 623, 624, 706, 708, 18, 709, 622, 710] rfl) (mp_ps [712, 19, 713, 631, 714, 716, 20, 717, 626, 718, 720, 21, 721, 625] rfl)) st_in4)
set_option maxRecDepth 100000 in
theorem lin_X4_claims : ∀ w ∈ wsX4_claims, w ∈ lw_tbl := mp_c 760 rfl (mp_a (mp_a (mp_ps [623, 689, 691, 16, 43, 692, 638, 693, 694, 695, 696, 697, 698, 699, 700, 701, 702, 704, 17, 705, 624, 706, 708, 18] rfl) (mp_ps [709, 622, 710, 712, 19, 713, 631, 714, 716, 20, 717, 626, 718, 720, 21, 721, 625] rfl)) st_in4)
set_option maxRecDepth 100000 in
theorem lin_X4_meet : ∀ w ∈ wsX4_meet, w ∈ lw_tbl := mp_c 764 rfl (mp_a (mp_ps [638, 622, 631, 632, 693, 694, 43, 695, 696, 697, 698, 710, 712, 19, 713] rfl) st_in4)
set_option maxRecDepth 100000 in
theorem lin_X4_known : ∀ w ∈ wsX4_known, w ∈ lw_tbl := mp_c 772 rfl (mp_a (mp_ps [638, 622, 693, 694, 43, 695, 696, 697, 698, 710, 712, 19, 713, 631] rfl) st_in4)
set_option maxRecDepth 100000 in
theorem lin_X4_clock : ∀ w ∈ wsX4_clock, w ∈ lw_tbl := mp_c 776 rfl (mp_a (mp_ps [638, 632, 693, 694, 43, 695, 696, 697, 698] rfl) st_in4)
set_option maxRecDepth 100000 in
theorem lin_X4_guest : ∀ w ∈ wsX4_guest, w ∈ lw_tbl := mp_c 780 rfl (mp_a (mp_a (mp_ps [638, 628, 622, 629, 630, 693, 694, 43, 695, 696, 697, 698, 722, 724, 22, 725, 726, 728, 23, 729, 632, 623, 624, 625] rfl) (mp_ps [626, 627, 631] rfl)) st_in4)
set_option maxRecDepth 100000 in
theorem lin_X4_guests : ∀ w ∈ wsX4_guests, w ∈ lw_tbl := mp_c 784 rfl (mp_a (mp_a (mp_ps [638, 693, 694, 43, 695, 696, 697, 698, 785, 787, 25, 788, 622, 623, 626, 628, 629, 710, 712, 19, 713, 631, 718, 720] rfl) (mp_ps [21, 721, 625, 624] rfl)) st_in4)
set_option maxRecDepth 100000 in
theorem lin_X4_setNeed : ∀ w ∈ wsX4_setNeed, w ∈ lw_tbl := mp_c 792 rfl (mp_a (mp_ps [638, 633, 696, 697, 43, 698, 746, 747, 748] rfl) st_in4)
set_option maxRecDepth 100000 in
theorem lin_X4_plan : ∀ w ∈ wsX4_plan, w ∈ lw_tbl := mp_c 796 rfl (mp_a (mp_a (mp_ps [638, 634, 635, 636, 637, 622, 693, 694, 43, 695, 696, 697, 698, 797, 799, 26, 800, 633, 630, 785, 787, 25, 788, 623] rfl) (mp_ps [626, 628, 629, 710, 712, 19, 713, 631, 718, 720, 21, 721, 625, 624, 722, 724, 22, 725, 726, 728, 23, 729, 632, 627] rfl)) st_in4)
set_option maxRecDepth 100000 in
theorem lin_X4_keep : ∀ w ∈ wsX4_keep, w ∈ lw_tbl := mp_c 804 rfl (mp_a (mp_a (mp_ps [640, 638, 639, 805, 807, 27, 43, 808, 809, 811, 28, 812, 693, 694, 695, 696, 697, 698, 813, 815, 29, 816, 634, 817] rfl) (mp_a (mp_ps [819, 30, 820, 637, 622, 626, 623, 710, 712, 19, 713, 631, 821, 823, 31, 824, 825, 827, 32, 828, 633, 635, 829, 831] rfl) (mp_a (mp_ps [33, 832, 833, 835, 34, 836, 627, 702, 704, 17, 705, 624, 706, 708, 18, 709, 714, 716, 20, 717, 718, 720, 21, 721] rfl) (mp_a (mp_ps [625, 837, 839, 35, 840, 636, 841, 843, 36, 844, 785, 787, 25, 788, 628, 629, 722, 724, 22, 725, 726, 728, 23, 729] rfl) (mp_ps [632] rfl))))) st_in4)
set_option maxRecDepth 100000 in
theorem lin_X4_drop : ∀ w ∈ wsX4_drop, w ∈ lw_tbl := mp_c 848 rfl (mp_a (mp_a (mp_ps [638, 640, 805, 807, 27, 43, 808, 809, 811, 28, 812, 693, 694, 695, 696, 697, 698, 813, 815, 29, 816, 634, 817, 819] rfl) (mp_a (mp_ps [30, 820, 637, 622, 626, 623, 710, 712, 19, 713, 631, 849, 851, 37, 852, 639, 833, 835, 34, 836, 627, 702, 704, 17] rfl) (mp_a (mp_ps [705, 624, 706, 708, 18, 709, 714, 716, 20, 717, 718, 720, 21, 721, 625, 837, 839, 35, 840, 636, 841, 843, 36, 844] rfl) (mp_ps [785, 787, 25, 788, 628, 629, 722, 724, 22, 725, 726, 728, 23, 729, 632] rfl)))) st_in4)
set_option maxRecDepth 100000 in
theorem lin_X4_bake : ∀ w ∈ wsX4_bake, w ∈ lw_tbl := mp_c 856 rfl (mp_a (mp_a (mp_ps [640, 638, 639, 805, 807, 27, 43, 808, 809, 811, 28, 812, 693, 694, 695, 696, 697, 698, 813, 815, 29, 816, 634, 817] rfl) (mp_a (mp_ps [819, 30, 820, 637, 622, 626, 623, 710, 712, 19, 713, 631, 825, 827, 32, 828, 633, 635, 829, 831, 33, 832, 833, 835] rfl) (mp_a (mp_ps [34, 836, 627, 702, 704, 17, 705, 624, 706, 708, 18, 709, 714, 716, 20, 717, 718, 720, 21, 721, 625, 837, 839, 35] rfl) (mp_a (mp_ps [840, 636, 841, 843, 36, 844, 785, 787, 25, 788, 628, 629, 849, 851, 37, 852, 722, 724, 22, 725, 726, 728, 23, 729] rfl) (mp_ps [632] rfl))))) st_in4)
set_option maxRecDepth 100000 in
theorem lin_X4_cake : ∀ w ∈ wsX4_cake, w ∈ lw_tbl := mp_c 864 rfl (mp_a (mp_a (mp_ps [809, 811, 28, 43, 812, 638, 693, 694, 695, 696, 697, 698, 813, 815, 29, 816, 634, 817, 819, 30, 820, 637, 622, 626] rfl) (mp_ps [623, 710, 712, 19, 713, 631] rfl)) st_in4)
set_option maxRecDepth 100000 in
theorem lin_X4_keptFor : ∀ w ∈ wsX4_keptFor, w ∈ lw_tbl := mp_c 868 rfl (mp_a (mp_a (mp_ps [689, 691, 16, 43, 692, 638, 693, 694, 695, 696, 697, 698, 699, 700, 701, 833, 835, 34, 836, 622, 623, 626, 627, 702] rfl) (mp_a (mp_ps [704, 17, 705, 624, 706, 708, 18, 709, 710, 712, 19, 713, 631, 714, 716, 20, 717, 718, 720, 21, 721, 625, 817, 819] rfl) (mp_ps [30, 820, 637, 837, 839, 35, 840, 636, 841, 843, 36, 844, 785, 787, 25, 788, 628, 629] rfl))) st_in4)
set_option maxRecDepth 100000 in
theorem lin_X4_keptByAll : ∀ w ∈ wsX4_keptByAll, w ∈ lw_tbl := mp_c 872 rfl (mp_a (mp_a (mp_ps [638, 699, 700, 43, 701, 696, 697, 698, 833, 835, 34, 836, 622, 623, 626, 627, 702, 704, 17, 705, 624, 706, 708, 18] rfl) (mp_a (mp_ps [709, 710, 712, 19, 713, 631, 714, 716, 20, 717, 718, 720, 21, 721, 625, 817, 819, 30, 820, 637, 837, 839, 35, 840] rfl) (mp_ps [636, 841, 843, 36, 844, 785, 787, 25, 788, 628, 629] rfl))) st_in4)
set_option maxRecDepth 100000 in
theorem lin_X4_lacks : ∀ w ∈ wsX4_lacks, w ∈ lw_tbl := mp_c 876 rfl (mp_a (mp_a (mp_ps [638, 693, 694, 43, 695, 696, 697, 698, 813, 815, 29, 816, 634, 746, 747, 748, 817, 819, 30, 820, 637, 622, 626, 623] rfl) (mp_a (mp_ps [710, 712, 19, 713, 631, 825, 827, 32, 828, 633, 635, 829, 831, 33, 832, 833, 835, 34, 836, 627, 702, 704, 17, 705] rfl) (mp_a (mp_ps [624, 706, 708, 18, 709, 714, 716, 20, 717, 718, 720, 21, 721, 625, 837, 839, 35, 840, 636, 841, 843, 36, 844, 785] rfl) (mp_ps [787, 25, 788, 628, 629] rfl)))) st_in4)
set_option maxRecDepth 100000 in
theorem lin_X4_isUnfit : ∀ w ∈ wsX4_isUnfit, w ∈ lw_tbl := mp_c 880 rfl (mp_a (mp_a (mp_ps [635, 636, 809, 811, 28, 43, 812, 638, 693, 694, 695, 696, 697, 698, 813, 815, 29, 816, 634, 817, 819, 30, 820, 637] rfl) (mp_a (mp_ps [622, 626, 623, 710, 712, 19, 713, 631, 797, 799, 26, 800, 633, 630, 785, 787, 25, 788, 628, 629, 718, 720, 21, 721] rfl) (mp_ps [625, 624] rfl))) st_in4)
set_option maxRecDepth 100000 in
theorem lin_X4_isSpoilt : ∀ w ∈ wsX4_isSpoilt, w ∈ lw_tbl := mp_c 884 rfl (mp_a (mp_a (mp_ps [622, 623, 627, 809, 811, 28, 43, 812, 638, 693, 694, 695, 696, 697, 698, 813, 815, 29, 816, 634, 817, 819, 30, 820] rfl) (mp_ps [637, 626, 710, 712, 19, 713, 631, 885, 887, 38, 888, 714, 716, 20, 717, 718, 720, 21, 721, 625, 624] rfl)) st_in4)
set_option maxRecDepth 100000 in
theorem lin_X4_missing : ∀ w ∈ wsX4_missing, w ∈ lw_tbl := mp_c 892 rfl (mp_a (mp_a (mp_ps [638, 634, 633, 635, 693, 694, 43, 695, 696, 697, 698, 746, 747, 748, 817, 819, 30, 820, 637, 622, 626, 623, 710, 712] rfl) (mp_a (mp_ps [19, 713, 631, 749, 751, 24, 752, 702, 704, 17, 705, 624, 706, 708, 18, 709, 714, 716, 20, 717, 718, 720, 21, 721] rfl) (mp_ps [625] rfl))) st_in4)
set_option maxRecDepth 100000 in
theorem lin_X4_words : ∀ w ∈ wsX4_words, w ∈ lw_tbl := mp_c 768 rfl (mp_a (mp_ps [638, 622] rfl) st_in4)
set_option maxRecDepth 100000 in
theorem lin_X4_cakes : ∀ w ∈ wsX4_cakes, w ∈ lw_tbl := mp_c 860 rfl (mp_a (mp_ps [638, 634] rfl) st_in4)
set_option maxRecDepth 100000 in
theorem lin_X4_thrown : ∀ w ∈ wsX4_thrown, w ∈ lw_tbl := mp_c 684 rfl (mp_a (mp_ps [638] rfl) st_in4)
set_option maxRecDepth 100000 in
theorem lin_X4_init : ∀ w ∈ wsX4_init, w ∈ lw_tbl := mp_c 620 rfl (mp_a (mp_ps [621, 60, 61, 118, 623, 624, 625, 626, 627, 628, 629, 630, 680, 631, 632, 633, 635, 636, 637, 639, 622] rfl) st_in4)
