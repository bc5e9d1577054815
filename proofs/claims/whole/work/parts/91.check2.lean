/-! what is checked of the methods, by the kernel -/
set_option maxRecDepth 100000 in
theorem zk_X5_perform : z_okm zP zTH zm_X5_perform [] [[], [417], [286], [], [], [478, 84, 475, 476, 477], [], [], [419], [], [372], [], [], [], [], [482, 84, 479, 480, 481], [486, 80, 483, 484, 485], [], [], [], [369], [], [], [], [419], [], [372], [], [422], [], [], [490, 80, 487, 488, 489], [], [], [], [], [369], [], [], [], [422], [], [], [490, 80, 487, 488, 489], [], [], [], [], [369], [], [], [], [], [428], []] = true := by decide +kernel
set_option maxRecDepth 100000 in
theorem zk_X5_sameAs : z_okm zP zTH zm_X5_sameAs [] [[], [417], [], [417], [], [], [426], [], [426], [], [], [419], [], [419], [694, 85, 693, 692], [], [], [422], [], [422], [694, 85, 693, 692], [], [], [], [], []] = true := by decide +kernel
set_option maxRecDepth 100000 in
theorem zk_X5_sameNumbers : z_okm zP zTH zm_X5_sameNumbers [] [[], [], [], [], [], [], [], [], [], [], [], [], [], [], [], [], [], [], [], [], [], [], [], [], [], [], []] = true := by decide +kernel
set_option maxRecDepth 100000 in
theorem zk_X6_init : z_okm zP zTH zm_X6_init [] [[], [], [221, 79, 220, 575], [], [], [611], [587], [], [], [611], [588], [], [], [578], [], [576, 412, 85], [], [], [415, 85, 414, 577], [579], [], [576, 412, 85], [], [], [415, 85, 414, 577], [580], []] = true := by decide +kernel
set_option maxRecDepth 100000 in
theorem zk_X6_uses : z_okm zP zTH zm_X6_uses [] [[], [], [578], [], [], [], [580], [418], [], [], [], [], []] = true := by decide +kernel
set_option maxRecDepth 100000 in
theorem zk_X6_tick : z_okm zP zTH zm_X6_tick [] [[], [], [582], [], [], [582], [], [579], [465, 85, 629, 463, 464], [], [], [], [], [582], [], [], [633, 88, 630, 632, 14], [], [], [], [649, 88, 646, 648, 15], [], [580], [425], [], [579], [425], [], [], [588], [], [580], [425], [], [], [], [], [582], [], [], [580], [461, 85, 655, 459, 460], []] = true := by decide +kernel
set_option maxRecDepth 100000 in
theorem zk_X6_entryOf : z_okm zP zTH zm_X6_entryOf [] [[], [583], [], [], [], [584], [], [], [], [637, 84, 634, 635, 636], [], [], [], [587], [], [377], [], [640, 86, 639, 638], [], [], [644, 84, 641, 642, 643], [], [], [], [587], [], [381], [], [640, 86, 639, 638], [], [], []] = true := by decide +kernel
set_option maxRecDepth 100000 in
theorem zk_X6_enter : z_okm zP zTH zm_X6_enter [] [[], [], [585], [], [584], [], [585], [], [], [586], [], [582], [], [583], [], [], [], [], [584], [], [], [586], [], [], [582], [583], [], [], [], [579], [420], [], [377], [], [495, 84, 650, 493, 494], [], [], [578], [530], [], [], [584], [], [654, 84, 651, 652, 653], [], [], [587], [], [373], [], [582], [], [], [], [370], [], [], [], [578], [528], [], [], [578], [526], [], [], [], [588], [], [579], [425], [], [], [], [582], [], [578], [523], [], [], [], [579], [461, 85, 655, 459, 460], []] = true := by decide +kernel
set_option maxRecDepth 100000 in
theorem zk_X6_tally : z_okm zP zTH zm_X6_tally [] [[], [], [], [582], [], [], [579], [425], [], [], [585], [], [], [586], []] = true := by decide +kernel
set_option maxRecDepth 100000 in
theorem zk_X7_init : z_okm zP zTH zm_X7_init [] [[], [222, 100, 101], [], [], [227], []] = true := by decide +kernel
set_option maxRecDepth 100000 in
theorem zk_X8_init : z_okm zP zTH zm_X8_init [] [[], [366, 100, 101], [], [], [367], [], [], [371], [], [], [375], [], [], [379], [], [], [383], []] = true := by decide +kernel
set_option maxRecDepth 100000 in
theorem zk_X8_computes : z_okm zP zTH zm_X8_computes [] [[], [367], [], [], [], [], [], []] = true := by decide +kernel
set_option maxRecDepth 100000 in
theorem zk_X8_writes : z_okm zP zTH zm_X8_writes [] [[], [367], [], [], [], [], [], []] = true := by decide +kernel
set_option maxRecDepth 100000 in
theorem zk_X8_readsA : z_okm zP zTH zm_X8_readsA [] [[], [367], [], [], [367], [], [], [], [], [], []] = true := by decide +kernel
set_option maxRecDepth 100000 in
theorem zk_X8_readsB : z_okm zP zTH zm_X8_readsB [] [[], [367], [], [], [], [367], [], [], [478, 84, 645, 476, 477], [], [], [], [], []] = true := by decide +kernel
set_option maxRecDepth 100000 in
theorem zk_X8_goes : z_okm zP zTH zm_X8_goes [] [[], [367], [], [], [], [], [], [], [], [], [], []] = true := by decide +kernel
set_option maxRecDepth 100000 in
theorem zk_X8_result : z_okm zP zTH zm_X8_result [] [[], [367], [], [], [], [], [], [], [], [], [], [], [], [], [], [], [383], [], []] = true := by decide +kernel
set_option maxRecDepth 100000 in
theorem zk_X9_init : z_okm zP zTH zm_X9_init [] [[], [99, 100, 101], [], [], [102, 103], [104], []] = true := by decide +kernel
set_option maxRecDepth 100000 in
theorem zk_X9_machine : z_okm zP zTH zm_X9_machine [] [[], [], [], [127, 73, 126, 125], [], [], [], [], [127, 73, 126, 125], [], [187], [], [214, 215, 80], [], [], [], [218, 80, 217, 216], [239, 73, 236, 238, 2], []] = true := by decide +kernel
set_option maxRecDepth 100000 in
theorem zk_X9_program : z_okm zP zTH zm_X9_program [] [[], [267, 268, 82], [], [], [], [272, 73, 269, 271, 4], [281, 82, 280, 279], [239, 73, 236, 238, 2], []] = true := by decide +kernel
set_option maxRecDepth 100000 in
theorem zk_X9_word : z_okm zP zTH zm_X9_word [] [[], [], [314, 73, 311, 313, 6], [], [], [], [319, 73, 316, 318, 7], [], [], [], [127, 73, 126, 125], [], [], [343, 73, 342, 341], [], [], [343, 73, 342, 341], [], [], [343, 73, 342, 341], [], [344], [], [292], [], [], [354], [], [361, 362, 84], [], [], [], [], [], [], [365, 84, 364, 363], [399, 82, 396, 397, 398], [], [292], []] = true := by decide +kernel
set_option maxRecDepth 100000 in
theorem zk_X9_run : z_okm zP zTH zm_X9_run [] [[], [], [314, 73, 311, 313, 6], [], [], [], [410, 73, 407, 409, 8], [], [411, 412, 85], [], [], [415, 85, 414, 413], [239, 73, 236, 238, 2], []] = true := by decide +kernel
set_option maxRecDepth 100000 in
theorem zk_X9_step : z_okm zP zTH zm_X9_step [] [[], [], [455, 73, 452, 454, 9], [], [], [], [], [127, 73, 126, 125], [], [457], [], [], [], [], [], [], [429], [], [], [461, 85, 458, 459, 460], [], [], [], []] = true := by decide +kernel
set_option maxRecDepth 100000 in
theorem zk_X9_core : z_okm zP zTH zm_X9_core [] [[], [], [272, 73, 269, 271, 4], [], [], [], [], [], [512, 73, 511, 510], [], [513], [514, 515, 87], [], [], [518, 87, 517, 516], [], [], [], [], [], [], [546, 87, 543, 544, 545], [], [], [239, 73, 236, 238, 2], []] = true := by decide +kernel
set_option maxRecDepth 100000 in
theorem zk_X9_change : z_okm zP zTH zm_X9_change [] [[], [], [557, 73, 554, 556, 11], [], [], [], [319, 73, 316, 318, 7], [], [], [], [], [512, 73, 511, 510], [], [513], [], [524], [], [], [], [], [], [], [546, 87, 543, 544, 545], [], []] = true := by decide +kernel
set_option maxRecDepth 100000 in
theorem zk_X9_sim : z_okm zP zTH zm_X9_sim [] [[], [], [557, 73, 554, 556, 11], [], [], [], [314, 73, 311, 313, 6], [], [], [], [521], [], [289], [569, 73, 566, 568, 12], [], [], [410, 73, 407, 409, 8], [], [570, 571, 88], [], [], [], [574, 88, 573, 572], [239, 73, 236, 238, 2], []] = true := by decide +kernel
set_option maxRecDepth 100000 in
theorem zk_X9_cycles : z_okm zP zTH zm_X9_cycles [] [[], [], [622, 73, 619, 621, 13], [], [], [], [], [127, 73, 126, 125], [], [624], [], [], [], [], [], [], [581], [429], [], [], [628, 88, 625, 626, 627], [], [], [], []] = true := by decide +kernel
set_option maxRecDepth 100000 in
theorem zk_X9_state : z_okm zP zTH zm_X9_state [] [[], [], [666, 73, 663, 665, 16], [], [], [], [], [427], [], [], [], [], [], [429], [], [], [], [], [], [], [], [124, 73, 121, 123, 0], [], [], [570], [], [], [570], [], [], [], [], [127, 73, 126, 125], [], [], [], [671, 88, 668, 669, 670], [], [672]] = true := by decide +kernel
set_option maxRecDepth 100000 in
theorem zk_X9_number : z_okm zP zTH zm_X9_number [] [[], [], [666, 73, 663, 665, 16], [], [], [], [], [], [423], [], [], [], [], [127, 73, 126, 125], [], [680], [], [], [], [], [421], [], [], [], [], [423], [], [], [], [], []] = true := by decide +kernel
set_option maxRecDepth 100000 in
theorem zk_X9_agrees : z_okm zP zTH zm_X9_agrees [] [[], [], [622, 73, 619, 621, 13], [581], [], [], [], [455, 73, 452, 454, 9], [], [], [427], [], [427], [], [], [], [], [], [], [], [], [429], [], [], [461, 85, 458, 459, 460], [], [], [], [], [691, 85, 688, 689, 690], []] = true := by decide +kernel
set_option maxRecDepth 100000 in
theorem zk_X9_pair : z_okm zP zTH zm_X9_pair [] [[], [], [314, 73, 311, 313, 6], [], [], [], [314, 73, 311, 313, 6], [], [], [], [289], [], [289], [569, 73, 566, 568, 12], [], [], [410, 73, 407, 409, 8], [], [], [410, 73, 407, 409, 8], [], [], [], [127, 73, 126, 125], [], [702], [], [703, 704, 89], [], [], [], [], [], [], [], [], [], [707, 89, 706, 705], [239, 73, 236, 238, 2], []] = true := by decide +kernel
set_option maxRecDepth 100000 in
theorem zk_X9_explore : z_okm zP zTH zm_X9_explore [] [[], [], [757, 73, 754, 756, 17], [], [], [], [], [127, 73, 126, 125], [], [672], [], [], [762, 73, 759, 761, 18], [], [], [], [718], [], [], [], [], [], [720], [], [], [722], []] = true := by decide +kernel
set_option maxRecDepth 100000 in
theorem zk_X9_end : z_okm zP zTH zm_X9_end [] [[], [], [757, 73, 754, 756, 17], [], [], [], [], [895, 89, 908, 893, 894], [], [], [127, 73, 126, 125], [], [680], [], [], [762, 73, 759, 761, 18], [], [], [], [720], [], [], [127, 73, 126, 125], [], [918], [], [725], [], [], [895, 89, 908, 893, 894], [], [], [], [], []] = true := by decide +kernel
set_option maxRecDepth 100000 in
theorem zk_X9_drop : z_okm zP zTH zm_X9_drop [] [[], [], [276, 73, 273, 275, 5], [], [], [], [319, 73, 316, 318, 7], [], [104], [], [], [], [], [228], []] = true := by decide +kernel
set_option maxRecDepth 100000 in
theorem zk_X9_kind : z_okm zP zTH zm_X9_kind [] [[], [], [124, 73, 121, 123, 0], [], [], [], [], [], [], [228], []] = true := by decide +kernel
set_option maxRecDepth 100000 in
theorem zk_X9_rule : z_okm zP zTH zm_X9_rule [] [[], [106], []] = true := by decide +kernel
set_option maxRecDepth 100000 in
theorem zk_X9_count : z_okm zP zTH zm_X9_count [] [[], [], [], [127, 73, 126, 125], [], [], [], [], [], [], [105], [], [], [], [], [104], [], [], [], [], [], [], [], [], [], [], [], [], [], [], [], [], [], [], [], [228], [], [], [], [], [], [], [], [], []] = true := by decide +kernel
set_option maxRecDepth 100000 in
theorem zk_X9_outside : z_okm zP zTH zm_X9_outside [] [[], [], [], [], [], [], [], [], [], []] = true := by decide +kernel
set_option maxRecDepth 100000 in
theorem zk_X9_noRegister : z_okm zP zTH zm_X9_noRegister [] [[], [], [], [127, 73, 126, 125], []] = true := by decide +kernel
set_option maxRecDepth 100000 in
theorem zk_X9_noCore : z_okm zP zTH zm_X9_noCore [] [[], [], [], [127, 73, 126, 125], [], [], [], [], [127, 73, 126, 125], [], [], [], [], [127, 73, 126, 125], [], [], [], [], [127, 73, 126, 125], [], [], [], [], []] = true := by decide +kernel
set_option maxRecDepth 100000 in
theorem zk_X9_admit : z_okm zP zTH zm_X9_admit [] [[], [105], [], [], [], [], [243, 73, 240, 242, 3], [], [], [105], [], [], [105], [], [104], [], [105], [], [], [], [105], []] = true := by decide +kernel
set_option maxRecDepth 100000 in
theorem zk_X9_refuse : z_okm zP zTH zm_X9_refuse [] [[], [], [106], [253]] = true := by decide +kernel
set_option maxRecDepth 100000 in
theorem zk_X9_refuseIfUsed : z_okm zP zTH zm_X9_refuseIfUsed [] [[], [104], [], [], [], [], [], [], [], [], [], [], [], [], [], [], [], [], [], [320, 322, 321, 325, 87, 323, 324, 0, 0, 0, 0, 328, 80, 326, 327, 331, 89, 329, 330, 334, 82, 332, 333, 337, 85, 335, 336, 340, 88, 338, 339], [], [], [], [243, 73, 240, 242, 3], [], [], []] = true := by decide +kernel
set_option maxRecDepth 100000 in
theorem zk_X9_refuseIfApart : z_okm zP zTH zm_X9_refuseIfApart [] [[], [], [], [], [], [243, 73, 240, 242, 3], []] = true := by decide +kernel
set_option maxRecDepth 100000 in
theorem zk_X9_refuseIfEmpty : z_okm zP zTH zm_X9_refuseIfEmpty [] [[], [292], [], [], [], [243, 73, 240, 242, 3], []] = true := by decide +kernel
set_option maxRecDepth 100000 in
theorem zk_X9_refuseIfTooLarge : z_okm zP zTH zm_X9_refuseIfTooLarge [] [[], [715], [], [], [107], [], [], [763, 764, 90], [], [767, 90, 766, 765], [107], [], [107], [], [804, 90, 801, 802, 803], [], [717], [], [], [], [243, 73, 240, 242, 3], []] = true := by decide +kernel
set_option maxRecDepth 100000 in
theorem zk_X9_thingAt : z_okm zP zTH zm_X9_thingAt [] [[], [], [], [127, 73, 126, 125], [], [], [], [], [104], [], [], []] = true := by decide +kernel
set_option maxRecDepth 100000 in
theorem zk_X9_livingAt : z_okm zP zTH zm_X9_livingAt [] [[], [], [124, 73, 121, 123, 0], [], [], [], [], [], [106], [277], [], []] = true := by decide +kernel
set_option maxRecDepth 100000 in
theorem zk_X9_machineAt : z_okm zP zTH zm_X9_machineAt [] [[], [], [276, 73, 273, 275, 5], [], [], [214], [], [], [214], [], [], [], [], [], [106], [278]] = true := by decide +kernel
set_option maxRecDepth 100000 in
theorem zk_X9_programAt : z_okm zP zTH zm_X9_programAt [] [[], [], [276, 73, 273, 275, 5], [], [], [267], [], [], [267], [], [], [], [], [], [106], [315]] = true := by decide +kernel
