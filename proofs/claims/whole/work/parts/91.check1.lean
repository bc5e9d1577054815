/-! what is checked of the methods, by the kernel -/
set_option maxRecDepth 100000 in
theorem zk_X0_init : z_okm zP zTH zm_X0_init [] [[], [], [221, 79, 220, 519], [], [], [520], []] = true := by decide +kernel
set_option maxRecDepth 100000 in
theorem zk_X0_uses : z_okm zP zTH zm_X0_uses [] [[], [], [520], [], [], [], [], []] = true := by decide +kernel
set_option maxRecDepth 100000 in
theorem zk_X0_settle : z_okm zP zTH zm_X0_settle [] [[], [], [522], [], [], [525], [], [], [527], [], [], [529], []] = true := by decide +kernel
set_option maxRecDepth 100000 in
theorem zk_X1_init : z_okm zP zTH zm_X1_init [] [[], [768, 100, 101], [], [769], [444], [770], [], [], [611], [771], [], [], [611], [772], [], [], [444], [773], []] = true := by decide +kernel
set_option maxRecDepth 100000 in
theorem zk_X1_goThrough : z_okm zP zTH zm_X1_goThrough [] [[], [], [774], [], [], [710], [287], [775], [], [], [776], [], [], [777], [], [], [778], [], [], [779], [], [771], [], [807, 91, 806, 805], [], [773], [], [810, 91, 809, 808], [], [814, 90, 811, 813, 19], [], [], [], [], [776], [], [], [], [], [], [779], [], [], [], [834, 90, 831, 833, 23], [], [], [], [899, 90, 896, 898, 34], []] = true := by decide +kernel
set_option maxRecDepth 100000 in
theorem zk_X1_goOnFrom : z_okm zP zTH zm_X1_goOnFrom [] [[], [], [], [], [], [], [], [], [], [], [838, 90, 835, 837, 24], [], [], [], [], [], [877, 90, 874, 876, 30], [], [], [], [], [], [], [], [], [882, 90, 879, 881, 31], [], [], [], [887, 90, 884, 886, 32], [], [], [], [778], [], [], [778], []] = true := by decide +kernel
set_option maxRecDepth 100000 in
theorem zk_X1_tryWord : z_okm zP zTH zm_X1_tryWord [] [[], [], [842, 90, 839, 841, 25], [], [774], [], [846, 89, 843, 844, 845], [], [], [773], [], [], [], [], [], [], [], [], [469, 82, 847, 467, 468], [], [], [], [], [368], [], [], [], [], [851, 90, 848, 850, 26], [], [], [], [], [], [], [], [], [], [], [773], [], [], [378], [], [], [], [], [], [], [], [], [773], [], [], [382], [], [], [856, 90, 853, 855, 27], [], [773], [], [], [], [], [], [], [], [871, 90, 870, 869], [], [], [], [814, 90, 811, 813, 19], [], []] = true := by decide +kernel
set_option maxRecDepth 100000 in
theorem zk_X1_rowIsFull : z_okm zP zTH zm_X1_rowIsFull [] [[], [774], [713], [], [], [773], [], [], [], [], [852], [], [], [], [], [], []] = true := by decide +kernel
set_option maxRecDepth 100000 in
theorem zk_X1_perform : z_okm zP zTH zm_X1_perform [] [[], [], [], [], [], [], [374], [], [], [], [478, 84, 857, 476, 477], [], [], [773], [], [], [775], [], [], [], [482, 84, 858, 480, 481], [486, 80, 859, 484, 485], [], [], [], [368], [], [], [], [773], [], [], [], [], [775], [], [490, 80, 860, 488, 489], [864, 90, 861, 863, 28], [], [], [], [368], [], [], [], [774], [713], [], [], [], [], [775], [], [490, 80, 860, 488, 489], [], [868, 90, 865, 867, 29], [], [], [368], [], [], [], [773], [], [], [775], [], [490, 80, 860, 488, 489], [], [], [], []] = true := by decide +kernel
set_option maxRecDepth 100000 in
theorem zk_X1_following : z_okm zP zTH zm_X1_following [] [[], [], [495, 84, 872, 493, 494], [], [], [], [499, 82, 873, 497, 498], [], [], [368], [], [], [], [], [], [], [294], [], [], [], [], [], [], []] = true := by decide +kernel
set_option maxRecDepth 100000 in
theorem zk_X1_loaded : z_okm zP zTH zm_X1_loaded [] [[], [], [], [], [], [], [], [773], [], [], [], [], [], [], [], [], [], [], [], [], [], [773], [], [], [], [], [], [], [], [773], [], [], [], [], [], [], [], [], [], [], [], [773], [], [], [], [], [], [], [], [], [], [], [], [], []] = true := by decide +kernel
set_option maxRecDepth 100000 in
theorem zk_X1_putInRow : z_okm zP zTH zm_X1_putInRow [] [[], [773], [], [], [], [], [], [], [], [], [], [], [], [], [], [], [], [], [], [], [], [], [], [], [], [773], [], [], [], [], [], [773], [], [], [], [], [], [], [773], [], [], [], [], [], [], [], [], []] = true := by decide +kernel
set_option maxRecDepth 100000 in
theorem zk_X1_tryStore : z_okm zP zTH zm_X1_tryStore [] [[], [], [842, 90, 839, 841, 25], [], [], [], [], [], [], [], [773], [], [], [], [], [], [773], [], [], [], [], [], [], [], [], [], [], [127, 73, 126, 878], [], [], [], [], [773], [], [], [], [], [773], [], [], [], [], [], [], [773], [], [], [], [], [773], [], [], [824, 826, 825, 92], [], [773], [], [], [], [], [], [], [], [], [773], [], [], [], [], [], [], [], [], [773], [], [], [], [], [], [], [], [], [], [814, 90, 811, 813, 19], [], []] = true := by decide +kernel
set_option maxRecDepth 100000 in
theorem zk_X1_takeTrial : z_okm zP zTH zm_X1_takeTrial [] [[], [770], [], [], [], [], [773], [], [], [824, 826, 825, 92], []] = true := by decide +kernel
set_option maxRecDepth 100000 in
theorem zk_X1_keepTrial : z_okm zP zTH zm_X1_keepTrial [] [[], [818, 90, 815, 817, 20], [], [], [], [], [], [], [], [], [], [], [], [], [], [771], [], [], [], [], [], [823, 90, 820, 822, 21], [], [], [], [771], [], [], [], [], [830, 90, 827, 829, 22], [], [], [], [], []] = true := by decide +kernel
set_option maxRecDepth 100000 in
theorem zk_X1_putTrial : z_okm zP zTH zm_X1_putTrial [] [[], [776], [], [], [], [], [779], [], [], [773], [], [], [770], [], [776], [], [], [], [824, 826, 825, 92], [], [], [776], [], [], [776], [], [771], [], [], [776], [], []] = true := by decide +kernel
set_option maxRecDepth 100000 in
theorem zk_X1_mixed : z_okm zP zTH zm_X1_mixed [] [[], [], [], [], [], [], [], [], [], [773], [], [], [], [819], [], [], [], [], [], [], [], [], [], [], [], [], [], [], []] = true := by decide +kernel
set_option maxRecDepth 100000 in
theorem zk_X1_isTrial : z_okm zP zTH zm_X1_isTrial [] [[], [], [], [], [], [], [], [], [], [], [770], [], [], [], [], [], [773], [], [], [], [], [], [], [], [], [], []] = true := by decide +kernel
set_option maxRecDepth 100000 in
theorem zk_X1_isEnd : z_okm zP zTH zm_X1_isEnd [] [[], [], [], [], [], [770], [], [], [], [], [883], [], [], [], [770], [], [], [], [], [], [], [883], [], [], [], [770], [], [], [], [], [], [], [], [], [770], [], [], [], [], [], [], [], [], [], [], [], [], []] = true := by decide +kernel
set_option maxRecDepth 100000 in
theorem zk_X1_insertEnd : z_okm zP zTH zm_X1_insertEnd [] [[], [777], [], [], [], [], [777], [], [], [], [], [], [], [772], [], [], [], [], [891, 90, 888, 890, 33], [], [], [772], [], [], [772], [], [], [], [], [], [], [], [], [772], [], [], [], [], [], [777], [], [], [777], []] = true := by decide +kernel
set_option maxRecDepth 100000 in
theorem zk_X1_endIsBefore : z_okm zP zTH zm_X1_endIsBefore [] [[], [774], [895, 89, 892, 893, 894], [], [], [], [], [], [], [], [], [], [770], [], [], [], [], [], [], [], [], [770], [], [], [], [], [], [], [], [], [], [], [], [], [], [], [], [], [], [], [], [], [], [], []] = true := by decide +kernel
set_option maxRecDepth 100000 in
theorem zk_X1_tell : z_okm zP zTH zm_X1_tell [] [[], [774], [], [714], [], [774], [], [779], [716], [], [779], [], [], [], [774], [895, 89, 892, 893, 894], [], [], [774], [], [776], [719], [], [774], [], [778], [723], [], [774], [], [777], [721], [], [774], [], [777], [], [], [444], [726], [], [], [], [], [777], [], [], [770], [], [772], [], [], [], [], [], [], [], [774], [726], [], [], [], [], [824, 826, 825, 92], [], [], []] = true := by decide +kernel
set_option maxRecDepth 100000 in
theorem zk_X2_init : z_okm zP zTH zm_X2_init [] [[], [], [221, 79, 220, 219], [], [], [223], [], [], [], [], [], [], [226], []] = true := by decide +kernel
set_option maxRecDepth 100000 in
theorem zk_X2_uses : z_okm zP zTH zm_X2_uses [] [[], []] = true := by decide +kernel
set_option maxRecDepth 100000 in
theorem zk_X2_cut : z_okm zP zTH zm_X2_cut [] [[], [], [226], [], []] = true := by decide +kernel
set_option maxRecDepth 100000 in
theorem zk_X2_placeOf : z_okm zP zTH zm_X2_placeOf [] [[], [223], [], [], [], [], [], [], [486, 80, 491, 484, 485], [], [223], [], [], [], []] = true := by decide +kernel
set_option maxRecDepth 100000 in
theorem zk_X3_init : z_okm zP zTH zm_X3_init [] [[], [], [221, 79, 220, 708], [], [], [444], [724], [], [], [709], [], [], [711], [], [], [712], []] = true := by decide +kernel
set_option maxRecDepth 100000 in
theorem zk_X3_uses : z_okm zP zTH zm_X3_uses [] [[], [], [709], [], [], [], [711], [], [], [], [], []] = true := by decide +kernel
set_option maxRecDepth 100000 in
theorem zk_X3_programOf : z_okm zP zTH zm_X3_programOf [] [[], [], [], [709], [], [], [711], []] = true := by decide +kernel
set_option maxRecDepth 100000 in
theorem zk_X3_endWidth : z_okm zP zTH zm_X3_endWidth [] [[], [], [709], [288], [225], [], []] = true := by decide +kernel
set_option maxRecDepth 100000 in
theorem zk_X4_init : z_okm zP zTH zm_X4_init [] [[], [], [221, 79, 220, 282], [], [], [283, 284], [290], [], [], [285], []] = true := by decide +kernel
set_option maxRecDepth 100000 in
theorem zk_X4_uses : z_okm zP zTH zm_X4_uses [] [[], [], [285], [], [], [], [], []] = true := by decide +kernel
set_option maxRecDepth 100000 in
theorem zk_X4_append : z_okm zP zTH zm_X4_append [] [[], [291], [], [], [], [290], [], [291], [], [], [], [], [291], [], [], [291], []] = true := by decide +kernel
set_option maxRecDepth 100000 in
theorem zk_X4_wordAt : z_okm zP zTH zm_X4_wordAt [] [[], [], [], [291], [], [], [127, 73, 126, 470], [], [], [], [], [290], [], [], []] = true := by decide +kernel
set_option maxRecDepth 100000 in
theorem zk_X4_targetOf : z_okm zP zTH zm_X4_targetOf [] [[], [291], [], [], [], [], [], [384], [], [291], [502, 86, 501, 500], []] = true := by decide +kernel
set_option maxRecDepth 100000 in
theorem zk_X5_init : z_okm zP zTH zm_X5_init [] [[], [], [221, 79, 220, 416], [], [], [444], [419], [], [], [417], [], [], [286], [224], [444], [422], []] = true := by decide +kernel
set_option maxRecDepth 100000 in
theorem zk_X5_uses : z_okm zP zTH zm_X5_uses [] [[], [], [417], [], [], [], [], []] = true := by decide +kernel
set_option maxRecDepth 100000 in
theorem zk_X5_nextWord : z_okm zP zTH zm_X5_nextWord [] [[], [428], [], [], [], [], [417], [], [424], [469, 82, 466, 467, 468], []] = true := by decide +kernel
set_option maxRecDepth 100000 in
theorem zk_X5_advance : z_okm zP zTH zm_X5_advance [] [[], [465, 85, 462, 463, 464], [], [], [], [], [], [419], [], [376], [], [], [], [], [], [], [419], [], [380], [], [474, 85, 471, 473, 10], [], [], [426], [], [], [426], [], [], [495, 84, 492, 493, 494], [], [], [], [417], [], [499, 82, 496, 497, 498], [424], [], [], [], [424], [], [], [], [417], [293], [], [], [424], [], [], [], [], [424], []] = true := by decide +kernel
