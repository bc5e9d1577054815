/-! what is checked of the methods, by the kernel -/
set_option maxRecDepth 100000 in
theorem zk_L_change : z_okm zP zTH zm_L_change [140, 139] [[], [], [], [], [], [], [], [], [553, 73, 550, 551, 552], [], [], [], [], [], [], [], [], [], [], []] = true := by decide +kernel
set_option maxRecDepth 100000 in
theorem zk_L_sim : z_okm zP zTH zm_L_sim [140] [[], [], [], [], [], [565, 73, 562, 563, 564], [], [], [], [], [], [], [], []] = true := by decide +kernel
set_option maxRecDepth 100000 in
theorem zk_L_cycles : z_okm zP zTH zm_L_cycles [140, 139] [[], [], [], [], [], [618, 73, 615, 616, 617], [], [], [], [], [], [], [], [], [], [], []] = true := by decide +kernel
set_option maxRecDepth 100000 in
theorem zk_L_state : z_okm zP zTH zm_L_state [140, 139] [[], [], [], [], [], [662, 73, 659, 660, 661], [], [], [], [], [], [], [], [], [], [], []] = true := by decide +kernel
set_option maxRecDepth 100000 in
theorem zk_L_number : z_okm zP zTH zm_L_number [140, 139] [[], [], [], [], [], [679, 73, 676, 677, 678], [], [], [], [], [], [], [], [], [], []] = true := by decide +kernel
set_option maxRecDepth 100000 in
theorem zk_L_agrees : z_okm zP zTH zm_L_agrees [140] [[], [], [], [], [], [687, 73, 684, 685, 686], [], [], [], [], [], [], [], [], [], [], []] = true := by decide +kernel
set_option maxRecDepth 100000 in
theorem zk_L_pair : z_okm zP zTH zm_L_pair [140, 139] [[], [], [], [], [], [], [701, 73, 698, 699, 700], [], [], [], [], [], [], [], [], [], [], []] = true := by decide +kernel
set_option maxRecDepth 100000 in
theorem zk_L_explore : z_okm zP zTH zm_L_explore [140, 139] [[], [], [], [], [], [753, 73, 750, 751, 752], [], [], [], [], [], [], [], [], [], [], []] = true := by decide +kernel
set_option maxRecDepth 100000 in
theorem zk_L_end : z_okm zP zTH zm_L_end [140, 139, 903] [[], [], [], [], [], [], [907, 73, 904, 905, 906], [], [], [], [], [], [], [], [], [], [], [], [], []] = true := by decide +kernel
set_option maxRecDepth 100000 in
theorem zk_L_drop : z_okm zP zTH zm_L_drop [140] [[], [], [], [], [931, 73, 928, 929, 930], [], [], [], [], [], [], [], []] = true := by decide +kernel
