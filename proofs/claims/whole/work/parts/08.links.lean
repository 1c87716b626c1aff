theorem UG_ws (ws : List Cond) (ps : List Nat) (hp : ws = ps.filterMap (fun i => lw_tbl[i]?)) (h : ws.all goodWord = true) : ∀ w ∈ ws, w ∈ UG := by
  intro w hw
  have h1 := List.all_eq_true.mp h w hw
  rw [hp] at hw
  obtain ⟨i, -, hi⟩ := List.mem_filterMap.mp hw
  exact UG_of hi h1
theorem fcX0 : FC RX0 TX0 4 0 := ⟨rfl, UG_ws _ [211, 213, 215, 217] (by decide +kernel) (by decide +kernel), tyX0_ok, nmX0⟩
theorem fcX1 : FC RX1 TX1 4 1 := ⟨rfl, UG_ws _ [257, 259, 261, 263] (by decide +kernel) (by decide +kernel), tyX1_ok, nmX1⟩
theorem fcX2 : FC RX2 TX2 6 2 := ⟨rfl, UG_ws _ [231, 233, 235, 237, 239, 241] (by decide +kernel) (by decide +kernel), tyX2_ok, nmX2⟩
theorem fcX3 : FC RX3 TX3 2 3 := ⟨rfl, UG_ws _ [111, 113] (by decide +kernel) (by decide +kernel), tyX3_ok, nmX3⟩
theorem fcX4 : FC RX4 TX4 2 4 := ⟨rfl, UG_ws _ [154, 156] (by decide +kernel) (by decide +kernel), tyX4_ok, nmX4⟩
theorem fcX5 : FC RX5 TX5 10 5 := ⟨rfl, UG_ws _ [321, 323, 325, 327, 329, 331, 333, 335, 337, 339] (by decide +kernel) (by decide +kernel), tyX5_ok, nmX5⟩
theorem fcX6 : FC RX6 TX6 3 6 := ⟨rfl, UG_ws _ [300, 302, 304] (by decide +kernel) (by decide +kernel), tyX6_ok, nmX6⟩
theorem fcX7 : FC RX7 TX7 5 7 := ⟨rfl, UG_ws _ [175, 177, 179, 181, 183] (by decide +kernel) (by decide +kernel), tyX7_ok, nmX7⟩
theorem fcX8 : FC RX8 TX8 3 8 := ⟨rfl, UG_ws _ [127, 129, 131] (by decide +kernel) (by decide +kernel), tyX8_ok, nmX8⟩
theorem fcX9 : FC RX9 TX9 2 9 := ⟨rfl, UG_ws _ [274, 276] (by decide +kernel) (by decide +kernel), tyX9_ok, nmX9⟩
theorem fcX10 : FC RX10 TX10 2 10 := ⟨rfl, UG_ws _ [93, 95] (by decide +kernel) (by decide +kernel), tyX10_ok, nmX10⟩
theorem fcX11 : FC RX11 TX11 11 11 := ⟨rfl, UG_ws _ [353, 355, 357, 359, 361, 363, 365, 367, 369, 371, 373] (by decide +kernel) (by decide +kernel), tyX11_ok, nmX11⟩
theorem fcX12 : FC RX12 TX12 40 12 := ⟨rfl, UG_ws _ [887, 889, 891, 893, 895, 897, 899, 901, 903, 905, 907, 909, 911, 913, 915, 917, 919, 921, 923, 925, 927, 929, 931, 933, 935, 937, 939, 941, 943, 945, 947, 949, 951, 953, 955, 957, 959, 961, 963, 965] (by decide +kernel) (by decide +kernel), tyX12_ok, nmX12⟩
set_option maxRecDepth 100000 in
theorem wc_X11_of : Cond.code yX11_of cX11_of 4 (some .int) ∈ UG := UG_of (i := 772) rfl (by decide +kernel)
theorem wi_X11 : Cond.initialized RX11 ∈ UG := UG_of (i := 53) (by decide +kernel) (by decide +kernel)
theorem mb_X11_of (own : String) (i : Nat) : MLB own i yX11_of cX11_of 4 (some .int) 2 := ⟨wi_X11, wc_X11_of, by decide +kernel⟩
theorem wm_X11_of : Cond.instanceMethod yX11_of ∈ UG := UG_of (i := 770) (by decide +kernel) (by decide +kernel)
theorem we_X11_of : Cond.selects (yX11_of).cls yX11_of yX11_of ∈ UG := UG_of (i := 771) (by decide +kernel) (by decide +kernel)
theorem mL_7 : MLV RL 7 yX11_of cX11_of 4 (some .int) 11 2 := ⟨mb_X11_of _ _, UG_of (i := 769) (by decide +kernel) (by decide +kernel), wm_X11_of, we_X11_of, rfl, by decide⟩
theorem xL_8 : Cond.classLink RL 8 "MileLists" ∈ UG := UG_of (i := 71) (by decide +kernel) (by decide +kernel)
set_option maxRecDepth 100000 in
theorem wc_X11_init : Cond.code yX11_init cX11_init 2 none ∈ UG := UG_of (i := 75) rfl (by decide +kernel)
theorem mb_X11_init (own : String) (i : Nat) : MLB own i yX11_init cX11_init 2 none 0 := ⟨wi_X11, wc_X11_init, by decide +kernel⟩
theorem wm_X11_init : Cond.instanceMethod yX11_init ∈ UG := UG_of (i := 74) (by decide +kernel) (by decide +kernel)
theorem mL_15 : MLI RL 15 yX11_init cX11_init 2 0 := ⟨mb_X11_init _ _, UG_of (i := 73) (by decide +kernel) (by decide +kernel), wm_X11_init, rfl⟩
theorem xL_16 : Cond.classLink RL 16 "MileListsModel" ∈ UG := UG_of (i := 841) (by decide +kernel) (by decide +kernel)
set_option maxRecDepth 100000 in
theorem wc_X12_init : Cond.code yX12_init cX12_init 1 none ∈ UG := UG_of (i := 845) rfl (by decide +kernel)
theorem wi_X12 : Cond.initialized RX12 ∈ UG := UG_of (i := 65) (by decide +kernel) (by decide +kernel)
theorem mb_X12_init (own : String) (i : Nat) : MLB own i yX12_init cX12_init 1 none 0 := ⟨wi_X12, wc_X12_init, by decide +kernel⟩
theorem wm_X12_init : Cond.instanceMethod yX12_init ∈ UG := UG_of (i := 844) (by decide +kernel) (by decide +kernel)
theorem mL_18 : MLI RL 18 yX12_init cX12_init 1 0 := ⟨mb_X12_init _ _, UG_of (i := 843) (by decide +kernel) (by decide +kernel), wm_X12_init, rfl⟩
set_option maxRecDepth 100000 in
theorem wc_X11_feed : Cond.code yX11_feed cX11_feed 6 (some .int) ∈ UG := UG_of (i := 379) rfl (by decide +kernel)
theorem mb_X11_feed (own : String) (i : Nat) : MLB own i yX11_feed cX11_feed 6 (some .int) 5 := ⟨wi_X11, wc_X11_feed, by decide +kernel⟩
theorem wm_X11_feed : Cond.instanceMethod yX11_feed ∈ UG := UG_of (i := 377) (by decide +kernel) (by decide +kernel)
theorem we_X11_feed : Cond.selects (yX11_feed).cls yX11_feed yX11_feed ∈ UG := UG_of (i := 378) (by decide +kernel) (by decide +kernel)
theorem mL_19 : MLV RL 19 yX11_feed cX11_feed 6 (some .int) 11 5 := ⟨mb_X11_feed _ _, UG_of (i := 376) (by decide +kernel) (by decide +kernel), wm_X11_feed, we_X11_feed, rfl, by decide⟩
set_option maxRecDepth 100000 in
theorem wc_X12_feed : Cond.code yX12_feed cX12_feed 8 (some .int) ∈ UG := UG_of (i := 975) rfl (by decide +kernel)
theorem mb_X12_feed (own : String) (i : Nat) : MLB own i yX12_feed cX12_feed 8 (some .int) 5 := ⟨wi_X12, wc_X12_feed, by decide +kernel⟩
theorem wm_X12_feed : Cond.instanceMethod yX12_feed ∈ UG := UG_of (i := 973) (by decide +kernel) (by decide +kernel)
theorem we_X12_feed : Cond.selects (yX12_feed).cls yX12_feed yX12_feed ∈ UG := UG_of (i := 974) (by decide +kernel) (by decide +kernel)
theorem mL_23 : MLV RL 23 yX12_feed cX12_feed 8 (some .int) 12 5 := ⟨mb_X12_feed _ _, UG_of (i := 972) (by decide +kernel) (by decide +kernel), wm_X12_feed, we_X12_feed, rfl, by decide⟩
set_option maxRecDepth 100000 in
theorem wc_X11_end : Cond.code yX11_end cX11_end 2 (some .int) ∈ UG := UG_of (i := 387) rfl (by decide +kernel)
theorem mb_X11_end (own : String) (i : Nat) : MLB own i yX11_end cX11_end 2 (some .int) 1 := ⟨wi_X11, wc_X11_end, by decide +kernel⟩
theorem wm_X11_end : Cond.instanceMethod yX11_end ∈ UG := UG_of (i := 385) (by decide +kernel) (by decide +kernel)
theorem we_X11_end : Cond.selects (yX11_end).cls yX11_end yX11_end ∈ UG := UG_of (i := 386) (by decide +kernel) (by decide +kernel)
theorem mL_24 : MLV RL 24 yX11_end cX11_end 2 (some .int) 11 1 := ⟨mb_X11_end _ _, UG_of (i := 384) (by decide +kernel) (by decide +kernel), wm_X11_end, we_X11_end, rfl, by decide⟩
set_option maxRecDepth 100000 in
theorem wc_X12_end : Cond.code yX12_end cX12_end 2 (some .int) ∈ UG := UG_of (i := 979) rfl (by decide +kernel)
theorem mb_X12_end (own : String) (i : Nat) : MLB own i yX12_end cX12_end 2 (some .int) 1 := ⟨wi_X12, wc_X12_end, by decide +kernel⟩
theorem wm_X12_end : Cond.instanceMethod yX12_end ∈ UG := UG_of (i := 977) (by decide +kernel) (by decide +kernel)
theorem we_X12_end : Cond.selects (yX12_end).cls yX12_end yX12_end ∈ UG := UG_of (i := 978) (by decide +kernel) (by decide +kernel)
theorem mL_28 : MLV RL 28 yX12_end cX12_end 2 (some .int) 12 1 := ⟨mb_X12_end _ _, UG_of (i := 976) (by decide +kernel) (by decide +kernel), wm_X12_end, we_X12_end, rfl, by decide⟩
set_option maxRecDepth 100000 in
theorem wc_X11_list : Cond.code yX11_list cX11_list 3 (some .int) ∈ UG := UG_of (i := 391) rfl (by decide +kernel)
theorem mb_X11_list (own : String) (i : Nat) : MLB own i yX11_list cX11_list 3 (some .int) 1 := ⟨wi_X11, wc_X11_list, by decide +kernel⟩
theorem wm_X11_list : Cond.instanceMethod yX11_list ∈ UG := UG_of (i := 389) (by decide +kernel) (by decide +kernel)
theorem we_X11_list : Cond.selects (yX11_list).cls yX11_list yX11_list ∈ UG := UG_of (i := 390) (by decide +kernel) (by decide +kernel)
theorem mL_29 : MLV RL 29 yX11_list cX11_list 3 (some .int) 11 1 := ⟨mb_X11_list _ _, UG_of (i := 388) (by decide +kernel) (by decide +kernel), wm_X11_list, we_X11_list, rfl, by decide⟩
set_option maxRecDepth 100000 in
theorem wc_X12_list : Cond.code yX12_list cX12_list 5 (some .int) ∈ UG := UG_of (i := 990) rfl (by decide +kernel)
theorem mb_X12_list (own : String) (i : Nat) : MLB own i yX12_list cX12_list 5 (some .int) 1 := ⟨wi_X12, wc_X12_list, by decide +kernel⟩
theorem wm_X12_list : Cond.instanceMethod yX12_list ∈ UG := UG_of (i := 988) (by decide +kernel) (by decide +kernel)
theorem we_X12_list : Cond.selects (yX12_list).cls yX12_list yX12_list ∈ UG := UG_of (i := 989) (by decide +kernel) (by decide +kernel)
theorem mL_32 : MLV RL 32 yX12_list cX12_list 5 (some .int) 12 1 := ⟨mb_X12_list _ _, UG_of (i := 987) (by decide +kernel) (by decide +kernel), wm_X12_list, we_X12_list, rfl, by decide⟩
set_option maxRecDepth 100000 in
theorem wc_X11_place : Cond.code yX11_place cX11_place 1 (some .int) ∈ UG := UG_of (i := 453) rfl (by decide +kernel)
theorem mb_X11_place (own : String) (i : Nat) : MLB own i yX11_place cX11_place 1 (some .int) 0 := ⟨wi_X11, wc_X11_place, by decide +kernel⟩
theorem wm_X11_place : Cond.instanceMethod yX11_place ∈ UG := UG_of (i := 451) (by decide +kernel) (by decide +kernel)
theorem we_X11_place : Cond.selects (yX11_place).cls yX11_place yX11_place ∈ UG := UG_of (i := 452) (by decide +kernel) (by decide +kernel)
theorem mL_33 : MLV RL 33 yX11_place cX11_place 1 (some .int) 11 0 := ⟨mb_X11_place _ _, UG_of (i := 450) (by decide +kernel) (by decide +kernel), wm_X11_place, we_X11_place, rfl, by decide⟩
set_option maxRecDepth 100000 in
theorem wc_X12_place : Cond.code yX12_place cX12_place 1 (some .int) ∈ UG := UG_of (i := 1021) rfl (by decide +kernel)
theorem mb_X12_place (own : String) (i : Nat) : MLB own i yX12_place cX12_place 1 (some .int) 0 := ⟨wi_X12, wc_X12_place, by decide +kernel⟩
theorem wm_X12_place : Cond.instanceMethod yX12_place ∈ UG := UG_of (i := 1019) (by decide +kernel) (by decide +kernel)
theorem we_X12_place : Cond.selects (yX12_place).cls yX12_place yX12_place ∈ UG := UG_of (i := 1020) (by decide +kernel) (by decide +kernel)
theorem mL_37 : MLV RL 37 yX12_place cX12_place 1 (some .int) 12 0 := ⟨mb_X12_place _ _, UG_of (i := 1018) (by decide +kernel) (by decide +kernel), wm_X12_place, we_X12_place, rfl, by decide⟩
set_option maxRecDepth 100000 in
theorem wc_X11_ruin : Cond.code yX11_ruin cX11_ruin 3 (some .int) ∈ UG := UG_of (i := 457) rfl (by decide +kernel)
theorem mb_X11_ruin (own : String) (i : Nat) : MLB own i yX11_ruin cX11_ruin 3 (some .int) 1 := ⟨wi_X11, wc_X11_ruin, by decide +kernel⟩
theorem wm_X11_ruin : Cond.instanceMethod yX11_ruin ∈ UG := UG_of (i := 455) (by decide +kernel) (by decide +kernel)
theorem we_X11_ruin : Cond.selects (yX11_ruin).cls yX11_ruin yX11_ruin ∈ UG := UG_of (i := 456) (by decide +kernel) (by decide +kernel)
theorem mL_38 : MLV RL 38 yX11_ruin cX11_ruin 3 (some .int) 11 1 := ⟨mb_X11_ruin _ _, UG_of (i := 454) (by decide +kernel) (by decide +kernel), wm_X11_ruin, we_X11_ruin, rfl, by decide⟩
set_option maxRecDepth 100000 in
theorem wc_X12_ruin : Cond.code yX12_ruin cX12_ruin 5 (some .int) ∈ UG := UG_of (i := 1025) rfl (by decide +kernel)
theorem mb_X12_ruin (own : String) (i : Nat) : MLB own i yX12_ruin cX12_ruin 5 (some .int) 1 := ⟨wi_X12, wc_X12_ruin, by decide +kernel⟩
theorem wm_X12_ruin : Cond.instanceMethod yX12_ruin ∈ UG := UG_of (i := 1023) (by decide +kernel) (by decide +kernel)
theorem we_X12_ruin : Cond.selects (yX12_ruin).cls yX12_ruin yX12_ruin ∈ UG := UG_of (i := 1024) (by decide +kernel) (by decide +kernel)
theorem mL_41 : MLV RL 41 yX12_ruin cX12_ruin 5 (some .int) 12 1 := ⟨mb_X12_ruin _ _, UG_of (i := 1022) (by decide +kernel) (by decide +kernel), wm_X12_ruin, we_X12_ruin, rfl, by decide⟩
set_option maxRecDepth 100000 in
theorem wc_X11_stone : Cond.code yX11_stone cX11_stone 5 (some .int) ∈ UG := UG_of (i := 490) rfl (by decide +kernel)
theorem mb_X11_stone (own : String) (i : Nat) : MLB own i yX11_stone cX11_stone 5 (some .int) 3 := ⟨wi_X11, wc_X11_stone, by decide +kernel⟩
theorem wm_X11_stone : Cond.instanceMethod yX11_stone ∈ UG := UG_of (i := 488) (by decide +kernel) (by decide +kernel)
theorem we_X11_stone : Cond.selects (yX11_stone).cls yX11_stone yX11_stone ∈ UG := UG_of (i := 489) (by decide +kernel) (by decide +kernel)
theorem mL_42 : MLV RL 42 yX11_stone cX11_stone 5 (some .int) 11 3 := ⟨mb_X11_stone _ _, UG_of (i := 487) (by decide +kernel) (by decide +kernel), wm_X11_stone, we_X11_stone, rfl, by decide⟩
set_option maxRecDepth 100000 in
theorem wc_X12_stone : Cond.code yX12_stone cX12_stone 6 (some .int) ∈ UG := UG_of (i := 1033) rfl (by decide +kernel)
theorem mb_X12_stone (own : String) (i : Nat) : MLB own i yX12_stone cX12_stone 6 (some .int) 3 := ⟨wi_X12, wc_X12_stone, by decide +kernel⟩
theorem wm_X12_stone : Cond.instanceMethod yX12_stone ∈ UG := UG_of (i := 1031) (by decide +kernel) (by decide +kernel)
theorem we_X12_stone : Cond.selects (yX12_stone).cls yX12_stone yX12_stone ∈ UG := UG_of (i := 1032) (by decide +kernel) (by decide +kernel)
theorem mL_46 : MLV RL 46 yX12_stone cX12_stone 6 (some .int) 12 3 := ⟨mb_X12_stone _ _, UG_of (i := 1030) (by decide +kernel) (by decide +kernel), wm_X12_stone, we_X12_stone, rfl, by decide⟩
set_option maxRecDepth 100000 in
theorem wc_X11_habit : Cond.code yX11_habit cX11_habit 5 (some .int) ∈ UG := UG_of (i := 498) rfl (by decide +kernel)
theorem mb_X11_habit (own : String) (i : Nat) : MLB own i yX11_habit cX11_habit 5 (some .int) 3 := ⟨wi_X11, wc_X11_habit, by decide +kernel⟩
theorem wm_X11_habit : Cond.instanceMethod yX11_habit ∈ UG := UG_of (i := 496) (by decide +kernel) (by decide +kernel)
theorem we_X11_habit : Cond.selects (yX11_habit).cls yX11_habit yX11_habit ∈ UG := UG_of (i := 497) (by decide +kernel) (by decide +kernel)
theorem mL_47 : MLV RL 47 yX11_habit cX11_habit 5 (some .int) 11 3 := ⟨mb_X11_habit _ _, UG_of (i := 495) (by decide +kernel) (by decide +kernel), wm_X11_habit, we_X11_habit, rfl, by decide⟩
set_option maxRecDepth 100000 in
theorem wc_X12_habit : Cond.code yX12_habit cX12_habit 4 (some .int) ∈ UG := UG_of (i := 1037) rfl (by decide +kernel)
theorem mb_X12_habit (own : String) (i : Nat) : MLB own i yX12_habit cX12_habit 4 (some .int) 3 := ⟨wi_X12, wc_X12_habit, by decide +kernel⟩
theorem wm_X12_habit : Cond.instanceMethod yX12_habit ∈ UG := UG_of (i := 1035) (by decide +kernel) (by decide +kernel)
theorem we_X12_habit : Cond.selects (yX12_habit).cls yX12_habit yX12_habit ∈ UG := UG_of (i := 1036) (by decide +kernel) (by decide +kernel)
theorem mL_50 : MLV RL 50 yX12_habit cX12_habit 4 (some .int) 12 3 := ⟨mb_X12_habit _ _, UG_of (i := 1034) (by decide +kernel) (by decide +kernel), wm_X12_habit, we_X12_habit, rfl, by decide⟩
set_option maxRecDepth 100000 in
theorem wc_X11_sound : Cond.code yX11_sound cX11_sound 3 (some .boolean) ∈ UG := UG_of (i := 511) rfl (by decide +kernel)
theorem mb_X11_sound (own : String) (i : Nat) : MLB own i yX11_sound cX11_sound 3 (some .boolean) 2 := ⟨wi_X11, wc_X11_sound, by decide +kernel⟩
theorem wm_X11_sound : Cond.instanceMethod yX11_sound ∈ UG := UG_of (i := 509) (by decide +kernel) (by decide +kernel)
theorem we_X11_sound : Cond.selects (yX11_sound).cls yX11_sound yX11_sound ∈ UG := UG_of (i := 510) (by decide +kernel) (by decide +kernel)
theorem mL_51 : MLV RL 51 yX11_sound cX11_sound 3 (some .boolean) 11 2 := ⟨mb_X11_sound _ _, UG_of (i := 508) (by decide +kernel) (by decide +kernel), wm_X11_sound, we_X11_sound, rfl, by decide⟩
set_option maxRecDepth 100000 in
theorem wc_X12_sound : Cond.code yX12_sound cX12_sound 5 (some .boolean) ∈ UG := UG_of (i := 986) rfl (by decide +kernel)
theorem mb_X12_sound (own : String) (i : Nat) : MLB own i yX12_sound cX12_sound 5 (some .boolean) 2 := ⟨wi_X12, wc_X12_sound, by decide +kernel⟩
theorem wm_X12_sound : Cond.instanceMethod yX12_sound ∈ UG := UG_of (i := 984) (by decide +kernel) (by decide +kernel)
theorem we_X12_sound : Cond.selects (yX12_sound).cls yX12_sound yX12_sound ∈ UG := UG_of (i := 985) (by decide +kernel) (by decide +kernel)
theorem mL_55 : MLV RL 55 yX12_sound cX12_sound 5 (some .boolean) 12 2 := ⟨mb_X12_sound _ _, UG_of (i := 983) (by decide +kernel) (by decide +kernel), wm_X12_sound, we_X12_sound, rfl, by decide⟩
set_option maxRecDepth 100000 in
theorem wc_X11_costs : Cond.code yX11_costs cX11_costs 3 (some .boolean) ∈ UG := UG_of (i := 523) rfl (by decide +kernel)
theorem mb_X11_costs (own : String) (i : Nat) : MLB own i yX11_costs cX11_costs 3 (some .boolean) 2 := ⟨wi_X11, wc_X11_costs, by decide +kernel⟩
theorem wm_X11_costs : Cond.instanceMethod yX11_costs ∈ UG := UG_of (i := 521) (by decide +kernel) (by decide +kernel)
theorem we_X11_costs : Cond.selects (yX11_costs).cls yX11_costs yX11_costs ∈ UG := UG_of (i := 522) (by decide +kernel) (by decide +kernel)
theorem mL_56 : MLV RL 56 yX11_costs cX11_costs 3 (some .boolean) 11 2 := ⟨mb_X11_costs _ _, UG_of (i := 520) (by decide +kernel) (by decide +kernel), wm_X11_costs, we_X11_costs, rfl, by decide⟩
set_option maxRecDepth 100000 in
theorem wc_X12_costs : Cond.code yX12_costs cX12_costs 3 (some .boolean) ∈ UG := UG_of (i := 1041) rfl (by decide +kernel)
theorem mb_X12_costs (own : String) (i : Nat) : MLB own i yX12_costs cX12_costs 3 (some .boolean) 2 := ⟨wi_X12, wc_X12_costs, by decide +kernel⟩
theorem wm_X12_costs : Cond.instanceMethod yX12_costs ∈ UG := UG_of (i := 1039) (by decide +kernel) (by decide +kernel)
theorem we_X12_costs : Cond.selects (yX12_costs).cls yX12_costs yX12_costs ∈ UG := UG_of (i := 1040) (by decide +kernel) (by decide +kernel)
theorem mL_59 : MLV RL 59 yX12_costs cX12_costs 3 (some .boolean) 12 2 := ⟨mb_X12_costs _ _, UG_of (i := 1038) (by decide +kernel) (by decide +kernel), wm_X12_costs, we_X12_costs, rfl, by decide⟩
set_option maxRecDepth 100000 in
theorem wc_X11_day : Cond.code yX11_day cX11_day 2 (some .int) ∈ UG := UG_of (i := 527) rfl (by decide +kernel)
theorem mb_X11_day (own : String) (i : Nat) : MLB own i yX11_day cX11_day 2 (some .int) 1 := ⟨wi_X11, wc_X11_day, by decide +kernel⟩
theorem wm_X11_day : Cond.instanceMethod yX11_day ∈ UG := UG_of (i := 525) (by decide +kernel) (by decide +kernel)
theorem we_X11_day : Cond.selects (yX11_day).cls yX11_day yX11_day ∈ UG := UG_of (i := 526) (by decide +kernel) (by decide +kernel)
theorem mL_60 : MLV RL 60 yX11_day cX11_day 2 (some .int) 11 1 := ⟨mb_X11_day _ _, UG_of (i := 524) (by decide +kernel) (by decide +kernel), wm_X11_day, we_X11_day, rfl, by decide⟩
set_option maxRecDepth 100000 in
theorem wc_X12_day : Cond.code yX12_day cX12_day 2 (some .int) ∈ UG := UG_of (i := 1045) rfl (by decide +kernel)
theorem mb_X12_day (own : String) (i : Nat) : MLB own i yX12_day cX12_day 2 (some .int) 1 := ⟨wi_X12, wc_X12_day, by decide +kernel⟩
theorem wm_X12_day : Cond.instanceMethod yX12_day ∈ UG := UG_of (i := 1043) (by decide +kernel) (by decide +kernel)
theorem we_X12_day : Cond.selects (yX12_day).cls yX12_day yX12_day ∈ UG := UG_of (i := 1044) (by decide +kernel) (by decide +kernel)
theorem mL_63 : MLV RL 63 yX12_day cX12_day 2 (some .int) 12 1 := ⟨mb_X12_day _ _, UG_of (i := 1042) (by decide +kernel) (by decide +kernel), wm_X12_day, we_X12_day, rfl, by decide⟩
set_option maxRecDepth 100000 in
theorem wc_X11_apart : Cond.code yX11_apart cX11_apart 4 (some .int) ∈ UG := UG_of (i := 532) rfl (by decide +kernel)
theorem mb_X11_apart (own : String) (i : Nat) : MLB own i yX11_apart cX11_apart 4 (some .int) 2 := ⟨wi_X11, wc_X11_apart, by decide +kernel⟩
theorem wm_X11_apart : Cond.instanceMethod yX11_apart ∈ UG := UG_of (i := 530) (by decide +kernel) (by decide +kernel)
theorem we_X11_apart : Cond.selects (yX11_apart).cls yX11_apart yX11_apart ∈ UG := UG_of (i := 531) (by decide +kernel) (by decide +kernel)
theorem mL_64 : MLV RL 64 yX11_apart cX11_apart 4 (some .int) 11 2 := ⟨mb_X11_apart _ _, UG_of (i := 529) (by decide +kernel) (by decide +kernel), wm_X11_apart, we_X11_apart, rfl, by decide⟩
set_option maxRecDepth 100000 in
theorem wc_X12_apart_ : Cond.code yX12_apart_ cX12_apart_ 5 (some .int) ∈ UG := UG_of (i := 1050) rfl (by decide +kernel)
theorem mb_X12_apart_ (own : String) (i : Nat) : MLB own i yX12_apart_ cX12_apart_ 5 (some .int) 2 := ⟨wi_X12, wc_X12_apart_, by decide +kernel⟩
theorem wm_X12_apart_ : Cond.instanceMethod yX12_apart_ ∈ UG := UG_of (i := 1048) (by decide +kernel) (by decide +kernel)
theorem we_X12_apart_ : Cond.selects (yX12_apart_).cls yX12_apart_ yX12_apart_ ∈ UG := UG_of (i := 1049) (by decide +kernel) (by decide +kernel)
theorem mL_67 : MLV RL 67 yX12_apart_ cX12_apart_ 5 (some .int) 12 2 := ⟨mb_X12_apart_ _ _, UG_of (i := 1047) (by decide +kernel) (by decide +kernel), wm_X12_apart_, we_X12_apart_, rfl, by decide⟩
set_option maxRecDepth 100000 in
theorem wc_X11_reading : Cond.code yX11_reading cX11_reading 4 (some .int) ∈ UG := UG_of (i := 560) rfl (by decide +kernel)
theorem mb_X11_reading (own : String) (i : Nat) : MLB own i yX11_reading cX11_reading 4 (some .int) 3 := ⟨wi_X11, wc_X11_reading, by decide +kernel⟩
theorem wm_X11_reading : Cond.instanceMethod yX11_reading ∈ UG := UG_of (i := 558) (by decide +kernel) (by decide +kernel)
theorem we_X11_reading : Cond.selects (yX11_reading).cls yX11_reading yX11_reading ∈ UG := UG_of (i := 559) (by decide +kernel) (by decide +kernel)
theorem mL_68 : MLV RL 68 yX11_reading cX11_reading 4 (some .int) 11 3 := ⟨mb_X11_reading _ _, UG_of (i := 557) (by decide +kernel) (by decide +kernel), wm_X11_reading, we_X11_reading, rfl, by decide⟩
set_option maxRecDepth 100000 in
theorem wc_X12_reading : Cond.code yX12_reading cX12_reading 5 (some .int) ∈ UG := UG_of (i := 1080) rfl (by decide +kernel)
theorem mb_X12_reading (own : String) (i : Nat) : MLB own i yX12_reading cX12_reading 5 (some .int) 3 := ⟨wi_X12, wc_X12_reading, by decide +kernel⟩
theorem wm_X12_reading : Cond.instanceMethod yX12_reading ∈ UG := UG_of (i := 1078) (by decide +kernel) (by decide +kernel)
theorem we_X12_reading : Cond.selects (yX12_reading).cls yX12_reading yX12_reading ∈ UG := UG_of (i := 1079) (by decide +kernel) (by decide +kernel)
theorem mL_71 : MLV RL 71 yX12_reading cX12_reading 5 (some .int) 12 3 := ⟨mb_X12_reading _ _, UG_of (i := 1077) (by decide +kernel) (by decide +kernel), wm_X12_reading, we_X12_reading, rfl, by decide⟩
set_option maxRecDepth 100000 in
theorem wc_X11_best : Cond.code yX11_best cX11_best 3 (some .int) ∈ UG := UG_of (i := 615) rfl (by decide +kernel)
theorem mb_X11_best (own : String) (i : Nat) : MLB own i yX11_best cX11_best 3 (some .int) 2 := ⟨wi_X11, wc_X11_best, by decide +kernel⟩
theorem wm_X11_best : Cond.instanceMethod yX11_best ∈ UG := UG_of (i := 613) (by decide +kernel) (by decide +kernel)
theorem we_X11_best : Cond.selects (yX11_best).cls yX11_best yX11_best ∈ UG := UG_of (i := 614) (by decide +kernel) (by decide +kernel)
theorem mL_72 : MLV RL 72 yX11_best cX11_best 3 (some .int) 11 2 := ⟨mb_X11_best _ _, UG_of (i := 612) (by decide +kernel) (by decide +kernel), wm_X11_best, we_X11_best, rfl, by decide⟩
set_option maxRecDepth 100000 in
theorem wc_X12_best : Cond.code yX12_best cX12_best 4 (some .int) ∈ UG := UG_of (i := 1104) rfl (by decide +kernel)
theorem mb_X12_best (own : String) (i : Nat) : MLB own i yX12_best cX12_best 4 (some .int) 2 := ⟨wi_X12, wc_X12_best, by decide +kernel⟩
theorem wm_X12_best : Cond.instanceMethod yX12_best ∈ UG := UG_of (i := 1102) (by decide +kernel) (by decide +kernel)
theorem we_X12_best : Cond.selects (yX12_best).cls yX12_best yX12_best ∈ UG := UG_of (i := 1103) (by decide +kernel) (by decide +kernel)
theorem mL_75 : MLV RL 75 yX12_best cX12_best 4 (some .int) 12 2 := ⟨mb_X12_best _ _, UG_of (i := 1101) (by decide +kernel) (by decide +kernel), wm_X12_best, we_X12_best, rfl, by decide⟩
set_option maxRecDepth 100000 in
theorem wc_X11_at : Cond.code yX11_at cX11_at 4 (some .int) ∈ UG := UG_of (i := 662) rfl (by decide +kernel)
theorem mb_X11_at (own : String) (i : Nat) : MLB own i yX11_at cX11_at 4 (some .int) 3 := ⟨wi_X11, wc_X11_at, by decide +kernel⟩
theorem wm_X11_at : Cond.instanceMethod yX11_at ∈ UG := UG_of (i := 660) (by decide +kernel) (by decide +kernel)
theorem we_X11_at : Cond.selects (yX11_at).cls yX11_at yX11_at ∈ UG := UG_of (i := 661) (by decide +kernel) (by decide +kernel)
theorem mL_76 : MLV RL 76 yX11_at cX11_at 4 (some .int) 11 3 := ⟨mb_X11_at _ _, UG_of (i := 659) (by decide +kernel) (by decide +kernel), wm_X11_at, we_X11_at, rfl, by decide⟩
set_option maxRecDepth 100000 in
theorem wc_X12_at : Cond.code yX12_at cX12_at 4 (some .int) ∈ UG := UG_of (i := 1128) rfl (by decide +kernel)
theorem mb_X12_at (own : String) (i : Nat) : MLB own i yX12_at cX12_at 4 (some .int) 3 := ⟨wi_X12, wc_X12_at, by decide +kernel⟩
theorem wm_X12_at : Cond.instanceMethod yX12_at ∈ UG := UG_of (i := 1126) (by decide +kernel) (by decide +kernel)
theorem we_X12_at : Cond.selects (yX12_at).cls yX12_at yX12_at ∈ UG := UG_of (i := 1127) (by decide +kernel) (by decide +kernel)
theorem mL_79 : MLV RL 79 yX12_at cX12_at 4 (some .int) 12 3 := ⟨mb_X12_at _ _, UG_of (i := 1125) (by decide +kernel) (by decide +kernel), wm_X12_at, we_X12_at, rfl, by decide⟩
set_option maxRecDepth 100000 in
theorem wc_X11_span : Cond.code yX11_span cX11_span 7 (some .int) ∈ UG := UG_of (i := 678) rfl (by decide +kernel)
theorem mb_X11_span (own : String) (i : Nat) : MLB own i yX11_span cX11_span 7 (some .int) 5 := ⟨wi_X11, wc_X11_span, by decide +kernel⟩
theorem wm_X11_span : Cond.instanceMethod yX11_span ∈ UG := UG_of (i := 676) (by decide +kernel) (by decide +kernel)
theorem we_X11_span : Cond.selects (yX11_span).cls yX11_span yX11_span ∈ UG := UG_of (i := 677) (by decide +kernel) (by decide +kernel)
theorem mL_80 : MLV RL 80 yX11_span cX11_span 7 (some .int) 11 5 := ⟨mb_X11_span _ _, UG_of (i := 675) (by decide +kernel) (by decide +kernel), wm_X11_span, we_X11_span, rfl, by decide⟩
set_option maxRecDepth 100000 in
theorem wc_X12_span : Cond.code yX12_span cX12_span 10 (some .int) ∈ UG := UG_of (i := 1136) rfl (by decide +kernel)
theorem mb_X12_span (own : String) (i : Nat) : MLB own i yX12_span cX12_span 10 (some .int) 5 := ⟨wi_X12, wc_X12_span, by decide +kernel⟩
theorem wm_X12_span : Cond.instanceMethod yX12_span ∈ UG := UG_of (i := 1134) (by decide +kernel) (by decide +kernel)
theorem we_X12_span : Cond.selects (yX12_span).cls yX12_span yX12_span ∈ UG := UG_of (i := 1135) (by decide +kernel) (by decide +kernel)
theorem mL_83 : MLV RL 83 yX12_span cX12_span 10 (some .int) 12 5 := ⟨mb_X12_span _ _, UG_of (i := 1133) (by decide +kernel) (by decide +kernel), wm_X12_span, we_X12_span, rfl, by decide⟩
set_option maxRecDepth 100000 in
theorem wc_X11_rivals : Cond.code yX11_rivals cX11_rivals 6 (some .int) ∈ UG := UG_of (i := 705) rfl (by decide +kernel)
theorem mb_X11_rivals (own : String) (i : Nat) : MLB own i yX11_rivals cX11_rivals 6 (some .int) 3 := ⟨wi_X11, wc_X11_rivals, by decide +kernel⟩
theorem wm_X11_rivals : Cond.instanceMethod yX11_rivals ∈ UG := UG_of (i := 703) (by decide +kernel) (by decide +kernel)
theorem we_X11_rivals : Cond.selects (yX11_rivals).cls yX11_rivals yX11_rivals ∈ UG := UG_of (i := 704) (by decide +kernel) (by decide +kernel)
theorem mL_84 : MLV RL 84 yX11_rivals cX11_rivals 6 (some .int) 11 3 := ⟨mb_X11_rivals _ _, UG_of (i := 702) (by decide +kernel) (by decide +kernel), wm_X11_rivals, we_X11_rivals, rfl, by decide⟩
set_option maxRecDepth 100000 in
theorem wc_X12_rivals : Cond.code yX12_rivals cX12_rivals 10 (some .int) ∈ UG := UG_of (i := 1144) rfl (by decide +kernel)
theorem mb_X12_rivals (own : String) (i : Nat) : MLB own i yX12_rivals cX12_rivals 10 (some .int) 3 := ⟨wi_X12, wc_X12_rivals, by decide +kernel⟩
theorem wm_X12_rivals : Cond.instanceMethod yX12_rivals ∈ UG := UG_of (i := 1142) (by decide +kernel) (by decide +kernel)
theorem we_X12_rivals : Cond.selects (yX12_rivals).cls yX12_rivals yX12_rivals ∈ UG := UG_of (i := 1143) (by decide +kernel) (by decide +kernel)
theorem mL_87 : MLV RL 87 yX12_rivals cX12_rivals 10 (some .int) 12 3 := ⟨mb_X12_rivals _ _, UG_of (i := 1141) (by decide +kernel) (by decide +kernel), wm_X12_rivals, we_X12_rivals, rfl, by decide⟩
set_option maxRecDepth 100000 in
theorem wc_X11_shared : Cond.code yX11_shared cX11_shared 4 (some .int) ∈ UG := UG_of (i := 731) rfl (by decide +kernel)
theorem mb_X11_shared (own : String) (i : Nat) : MLB own i yX11_shared cX11_shared 4 (some .int) 3 := ⟨wi_X11, wc_X11_shared, by decide +kernel⟩
theorem wm_X11_shared : Cond.instanceMethod yX11_shared ∈ UG := UG_of (i := 729) (by decide +kernel) (by decide +kernel)
theorem we_X11_shared : Cond.selects (yX11_shared).cls yX11_shared yX11_shared ∈ UG := UG_of (i := 730) (by decide +kernel) (by decide +kernel)
theorem mL_88 : MLV RL 88 yX11_shared cX11_shared 4 (some .int) 11 3 := ⟨mb_X11_shared _ _, UG_of (i := 728) (by decide +kernel) (by decide +kernel), wm_X11_shared, we_X11_shared, rfl, by decide⟩
set_option maxRecDepth 100000 in
theorem wc_X12_shared : Cond.code yX12_shared cX12_shared 8 (some .int) ∈ UG := UG_of (i := 1153) rfl (by decide +kernel)
theorem mb_X12_shared (own : String) (i : Nat) : MLB own i yX12_shared cX12_shared 8 (some .int) 3 := ⟨wi_X12, wc_X12_shared, by decide +kernel⟩
theorem wm_X12_shared : Cond.instanceMethod yX12_shared ∈ UG := UG_of (i := 1151) (by decide +kernel) (by decide +kernel)
theorem we_X12_shared : Cond.selects (yX12_shared).cls yX12_shared yX12_shared ∈ UG := UG_of (i := 1152) (by decide +kernel) (by decide +kernel)
theorem mL_91 : MLV RL 91 yX12_shared cX12_shared 8 (some .int) 12 3 := ⟨mb_X12_shared _ _, UG_of (i := 1150) (by decide +kernel) (by decide +kernel), wm_X12_shared, we_X12_shared, rfl, by decide⟩
set_option maxRecDepth 100000 in
theorem wc_X12_of : Cond.code yX12_of cX12_of 4 (some .int) ∈ UG := UG_of (i := 1161) rfl (by decide +kernel)
theorem mb_X12_of (own : String) (i : Nat) : MLB own i yX12_of cX12_of 4 (some .int) 2 := ⟨wi_X12, wc_X12_of, by decide +kernel⟩
theorem wm_X12_of : Cond.instanceMethod yX12_of ∈ UG := UG_of (i := 1159) (by decide +kernel) (by decide +kernel)
theorem we_X12_of : Cond.selects (yX12_of).cls yX12_of yX12_of ∈ UG := UG_of (i := 1160) (by decide +kernel) (by decide +kernel)
theorem mL_97 : MLV RL 97 yX12_of cX12_of 4 (some .int) 12 2 := ⟨mb_X12_of _ _, UG_of (i := 1158) (by decide +kernel) (by decide +kernel), wm_X12_of, we_X12_of, rfl, by decide⟩
set_option maxRecDepth 100000 in
theorem wc_X12_thrown : Cond.code yX12_thrown cX12_thrown 1 (some .int) ∈ UG := UG_of (i := 971) rfl (by decide +kernel)
theorem mb_X12_thrown (own : String) (i : Nat) : MLB own i yX12_thrown cX12_thrown 1 (some .int) 0 := ⟨wi_X12, wc_X12_thrown, by decide +kernel⟩
theorem wm_X12_thrown : Cond.instanceMethod yX12_thrown ∈ UG := UG_of (i := 969) (by decide +kernel) (by decide +kernel)
theorem we_X12_thrown : Cond.selects (yX12_thrown).cls yX12_thrown yX12_thrown ∈ UG := UG_of (i := 970) (by decide +kernel) (by decide +kernel)
theorem mL_98 : MLV RL 98 yX12_thrown cX12_thrown 1 (some .int) 12 0 := ⟨mb_X12_thrown _ _, UG_of (i := 968) (by decide +kernel) (by decide +kernel), wm_X12_thrown, we_X12_thrown, rfl, by decide⟩
set_option maxRecDepth 100000 in
theorem wc_X11_letter : Cond.code yX11_letter cX11_letter 5 (some .int) ∈ UG := UG_of (i := 756) rfl (by decide +kernel)
theorem mb_X11_letter (own : String) (i : Nat) : MLB own i yX11_letter cX11_letter 5 (some .int) 3 := ⟨wi_X11, wc_X11_letter, by decide +kernel⟩
theorem wm_X11_letter : Cond.instanceMethod yX11_letter ∈ UG := UG_of (i := 754) (by decide +kernel) (by decide +kernel)
theorem we_X11_letter : Cond.selects (yX11_letter).cls yX11_letter yX11_letter ∈ UG := UG_of (i := 755) (by decide +kernel) (by decide +kernel)
theorem mL_101 : MLV RL 101 yX11_letter cX11_letter 5 (some .int) 11 3 := ⟨mb_X11_letter _ _, UG_of (i := 753) (by decide +kernel) (by decide +kernel), wm_X11_letter, we_X11_letter, rfl, by decide⟩
set_option maxRecDepth 100000 in
theorem wc_X12_letter : Cond.code yX12_letter cX12_letter 4 (some .int) ∈ UG := UG_of (i := 1165) rfl (by decide +kernel)
theorem mb_X12_letter (own : String) (i : Nat) : MLB own i yX12_letter cX12_letter 4 (some .int) 3 := ⟨wi_X12, wc_X12_letter, by decide +kernel⟩
theorem wm_X12_letter : Cond.instanceMethod yX12_letter ∈ UG := UG_of (i := 1163) (by decide +kernel) (by decide +kernel)
theorem we_X12_letter : Cond.selects (yX12_letter).cls yX12_letter yX12_letter ∈ UG := UG_of (i := 1164) (by decide +kernel) (by decide +kernel)
theorem mL_104 : MLV RL 104 yX12_letter cX12_letter 4 (some .int) 12 3 := ⟨mb_X12_letter _ _, UG_of (i := 1162) (by decide +kernel) (by decide +kernel), wm_X12_letter, we_X12_letter, rfl, by decide⟩
set_option maxRecDepth 100000 in
theorem wc_X11_count : Cond.code yX11_count cX11_count 2 (some .int) ∈ UG := UG_of (i := 760) rfl (by decide +kernel)
theorem mb_X11_count (own : String) (i : Nat) : MLB own i yX11_count cX11_count 2 (some .int) 1 := ⟨wi_X11, wc_X11_count, by decide +kernel⟩
theorem wm_X11_count : Cond.instanceMethod yX11_count ∈ UG := UG_of (i := 758) (by decide +kernel) (by decide +kernel)
theorem we_X11_count : Cond.selects (yX11_count).cls yX11_count yX11_count ∈ UG := UG_of (i := 759) (by decide +kernel) (by decide +kernel)
theorem mL_105 : MLV RL 105 yX11_count cX11_count 2 (some .int) 11 1 := ⟨mb_X11_count _ _, UG_of (i := 757) (by decide +kernel) (by decide +kernel), wm_X11_count, we_X11_count, rfl, by decide⟩
set_option maxRecDepth 100000 in
theorem wc_X12_count : Cond.code yX12_count cX12_count 2 (some .int) ∈ UG := UG_of (i := 1169) rfl (by decide +kernel)
theorem mb_X12_count (own : String) (i : Nat) : MLB own i yX12_count cX12_count 2 (some .int) 1 := ⟨wi_X12, wc_X12_count, by decide +kernel⟩
theorem wm_X12_count : Cond.instanceMethod yX12_count ∈ UG := UG_of (i := 1167) (by decide +kernel) (by decide +kernel)
theorem we_X12_count : Cond.selects (yX12_count).cls yX12_count yX12_count ∈ UG := UG_of (i := 1168) (by decide +kernel) (by decide +kernel)
theorem mL_108 : MLV RL 108 yX12_count cX12_count 2 (some .int) 12 1 := ⟨mb_X12_count _ _, UG_of (i := 1166) (by decide +kernel) (by decide +kernel), wm_X12_count, we_X12_count, rfl, by decide⟩
theorem mX0_1 : Cond.methodLink RX0 1 objectInit ∈ UG := UG_of (i := 198) (by decide +kernel) (by decide +kernel)
theorem xX0_7 : Cond.classLink RX0 7 "MileLists$Name" ∈ UG := UG_of (i := 199) (by decide +kernel) (by decide +kernel)
set_option maxRecDepth 100000 in
theorem wc_X3_init : Cond.code yX3_init cX3_init 1 none ∈ UG := UG_of (i := 103) rfl (by decide +kernel)
theorem wi_X3 : Cond.initialized RX3 ∈ UG := UG_of (i := 55) (by decide +kernel) (by decide +kernel)
theorem mb_X3_init (own : String) (i : Nat) : MLB own i yX3_init cX3_init 1 none 0 := ⟨wi_X3, wc_X3_init, by decide +kernel⟩
theorem wm_X3_init : Cond.instanceMethod yX3_init ∈ UG := UG_of (i := 102) (by decide +kernel) (by decide +kernel)
theorem mX0_9 : MLN RX0 9 yX3_init cX3_init 1 0 := ⟨mb_X3_init _ _, by decide +kernel, wm_X3_init, rfl⟩
theorem fX0_10 : FL RX0 10 0 0 true := ⟨RX0, TX0, 4, fcX0, by decide, by decide +kernel, by decide +kernel, UG_of (i := 201) (by decide +kernel) (by decide +kernel)⟩
set_option maxRecDepth 100000 in
theorem wc_X3_copy : Cond.code yX3_copy cX3_copy 3 none ∈ UG := UG_of (i := 486) rfl (by decide +kernel)
theorem mb_X3_copy (own : String) (i : Nat) : MLB own i yX3_copy cX3_copy 3 none 1 := ⟨wi_X3, wc_X3_copy, by decide +kernel⟩
theorem wm_X3_copy : Cond.instanceMethod yX3_copy ∈ UG := UG_of (i := 484) (by decide +kernel) (by decide +kernel)
theorem we_X3_copy : Cond.selects (yX3_copy).cls yX3_copy yX3_copy ∈ UG := UG_of (i := 485) (by decide +kernel) (by decide +kernel)
theorem mX0_16 : MLV RX0 16 yX3_copy cX3_copy 3 none 3 1 := ⟨mb_X3_copy _ _, UG_of (i := 483) (by decide +kernel) (by decide +kernel), wm_X3_copy, we_X3_copy, rfl, by decide⟩
theorem fX0_20 : FL RX0 20 0 1 false := ⟨RX0, TX0, 4, fcX0, by decide, by decide +kernel, by decide +kernel, UG_of (i := 203) (by decide +kernel) (by decide +kernel)⟩
theorem fX0_24 : FL RX0 24 0 2 false := ⟨RX0, TX0, 4, fcX0, by decide, by decide +kernel, by decide +kernel, UG_of (i := 206) (by decide +kernel) (by decide +kernel)⟩
theorem fX0_27 : FL RX0 27 0 3 false := ⟨RX0, TX0, 4, fcX0, by decide, by decide +kernel, by decide +kernel, UG_of (i := 208) (by decide +kernel) (by decide +kernel)⟩
theorem mX1_3 : Cond.methodLink RX1 3 objectInit ∈ UG := UG_of (i := 249) (by decide +kernel) (by decide +kernel)
theorem fX1_9 : FL RX1 9 1 0 true := ⟨RX1, TX1, 4, fcX1, by decide, by decide +kernel, by decide +kernel, UG_of (i := 250) (by decide +kernel) (by decide +kernel)⟩
theorem fX1_15 : FL RX1 15 1 1 true := ⟨RX1, TX1, 4, fcX1, by decide, by decide +kernel, by decide +kernel, UG_of (i := 251) (by decide +kernel) (by decide +kernel)⟩
theorem fX1_18 : FL RX1 18 1 2 true := ⟨RX1, TX1, 4, fcX1, by decide, by decide +kernel, by decide +kernel, UG_of (i := 252) (by decide +kernel) (by decide +kernel)⟩
theorem fX1_21 : FL RX1 21 1 3 false := ⟨RX1, TX1, 4, fcX1, by decide, by decide +kernel, by decide +kernel, UG_of (i := 254) (by decide +kernel) (by decide +kernel)⟩
theorem fX1_25 : FL RX1 25 4 1 false := ⟨RX4, TX4, 2, fcX4, by decide, by decide +kernel, by decide +kernel, UG_of (i := 153) (by decide +kernel) (by decide +kernel)⟩
set_option maxRecDepth 100000 in
theorem wc_X4_holds : Cond.code yX4_holds cX4_holds 3 (some .boolean) ∈ UG := UG_of (i := 598) rfl (by decide +kernel)
theorem wi_X4 : Cond.initialized RX4 ∈ UG := UG_of (i := 58) (by decide +kernel) (by decide +kernel)
theorem mb_X4_holds (own : String) (i : Nat) : MLB own i yX4_holds cX4_holds 3 (some .boolean) 1 := ⟨wi_X4, wc_X4_holds, by decide +kernel⟩
theorem wm_X4_holds : Cond.instanceMethod yX4_holds ∈ UG := UG_of (i := 596) (by decide +kernel) (by decide +kernel)
theorem we_X4_holds : Cond.selects (yX4_holds).cls yX4_holds yX4_holds ∈ UG := UG_of (i := 597) (by decide +kernel) (by decide +kernel)
theorem mX1_28 : MLV RX1 28 yX4_holds cX4_holds 3 (some .boolean) 4 1 := ⟨mb_X4_holds _ _, UG_of (i := 595) (by decide +kernel) (by decide +kernel), wm_X4_holds, we_X4_holds, rfl, by decide⟩
set_option maxRecDepth 100000 in
theorem wc_X4_canSwap : Cond.code yX4_canSwap cX4_canSwap 6 (some .boolean) ∈ UG := UG_of (i := 602) rfl (by decide +kernel)
theorem mb_X4_canSwap (own : String) (i : Nat) : MLB own i yX4_canSwap cX4_canSwap 6 (some .boolean) 2 := ⟨wi_X4, wc_X4_canSwap, by decide +kernel⟩
theorem wm_X4_canSwap : Cond.instanceMethod yX4_canSwap ∈ UG := UG_of (i := 600) (by decide +kernel) (by decide +kernel)
theorem we_X4_canSwap : Cond.selects (yX4_canSwap).cls yX4_canSwap yX4_canSwap ∈ UG := UG_of (i := 601) (by decide +kernel) (by decide +kernel)
theorem mX1_32 : MLV RX1 32 yX4_canSwap cX4_canSwap 6 (some .boolean) 4 2 := ⟨mb_X4_canSwap _ _, UG_of (i := 599) (by decide +kernel) (by decide +kernel), wm_X4_canSwap, we_X4_canSwap, rfl, by decide⟩
theorem mX10_3 : Cond.methodLink RX10 3 objectInit ∈ UG := UG_of (i := 84) (by decide +kernel) (by decide +kernel)
theorem fX10_9 : FL RX10 9 10 0 true := ⟨RX10, TX10, 2, fcX10, by decide, by decide +kernel, by decide +kernel, UG_of (i := 85) (by decide +kernel) (by decide +kernel)⟩
theorem fX10_15 : FL RX10 15 10 1 false := ⟨RX10, TX10, 2, fcX10, by decide, by decide +kernel, by decide +kernel, UG_of (i := 89) (by decide +kernel) (by decide +kernel)⟩
set_option maxRecDepth 100000 in
theorem wc_X10_lettersFrom : Cond.code yX10_lettersFrom cX10_lettersFrom 3 (some .int) ∈ UG := UG_of (i := 410) rfl (by decide +kernel)
theorem wi_X10 : Cond.initialized RX10 ∈ UG := UG_of (i := 54) (by decide +kernel) (by decide +kernel)
theorem mb_X10_lettersFrom (own : String) (i : Nat) : MLB own i yX10_lettersFrom cX10_lettersFrom 3 (some .int) 1 := ⟨wi_X10, wc_X10_lettersFrom, by decide +kernel⟩
theorem wm_X10_lettersFrom : Cond.instanceMethod yX10_lettersFrom ∈ UG := UG_of (i := 408) (by decide +kernel) (by decide +kernel)
theorem we_X10_lettersFrom : Cond.selects (yX10_lettersFrom).cls yX10_lettersFrom yX10_lettersFrom ∈ UG := UG_of (i := 409) (by decide +kernel) (by decide +kernel)
theorem mX10_19 : MLV RX10 19 yX10_lettersFrom cX10_lettersFrom 3 (some .int) 10 1 := ⟨mb_X10_lettersFrom _ _, UG_of (i := 466) (by decide +kernel) (by decide +kernel), wm_X10_lettersFrom, we_X10_lettersFrom, rfl, by decide⟩
set_option maxRecDepth 100000 in
theorem wc_X10_signOf : Cond.code yX10_signOf cX10_signOf 1 (some .int) ∈ UG := UG_of (i := 437) rfl (by decide +kernel)
theorem mb_X10_signOf (own : String) (i : Nat) : MLB own i yX10_signOf cX10_signOf 1 (some .int) 1 := ⟨wi_X10, wc_X10_signOf, by decide +kernel⟩
theorem ws_X10_signOf : Cond.static yX10_signOf ∈ UG := UG_of (i := 436) (by decide +kernel) (by decide +kernel)
theorem mX10_23 : MLS RX10 23 yX10_signOf cX10_signOf 1 (some .int) 1 := ⟨mb_X10_signOf _ _, UG_of (i := 435) (by decide +kernel) (by decide +kernel), ws_X10_signOf⟩
theorem mX11_3 : Cond.methodLink RX11 3 objectInit ∈ UG := UG_of (i := 76) (by decide +kernel) (by decide +kernel)
theorem xX11_9 : Cond.classLink RX11 9 "MileLists$Tape" ∈ UG := UG_of (i := 79) (by decide +kernel) (by decide +kernel)
set_option maxRecDepth 100000 in
theorem wc_X10_init : Cond.code yX10_init cX10_init 1 none ∈ UG := UG_of (i := 83) rfl (by decide +kernel)
theorem mb_X10_init (own : String) (i : Nat) : MLB own i yX10_init cX10_init 1 none 0 := ⟨wi_X10, wc_X10_init, by decide +kernel⟩
theorem wm_X10_init : Cond.instanceMethod yX10_init ∈ UG := UG_of (i := 82) (by decide +kernel) (by decide +kernel)
theorem mX11_11 : MLN RX11 11 yX10_init cX10_init 1 0 := ⟨mb_X10_init _ _, by decide +kernel, wm_X10_init, rfl⟩
theorem fX11_12 : FL RX11 12 11 0 true := ⟨RX11, TX11, 11, fcX11, by decide, by decide +kernel, by decide +kernel, UG_of (i := 342) (by decide +kernel) (by decide +kernel)⟩
theorem xX11_16 : Cond.classLink RX11 16 "MileLists$Name" ∈ UG := UG_of (i := 99) (by decide +kernel) (by decide +kernel)
theorem mX11_18 : MLN RX11 18 yX3_init cX3_init 1 0 := ⟨mb_X3_init _ _, by decide +kernel, wm_X3_init, rfl⟩
theorem fX11_19 : FL RX11 19 11 1 true := ⟨RX11, TX11, 11, fcX11, by decide, by decide +kernel, by decide +kernel, UG_of (i := 343) (by decide +kernel) (by decide +kernel)⟩
theorem xX11_23 : Cond.classLink RX11 23 "MileLists$Scribe" ∈ UG := UG_of (i := 116) (by decide +kernel) (by decide +kernel)
set_option maxRecDepth 100000 in
theorem wc_X8_init : Cond.code yX8_init cX8_init 1 none ∈ UG := UG_of (i := 120) rfl (by decide +kernel)
theorem wi_X8 : Cond.initialized RX8 ∈ UG := UG_of (i := 56) (by decide +kernel) (by decide +kernel)
theorem mb_X8_init (own : String) (i : Nat) : MLB own i yX8_init cX8_init 1 none 0 := ⟨wi_X8, wc_X8_init, by decide +kernel⟩
theorem wm_X8_init : Cond.instanceMethod yX8_init ∈ UG := UG_of (i := 119) (by decide +kernel) (by decide +kernel)
theorem mX11_25 : MLN RX11 25 yX8_init cX8_init 1 0 := ⟨mb_X8_init _ _, by decide +kernel, wm_X8_init, rfl⟩
theorem fX11_26 : FL RX11 26 11 2 true := ⟨RX11, TX11, 11, fcX11, by decide, by decide +kernel, by decide +kernel, UG_of (i := 344) (by decide +kernel) (by decide +kernel)⟩
theorem xX11_30 : Cond.classLink RX11 30 "MileLists$Route" ∈ UG := UG_of (i := 134) (by decide +kernel) (by decide +kernel)
theorem fX11_32 : FL RX11 32 11 3 true := ⟨RX11, TX11, 11, fcX11, by decide, by decide +kernel, by decide +kernel, UG_of (i := 345) (by decide +kernel) (by decide +kernel)⟩
set_option maxRecDepth 100000 in
theorem wc_X7_init : Cond.code yX7_init cX7_init 2 none ∈ UG := UG_of (i := 139) rfl (by decide +kernel)
theorem wi_X7 : Cond.initialized RX7 ∈ UG := UG_of (i := 57) (by decide +kernel) (by decide +kernel)
theorem mb_X7_init (own : String) (i : Nat) : MLB own i yX7_init cX7_init 2 none 0 := ⟨wi_X7, wc_X7_init, by decide +kernel⟩
theorem wm_X7_init : Cond.instanceMethod yX7_init ∈ UG := UG_of (i := 138) (by decide +kernel) (by decide +kernel)
theorem mX11_36 : MLI RX11 36 yX7_init cX7_init 2 0 := ⟨mb_X7_init _ _, UG_of (i := 137) (by decide +kernel) (by decide +kernel), wm_X7_init, rfl⟩
theorem fX11_37 : FL RX11 37 11 4 false := ⟨RX11, TX11, 11, fcX11, by decide, by decide +kernel, by decide +kernel, UG_of (i := 346) (by decide +kernel) (by decide +kernel)⟩
theorem fX11_41 : FL RX11 41 11 5 false := ⟨RX11, TX11, 11, fcX11, by decide, by decide +kernel, by decide +kernel, UG_of (i := 347) (by decide +kernel) (by decide +kernel)⟩
theorem xX11_44 : Cond.classLink RX11 44 "MileLists$Land" ∈ UG := UG_of (i := 186) (by decide +kernel) (by decide +kernel)
set_option maxRecDepth 100000 in
theorem wc_X2_init : Cond.code yX2_init cX2_init 2 none ∈ UG := UG_of (i := 190) rfl (by decide +kernel)
theorem wi_X2 : Cond.initialized RX2 ∈ UG := UG_of (i := 59) (by decide +kernel) (by decide +kernel)
theorem mb_X2_init (own : String) (i : Nat) : MLB own i yX2_init cX2_init 2 none 0 := ⟨wi_X2, wc_X2_init, by decide +kernel⟩
theorem wm_X2_init : Cond.instanceMethod yX2_init ∈ UG := UG_of (i := 189) (by decide +kernel) (by decide +kernel)
theorem mX11_46 : MLI RX11 46 yX2_init cX2_init 2 0 := ⟨mb_X2_init _ _, UG_of (i := 188) (by decide +kernel) (by decide +kernel), wm_X2_init, rfl⟩
theorem fX11_47 : FL RX11 47 11 6 true := ⟨RX11, TX11, 11, fcX11, by decide, by decide +kernel, by decide +kernel, UG_of (i := 348) (by decide +kernel) (by decide +kernel)⟩
theorem xX11_51 : Cond.classLink RX11 51 "MileLists$Habits" ∈ UG := UG_of (i := 244) (by decide +kernel) (by decide +kernel)
set_option maxRecDepth 100000 in
theorem wc_X1_init : Cond.code yX1_init cX1_init 1 none ∈ UG := UG_of (i := 248) rfl (by decide +kernel)
theorem wi_X1 : Cond.initialized RX1 ∈ UG := UG_of (i := 61) (by decide +kernel) (by decide +kernel)
theorem mb_X1_init (own : String) (i : Nat) : MLB own i yX1_init cX1_init 1 none 0 := ⟨wi_X1, wc_X1_init, by decide +kernel⟩
theorem wm_X1_init : Cond.instanceMethod yX1_init ∈ UG := UG_of (i := 247) (by decide +kernel) (by decide +kernel)
theorem mX11_53 : MLN RX11 53 yX1_init cX1_init 1 0 := ⟨mb_X1_init _ _, by decide +kernel, wm_X1_init, rfl⟩
theorem fX11_54 : FL RX11 54 11 7 true := ⟨RX11, TX11, 11, fcX11, by decide, by decide +kernel, by decide +kernel, UG_of (i := 349) (by decide +kernel) (by decide +kernel)⟩
theorem xX11_58 : Cond.classLink RX11 58 "MileLists$Sounds" ∈ UG := UG_of (i := 266) (by decide +kernel) (by decide +kernel)
set_option maxRecDepth 100000 in
theorem wc_X9_init : Cond.code yX9_init cX9_init 2 none ∈ UG := UG_of (i := 270) rfl (by decide +kernel)
theorem wi_X9 : Cond.initialized RX9 ∈ UG := UG_of (i := 62) (by decide +kernel) (by decide +kernel)
theorem mb_X9_init (own : String) (i : Nat) : MLB own i yX9_init cX9_init 2 none 0 := ⟨wi_X9, wc_X9_init, by decide +kernel⟩
theorem wm_X9_init : Cond.instanceMethod yX9_init ∈ UG := UG_of (i := 269) (by decide +kernel) (by decide +kernel)
theorem mX11_60 : MLI RX11 60 yX9_init cX9_init 2 0 := ⟨mb_X9_init _ _, UG_of (i := 268) (by decide +kernel) (by decide +kernel), wm_X9_init, rfl⟩
theorem fX11_61 : FL RX11 61 11 8 true := ⟨RX11, TX11, 11, fcX11, by decide, by decide +kernel, by decide +kernel, UG_of (i := 350) (by decide +kernel) (by decide +kernel)⟩
theorem xX11_65 : Cond.classLink RX11 65 "MileLists$Placer" ∈ UG := UG_of (i := 279) (by decide +kernel) (by decide +kernel)
set_option maxRecDepth 100000 in
theorem wc_X5_init : Cond.code yX5_init cX5_init 2 none ∈ UG := UG_of (i := 283) rfl (by decide +kernel)
theorem wi_X5 : Cond.initialized RX5 ∈ UG := UG_of (i := 63) (by decide +kernel) (by decide +kernel)
theorem mb_X5_init (own : String) (i : Nat) : MLB own i yX5_init cX5_init 2 none 0 := ⟨wi_X5, wc_X5_init, by decide +kernel⟩
theorem wm_X5_init : Cond.instanceMethod yX5_init ∈ UG := UG_of (i := 282) (by decide +kernel) (by decide +kernel)
theorem mX11_67 : MLI RX11 67 yX5_init cX5_init 2 0 := ⟨mb_X5_init _ _, UG_of (i := 281) (by decide +kernel) (by decide +kernel), wm_X5_init, rfl⟩
theorem fX11_68 : FL RX11 68 11 9 true := ⟨RX11, TX11, 11, fcX11, by decide, by decide +kernel, by decide +kernel, UG_of (i := 351) (by decide +kernel) (by decide +kernel)⟩
theorem fX11_72 : FL RX11 72 11 10 false := ⟨RX11, TX11, 11, fcX11, by decide, by decide +kernel, by decide +kernel, UG_of (i := 352) (by decide +kernel) (by decide +kernel)⟩
theorem fX11_75 : FL RX11 75 10 1 false := ⟨RX10, TX10, 2, fcX10, by decide, by decide +kernel, by decide +kernel, UG_of (i := 88) (by decide +kernel) (by decide +kernel)⟩
set_option maxRecDepth 100000 in
theorem wc_X10_addFour : Cond.code yX10_addFour cX10_addFour 3 none ∈ UG := UG_of (i := 383) rfl (by decide +kernel)
theorem mb_X10_addFour (own : String) (i : Nat) : MLB own i yX10_addFour cX10_addFour 3 none 1 := ⟨wi_X10, wc_X10_addFour, by decide +kernel⟩
theorem wm_X10_addFour : Cond.instanceMethod yX10_addFour ∈ UG := UG_of (i := 381) (by decide +kernel) (by decide +kernel)
theorem we_X10_addFour : Cond.selects (yX10_addFour).cls yX10_addFour yX10_addFour ∈ UG := UG_of (i := 382) (by decide +kernel) (by decide +kernel)
theorem mX11_78 : MLV RX11 78 yX10_addFour cX10_addFour 3 none 10 1 := ⟨mb_X10_addFour _ _, UG_of (i := 380) (by decide +kernel) (by decide +kernel), wm_X10_addFour, we_X10_addFour, rfl, by decide⟩
set_option maxRecDepth 100000 in
theorem wc_X11_isUnit : Cond.code yX11_isUnit cX11_isUnit 1 (some .boolean) ∈ UG := UG_of (i := 394) rfl (by decide +kernel)
theorem mb_X11_isUnit (own : String) (i : Nat) : MLB own i yX11_isUnit cX11_isUnit 1 (some .boolean) 1 := ⟨wi_X11, wc_X11_isUnit, by decide +kernel⟩
theorem ws_X11_isUnit : Cond.static yX11_isUnit ∈ UG := UG_of (i := 393) (by decide +kernel) (by decide +kernel)
theorem mX11_82 : MLS RX11 82 yX11_isUnit cX11_isUnit 1 (some .boolean) 1 := ⟨mb_X11_isUnit _ _, UG_of (i := 392) (by decide +kernel) (by decide +kernel), ws_X11_isUnit⟩
set_option maxRecDepth 100000 in
theorem wc_X8_readText : Cond.code yX8_readText cX8_readText 4 none ∈ UG := UG_of (i := 398) rfl (by decide +kernel)
theorem mb_X8_readText (own : String) (i : Nat) : MLB own i yX8_readText cX8_readText 4 none 2 := ⟨wi_X8, wc_X8_readText, by decide +kernel⟩
theorem wm_X8_readText : Cond.instanceMethod yX8_readText ∈ UG := UG_of (i := 396) (by decide +kernel) (by decide +kernel)
theorem we_X8_readText : Cond.selects (yX8_readText).cls yX8_readText yX8_readText ∈ UG := UG_of (i := 397) (by decide +kernel) (by decide +kernel)
theorem mX11_86 : MLV RX11 86 yX8_readText cX8_readText 4 none 8 2 := ⟨mb_X8_readText _ _, UG_of (i := 395) (by decide +kernel) (by decide +kernel), wm_X8_readText, we_X8_readText, rfl, by decide⟩
theorem fX11_90 : FL RX11 90 8 1 false := ⟨RX8, TX8, 3, fcX8, by decide, by decide +kernel, by decide +kernel, UG_of (i := 125) (by decide +kernel) (by decide +kernel)⟩
theorem fX11_91 : FL RX11 91 8 0 false := ⟨RX8, TX8, 3, fcX8, by decide, by decide +kernel, by decide +kernel, UG_of (i := 123) (by decide +kernel) (by decide +kernel)⟩
theorem fX11_94 : FL RX11 94 7 3 false := ⟨RX7, TX7, 5, fcX7, by decide, by decide +kernel, by decide +kernel, UG_of (i := 169) (by decide +kernel) (by decide +kernel)⟩
set_option maxRecDepth 100000 in
theorem wc_X11_takeName : Cond.code yX11_takeName cX11_takeName 2 (some .boolean) ∈ UG := UG_of (i := 461) rfl (by decide +kernel)
theorem mb_X11_takeName (own : String) (i : Nat) : MLB own i yX11_takeName cX11_takeName 2 (some .boolean) 0 := ⟨wi_X11, wc_X11_takeName, by decide +kernel⟩
theorem wm_X11_takeName : Cond.instanceMethod yX11_takeName ∈ UG := UG_of (i := 460) (by decide +kernel) (by decide +kernel)
theorem we_X11_takeName : Cond.selects (yX11_takeName).cls yX11_takeName yX11_takeName ∈ UG := UG_of (i := 4) (by decide +kernel) (by decide +kernel)
theorem mX11_97 : MLV RX11 97 yX11_takeName cX11_takeName 2 (some .boolean) 11 0 := ⟨mb_X11_takeName _ _, UG_of (i := 458) (by decide +kernel) (by decide +kernel), wm_X11_takeName, we_X11_takeName, rfl, by decide⟩
set_option maxRecDepth 100000 in
theorem wc_X11_isPlace : Cond.code yX11_isPlace cX11_isPlace 1 (some .boolean) ∈ UG := UG_of (i := 470) rfl (by decide +kernel)
theorem mb_X11_isPlace (own : String) (i : Nat) : MLB own i yX11_isPlace cX11_isPlace 1 (some .boolean) 1 := ⟨wi_X11, wc_X11_isPlace, by decide +kernel⟩
theorem ws_X11_isPlace : Cond.static yX11_isPlace ∈ UG := UG_of (i := 469) (by decide +kernel) (by decide +kernel)
theorem mX11_101 : MLS RX11 101 yX11_isPlace cX11_isPlace 1 (some .boolean) 1 := ⟨mb_X11_isPlace _ _, UG_of (i := 468) (by decide +kernel) (by decide +kernel), ws_X11_isPlace⟩
set_option maxRecDepth 100000 in
theorem wc_X2_hasRuinAt : Cond.code yX2_hasRuinAt cX2_hasRuinAt 3 (some .boolean) ∈ UG := UG_of (i := 474) rfl (by decide +kernel)
theorem mb_X2_hasRuinAt (own : String) (i : Nat) : MLB own i yX2_hasRuinAt cX2_hasRuinAt 3 (some .boolean) 1 := ⟨wi_X2, wc_X2_hasRuinAt, by decide +kernel⟩
theorem wm_X2_hasRuinAt : Cond.instanceMethod yX2_hasRuinAt ∈ UG := UG_of (i := 472) (by decide +kernel) (by decide +kernel)
theorem we_X2_hasRuinAt : Cond.selects (yX2_hasRuinAt).cls yX2_hasRuinAt yX2_hasRuinAt ∈ UG := UG_of (i := 473) (by decide +kernel) (by decide +kernel)
theorem mX11_104 : MLV RX11 104 yX2_hasRuinAt cX2_hasRuinAt 3 (some .boolean) 2 1 := ⟨mb_X2_hasRuinAt _ _, UG_of (i := 471) (by decide +kernel) (by decide +kernel), wm_X2_hasRuinAt, we_X2_hasRuinAt, rfl, by decide⟩
set_option maxRecDepth 100000 in
theorem wc_X2_addRuin : Cond.code yX2_addRuin cX2_addRuin 4 (some .int) ∈ UG := UG_of (i := 478) rfl (by decide +kernel)
theorem mb_X2_addRuin (own : String) (i : Nat) : MLB own i yX2_addRuin cX2_addRuin 4 (some .int) 3 := ⟨wi_X2, wc_X2_addRuin, by decide +kernel⟩
theorem wm_X2_addRuin : Cond.instanceMethod yX2_addRuin ∈ UG := UG_of (i := 476) (by decide +kernel) (by decide +kernel)
theorem we_X2_addRuin : Cond.selects (yX2_addRuin).cls yX2_addRuin yX2_addRuin ∈ UG := UG_of (i := 477) (by decide +kernel) (by decide +kernel)
theorem mX11_107 : MLV RX11 107 yX2_addRuin cX2_addRuin 4 (some .int) 2 3 := ⟨mb_X2_addRuin _ _, UG_of (i := 475) (by decide +kernel) (by decide +kernel), wm_X2_addRuin, we_X2_addRuin, rfl, by decide⟩
set_option maxRecDepth 100000 in
theorem wc_X2_addStone : Cond.code yX2_addStone cX2_addStone 5 (some .int) ∈ UG := UG_of (i := 494) rfl (by decide +kernel)
theorem mb_X2_addStone (own : String) (i : Nat) : MLB own i yX2_addStone cX2_addStone 5 (some .int) 4 := ⟨wi_X2, wc_X2_addStone, by decide +kernel⟩
theorem wm_X2_addStone : Cond.instanceMethod yX2_addStone ∈ UG := UG_of (i := 492) (by decide +kernel) (by decide +kernel)
theorem we_X2_addStone : Cond.selects (yX2_addStone).cls yX2_addStone yX2_addStone ∈ UG := UG_of (i := 493) (by decide +kernel) (by decide +kernel)
theorem mX11_111 : MLV RX11 111 yX2_addStone cX2_addStone 5 (some .int) 2 4 := ⟨mb_X2_addStone _ _, UG_of (i := 491) (by decide +kernel) (by decide +kernel), wm_X2_addStone, we_X2_addStone, rfl, by decide⟩
set_option maxRecDepth 100000 in
theorem wc_X11_isSignOrNone : Cond.code yX11_isSignOrNone cX11_isSignOrNone 1 (some .boolean) ∈ UG := UG_of (i := 501) rfl (by decide +kernel)
theorem mb_X11_isSignOrNone (own : String) (i : Nat) : MLB own i yX11_isSignOrNone cX11_isSignOrNone 1 (some .boolean) 1 := ⟨wi_X11, wc_X11_isSignOrNone, by decide +kernel⟩
theorem ws_X11_isSignOrNone : Cond.static yX11_isSignOrNone ∈ UG := UG_of (i := 500) (by decide +kernel) (by decide +kernel)
theorem mX11_115 : MLS RX11 115 yX11_isSignOrNone cX11_isSignOrNone 1 (some .boolean) 1 := ⟨mb_X11_isSignOrNone _ _, UG_of (i := 499) (by decide +kernel) (by decide +kernel), ws_X11_isSignOrNone⟩
set_option maxRecDepth 100000 in
theorem wc_X1_add : Cond.code yX1_add cX1_add 4 (some .int) ∈ UG := UG_of (i := 507) rfl (by decide +kernel)
theorem mb_X1_add (own : String) (i : Nat) : MLB own i yX1_add cX1_add 4 (some .int) 3 := ⟨wi_X1, wc_X1_add, by decide +kernel⟩
theorem wm_X1_add : Cond.instanceMethod yX1_add ∈ UG := UG_of (i := 505) (by decide +kernel) (by decide +kernel)
theorem we_X1_add : Cond.selects (yX1_add).cls yX1_add yX1_add ∈ UG := UG_of (i := 506) (by decide +kernel) (by decide +kernel)
theorem mX11_118 : MLV RX11 118 yX1_add cX1_add 4 (some .int) 1 3 := ⟨mb_X1_add _ _, UG_of (i := 504) (by decide +kernel) (by decide +kernel), wm_X1_add, we_X1_add, rfl, by decide⟩
set_option maxRecDepth 100000 in
theorem wc_X9_alike : Cond.code yX9_alike cX9_alike 4 (some .boolean) ∈ UG := UG_of (i := 515) rfl (by decide +kernel)
theorem mb_X9_alike (own : String) (i : Nat) : MLB own i yX9_alike cX9_alike 4 (some .boolean) 2 := ⟨wi_X9, wc_X9_alike, by decide +kernel⟩
theorem wm_X9_alike : Cond.instanceMethod yX9_alike ∈ UG := UG_of (i := 513) (by decide +kernel) (by decide +kernel)
theorem we_X9_alike : Cond.selects (yX9_alike).cls yX9_alike yX9_alike ∈ UG := UG_of (i := 514) (by decide +kernel) (by decide +kernel)
theorem mX11_122 : MLV RX11 122 yX9_alike cX9_alike 4 (some .boolean) 9 2 := ⟨mb_X9_alike _ _, UG_of (i := 512) (by decide +kernel) (by decide +kernel), wm_X9_alike, we_X9_alike, rfl, by decide⟩
set_option maxRecDepth 100000 in
theorem wc_X9_join : Cond.code yX9_join cX9_join 6 none ∈ UG := UG_of (i := 519) rfl (by decide +kernel)
theorem mb_X9_join (own : String) (i : Nat) : MLB own i yX9_join cX9_join 6 none 2 := ⟨wi_X9, wc_X9_join, by decide +kernel⟩
theorem wm_X9_join : Cond.instanceMethod yX9_join ∈ UG := UG_of (i := 517) (by decide +kernel) (by decide +kernel)
theorem we_X9_join : Cond.selects (yX9_join).cls yX9_join yX9_join ∈ UG := UG_of (i := 518) (by decide +kernel) (by decide +kernel)
theorem mX11_126 : MLV RX11 126 yX9_join cX9_join 6 none 9 2 := ⟨mb_X9_join _ _, UG_of (i := 516) (by decide +kernel) (by decide +kernel), wm_X9_join, we_X9_join, rfl, by decide⟩
theorem fX11_130 : FL RX11 130 2 4 false := ⟨RX2, TX2, 6, fcX2, by decide, by decide +kernel, by decide +kernel, UG_of (i := 228) (by decide +kernel) (by decide +kernel)⟩
theorem fX11_133 : FL RX11 133 2 5 false := ⟨RX2, TX2, 6, fcX2, by decide, by decide +kernel, by decide +kernel, UG_of (i := 230) (by decide +kernel) (by decide +kernel)⟩
theorem kX11_136 : LC RX11 136 (100000) := UG_of (i := 528) (by decide +kernel) (by decide +kernel)
set_option maxRecDepth 100000 in
theorem wc_X11_hasStation : Cond.code yX11_hasStation cX11_hasStation 3 (some .boolean) ∈ UG := UG_of (i := 536) rfl (by decide +kernel)
theorem mb_X11_hasStation (own : String) (i : Nat) : MLB own i yX11_hasStation cX11_hasStation 3 (some .boolean) 2 := ⟨wi_X11, wc_X11_hasStation, by decide +kernel⟩
theorem wm_X11_hasStation : Cond.instanceMethod yX11_hasStation ∈ UG := UG_of (i := 535) (by decide +kernel) (by decide +kernel)
theorem we_X11_hasStation : Cond.selects (yX11_hasStation).cls yX11_hasStation yX11_hasStation ∈ UG := UG_of (i := 5) (by decide +kernel) (by decide +kernel)
theorem mX11_137 : MLV RX11 137 yX11_hasStation cX11_hasStation 3 (some .boolean) 11 2 := ⟨mb_X11_hasStation _ _, UG_of (i := 533) (by decide +kernel) (by decide +kernel), wm_X11_hasStation, we_X11_hasStation, rfl, by decide⟩
theorem fX11_140 : FL RX11 140 7 0 true := ⟨RX7, TX7, 5, fcX7, by decide, by decide +kernel, by decide +kernel, UG_of (i := 162) (by decide +kernel) (by decide +kernel)⟩
set_option maxRecDepth 100000 in
theorem wc_X9_distance : Cond.code yX9_distance cX9_distance 7 (some .int) ∈ UG := UG_of (i := 548) rfl (by decide +kernel)
theorem mb_X9_distance (own : String) (i : Nat) : MLB own i yX9_distance cX9_distance 7 (some .int) 2 := ⟨wi_X9, wc_X9_distance, by decide +kernel⟩
theorem wm_X9_distance : Cond.instanceMethod yX9_distance ∈ UG := UG_of (i := 546) (by decide +kernel) (by decide +kernel)
theorem we_X9_distance : Cond.selects (yX9_distance).cls yX9_distance yX9_distance ∈ UG := UG_of (i := 547) (by decide +kernel) (by decide +kernel)
theorem mX11_144 : MLV RX11 144 yX9_distance cX9_distance 7 (some .int) 9 2 := ⟨mb_X9_distance _ _, UG_of (i := 545) (by decide +kernel) (by decide +kernel), wm_X9_distance, we_X9_distance, rfl, by decide⟩
set_option maxRecDepth 100000 in
theorem wc_X11_hasNumeral : Cond.code yX11_hasNumeral cX11_hasNumeral 3 (some .boolean) ∈ UG := UG_of (i := 564) rfl (by decide +kernel)
theorem mb_X11_hasNumeral (own : String) (i : Nat) : MLB own i yX11_hasNumeral cX11_hasNumeral 3 (some .boolean) 2 := ⟨wi_X11, wc_X11_hasNumeral, by decide +kernel⟩
theorem wm_X11_hasNumeral : Cond.instanceMethod yX11_hasNumeral ∈ UG := UG_of (i := 563) (by decide +kernel) (by decide +kernel)
theorem we_X11_hasNumeral : Cond.selects (yX11_hasNumeral).cls yX11_hasNumeral yX11_hasNumeral ∈ UG := UG_of (i := 8) (by decide +kernel) (by decide +kernel)
theorem mX11_148 : MLV RX11 148 yX11_hasNumeral cX11_hasNumeral 3 (some .boolean) 11 2 := ⟨mb_X11_hasNumeral _ _, UG_of (i := 561) (by decide +kernel) (by decide +kernel), wm_X11_hasNumeral, we_X11_hasNumeral, rfl, by decide⟩
theorem fX11_151 : FL RX11 151 7 1 true := ⟨RX7, TX7, 5, fcX7, by decide, by decide +kernel, by decide +kernel, UG_of (i := 166) (by decide +kernel) (by decide +kernel)⟩
set_option maxRecDepth 100000 in
theorem wc_X5_costOfValue : Cond.code yX5_costOfValue cX5_costOfValue 4 (some .int) ∈ UG := UG_of (i := 572) rfl (by decide +kernel)
theorem mb_X5_costOfValue (own : String) (i : Nat) : MLB own i yX5_costOfValue cX5_costOfValue 4 (some .int) 3 := ⟨wi_X5, wc_X5_costOfValue, by decide +kernel⟩
theorem wm_X5_costOfValue : Cond.instanceMethod yX5_costOfValue ∈ UG := UG_of (i := 570) (by decide +kernel) (by decide +kernel)
theorem we_X5_costOfValue : Cond.selects (yX5_costOfValue).cls yX5_costOfValue yX5_costOfValue ∈ UG := UG_of (i := 571) (by decide +kernel) (by decide +kernel)
theorem mX11_155 : MLV RX11 155 yX5_costOfValue cX5_costOfValue 4 (some .int) 5 3 := ⟨mb_X5_costOfValue _ _, UG_of (i := 569) (by decide +kernel) (by decide +kernel), wm_X5_costOfValue, we_X5_costOfValue, rfl, by decide⟩
set_option maxRecDepth 100000 in
theorem wc_X11_hasList : Cond.code yX11_hasList cX11_hasList 2 (some .boolean) ∈ UG := UG_of (i := 540) rfl (by decide +kernel)
theorem mb_X11_hasList (own : String) (i : Nat) : MLB own i yX11_hasList cX11_hasList 2 (some .boolean) 1 := ⟨wi_X11, wc_X11_hasList, by decide +kernel⟩
theorem wm_X11_hasList : Cond.instanceMethod yX11_hasList ∈ UG := UG_of (i := 539) (by decide +kernel) (by decide +kernel)
theorem we_X11_hasList : Cond.selects (yX11_hasList).cls yX11_hasList yX11_hasList ∈ UG := UG_of (i := 6) (by decide +kernel) (by decide +kernel)
theorem mX11_159 : MLV RX11 159 yX11_hasList cX11_hasList 2 (some .boolean) 11 1 := ⟨mb_X11_hasList _ _, UG_of (i := 537) (by decide +kernel) (by decide +kernel), wm_X11_hasList, we_X11_hasList, rfl, by decide⟩
set_option maxRecDepth 100000 in
theorem wc_X11_isKnownDay : Cond.code yX11_isKnownDay cX11_isKnownDay 2 (some .boolean) ∈ UG := UG_of (i := 619) rfl (by decide +kernel)
theorem mb_X11_isKnownDay (own : String) (i : Nat) : MLB own i yX11_isKnownDay cX11_isKnownDay 2 (some .boolean) 1 := ⟨wi_X11, wc_X11_isKnownDay, by decide +kernel⟩
theorem wm_X11_isKnownDay : Cond.instanceMethod yX11_isKnownDay ∈ UG := UG_of (i := 618) (by decide +kernel) (by decide +kernel)
theorem we_X11_isKnownDay : Cond.selects (yX11_isKnownDay).cls yX11_isKnownDay yX11_isKnownDay ∈ UG := UG_of (i := 11) (by decide +kernel) (by decide +kernel)
theorem mX11_162 : MLV RX11 162 yX11_isKnownDay cX11_isKnownDay 2 (some .boolean) 11 1 := ⟨mb_X11_isKnownDay _ _, UG_of (i := 616) (by decide +kernel) (by decide +kernel), wm_X11_isKnownDay, we_X11_isKnownDay, rfl, by decide⟩
set_option maxRecDepth 100000 in
theorem wc_X11_lay : Cond.code yX11_lay cX11_lay 5 (some .boolean) ∈ UG := UG_of (i := 623) rfl (by decide +kernel)
theorem mb_X11_lay (own : String) (i : Nat) : MLB own i yX11_lay cX11_lay 5 (some .boolean) 2 := ⟨wi_X11, wc_X11_lay, by decide +kernel⟩
theorem wm_X11_lay : Cond.instanceMethod yX11_lay ∈ UG := UG_of (i := 622) (by decide +kernel) (by decide +kernel)
theorem we_X11_lay : Cond.selects (yX11_lay).cls yX11_lay yX11_lay ∈ UG := UG_of (i := 12) (by decide +kernel) (by decide +kernel)
theorem mX11_165 : MLV RX11 165 yX11_lay cX11_lay 5 (some .boolean) 11 2 := ⟨mb_X11_lay _ _, UG_of (i := 620) (by decide +kernel) (by decide +kernel), wm_X11_lay, we_X11_lay, rfl, by decide⟩
theorem fX11_168 : FL RX11 168 5 9 false := ⟨RX5, TX5, 10, fcX5, by decide, by decide +kernel, by decide +kernel, UG_of (i := 320) (by decide +kernel) (by decide +kernel)⟩
set_option maxRecDepth 100000 in
theorem wc_X5_walkBest : Cond.code yX5_walkBest cX5_walkBest 3 none ∈ UG := UG_of (i := 666) rfl (by decide +kernel)
theorem mb_X5_walkBest (own : String) (i : Nat) : MLB own i yX5_walkBest cX5_walkBest 3 none 0 := ⟨wi_X5, wc_X5_walkBest, by decide +kernel⟩
theorem wm_X5_walkBest : Cond.instanceMethod yX5_walkBest ∈ UG := UG_of (i := 664) (by decide +kernel) (by decide +kernel)
theorem we_X5_walkBest : Cond.selects (yX5_walkBest).cls yX5_walkBest yX5_walkBest ∈ UG := UG_of (i := 665) (by decide +kernel) (by decide +kernel)
theorem mX11_171 : MLV RX11 171 yX5_walkBest cX5_walkBest 3 none 5 0 := ⟨mb_X5_walkBest _ _, UG_of (i := 663) (by decide +kernel) (by decide +kernel), wm_X5_walkBest, we_X5_walkBest, rfl, by decide⟩
theorem fX11_174 : FL RX11 174 5 6 true := ⟨RX5, TX5, 10, fcX5, by decide, by decide +kernel, by decide +kernel, UG_of (i := 316) (by decide +kernel) (by decide +kernel)⟩
set_option maxRecDepth 100000 in
theorem wc_X11_isWidth : Cond.code yX11_isWidth cX11_isWidth 1 (some .boolean) ∈ UG := UG_of (i := 681) rfl (by decide +kernel)
theorem mb_X11_isWidth (own : String) (i : Nat) : MLB own i yX11_isWidth cX11_isWidth 1 (some .boolean) 1 := ⟨wi_X11, wc_X11_isWidth, by decide +kernel⟩
theorem ws_X11_isWidth : Cond.static yX11_isWidth ∈ UG := UG_of (i := 680) (by decide +kernel) (by decide +kernel)
theorem mX11_178 : MLS RX11 178 yX11_isWidth cX11_isWidth 1 (some .boolean) 1 := ⟨mb_X11_isWidth _ _, UG_of (i := 679) (by decide +kernel) (by decide +kernel), ws_X11_isWidth⟩
set_option maxRecDepth 100000 in
theorem wc_X5_fillBefore : Cond.code yX5_fillBefore cX5_fillBefore 4 none ∈ UG := UG_of (i := 685) rfl (by decide +kernel)
theorem mb_X5_fillBefore (own : String) (i : Nat) : MLB own i yX5_fillBefore cX5_fillBefore 4 none 1 := ⟨wi_X5, wc_X5_fillBefore, by decide +kernel⟩
theorem wm_X5_fillBefore : Cond.instanceMethod yX5_fillBefore ∈ UG := UG_of (i := 683) (by decide +kernel) (by decide +kernel)
theorem we_X5_fillBefore : Cond.selects (yX5_fillBefore).cls yX5_fillBefore yX5_fillBefore ∈ UG := UG_of (i := 684) (by decide +kernel) (by decide +kernel)
theorem mX11_181 : MLV RX11 181 yX5_fillBefore cX5_fillBefore 4 none 5 1 := ⟨mb_X5_fillBefore _ _, UG_of (i := 682) (by decide +kernel) (by decide +kernel), wm_X5_fillBefore, we_X5_fillBefore, rfl, by decide⟩
set_option maxRecDepth 100000 in
theorem wc_X5_leastPlace : Cond.code yX5_leastPlace cX5_leastPlace 4 (some .int) ∈ UG := UG_of (i := 693) rfl (by decide +kernel)
theorem mb_X5_leastPlace (own : String) (i : Nat) : MLB own i yX5_leastPlace cX5_leastPlace 4 (some .int) 2 := ⟨wi_X5, wc_X5_leastPlace, by decide +kernel⟩
theorem wm_X5_leastPlace : Cond.instanceMethod yX5_leastPlace ∈ UG := UG_of (i := 691) (by decide +kernel) (by decide +kernel)
theorem we_X5_leastPlace : Cond.selects (yX5_leastPlace).cls yX5_leastPlace yX5_leastPlace ∈ UG := UG_of (i := 692) (by decide +kernel) (by decide +kernel)
theorem mX11_184 : MLV RX11 184 yX5_leastPlace cX5_leastPlace 4 (some .int) 5 2 := ⟨mb_X5_leastPlace _ _, UG_of (i := 690) (by decide +kernel) (by decide +kernel), wm_X5_leastPlace, we_X5_leastPlace, rfl, by decide⟩
set_option maxRecDepth 100000 in
theorem wc_X5_greatestPlace : Cond.code yX5_greatestPlace cX5_greatestPlace 4 (some .int) ∈ UG := UG_of (i := 701) rfl (by decide +kernel)
theorem mb_X5_greatestPlace (own : String) (i : Nat) : MLB own i yX5_greatestPlace cX5_greatestPlace 4 (some .int) 2 := ⟨wi_X5, wc_X5_greatestPlace, by decide +kernel⟩
theorem wm_X5_greatestPlace : Cond.instanceMethod yX5_greatestPlace ∈ UG := UG_of (i := 699) (by decide +kernel) (by decide +kernel)
theorem we_X5_greatestPlace : Cond.selects (yX5_greatestPlace).cls yX5_greatestPlace yX5_greatestPlace ∈ UG := UG_of (i := 700) (by decide +kernel) (by decide +kernel)
theorem mX11_188 : MLV RX11 188 yX5_greatestPlace cX5_greatestPlace 4 (some .int) 5 2 := ⟨mb_X5_greatestPlace _ _, UG_of (i := 698) (by decide +kernel) (by decide +kernel), wm_X5_greatestPlace, we_X5_greatestPlace, rfl, by decide⟩
set_option maxRecDepth 100000 in
theorem wc_X5_countWithin : Cond.code yX5_countWithin cX5_countWithin 5 (some .long) ∈ UG := UG_of (i := 709) rfl (by decide +kernel)
theorem mb_X5_countWithin (own : String) (i : Nat) : MLB own i yX5_countWithin cX5_countWithin 5 (some .long) 1 := ⟨wi_X5, wc_X5_countWithin, by decide +kernel⟩
theorem wm_X5_countWithin : Cond.instanceMethod yX5_countWithin ∈ UG := UG_of (i := 707) (by decide +kernel) (by decide +kernel)
theorem we_X5_countWithin : Cond.selects (yX5_countWithin).cls yX5_countWithin yX5_countWithin ∈ UG := UG_of (i := 708) (by decide +kernel) (by decide +kernel)
theorem mX11_191 : MLV RX11 191 yX5_countWithin cX5_countWithin 5 (some .long) 5 1 := ⟨mb_X5_countWithin _ _, UG_of (i := 706) (by decide +kernel) (by decide +kernel), wm_X5_countWithin, we_X5_countWithin, rfl, by decide⟩
theorem kX11_195 : LCL RX11 195 (1000000) := UG_of (i := 726) (by decide +kernel) (by decide +kernel)
theorem kX11_197 : LC RX11 197 (1000000) := UG_of (i := 727) (by decide +kernel) (by decide +kernel)
set_option maxRecDepth 100000 in
theorem wc_X11_markMisread : Cond.code yX11_markMisread cX11_markMisread 3 (some .boolean) ∈ UG := UG_of (i := 735) rfl (by decide +kernel)
theorem mb_X11_markMisread (own : String) (i : Nat) : MLB own i yX11_markMisread cX11_markMisread 3 (some .boolean) 2 := ⟨wi_X11, wc_X11_markMisread, by decide +kernel⟩
theorem wm_X11_markMisread : Cond.instanceMethod yX11_markMisread ∈ UG := UG_of (i := 734) (by decide +kernel) (by decide +kernel)
theorem we_X11_markMisread : Cond.selects (yX11_markMisread).cls yX11_markMisread yX11_markMisread ∈ UG := UG_of (i := 24) (by decide +kernel) (by decide +kernel)
theorem mX11_198 : MLV RX11 198 yX11_markMisread cX11_markMisread 3 (some .boolean) 11 2 := ⟨mb_X11_markMisread _ _, UG_of (i := 732) (by decide +kernel) (by decide +kernel), wm_X11_markMisread, we_X11_markMisread, rfl, by decide⟩
set_option maxRecDepth 100000 in
theorem wc_X7_countShared : Cond.code yX7_countShared cX7_countShared 5 (some .int) ∈ UG := UG_of (i := 744) rfl (by decide +kernel)
theorem mb_X7_countShared (own : String) (i : Nat) : MLB own i yX7_countShared cX7_countShared 5 (some .int) 1 := ⟨wi_X7, wc_X7_countShared, by decide +kernel⟩
theorem wm_X7_countShared : Cond.instanceMethod yX7_countShared ∈ UG := UG_of (i := 742) (by decide +kernel) (by decide +kernel)
theorem we_X7_countShared : Cond.selects (yX7_countShared).cls yX7_countShared yX7_countShared ∈ UG := UG_of (i := 743) (by decide +kernel) (by decide +kernel)
theorem mX11_201 : MLV RX11 201 yX7_countShared cX7_countShared 5 (some .int) 7 1 := ⟨mb_X7_countShared _ _, UG_of (i := 741) (by decide +kernel) (by decide +kernel), wm_X7_countShared, we_X7_countShared, rfl, by decide⟩
theorem xX11_205 : Cond.classLink RX11 205 "java/util/NoSuchElementException" ∈ UG := UG_of (i := 773) (by decide +kernel) (by decide +kernel)
theorem fX11_212 : FL RX11 212 7 4 false := ⟨RX7, TX7, 5, fcX7, by decide, by decide +kernel, by decide +kernel, UG_of (i := 174) (by decide +kernel) (by decide +kernel)⟩
set_option maxRecDepth 100000 in
theorem wc_X7_hasNumeral : Cond.code yX7_hasNumeral cX7_hasNumeral 2 (some .boolean) ∈ UG := UG_of (i := 568) rfl (by decide +kernel)
theorem mb_X7_hasNumeral (own : String) (i : Nat) : MLB own i yX7_hasNumeral cX7_hasNumeral 2 (some .boolean) 1 := ⟨wi_X7, wc_X7_hasNumeral, by decide +kernel⟩
theorem wm_X7_hasNumeral : Cond.instanceMethod yX7_hasNumeral ∈ UG := UG_of (i := 566) (by decide +kernel) (by decide +kernel)
theorem we_X7_hasNumeral : Cond.selects (yX7_hasNumeral).cls yX7_hasNumeral yX7_hasNumeral ∈ UG := UG_of (i := 567) (by decide +kernel) (by decide +kernel)
theorem mX11_215 : MLV RX11 215 yX7_hasNumeral cX7_hasNumeral 2 (some .boolean) 7 1 := ⟨mb_X7_hasNumeral _ _, UG_of (i := 565) (by decide +kernel) (by decide +kernel), wm_X7_hasNumeral, we_X7_hasNumeral, rfl, by decide⟩
set_option maxRecDepth 100000 in
theorem wc_X4_value : Cond.code yX4_value cX4_value 3 (some .int) ∈ UG := UG_of (i := 580) rfl (by decide +kernel)
theorem mb_X4_value (own : String) (i : Nat) : MLB own i yX4_value cX4_value 3 (some .int) 0 := ⟨wi_X4, wc_X4_value, by decide +kernel⟩
theorem wm_X4_value : Cond.instanceMethod yX4_value ∈ UG := UG_of (i := 578) (by decide +kernel) (by decide +kernel)
theorem we_X4_value : Cond.selects (yX4_value).cls yX4_value yX4_value ∈ UG := UG_of (i := 579) (by decide +kernel) (by decide +kernel)
theorem mX11_217 : MLV RX11 217 yX4_value cX4_value 3 (some .int) 4 0 := ⟨mb_X4_value _ _, UG_of (i := 839) (by decide +kernel) (by decide +kernel), wm_X4_value, we_X4_value, rfl, by decide⟩
set_option maxRecDepth 100000 in
theorem wc_X7_hasStation : Cond.code yX7_hasStation cX7_hasStation 2 (some .boolean) ∈ UG := UG_of (i := 544) rfl (by decide +kernel)
theorem mb_X7_hasStation (own : String) (i : Nat) : MLB own i yX7_hasStation cX7_hasStation 2 (some .boolean) 1 := ⟨wi_X7, wc_X7_hasStation, by decide +kernel⟩
theorem wm_X7_hasStation : Cond.instanceMethod yX7_hasStation ∈ UG := UG_of (i := 542) (by decide +kernel) (by decide +kernel)
theorem we_X7_hasStation : Cond.selects (yX7_hasStation).cls yX7_hasStation yX7_hasStation ∈ UG := UG_of (i := 543) (by decide +kernel) (by decide +kernel)
theorem mX11_223 : MLV RX11 223 yX7_hasStation cX7_hasStation 2 (some .boolean) 7 1 := ⟨mb_X7_hasStation _ _, UG_of (i := 541) (by decide +kernel) (by decide +kernel), wm_X7_hasStation, we_X7_hasStation, rfl, by decide⟩
theorem fX11_225 : FL RX11 225 3 1 false := ⟨RX3, TX3, 2, fcX3, by decide, by decide +kernel, by decide +kernel, UG_of (i := 110) (by decide +kernel) (by decide +kernel)⟩
theorem fX11_228 : FL RX11 228 3 0 true := ⟨RX3, TX3, 2, fcX3, by decide, by decide +kernel, by decide +kernel, UG_of (i := 107) (by decide +kernel) (by decide +kernel)⟩
theorem fX11_231 : FL RX11 231 2 2 false := ⟨RX2, TX2, 6, fcX2, by decide, by decide +kernel, by decide +kernel, UG_of (i := 224) (by decide +kernel) (by decide +kernel)⟩
theorem fX11_234 : FL RX11 234 2 3 false := ⟨RX2, TX2, 6, fcX2, by decide, by decide +kernel, by decide +kernel, UG_of (i := 226) (by decide +kernel) (by decide +kernel)⟩
theorem fX11_237 : FL RX11 237 1 3 false := ⟨RX1, TX1, 4, fcX1, by decide, by decide +kernel, by decide +kernel, UG_of (i := 256) (by decide +kernel) (by decide +kernel)⟩
set_option maxRecDepth 100000 in
theorem wc_X11_countOfRuin : Cond.code yX11_countOfRuin cX11_countOfRuin 2 (some .int) ∈ UG := UG_of (i := 764) rfl (by decide +kernel)
theorem mb_X11_countOfRuin (own : String) (i : Nat) : MLB own i yX11_countOfRuin cX11_countOfRuin 2 (some .int) 1 := ⟨wi_X11, wc_X11_countOfRuin, by decide +kernel⟩
theorem wm_X11_countOfRuin : Cond.instanceMethod yX11_countOfRuin ∈ UG := UG_of (i := 763) (by decide +kernel) (by decide +kernel)
theorem we_X11_countOfRuin : Cond.selects (yX11_countOfRuin).cls yX11_countOfRuin yX11_countOfRuin ∈ UG := UG_of (i := 26) (by decide +kernel) (by decide +kernel)
theorem mX11_238 : MLV RX11 238 yX11_countOfRuin cX11_countOfRuin 2 (some .int) 11 1 := ⟨mb_X11_countOfRuin _ _, UG_of (i := 761) (by decide +kernel) (by decide +kernel), wm_X11_countOfRuin, we_X11_countOfRuin, rfl, by decide⟩
theorem fX11_242 : FL RX11 242 2 0 true := ⟨RX2, TX2, 6, fcX2, by decide, by decide +kernel, by decide +kernel, UG_of (i := 221) (by decide +kernel) (by decide +kernel)⟩
theorem fX11_246 : FL RX11 246 0 1 false := ⟨RX0, TX0, 4, fcX0, by decide, by decide +kernel, by decide +kernel, UG_of (i := 205) (by decide +kernel) (by decide +kernel)⟩
theorem fX11_251 : FL RX11 251 0 3 false := ⟨RX0, TX0, 4, fcX0, by decide, by decide +kernel, by decide +kernel, UG_of (i := 210) (by decide +kernel) (by decide +kernel)⟩
set_option maxRecDepth 100000 in
theorem wc_X10_isName : Cond.code yX10_isName cX10_isName 1 (some .boolean) ∈ UG := UG_of (i := 465) rfl (by decide +kernel)
theorem mb_X10_isName (own : String) (i : Nat) : MLB own i yX10_isName cX10_isName 1 (some .boolean) 0 := ⟨wi_X10, wc_X10_isName, by decide +kernel⟩
theorem wm_X10_isName : Cond.instanceMethod yX10_isName ∈ UG := UG_of (i := 463) (by decide +kernel) (by decide +kernel)
theorem we_X10_isName : Cond.selects (yX10_isName).cls yX10_isName yX10_isName ∈ UG := UG_of (i := 464) (by decide +kernel) (by decide +kernel)
theorem mX11_254 : MLV RX11 254 yX10_isName cX10_isName 1 (some .boolean) 10 0 := ⟨mb_X10_isName _ _, UG_of (i := 462) (by decide +kernel) (by decide +kernel), wm_X10_isName, we_X10_isName, rfl, by decide⟩
set_option maxRecDepth 100000 in
theorem wc_X3_take : Cond.code yX3_take cX3_take 5 none ∈ UG := UG_of (i := 422) rfl (by decide +kernel)
theorem mb_X3_take (own : String) (i : Nat) : MLB own i yX3_take cX3_take 5 none 3 := ⟨wi_X3, wc_X3_take, by decide +kernel⟩
theorem wm_X3_take : Cond.instanceMethod yX3_take ∈ UG := UG_of (i := 420) (by decide +kernel) (by decide +kernel)
theorem we_X3_take : Cond.selects (yX3_take).cls yX3_take yX3_take ∈ UG := UG_of (i := 421) (by decide +kernel) (by decide +kernel)
theorem mX11_257 : MLV RX11 257 yX3_take cX3_take 5 none 3 3 := ⟨mb_X3_take _ _, UG_of (i := 467) (by decide +kernel) (by decide +kernel), wm_X3_take, we_X3_take, rfl, by decide⟩
theorem fX11_261 : Cond.fieldLink RX11 261 "MileLists" "SIGN_VALUES" "[I" ∈ UG := UG_of (i := 502) (by decide +kernel) (by decide +kernel)
set_option maxRecDepth 100000 in
theorem wc_X5_takeRoute : Cond.code yX5_takeRoute cX5_takeRoute 4 none ∈ UG := UG_of (i := 627) rfl (by decide +kernel)
theorem mb_X5_takeRoute (own : String) (i : Nat) : MLB own i yX5_takeRoute cX5_takeRoute 4 none 2 := ⟨wi_X5, wc_X5_takeRoute, by decide +kernel⟩
theorem wm_X5_takeRoute : Cond.instanceMethod yX5_takeRoute ∈ UG := UG_of (i := 625) (by decide +kernel) (by decide +kernel)
theorem we_X5_takeRoute : Cond.selects (yX5_takeRoute).cls yX5_takeRoute yX5_takeRoute ∈ UG := UG_of (i := 626) (by decide +kernel) (by decide +kernel)
theorem mX11_264 : MLV RX11 264 yX5_takeRoute cX5_takeRoute 4 none 5 2 := ⟨mb_X5_takeRoute _ _, UG_of (i := 624) (by decide +kernel) (by decide +kernel), wm_X5_takeRoute, we_X5_takeRoute, rfl, by decide⟩
theorem fX11_268 : FL RX11 268 5 0 true := ⟨RX5, TX5, 10, fcX5, by decide, by decide +kernel, by decide +kernel, UG_of (i := 309) (by decide +kernel) (by decide +kernel)⟩
set_option maxRecDepth 100000 in
theorem wc_X2_fillCosts : Cond.code yX2_fillCosts cX2_fillCosts 7 none ∈ UG := UG_of (i := 632) rfl (by decide +kernel)
theorem mb_X2_fillCosts (own : String) (i : Nat) : MLB own i yX2_fillCosts cX2_fillCosts 7 none 4 := ⟨wi_X2, wc_X2_fillCosts, by decide +kernel⟩
theorem wm_X2_fillCosts : Cond.instanceMethod yX2_fillCosts ∈ UG := UG_of (i := 630) (by decide +kernel) (by decide +kernel)
theorem we_X2_fillCosts : Cond.selects (yX2_fillCosts).cls yX2_fillCosts yX2_fillCosts ∈ UG := UG_of (i := 631) (by decide +kernel) (by decide +kernel)
theorem mX11_272 : MLV RX11 272 yX2_fillCosts cX2_fillCosts 7 none 2 4 := ⟨mb_X2_fillCosts _ _, UG_of (i := 629) (by decide +kernel) (by decide +kernel), wm_X2_fillCosts, we_X2_fillCosts, rfl, by decide⟩
set_option maxRecDepth 100000 in
theorem wc_X5_fillRest : Cond.code yX5_fillRest cX5_fillRest 4 none ∈ UG := UG_of (i := 645) rfl (by decide +kernel)
theorem mb_X5_fillRest (own : String) (i : Nat) : MLB own i yX5_fillRest cX5_fillRest 4 none 0 := ⟨wi_X5, wc_X5_fillRest, by decide +kernel⟩
theorem wm_X5_fillRest : Cond.instanceMethod yX5_fillRest ∈ UG := UG_of (i := 643) (by decide +kernel) (by decide +kernel)
theorem we_X5_fillRest : Cond.selects (yX5_fillRest).cls yX5_fillRest yX5_fillRest ∈ UG := UG_of (i := 644) (by decide +kernel) (by decide +kernel)
theorem mX11_276 : MLV RX11 276 yX5_fillRest cX5_fillRest 4 none 5 0 := ⟨mb_X5_fillRest _ _, UG_of (i := 642) (by decide +kernel) (by decide +kernel), wm_X5_fillRest, we_X5_fillRest, rfl, by decide⟩
set_option maxRecDepth 100000 in
theorem wc_X5_hasPlacing : Cond.code yX5_hasPlacing cX5_hasPlacing 1 (some .boolean) ∈ UG := UG_of (i := 658) rfl (by decide +kernel)
theorem mb_X5_hasPlacing (own : String) (i : Nat) : MLB own i yX5_hasPlacing cX5_hasPlacing 1 (some .boolean) 0 := ⟨wi_X5, wc_X5_hasPlacing, by decide +kernel⟩
theorem wm_X5_hasPlacing : Cond.instanceMethod yX5_hasPlacing ∈ UG := UG_of (i := 656) (by decide +kernel) (by decide +kernel)
theorem we_X5_hasPlacing : Cond.selects (yX5_hasPlacing).cls yX5_hasPlacing yX5_hasPlacing ∈ UG := UG_of (i := 657) (by decide +kernel) (by decide +kernel)
theorem mX11_279 : MLV RX11 279 yX5_hasPlacing cX5_hasPlacing 1 (some .boolean) 5 0 := ⟨mb_X5_hasPlacing _ _, UG_of (i := 655) (by decide +kernel) (by decide +kernel), wm_X5_hasPlacing, we_X5_hasPlacing, rfl, by decide⟩
set_option maxRecDepth 100000 in
theorem wc_X7_markMisread : Cond.code yX7_markMisread cX7_markMisread 3 none ∈ UG := UG_of (i := 739) rfl (by decide +kernel)
theorem mb_X7_markMisread (own : String) (i : Nat) : MLB own i yX7_markMisread cX7_markMisread 3 none 1 := ⟨wi_X7, wc_X7_markMisread, by decide +kernel⟩
theorem wm_X7_markMisread : Cond.instanceMethod yX7_markMisread ∈ UG := UG_of (i := 737) (by decide +kernel) (by decide +kernel)
theorem we_X7_markMisread : Cond.selects (yX7_markMisread).cls yX7_markMisread yX7_markMisread ∈ UG := UG_of (i := 738) (by decide +kernel) (by decide +kernel)
theorem mX11_282 : MLV RX11 282 yX7_markMisread cX7_markMisread 3 none 7 1 := ⟨mb_X7_markMisread _ _, UG_of (i := 736) (by decide +kernel) (by decide +kernel), wm_X7_markMisread, we_X7_markMisread, rfl, by decide⟩
theorem mX12_1 : Cond.methodLink RX12 1 objectInit ∈ UG := UG_of (i := 846) (by decide +kernel) (by decide +kernel)
theorem fX12_7 : FL RX12 7 12 1 true := ⟨RX12, TX12, 40, fcX12, by decide, by decide +kernel, by decide +kernel, UG_of (i := 848) (by decide +kernel) (by decide +kernel)⟩
theorem fX12_13 : FL RX12 13 12 3 true := ⟨RX12, TX12, 40, fcX12, by decide, by decide +kernel, by decide +kernel, UG_of (i := 850) (by decide +kernel) (by decide +kernel)⟩
theorem fX12_17 : FL RX12 17 12 4 true := ⟨RX12, TX12, 40, fcX12, by decide, by decide +kernel, by decide +kernel, UG_of (i := 851) (by decide +kernel) (by decide +kernel)⟩
theorem fX12_20 : FL RX12 20 12 6 true := ⟨RX12, TX12, 40, fcX12, by decide, by decide +kernel, by decide +kernel, UG_of (i := 853) (by decide +kernel) (by decide +kernel)⟩
theorem fX12_23 : FL RX12 23 12 7 true := ⟨RX12, TX12, 40, fcX12, by decide, by decide +kernel, by decide +kernel, UG_of (i := 854) (by decide +kernel) (by decide +kernel)⟩
theorem fX12_26 : FL RX12 26 12 8 true := ⟨RX12, TX12, 40, fcX12, by decide, by decide +kernel, by decide +kernel, UG_of (i := 855) (by decide +kernel) (by decide +kernel)⟩
theorem fX12_30 : FL RX12 30 12 9 true := ⟨RX12, TX12, 40, fcX12, by decide, by decide +kernel, by decide +kernel, UG_of (i := 856) (by decide +kernel) (by decide +kernel)⟩
theorem fX12_33 : FL RX12 33 12 10 true := ⟨RX12, TX12, 40, fcX12, by decide, by decide +kernel, by decide +kernel, UG_of (i := 857) (by decide +kernel) (by decide +kernel)⟩
theorem fX12_36 : FL RX12 36 12 12 false := ⟨RX12, TX12, 40, fcX12, by decide, by decide +kernel, by decide +kernel, UG_of (i := 859) (by decide +kernel) (by decide +kernel)⟩
theorem fX12_40 : FL RX12 40 12 15 true := ⟨RX12, TX12, 40, fcX12, by decide, by decide +kernel, by decide +kernel, UG_of (i := 862) (by decide +kernel) (by decide +kernel)⟩
theorem fX12_43 : FL RX12 43 12 16 true := ⟨RX12, TX12, 40, fcX12, by decide, by decide +kernel, by decide +kernel, UG_of (i := 863) (by decide +kernel) (by decide +kernel)⟩
theorem fX12_46 : FL RX12 46 12 17 true := ⟨RX12, TX12, 40, fcX12, by decide, by decide +kernel, by decide +kernel, UG_of (i := 864) (by decide +kernel) (by decide +kernel)⟩
theorem fX12_49 : FL RX12 49 12 19 true := ⟨RX12, TX12, 40, fcX12, by decide, by decide +kernel, by decide +kernel, UG_of (i := 866) (by decide +kernel) (by decide +kernel)⟩
theorem fX12_52 : FL RX12 52 12 20 true := ⟨RX12, TX12, 40, fcX12, by decide, by decide +kernel, by decide +kernel, UG_of (i := 867) (by decide +kernel) (by decide +kernel)⟩
theorem fX12_55 : FL RX12 55 12 21 true := ⟨RX12, TX12, 40, fcX12, by decide, by decide +kernel, by decide +kernel, UG_of (i := 868) (by decide +kernel) (by decide +kernel)⟩
theorem fX12_58 : FL RX12 58 12 22 true := ⟨RX12, TX12, 40, fcX12, by decide, by decide +kernel, by decide +kernel, UG_of (i := 869) (by decide +kernel) (by decide +kernel)⟩
theorem fX12_61 : FL RX12 61 12 24 true := ⟨RX12, TX12, 40, fcX12, by decide, by decide +kernel, by decide +kernel, UG_of (i := 871) (by decide +kernel) (by decide +kernel)⟩
theorem fX12_64 : FL RX12 64 12 25 true := ⟨RX12, TX12, 40, fcX12, by decide, by decide +kernel, by decide +kernel, UG_of (i := 872) (by decide +kernel) (by decide +kernel)⟩
theorem fX12_67 : FL RX12 67 12 26 true := ⟨RX12, TX12, 40, fcX12, by decide, by decide +kernel, by decide +kernel, UG_of (i := 873) (by decide +kernel) (by decide +kernel)⟩
theorem fX12_70 : FL RX12 70 12 27 false := ⟨RX12, TX12, 40, fcX12, by decide, by decide +kernel, by decide +kernel, UG_of (i := 874) (by decide +kernel) (by decide +kernel)⟩
theorem fX12_73 : FL RX12 73 12 28 false := ⟨RX12, TX12, 40, fcX12, by decide, by decide +kernel, by decide +kernel, UG_of (i := 875) (by decide +kernel) (by decide +kernel)⟩
theorem fX12_76 : FL RX12 76 12 30 true := ⟨RX12, TX12, 40, fcX12, by decide, by decide +kernel, by decide +kernel, UG_of (i := 877) (by decide +kernel) (by decide +kernel)⟩
theorem fX12_79 : FL RX12 79 12 31 true := ⟨RX12, TX12, 40, fcX12, by decide, by decide +kernel, by decide +kernel, UG_of (i := 878) (by decide +kernel) (by decide +kernel)⟩
theorem fX12_82 : FL RX12 82 12 32 true := ⟨RX12, TX12, 40, fcX12, by decide, by decide +kernel, by decide +kernel, UG_of (i := 879) (by decide +kernel) (by decide +kernel)⟩
theorem fX12_85 : FL RX12 85 12 33 true := ⟨RX12, TX12, 40, fcX12, by decide, by decide +kernel, by decide +kernel, UG_of (i := 880) (by decide +kernel) (by decide +kernel)⟩
theorem fX12_88 : FL RX12 88 12 34 true := ⟨RX12, TX12, 40, fcX12, by decide, by decide +kernel, by decide +kernel, UG_of (i := 881) (by decide +kernel) (by decide +kernel)⟩
theorem fX12_91 : FL RX12 91 12 35 true := ⟨RX12, TX12, 40, fcX12, by decide, by decide +kernel, by decide +kernel, UG_of (i := 882) (by decide +kernel) (by decide +kernel)⟩
theorem fX12_94 : FL RX12 94 12 36 true := ⟨RX12, TX12, 40, fcX12, by decide, by decide +kernel, by decide +kernel, UG_of (i := 883) (by decide +kernel) (by decide +kernel)⟩
theorem fX12_97 : FL RX12 97 12 37 true := ⟨RX12, TX12, 40, fcX12, by decide, by decide +kernel, by decide +kernel, UG_of (i := 884) (by decide +kernel) (by decide +kernel)⟩
theorem fX12_100 : FL RX12 100 12 38 true := ⟨RX12, TX12, 40, fcX12, by decide, by decide +kernel, by decide +kernel, UG_of (i := 885) (by decide +kernel) (by decide +kernel)⟩
theorem fX12_103 : FL RX12 103 12 39 true := ⟨RX12, TX12, 40, fcX12, by decide, by decide +kernel, by decide +kernel, UG_of (i := 886) (by decide +kernel) (by decide +kernel)⟩
theorem fX12_106 : FL RX12 106 12 0 false := ⟨RX12, TX12, 40, fcX12, by decide, by decide +kernel, by decide +kernel, UG_of (i := 847) (by decide +kernel) (by decide +kernel)⟩
theorem fX12_109 : FL RX12 109 12 2 false := ⟨RX12, TX12, 40, fcX12, by decide, by decide +kernel, by decide +kernel, UG_of (i := 849) (by decide +kernel) (by decide +kernel)⟩
set_option maxRecDepth 100000 in
theorem wc_X12_within : Cond.code yX12_within cX12_within 3 (some .boolean) ∈ UG := UG_of (i := 982) rfl (by decide +kernel)
theorem mb_X12_within (own : String) (i : Nat) : MLB own i yX12_within cX12_within 3 (some .boolean) 3 := ⟨wi_X12, wc_X12_within, by decide +kernel⟩
theorem ws_X12_within : Cond.static yX12_within ∈ UG := UG_of (i := 981) (by decide +kernel) (by decide +kernel)
theorem mX12_112 : MLS RX12 112 yX12_within cX12_within 3 (some .boolean) 3 := ⟨mb_X12_within _ _, UG_of (i := 980) (by decide +kernel) (by decide +kernel), ws_X12_within⟩
set_option maxRecDepth 100000 in
theorem wc_X12_byteAt : Cond.code yX12_byteAt cX12_byteAt 2 (some .int) ∈ UG := UG_of (i := 1002) rfl (by decide +kernel)
theorem mb_X12_byteAt (own : String) (i : Nat) : MLB own i yX12_byteAt cX12_byteAt 2 (some .int) 1 := ⟨wi_X12, wc_X12_byteAt, by decide +kernel⟩
theorem wm_X12_byteAt : Cond.instanceMethod yX12_byteAt ∈ UG := UG_of (i := 1001) (by decide +kernel) (by decide +kernel)
theorem we_X12_byteAt : Cond.selects (yX12_byteAt).cls yX12_byteAt yX12_byteAt ∈ UG := UG_of (i := 30) (by decide +kernel) (by decide +kernel)
theorem mX12_116 : MLV RX12 116 yX12_byteAt cX12_byteAt 2 (some .int) 12 1 := ⟨mb_X12_byteAt _ _, UG_of (i := 999) (by decide +kernel) (by decide +kernel), wm_X12_byteAt, we_X12_byteAt, rfl, by decide⟩
set_option maxRecDepth 100000 in
theorem wc_X12_nameOf : Cond.code yX12_nameOf cX12_nameOf 7 (some .long) ∈ UG := UG_of (i := 1006) rfl (by decide +kernel)
theorem mb_X12_nameOf (own : String) (i : Nat) : MLB own i yX12_nameOf cX12_nameOf 7 (some .long) 2 := ⟨wi_X12, wc_X12_nameOf, by decide +kernel⟩
theorem wm_X12_nameOf : Cond.instanceMethod yX12_nameOf ∈ UG := UG_of (i := 1005) (by decide +kernel) (by decide +kernel)
theorem we_X12_nameOf : Cond.selects (yX12_nameOf).cls yX12_nameOf yX12_nameOf ∈ UG := UG_of (i := 31) (by decide +kernel) (by decide +kernel)
theorem mX12_120 : MLV RX12 120 yX12_nameOf cX12_nameOf 7 (some .long) 12 2 := ⟨mb_X12_nameOf _ _, UG_of (i := 1003) (by decide +kernel) (by decide +kernel), wm_X12_nameOf, we_X12_nameOf, rfl, by decide⟩
set_option maxRecDepth 100000 in
theorem wc_X12_letters : Cond.code yX12_letters cX12_letters 5 (some .int) ∈ UG := UG_of (i := 1065) rfl (by decide +kernel)
theorem mb_X12_letters (own : String) (i : Nat) : MLB own i yX12_letters cX12_letters 5 (some .int) 1 := ⟨wi_X12, wc_X12_letters, by decide +kernel⟩
theorem ws_X12_letters : Cond.static yX12_letters ∈ UG := UG_of (i := 1064) (by decide +kernel) (by decide +kernel)
theorem mX12_124 : MLS RX12 124 yX12_letters cX12_letters 5 (some .int) 1 := ⟨mb_X12_letters _ _, UG_of (i := 1063) (by decide +kernel) (by decide +kernel), ws_X12_letters⟩
theorem kX12_128 : LCL RX12 128 (255) := UG_of (i := 1072) (by decide +kernel) (by decide +kernel)
set_option maxRecDepth 100000 in
theorem wc_X12_less : Cond.code yX12_less cX12_less 2 (some .int) ∈ UG := UG_of (i := 1068) rfl (by decide +kernel)
theorem mb_X12_less (own : String) (i : Nat) : MLB own i yX12_less cX12_less 2 (some .int) 2 := ⟨wi_X12, wc_X12_less, by decide +kernel⟩
theorem ws_X12_less : Cond.static yX12_less ∈ UG := UG_of (i := 1067) (by decide +kernel) (by decide +kernel)
theorem mX12_130 : MLS RX12 130 yX12_less cX12_less 2 (some .int) 2 := ⟨mb_X12_less _ _, UG_of (i := 1066) (by decide +kernel) (by decide +kernel), ws_X12_less⟩
set_option maxRecDepth 100000 in
theorem wc_X12_letterOf : Cond.code yX12_letterOf cX12_letterOf 3 (some .int) ∈ UG := UG_of (i := 1071) rfl (by decide +kernel)
theorem mb_X12_letterOf (own : String) (i : Nat) : MLB own i yX12_letterOf cX12_letterOf 3 (some .int) 2 := ⟨wi_X12, wc_X12_letterOf, by decide +kernel⟩
theorem ws_X12_letterOf : Cond.static yX12_letterOf ∈ UG := UG_of (i := 1070) (by decide +kernel) (by decide +kernel)
theorem mX12_134 : MLS RX12 134 yX12_letterOf cX12_letterOf 3 (some .int) 2 := ⟨mb_X12_letterOf _ _, UG_of (i := 1069) (by decide +kernel) (by decide +kernel), ws_X12_letterOf⟩
set_option maxRecDepth 100000 in
theorem wc_X12_swap : Cond.code yX12_swap cX12_swap 3 (some .int) ∈ UG := UG_of (i := 1076) rfl (by decide +kernel)
theorem mb_X12_swap (own : String) (i : Nat) : MLB own i yX12_swap cX12_swap 3 (some .int) 2 := ⟨wi_X12, wc_X12_swap, by decide +kernel⟩
theorem wm_X12_swap : Cond.instanceMethod yX12_swap ∈ UG := UG_of (i := 1075) (by decide +kernel) (by decide +kernel)
theorem we_X12_swap : Cond.selects (yX12_swap).cls yX12_swap yX12_swap ∈ UG := UG_of (i := 38) (by decide +kernel) (by decide +kernel)
theorem mX12_138 : MLV RX12 138 yX12_swap cX12_swap 3 (some .int) 12 2 := ⟨mb_X12_swap _ _, UG_of (i := 1073) (by decide +kernel) (by decide +kernel), wm_X12_swap, we_X12_swap, rfl, by decide⟩
theorem fX12_141 : FL RX12 141 12 11 false := ⟨RX12, TX12, 40, fcX12, by decide, by decide +kernel, by decide +kernel, UG_of (i := 858) (by decide +kernel) (by decide +kernel)⟩
theorem fX12_144 : FL RX12 144 12 13 false := ⟨RX12, TX12, 40, fcX12, by decide, by decide +kernel, by decide +kernel, UG_of (i := 860) (by decide +kernel) (by decide +kernel)⟩
set_option maxRecDepth 100000 in
theorem wc_X12_blanks : Cond.code yX12_blanks cX12_blanks 1 none ∈ UG := UG_of (i := 998) rfl (by decide +kernel)
theorem mb_X12_blanks (own : String) (i : Nat) : MLB own i yX12_blanks cX12_blanks 1 none 0 := ⟨wi_X12, wc_X12_blanks, by decide +kernel⟩
theorem wm_X12_blanks : Cond.instanceMethod yX12_blanks ∈ UG := UG_of (i := 997) (by decide +kernel) (by decide +kernel)
theorem we_X12_blanks : Cond.selects (yX12_blanks).cls yX12_blanks yX12_blanks ∈ UG := UG_of (i := 29) (by decide +kernel) (by decide +kernel)
theorem mX12_147 : MLV RX12 147 yX12_blanks cX12_blanks 1 none 12 0 := ⟨mb_X12_blanks _ _, UG_of (i := 995) (by decide +kernel) (by decide +kernel), wm_X12_blanks, we_X12_blanks, rfl, by decide⟩
set_option maxRecDepth 100000 in
theorem wc_X12_wrong : Cond.code yX12_wrong cX12_wrong 3 (some .boolean) ∈ UG := UG_of (i := 1010) rfl (by decide +kernel)
theorem mb_X12_wrong (own : String) (i : Nat) : MLB own i yX12_wrong cX12_wrong 3 (some .boolean) 2 := ⟨wi_X12, wc_X12_wrong, by decide +kernel⟩
theorem wm_X12_wrong : Cond.instanceMethod yX12_wrong ∈ UG := UG_of (i := 1009) (by decide +kernel) (by decide +kernel)
theorem we_X12_wrong : Cond.selects (yX12_wrong).cls yX12_wrong yX12_wrong ∈ UG := UG_of (i := 32) (by decide +kernel) (by decide +kernel)
theorem mX12_150 : MLV RX12 150 yX12_wrong cX12_wrong 3 (some .boolean) 12 2 := ⟨mb_X12_wrong _ _, UG_of (i := 1007) (by decide +kernel) (by decide +kernel), wm_X12_wrong, we_X12_wrong, rfl, by decide⟩
set_option maxRecDepth 100000 in
theorem wc_X12_signOf : Cond.code yX12_signOf cX12_signOf 1 (some .int) ∈ UG := UG_of (i := 1017) rfl (by decide +kernel)
theorem mb_X12_signOf (own : String) (i : Nat) : MLB own i yX12_signOf cX12_signOf 1 (some .int) 1 := ⟨wi_X12, wc_X12_signOf, by decide +kernel⟩
theorem ws_X12_signOf : Cond.static yX12_signOf ∈ UG := UG_of (i := 1016) (by decide +kernel) (by decide +kernel)
theorem mX12_154 : MLS RX12 154 yX12_signOf cX12_signOf 1 (some .int) 1 := ⟨mb_X12_signOf _ _, UG_of (i := 1015) (by decide +kernel) (by decide +kernel), ws_X12_signOf⟩
theorem fX12_157 : FL RX12 157 12 5 false := ⟨RX12, TX12, 40, fcX12, by decide, by decide +kernel, by decide +kernel, UG_of (i := 852) (by decide +kernel) (by decide +kernel)⟩
set_option maxRecDepth 100000 in
theorem wc_X12_station : Cond.code yX12_station cX12_station 5 (some .boolean) ∈ UG := UG_of (i := 994) rfl (by decide +kernel)
theorem mb_X12_station (own : String) (i : Nat) : MLB own i yX12_station cX12_station 5 (some .boolean) 0 := ⟨wi_X12, wc_X12_station, by decide +kernel⟩
theorem wm_X12_station : Cond.instanceMethod yX12_station ∈ UG := UG_of (i := 993) (by decide +kernel) (by decide +kernel)
theorem we_X12_station : Cond.selects (yX12_station).cls yX12_station yX12_station ∈ UG := UG_of (i := 28) (by decide +kernel) (by decide +kernel)
theorem mX12_160 : MLV RX12 160 yX12_station cX12_station 5 (some .boolean) 12 0 := ⟨mb_X12_station _ _, UG_of (i := 991) (by decide +kernel) (by decide +kernel), wm_X12_station, we_X12_station, rfl, by decide⟩
set_option maxRecDepth 100000 in
theorem wc_X12_numeral : Cond.code yX12_numeral cX12_numeral 5 (some .boolean) ∈ UG := UG_of (i := 1014) rfl (by decide +kernel)
theorem mb_X12_numeral (own : String) (i : Nat) : MLB own i yX12_numeral cX12_numeral 5 (some .boolean) 0 := ⟨wi_X12, wc_X12_numeral, by decide +kernel⟩
theorem wm_X12_numeral : Cond.instanceMethod yX12_numeral ∈ UG := UG_of (i := 1013) (by decide +kernel) (by decide +kernel)
theorem we_X12_numeral : Cond.selects (yX12_numeral).cls yX12_numeral yX12_numeral ∈ UG := UG_of (i := 33) (by decide +kernel) (by decide +kernel)
theorem mX12_164 : MLV RX12 164 yX12_numeral cX12_numeral 5 (some .boolean) 12 0 := ⟨mb_X12_numeral _ _, UG_of (i := 1011) (by decide +kernel) (by decide +kernel), wm_X12_numeral, we_X12_numeral, rfl, by decide⟩
set_option maxRecDepth 100000 in
theorem wc_X12_isList : Cond.code yX12_isList cX12_isList 2 (some .boolean) ∈ UG := UG_of (i := 1058) rfl (by decide +kernel)
theorem mb_X12_isList (own : String) (i : Nat) : MLB own i yX12_isList cX12_isList 2 (some .boolean) 1 := ⟨wi_X12, wc_X12_isList, by decide +kernel⟩
theorem wm_X12_isList : Cond.instanceMethod yX12_isList ∈ UG := UG_of (i := 1057) (by decide +kernel) (by decide +kernel)
theorem we_X12_isList : Cond.selects (yX12_isList).cls yX12_isList yX12_isList ∈ UG := UG_of (i := 36) (by decide +kernel) (by decide +kernel)
theorem mX12_167 : MLV RX12 167 yX12_isList cX12_isList 2 (some .boolean) 12 1 := ⟨mb_X12_isList _ _, UG_of (i := 1055) (by decide +kernel) (by decide +kernel), wm_X12_isList, we_X12_isList, rfl, by decide⟩
set_option maxRecDepth 100000 in
theorem wc_X12_worth : Cond.code yX12_worth cX12_worth 1 (some .int) ∈ UG := UG_of (i := 1091) rfl (by decide +kernel)
theorem mb_X12_worth (own : String) (i : Nat) : MLB own i yX12_worth cX12_worth 1 (some .int) 1 := ⟨wi_X12, wc_X12_worth, by decide +kernel⟩
theorem ws_X12_worth : Cond.static yX12_worth ∈ UG := UG_of (i := 1090) (by decide +kernel) (by decide +kernel)
theorem mX12_171 : MLS RX12 171 yX12_worth cX12_worth 1 (some .int) 1 := ⟨mb_X12_worth _ _, UG_of (i := 1089) (by decide +kernel) (by decide +kernel), ws_X12_worth⟩
set_option maxRecDepth 100000 in
theorem wc_X12_tapeName : Cond.code yX12_tapeName cX12_tapeName 3 (some .long) ∈ UG := UG_of (i := 1029) rfl (by decide +kernel)
theorem mb_X12_tapeName (own : String) (i : Nat) : MLB own i yX12_tapeName cX12_tapeName 3 (some .long) 0 := ⟨wi_X12, wc_X12_tapeName, by decide +kernel⟩
theorem wm_X12_tapeName : Cond.instanceMethod yX12_tapeName ∈ UG := UG_of (i := 1028) (by decide +kernel) (by decide +kernel)
theorem we_X12_tapeName : Cond.selects (yX12_tapeName).cls yX12_tapeName yX12_tapeName ∈ UG := UG_of (i := 34) (by decide +kernel) (by decide +kernel)
theorem mX12_174 : MLV RX12 174 yX12_tapeName cX12_tapeName 3 (some .long) 12 0 := ⟨mb_X12_tapeName _ _, UG_of (i := 1026) (by decide +kernel) (by decide +kernel), wm_X12_tapeName, we_X12_tapeName, rfl, by decide⟩
theorem fX12_178 : FL RX12 178 12 14 false := ⟨RX12, TX12, 40, fcX12, by decide, by decide +kernel, by decide +kernel, UG_of (i := 861) (by decide +kernel) (by decide +kernel)⟩
theorem fX12_181 : FL RX12 181 12 29 false := ⟨RX12, TX12, 40, fcX12, by decide, by decide +kernel, by decide +kernel, UG_of (i := 876) (by decide +kernel) (by decide +kernel)⟩
theorem fX12_184 : FL RX12 184 12 18 false := ⟨RX12, TX12, 40, fcX12, by decide, by decide +kernel, by decide +kernel, UG_of (i := 865) (by decide +kernel) (by decide +kernel)⟩
theorem fX12_187 : FL RX12 187 12 23 false := ⟨RX12, TX12, 40, fcX12, by decide, by decide +kernel, by decide +kernel, UG_of (i := 870) (by decide +kernel) (by decide +kernel)⟩
theorem kX12_190 : LC RX12 190 (100000) := UG_of (i := 1046) (by decide +kernel) (by decide +kernel)
set_option maxRecDepth 100000 in
theorem wc_X12_isStation : Cond.code yX12_isStation cX12_isStation 3 (some .boolean) ∈ UG := UG_of (i := 1054) rfl (by decide +kernel)
theorem mb_X12_isStation (own : String) (i : Nat) : MLB own i yX12_isStation cX12_isStation 3 (some .boolean) 2 := ⟨wi_X12, wc_X12_isStation, by decide +kernel⟩
theorem wm_X12_isStation : Cond.instanceMethod yX12_isStation ∈ UG := UG_of (i := 1053) (by decide +kernel) (by decide +kernel)
theorem we_X12_isStation : Cond.selects (yX12_isStation).cls yX12_isStation yX12_isStation ∈ UG := UG_of (i := 35) (by decide +kernel) (by decide +kernel)
theorem mX12_191 : MLV RX12 191 yX12_isStation cX12_isStation 3 (some .boolean) 12 2 := ⟨mb_X12_isStation _ _, UG_of (i := 1051) (by decide +kernel) (by decide +kernel), wm_X12_isStation, we_X12_isStation, rfl, by decide⟩
set_option maxRecDepth 100000 in
theorem wc_X12_apart : Cond.code yX12_apart cX12_apart 10 (some .int) ∈ UG := UG_of (i := 1062) rfl (by decide +kernel)
theorem mb_X12_apart (own : String) (i : Nat) : MLB own i yX12_apart cX12_apart 10 (some .int) 2 := ⟨wi_X12, wc_X12_apart, by decide +kernel⟩
theorem wm_X12_apart : Cond.instanceMethod yX12_apart ∈ UG := UG_of (i := 1061) (by decide +kernel) (by decide +kernel)
theorem we_X12_apart : Cond.selects (yX12_apart).cls yX12_apart yX12_apart ∈ UG := UG_of (i := 37) (by decide +kernel) (by decide +kernel)
theorem mX12_194 : MLV RX12 194 yX12_apart cX12_apart 10 (some .int) 12 2 := ⟨mb_X12_apart _ _, UG_of (i := 1059) (by decide +kernel) (by decide +kernel), wm_X12_apart, we_X12_apart, rfl, by decide⟩
set_option maxRecDepth 100000 in
theorem wc_X12_first : Cond.code yX12_first cX12_first 4 (some .int) ∈ UG := UG_of (i := 1100) rfl (by decide +kernel)
theorem mb_X12_first (own : String) (i : Nat) : MLB own i yX12_first cX12_first 4 (some .int) 2 := ⟨wi_X12, wc_X12_first, by decide +kernel⟩
theorem wm_X12_first : Cond.instanceMethod yX12_first ∈ UG := UG_of (i := 1099) (by decide +kernel) (by decide +kernel)
theorem we_X12_first : Cond.selects (yX12_first).cls yX12_first yX12_first ∈ UG := UG_of (i := 42) (by decide +kernel) (by decide +kernel)
theorem mX12_198 : MLV RX12 198 yX12_first cX12_first 4 (some .int) 12 2 := ⟨mb_X12_first _ _, UG_of (i := 1097) (by decide +kernel) (by decide +kernel), wm_X12_first, we_X12_first, rfl, by decide⟩
set_option maxRecDepth 100000 in
theorem wc_X12_valueOf : Cond.code yX12_valueOf cX12_valueOf 5 (some .int) ∈ UG := UG_of (i := 1088) rfl (by decide +kernel)
theorem mb_X12_valueOf (own : String) (i : Nat) : MLB own i yX12_valueOf cX12_valueOf 5 (some .int) 2 := ⟨wi_X12, wc_X12_valueOf, by decide +kernel⟩
theorem wm_X12_valueOf : Cond.instanceMethod yX12_valueOf ∈ UG := UG_of (i := 1087) (by decide +kernel) (by decide +kernel)
theorem we_X12_valueOf : Cond.selects (yX12_valueOf).cls yX12_valueOf yX12_valueOf ∈ UG := UG_of (i := 40) (by decide +kernel) (by decide +kernel)
theorem mX12_201 : MLV RX12 201 yX12_valueOf cX12_valueOf 5 (some .int) 12 2 := ⟨mb_X12_valueOf _ _, UG_of (i := 1085) (by decide +kernel) (by decide +kernel), wm_X12_valueOf, we_X12_valueOf, rfl, by decide⟩
theorem kX12_204 : LC RX12 204 (1000000) := UG_of (i := 1092) (by decide +kernel) (by decide +kernel)
set_option maxRecDepth 100000 in
theorem wc_X12_canBe : Cond.code yX12_canBe cX12_canBe 7 (some .boolean) ∈ UG := UG_of (i := 1096) rfl (by decide +kernel)
theorem mb_X12_canBe (own : String) (i : Nat) : MLB own i yX12_canBe cX12_canBe 7 (some .boolean) 3 := ⟨wi_X12, wc_X12_canBe, by decide +kernel⟩
theorem wm_X12_canBe : Cond.instanceMethod yX12_canBe ∈ UG := UG_of (i := 1095) (by decide +kernel) (by decide +kernel)
theorem we_X12_canBe : Cond.selects (yX12_canBe).cls yX12_canBe yX12_canBe ∈ UG := UG_of (i := 41) (by decide +kernel) (by decide +kernel)
theorem mX12_205 : MLV RX12 205 yX12_canBe cX12_canBe 7 (some .boolean) 12 3 := ⟨mb_X12_canBe _ _, UG_of (i := 1093) (by decide +kernel) (by decide +kernel), wm_X12_canBe, we_X12_canBe, rfl, by decide⟩
set_option maxRecDepth 100000 in
theorem wc_X12_costOf : Cond.code yX12_costOf cX12_costOf 7 (some .int) ∈ UG := UG_of (i := 1084) rfl (by decide +kernel)
theorem mb_X12_costOf (own : String) (i : Nat) : MLB own i yX12_costOf cX12_costOf 7 (some .int) 3 := ⟨wi_X12, wc_X12_costOf, by decide +kernel⟩
theorem wm_X12_costOf : Cond.instanceMethod yX12_costOf ∈ UG := UG_of (i := 1083) (by decide +kernel) (by decide +kernel)
theorem we_X12_costOf : Cond.selects (yX12_costOf).cls yX12_costOf yX12_costOf ∈ UG := UG_of (i := 39) (by decide +kernel) (by decide +kernel)
theorem mX12_208 : MLV RX12 208 yX12_costOf cX12_costOf 7 (some .int) 12 3 := ⟨mb_X12_costOf _ _, UG_of (i := 1081) (by decide +kernel) (by decide +kernel), wm_X12_costOf, we_X12_costOf, rfl, by decide⟩
set_option maxRecDepth 100000 in
theorem wc_X12_adds : Cond.code yX12_adds cX12_adds 5 none ∈ UG := UG_of (i := 1120) rfl (by decide +kernel)
theorem mb_X12_adds (own : String) (i : Nat) : MLB own i yX12_adds cX12_adds 5 none 3 := ⟨wi_X12, wc_X12_adds, by decide +kernel⟩
theorem wm_X12_adds : Cond.instanceMethod yX12_adds ∈ UG := UG_of (i := 1119) (by decide +kernel) (by decide +kernel)
theorem we_X12_adds : Cond.selects (yX12_adds).cls yX12_adds yX12_adds ∈ UG := UG_of (i := 46) (by decide +kernel) (by decide +kernel)
theorem mX12_212 : MLV RX12 212 yX12_adds cX12_adds 5 none 12 3 := ⟨mb_X12_adds _ _, UG_of (i := 1117) (by decide +kernel) (by decide +kernel), wm_X12_adds, we_X12_adds, rfl, by decide⟩
set_option maxRecDepth 100000 in
theorem wc_X12_reads : Cond.code yX12_reads cX12_reads 6 none ∈ UG := UG_of (i := 1116) rfl (by decide +kernel)
theorem mb_X12_reads (own : String) (i : Nat) : MLB own i yX12_reads cX12_reads 6 none 1 := ⟨wi_X12, wc_X12_reads, by decide +kernel⟩
theorem wm_X12_reads : Cond.instanceMethod yX12_reads ∈ UG := UG_of (i := 1115) (by decide +kernel) (by decide +kernel)
theorem we_X12_reads : Cond.selects (yX12_reads).cls yX12_reads yX12_reads ∈ UG := UG_of (i := 45) (by decide +kernel) (by decide +kernel)
theorem mX12_216 : MLV RX12 216 yX12_reads cX12_reads 6 none 12 1 := ⟨mb_X12_reads _ _, UG_of (i := 1113) (by decide +kernel) (by decide +kernel), wm_X12_reads, we_X12_reads, rfl, by decide⟩
set_option maxRecDepth 100000 in
theorem wc_X12_ownCost : Cond.code yX12_ownCost cX12_ownCost 10 (some .int) ∈ UG := UG_of (i := 1124) rfl (by decide +kernel)
theorem mb_X12_ownCost (own : String) (i : Nat) : MLB own i yX12_ownCost cX12_ownCost 10 (some .int) 4 := ⟨wi_X12, wc_X12_ownCost, by decide +kernel⟩
theorem wm_X12_ownCost : Cond.instanceMethod yX12_ownCost ∈ UG := UG_of (i := 1123) (by decide +kernel) (by decide +kernel)
theorem we_X12_ownCost : Cond.selects (yX12_ownCost).cls yX12_ownCost yX12_ownCost ∈ UG := UG_of (i := 47) (by decide +kernel) (by decide +kernel)
theorem mX12_220 : MLV RX12 220 yX12_ownCost cX12_ownCost 10 (some .int) 12 4 := ⟨mb_X12_ownCost _ _, UG_of (i := 1121) (by decide +kernel) (by decide +kernel), wm_X12_ownCost, we_X12_ownCost, rfl, by decide⟩
set_option maxRecDepth 100000 in
theorem wc_X12_isAsked : Cond.code yX12_isAsked cX12_isAsked 3 (some .boolean) ∈ UG := UG_of (i := 1108) rfl (by decide +kernel)
theorem mb_X12_isAsked (own : String) (i : Nat) : MLB own i yX12_isAsked cX12_isAsked 3 (some .boolean) 2 := ⟨wi_X12, wc_X12_isAsked, by decide +kernel⟩
theorem wm_X12_isAsked : Cond.instanceMethod yX12_isAsked ∈ UG := UG_of (i := 1107) (by decide +kernel) (by decide +kernel)
theorem we_X12_isAsked : Cond.selects (yX12_isAsked).cls yX12_isAsked yX12_isAsked ∈ UG := UG_of (i := 43) (by decide +kernel) (by decide +kernel)
theorem mX12_224 : MLV RX12 224 yX12_isAsked cX12_isAsked 3 (some .boolean) 12 2 := ⟨mb_X12_isAsked _ _, UG_of (i := 1105) (by decide +kernel) (by decide +kernel), wm_X12_isAsked, we_X12_isAsked, rfl, by decide⟩
set_option maxRecDepth 100000 in
theorem wc_X12_lays : Cond.code yX12_lays cX12_lays 10 (some .int) ∈ UG := UG_of (i := 1112) rfl (by decide +kernel)
theorem mb_X12_lays (own : String) (i : Nat) : MLB own i yX12_lays cX12_lays 10 (some .int) 2 := ⟨wi_X12, wc_X12_lays, by decide +kernel⟩
theorem wm_X12_lays : Cond.instanceMethod yX12_lays ∈ UG := UG_of (i := 1111) (by decide +kernel) (by decide +kernel)
theorem we_X12_lays : Cond.selects (yX12_lays).cls yX12_lays yX12_lays ∈ UG := UG_of (i := 44) (by decide +kernel) (by decide +kernel)
theorem mX12_227 : MLV RX12 227 yX12_lays cX12_lays 10 (some .int) 12 2 := ⟨mb_X12_lays _ _, UG_of (i := 1109) (by decide +kernel) (by decide +kernel), wm_X12_lays, we_X12_lays, rfl, by decide⟩
set_option maxRecDepth 100000 in
theorem wc_X12_bests : Cond.code yX12_bests cX12_bests 9 (some .boolean) ∈ UG := UG_of (i := 1132) rfl (by decide +kernel)
theorem mb_X12_bests (own : String) (i : Nat) : MLB own i yX12_bests cX12_bests 9 (some .boolean) 2 := ⟨wi_X12, wc_X12_bests, by decide +kernel⟩
theorem wm_X12_bests : Cond.instanceMethod yX12_bests ∈ UG := UG_of (i := 1131) (by decide +kernel) (by decide +kernel)
theorem we_X12_bests : Cond.selects (yX12_bests).cls yX12_bests yX12_bests ∈ UG := UG_of (i := 48) (by decide +kernel) (by decide +kernel)
theorem mX12_230 : MLV RX12 230 yX12_bests cX12_bests 9 (some .boolean) 12 2 := ⟨mb_X12_bests _ _, UG_of (i := 1129) (by decide +kernel) (by decide +kernel), wm_X12_bests, we_X12_bests, rfl, by decide⟩
set_option maxRecDepth 100000 in
theorem wc_X12_goesAhead : Cond.code yX12_goesAhead cX12_goesAhead 8 none ∈ UG := UG_of (i := 1140) rfl (by decide +kernel)
theorem mb_X12_goesAhead (own : String) (i : Nat) : MLB own i yX12_goesAhead cX12_goesAhead 8 none 1 := ⟨wi_X12, wc_X12_goesAhead, by decide +kernel⟩
theorem wm_X12_goesAhead : Cond.instanceMethod yX12_goesAhead ∈ UG := UG_of (i := 1139) (by decide +kernel) (by decide +kernel)
theorem we_X12_goesAhead : Cond.selects (yX12_goesAhead).cls yX12_goesAhead yX12_goesAhead ∈ UG := UG_of (i := 49) (by decide +kernel) (by decide +kernel)
theorem mX12_233 : MLV RX12 233 yX12_goesAhead cX12_goesAhead 8 none 12 1 := ⟨mb_X12_goesAhead _ _, UG_of (i := 1137) (by decide +kernel) (by decide +kernel), wm_X12_goesAhead, we_X12_goesAhead, rfl, by decide⟩
set_option maxRecDepth 100000 in
theorem wc_X12_joins : Cond.code yX12_joins cX12_joins 10 none ∈ UG := UG_of (i := 1148) rfl (by decide +kernel)
theorem mb_X12_joins (own : String) (i : Nat) : MLB own i yX12_joins cX12_joins 10 none 5 := ⟨wi_X12, wc_X12_joins, by decide +kernel⟩
theorem wm_X12_joins : Cond.instanceMethod yX12_joins ∈ UG := UG_of (i := 1147) (by decide +kernel) (by decide +kernel)
theorem we_X12_joins : Cond.selects (yX12_joins).cls yX12_joins yX12_joins ∈ UG := UG_of (i := 50) (by decide +kernel) (by decide +kernel)
theorem mX12_236 : MLV RX12 236 yX12_joins cX12_joins 10 none 12 5 := ⟨mb_X12_joins _ _, UG_of (i := 1145) (by decide +kernel) (by decide +kernel), wm_X12_joins, we_X12_joins, rfl, by decide⟩
theorem kX12_240 : LC RX12 240 (1000001) := UG_of (i := 1149) (by decide +kernel) (by decide +kernel)
set_option maxRecDepth 100000 in
theorem wc_X12_areSame : Cond.code yX12_areSame cX12_areSame 5 (some .boolean) ∈ UG := UG_of (i := 1157) rfl (by decide +kernel)
theorem mb_X12_areSame (own : String) (i : Nat) : MLB own i yX12_areSame cX12_areSame 5 (some .boolean) 2 := ⟨wi_X12, wc_X12_areSame, by decide +kernel⟩
theorem wm_X12_areSame : Cond.instanceMethod yX12_areSame ∈ UG := UG_of (i := 1156) (by decide +kernel) (by decide +kernel)
theorem we_X12_areSame : Cond.selects (yX12_areSame).cls yX12_areSame yX12_areSame ∈ UG := UG_of (i := 51) (by decide +kernel) (by decide +kernel)
theorem mX12_241 : MLV RX12 241 yX12_areSame cX12_areSame 5 (some .boolean) 12 2 := ⟨mb_X12_areSame _ _, UG_of (i := 1154) (by decide +kernel) (by decide +kernel), wm_X12_areSame, we_X12_areSame, rfl, by decide⟩
theorem mX2_3 : Cond.methodLink RX2 3 objectInit ∈ UG := UG_of (i := 191) (by decide +kernel) (by decide +kernel)
theorem xX2_9 : Cond.classLink RX2 9 "MileLists$Find" ∈ UG := UG_of (i := 192) (by decide +kernel) (by decide +kernel)
theorem fX2_11 : FL RX2 11 2 0 true := ⟨RX2, TX2, 6, fcX2, by decide, by decide +kernel, by decide +kernel, UG_of (i := 220) (by decide +kernel) (by decide +kernel)⟩
theorem fX2_17 : FL RX2 17 2 1 true := ⟨RX2, TX2, 6, fcX2, by decide, by decide +kernel, by decide +kernel, UG_of (i := 222) (by decide +kernel) (by decide +kernel)⟩
theorem fX2_20 : FL RX2 20 2 4 false := ⟨RX2, TX2, 6, fcX2, by decide, by decide +kernel, by decide +kernel, UG_of (i := 227) (by decide +kernel) (by decide +kernel)⟩
theorem fX2_24 : FL RX2 24 2 5 false := ⟨RX2, TX2, 6, fcX2, by decide, by decide +kernel, by decide +kernel, UG_of (i := 229) (by decide +kernel) (by decide +kernel)⟩
set_option maxRecDepth 100000 in
theorem wc_X0_init : Cond.code yX0_init cX0_init 1 none ∈ UG := UG_of (i := 197) rfl (by decide +kernel)
theorem wi_X0 : Cond.initialized RX0 ∈ UG := UG_of (i := 60) (by decide +kernel) (by decide +kernel)
theorem mb_X0_init (own : String) (i : Nat) : MLB own i yX0_init cX0_init 1 none 0 := ⟨wi_X0, wc_X0_init, by decide +kernel⟩
theorem wm_X0_init : Cond.instanceMethod yX0_init ∈ UG := UG_of (i := 196) (by decide +kernel) (by decide +kernel)
theorem mX2_27 : MLN RX2 27 yX0_init cX0_init 1 0 := ⟨mb_X0_init _ _, by decide +kernel, wm_X0_init, rfl⟩
theorem fX2_28 : FL RX2 28 2 2 false := ⟨RX2, TX2, 6, fcX2, by decide, by decide +kernel, by decide +kernel, UG_of (i := 223) (by decide +kernel) (by decide +kernel)⟩
theorem fX2_31 : FL RX2 31 0 1 false := ⟨RX0, TX0, 4, fcX0, by decide, by decide +kernel, by decide +kernel, UG_of (i := 204) (by decide +kernel) (by decide +kernel)⟩
set_option maxRecDepth 100000 in
theorem wc_X0_set : Cond.code yX0_set cX0_set 5 none ∈ UG := UG_of (i := 482) rfl (by decide +kernel)
theorem mb_X0_set (own : String) (i : Nat) : MLB own i yX0_set cX0_set 5 none 4 := ⟨wi_X0, wc_X0_set, by decide +kernel⟩
theorem wm_X0_set : Cond.instanceMethod yX0_set ∈ UG := UG_of (i := 480) (by decide +kernel) (by decide +kernel)
theorem we_X0_set : Cond.selects (yX0_set).cls yX0_set yX0_set ∈ UG := UG_of (i := 481) (by decide +kernel) (by decide +kernel)
theorem mX2_34 : MLV RX2 34 yX0_set cX0_set 5 none 0 4 := ⟨mb_X0_set _ _, UG_of (i := 479) (by decide +kernel) (by decide +kernel), wm_X0_set, we_X0_set, rfl, by decide⟩
theorem fX2_38 : FL RX2 38 2 3 false := ⟨RX2, TX2, 6, fcX2, by decide, by decide +kernel, by decide +kernel, UG_of (i := 225) (by decide +kernel) (by decide +kernel)⟩
theorem fX2_41 : FL RX2 41 0 3 false := ⟨RX0, TX0, 4, fcX0, by decide, by decide +kernel, by decide +kernel, UG_of (i := 209) (by decide +kernel) (by decide +kernel)⟩
theorem fX2_44 : FL RX2 44 0 0 true := ⟨RX0, TX0, 4, fcX0, by decide, by decide +kernel, by decide +kernel, UG_of (i := 202) (by decide +kernel) (by decide +kernel)⟩
theorem mX2_48 : MLV RX2 48 yX9_distance cX9_distance 7 (some .int) 9 2 := ⟨mb_X9_distance _ _, UG_of (i := 633) (by decide +kernel) (by decide +kernel), wm_X9_distance, we_X9_distance, rfl, by decide⟩
set_option maxRecDepth 100000 in
theorem wc_X3_same : Cond.code yX3_same cX3_same 3 (some .boolean) ∈ UG := UG_of (i := 430) rfl (by decide +kernel)
theorem mb_X3_same (own : String) (i : Nat) : MLB own i yX3_same cX3_same 3 (some .boolean) 1 := ⟨wi_X3, wc_X3_same, by decide +kernel⟩
theorem wm_X3_same : Cond.instanceMethod yX3_same ∈ UG := UG_of (i := 428) (by decide +kernel) (by decide +kernel)
theorem we_X3_same : Cond.selects (yX3_same).cls yX3_same yX3_same ∈ UG := UG_of (i := 429) (by decide +kernel) (by decide +kernel)
theorem mX2_54 : MLV RX2 54 yX3_same cX3_same 3 (some .boolean) 3 1 := ⟨mb_X3_same _ _, UG_of (i := 634) (by decide +kernel) (by decide +kernel), wm_X3_same, we_X3_same, rfl, by decide⟩
set_option maxRecDepth 100000 in
theorem wc_X2_addMoved : Cond.code yX2_addMoved cX2_addMoved 4 none ∈ UG := UG_of (i := 638) rfl (by decide +kernel)
theorem mb_X2_addMoved (own : String) (i : Nat) : MLB own i yX2_addMoved cX2_addMoved 4 none 2 := ⟨wi_X2, wc_X2_addMoved, by decide +kernel⟩
theorem wm_X2_addMoved : Cond.instanceMethod yX2_addMoved ∈ UG := UG_of (i := 637) (by decide +kernel) (by decide +kernel)
theorem we_X2_addMoved : Cond.selects (yX2_addMoved).cls yX2_addMoved yX2_addMoved ∈ UG := UG_of (i := 13) (by decide +kernel) (by decide +kernel)
theorem mX2_60 : MLV RX2 60 yX2_addMoved cX2_addMoved 4 none 2 2 := ⟨mb_X2_addMoved _ _, UG_of (i := 635) (by decide +kernel) (by decide +kernel), wm_X2_addMoved, we_X2_addMoved, rfl, by decide⟩
theorem ws_Mabs : Cond.static Lib.Math.abs.name ∈ UG := UG_of (i := 640) (by decide +kernel) (by decide +kernel)
theorem wi_Math : Cond.initialized "java/lang/Math" ∈ UG := UG_of (i := 66) (by decide +kernel) (by decide +kernel)
set_option maxRecDepth 100000 in
theorem wc_Mabs : Cond.code Lib.Math.abs.name Lib.Math.abs.code 1 (some .int) ∈ UG := UG_of (i := 641) rfl (by decide +kernel)
theorem mX2_64 : MJ RX2 64 Lib.Math.abs.name Lib.Math.abs.code 1 := ⟨UG_of (i := 639) (by decide +kernel) (by decide +kernel), ws_Mabs, wi_Math, wc_Mabs⟩
theorem fX2_70 : FL RX2 70 0 2 false := ⟨RX0, TX0, 4, fcX0, by decide, by decide +kernel, by decide +kernel, UG_of (i := 207) (by decide +kernel) (by decide +kernel)⟩
theorem mX3_3 : Cond.methodLink RX3 3 objectInit ∈ UG := UG_of (i := 104) (by decide +kernel) (by decide +kernel)
theorem fX3_9 : FL RX3 9 3 0 true := ⟨RX3, TX3, 2, fcX3, by decide, by decide +kernel, by decide +kernel, UG_of (i := 105) (by decide +kernel) (by decide +kernel)⟩
theorem fX3_15 : FL RX3 15 3 1 false := ⟨RX3, TX3, 2, fcX3, by decide, by decide +kernel, by decide +kernel, UG_of (i := 108) (by decide +kernel) (by decide +kernel)⟩
theorem fX3_19 : FL RX3 19 10 1 false := ⟨RX10, TX10, 2, fcX10, by decide, by decide +kernel, by decide +kernel, UG_of (i := 91) (by decide +kernel) (by decide +kernel)⟩
theorem fX3_22 : FL RX3 22 10 0 true := ⟨RX10, TX10, 2, fcX10, by decide, by decide +kernel, by decide +kernel, UG_of (i := 86) (by decide +kernel) (by decide +kernel)⟩
theorem mX4_3 : Cond.methodLink RX4 3 objectInit ∈ UG := UG_of (i := 150) (by decide +kernel) (by decide +kernel)
theorem fX4_9 : FL RX4 9 4 0 true := ⟨RX4, TX4, 2, fcX4, by decide, by decide +kernel, by decide +kernel, UG_of (i := 151) (by decide +kernel) (by decide +kernel)⟩
theorem fX4_15 : FL RX4 15 4 1 false := ⟨RX4, TX4, 2, fcX4, by decide, by decide +kernel, by decide +kernel, UG_of (i := 152) (by decide +kernel) (by decide +kernel)⟩
theorem fX4_19 : FL RX4 19 10 1 false := ⟨RX10, TX10, 2, fcX10, by decide, by decide +kernel, by decide +kernel, UG_of (i := 92) (by decide +kernel) (by decide +kernel)⟩
theorem fX4_22 : FL RX4 22 10 0 true := ⟨RX10, TX10, 2, fcX10, by decide, by decide +kernel, by decide +kernel, UG_of (i := 87) (by decide +kernel) (by decide +kernel)⟩
theorem mX4_25 : MLS RX4 25 yX10_signOf cX10_signOf 1 (some .int) 1 := ⟨mb_X10_signOf _ _, UG_of (i := 446) (by decide +kernel) (by decide +kernel), ws_X10_signOf⟩
theorem mX5_3 : Cond.methodLink RX5 3 objectInit ∈ UG := UG_of (i := 284) (by decide +kernel) (by decide +kernel)
theorem xX5_9 : Cond.classLink RX5 9 "[[I" ∈ UG := UG_of (i := 285) (by decide +kernel) (by decide +kernel)
theorem fX5_11 : FL RX5 11 5 0 true := ⟨RX5, TX5, 10, fcX5, by decide, by decide +kernel, by decide +kernel, UG_of (i := 308) (by decide +kernel) (by decide +kernel)⟩
theorem fX5_16 : FL RX5 16 5 1 true := ⟨RX5, TX5, 10, fcX5, by decide, by decide +kernel, by decide +kernel, UG_of (i := 310) (by decide +kernel) (by decide +kernel)⟩
theorem fX5_19 : FL RX5 19 5 2 true := ⟨RX5, TX5, 10, fcX5, by decide, by decide +kernel, by decide +kernel, UG_of (i := 311) (by decide +kernel) (by decide +kernel)⟩
theorem fX5_23 : FL RX5 23 5 3 true := ⟨RX5, TX5, 10, fcX5, by decide, by decide +kernel, by decide +kernel, UG_of (i := 312) (by decide +kernel) (by decide +kernel)⟩
theorem xX5_27 : Cond.classLink RX5 27 "MileLists$Readings" ∈ UG := UG_of (i := 287) (by decide +kernel) (by decide +kernel)
theorem fX5_29 : FL RX5 29 5 4 true := ⟨RX5, TX5, 10, fcX5, by decide, by decide +kernel, by decide +kernel, UG_of (i := 313) (by decide +kernel) (by decide +kernel)⟩
set_option maxRecDepth 100000 in
theorem wc_X6_init : Cond.code yX6_init cX6_init 1 none ∈ UG := UG_of (i := 292) rfl (by decide +kernel)
theorem wi_X6 : Cond.initialized RX6 ∈ UG := UG_of (i := 64) (by decide +kernel) (by decide +kernel)
theorem mb_X6_init (own : String) (i : Nat) : MLB own i yX6_init cX6_init 1 none 0 := ⟨wi_X6, wc_X6_init, by decide +kernel⟩
theorem wm_X6_init : Cond.instanceMethod yX6_init ∈ UG := UG_of (i := 291) (by decide +kernel) (by decide +kernel)
theorem mX5_33 : MLN RX5 33 yX6_init cX6_init 1 0 := ⟨mb_X6_init _ _, by decide +kernel, wm_X6_init, rfl⟩
theorem fX5_34 : FL RX5 34 5 5 true := ⟨RX5, TX5, 10, fcX5, by decide, by decide +kernel, by decide +kernel, UG_of (i := 314) (by decide +kernel) (by decide +kernel)⟩
theorem fX5_38 : FL RX5 38 5 6 true := ⟨RX5, TX5, 10, fcX5, by decide, by decide +kernel, by decide +kernel, UG_of (i := 315) (by decide +kernel) (by decide +kernel)⟩
set_option maxRecDepth 100000 in
theorem wc_X6_gather : Cond.code yX6_gather cX6_gather 5 none ∈ UG := UG_of (i := 576) rfl (by decide +kernel)
theorem mb_X6_gather (own : String) (i : Nat) : MLB own i yX6_gather cX6_gather 5 none 2 := ⟨wi_X6, wc_X6_gather, by decide +kernel⟩
theorem wm_X6_gather : Cond.instanceMethod yX6_gather ∈ UG := UG_of (i := 574) (by decide +kernel) (by decide +kernel)
theorem we_X6_gather : Cond.selects (yX6_gather).cls yX6_gather yX6_gather ∈ UG := UG_of (i := 575) (by decide +kernel) (by decide +kernel)
theorem mX5_41 : MLV RX5 41 yX6_gather cX6_gather 5 none 6 2 := ⟨mb_X6_gather _ _, UG_of (i := 573) (by decide +kernel) (by decide +kernel), wm_X6_gather, we_X6_gather, rfl, by decide⟩
set_option maxRecDepth 100000 in
theorem wc_X6_costOf : Cond.code yX6_costOf cX6_costOf 3 (some .int) ∈ UG := UG_of (i := 611) rfl (by decide +kernel)
theorem mb_X6_costOf (own : String) (i : Nat) : MLB own i yX6_costOf cX6_costOf 3 (some .int) 1 := ⟨wi_X6, wc_X6_costOf, by decide +kernel⟩
theorem wm_X6_costOf : Cond.instanceMethod yX6_costOf ∈ UG := UG_of (i := 609) (by decide +kernel) (by decide +kernel)
theorem we_X6_costOf : Cond.selects (yX6_costOf).cls yX6_costOf yX6_costOf ∈ UG := UG_of (i := 610) (by decide +kernel) (by decide +kernel)
theorem mX5_45 : MLV RX5 45 yX6_costOf cX6_costOf 3 (some .int) 6 1 := ⟨mb_X6_costOf _ _, UG_of (i := 608) (by decide +kernel) (by decide +kernel), wm_X6_costOf, we_X6_costOf, rfl, by decide⟩
theorem fX5_49 : FL RX5 49 7 4 false := ⟨RX7, TX7, 5, fcX7, by decide, by decide +kernel, by decide +kernel, UG_of (i := 173) (by decide +kernel) (by decide +kernel)⟩
theorem ws_Mmin : Cond.static Lib.Math.min.name ∈ UG := UG_of (i := 555) (by decide +kernel) (by decide +kernel)
set_option maxRecDepth 100000 in
theorem wc_Mmin : Cond.code Lib.Math.min.name Lib.Math.min.code 2 (some .int) ∈ UG := UG_of (i := 556) rfl (by decide +kernel)
theorem mX5_55 : MJ RX5 55 Lib.Math.min.name Lib.Math.min.code 2 := ⟨UG_of (i := 628) (by decide +kernel) (by decide +kernel), ws_Mmin, wi_Math, wc_Mmin⟩
theorem fX5_61 : FL RX5 61 5 7 false := ⟨RX5, TX5, 10, fcX5, by decide, by decide +kernel, by decide +kernel, UG_of (i := 317) (by decide +kernel) (by decide +kernel)⟩
theorem fX5_62 : FL RX5 62 7 3 false := ⟨RX7, TX7, 5, fcX7, by decide, by decide +kernel, by decide +kernel, UG_of (i := 168) (by decide +kernel) (by decide +kernel)⟩
theorem fX5_65 : FL RX5 65 5 8 false := ⟨RX5, TX5, 10, fcX5, by decide, by decide +kernel, by decide +kernel, UG_of (i := 318) (by decide +kernel) (by decide +kernel)⟩
theorem fX5_66 : FL RX5 66 7 1 true := ⟨RX7, TX7, 5, fcX7, by decide, by decide +kernel, by decide +kernel, UG_of (i := 164) (by decide +kernel) (by decide +kernel)⟩
theorem fX5_70 : FL RX5 70 5 9 false := ⟨RX5, TX5, 10, fcX5, by decide, by decide +kernel, by decide +kernel, UG_of (i := 319) (by decide +kernel) (by decide +kernel)⟩
theorem kX5_73 : LC RX5 73 (1000000) := UG_of (i := 650) (by decide +kernel) (by decide +kernel)
set_option maxRecDepth 100000 in
theorem wc_X5_leastOnward : Cond.code yX5_leastOnward cX5_leastOnward 6 (some .int) ∈ UG := UG_of (i := 649) rfl (by decide +kernel)
theorem mb_X5_leastOnward (own : String) (i : Nat) : MLB own i yX5_leastOnward cX5_leastOnward 6 (some .int) 2 := ⟨wi_X5, wc_X5_leastOnward, by decide +kernel⟩
theorem wm_X5_leastOnward : Cond.instanceMethod yX5_leastOnward ∈ UG := UG_of (i := 648) (by decide +kernel) (by decide +kernel)
theorem we_X5_leastOnward : Cond.selects (yX5_leastOnward).cls yX5_leastOnward yX5_leastOnward ∈ UG := UG_of (i := 14) (by decide +kernel) (by decide +kernel)
theorem mX5_74 : MLV RX5 74 yX5_leastOnward cX5_leastOnward 6 (some .int) 5 2 := ⟨mb_X5_leastOnward _ _, UG_of (i := 646) (by decide +kernel) (by decide +kernel), wm_X5_leastOnward, we_X5_leastOnward, rfl, by decide⟩
theorem fX5_77 : FL RX5 77 6 2 false := ⟨RX6, TX6, 3, fcX6, by decide, by decide +kernel, by decide +kernel, UG_of (i := 299) (by decide +kernel) (by decide +kernel)⟩
set_option maxRecDepth 100000 in
theorem wc_X5_placeBehind : Cond.code yX5_placeBehind cX5_placeBehind 5 (some .int) ∈ UG := UG_of (i := 654) rfl (by decide +kernel)
theorem mb_X5_placeBehind (own : String) (i : Nat) : MLB own i yX5_placeBehind cX5_placeBehind 5 (some .int) 3 := ⟨wi_X5, wc_X5_placeBehind, by decide +kernel⟩
theorem wm_X5_placeBehind : Cond.instanceMethod yX5_placeBehind ∈ UG := UG_of (i := 653) (by decide +kernel) (by decide +kernel)
theorem we_X5_placeBehind : Cond.selects (yX5_placeBehind).cls yX5_placeBehind yX5_placeBehind ∈ UG := UG_of (i := 15) (by decide +kernel) (by decide +kernel)
theorem mX5_80 : MLV RX5 80 yX5_placeBehind cX5_placeBehind 5 (some .int) 5 3 := ⟨mb_X5_placeBehind _ _, UG_of (i := 651) (by decide +kernel) (by decide +kernel), wm_X5_placeBehind, we_X5_placeBehind, rfl, by decide⟩
theorem fX5_84 : FL RX5 84 6 1 true := ⟨RX6, TX6, 3, fcX6, by decide, by decide +kernel, by decide +kernel, UG_of (i := 297) (by decide +kernel) (by decide +kernel)⟩
theorem fX5_87 : FL RX5 87 6 0 true := ⟨RX6, TX6, 3, fcX6, by decide, by decide +kernel, by decide +kernel, UG_of (i := 295) (by decide +kernel) (by decide +kernel)⟩
set_option maxRecDepth 100000 in
theorem wc_X5_nextOfBest : Cond.code yX5_nextOfBest cX5_nextOfBest 6 (some .int) ∈ UG := UG_of (i := 670) rfl (by decide +kernel)
theorem mb_X5_nextOfBest (own : String) (i : Nat) : MLB own i yX5_nextOfBest cX5_nextOfBest 6 (some .int) 2 := ⟨wi_X5, wc_X5_nextOfBest, by decide +kernel⟩
theorem wm_X5_nextOfBest : Cond.instanceMethod yX5_nextOfBest ∈ UG := UG_of (i := 669) (by decide +kernel) (by decide +kernel)
theorem we_X5_nextOfBest : Cond.selects (yX5_nextOfBest).cls yX5_nextOfBest yX5_nextOfBest ∈ UG := UG_of (i := 16) (by decide +kernel) (by decide +kernel)
theorem mX5_90 : MLV RX5 90 yX5_nextOfBest cX5_nextOfBest 6 (some .int) 5 2 := ⟨mb_X5_nextOfBest _ _, UG_of (i := 667) (by decide +kernel) (by decide +kernel), wm_X5_nextOfBest, we_X5_nextOfBest, rfl, by decide⟩
set_option maxRecDepth 100000 in
theorem wc_X5_dearerBy : Cond.code yX5_dearerBy cX5_dearerBy 5 (some .int) ∈ UG := UG_of (i := 674) rfl (by decide +kernel)
theorem mb_X5_dearerBy (own : String) (i : Nat) : MLB own i yX5_dearerBy cX5_dearerBy 5 (some .int) 4 := ⟨wi_X5, wc_X5_dearerBy, by decide +kernel⟩
theorem wm_X5_dearerBy : Cond.instanceMethod yX5_dearerBy ∈ UG := UG_of (i := 673) (by decide +kernel) (by decide +kernel)
theorem we_X5_dearerBy : Cond.selects (yX5_dearerBy).cls yX5_dearerBy yX5_dearerBy ∈ UG := UG_of (i := 17) (by decide +kernel) (by decide +kernel)
theorem mX5_93 : MLV RX5 93 yX5_dearerBy cX5_dearerBy 5 (some .int) 5 4 := ⟨mb_X5_dearerBy _ _, UG_of (i := 671) (by decide +kernel) (by decide +kernel), wm_X5_dearerBy, we_X5_dearerBy, rfl, by decide⟩
set_option maxRecDepth 100000 in
theorem wc_X5_stepBefore : Cond.code yX5_stepBefore cX5_stepBefore 6 none ∈ UG := UG_of (i := 689) rfl (by decide +kernel)
theorem mb_X5_stepBefore (own : String) (i : Nat) : MLB own i yX5_stepBefore cX5_stepBefore 6 none 2 := ⟨wi_X5, wc_X5_stepBefore, by decide +kernel⟩
theorem wm_X5_stepBefore : Cond.instanceMethod yX5_stepBefore ∈ UG := UG_of (i := 688) (by decide +kernel) (by decide +kernel)
theorem we_X5_stepBefore : Cond.selects (yX5_stepBefore).cls yX5_stepBefore yX5_stepBefore ∈ UG := UG_of (i := 18) (by decide +kernel) (by decide +kernel)
theorem mX5_97 : MLV RX5 97 yX5_stepBefore cX5_stepBefore 6 none 5 2 := ⟨mb_X5_stepBefore _ _, UG_of (i := 686) (by decide +kernel) (by decide +kernel), wm_X5_stepBefore, we_X5_stepBefore, rfl, by decide⟩
set_option maxRecDepth 100000 in
theorem wc_X5_isRival : Cond.code yX5_isRival cX5_isRival 4 (some .boolean) ∈ UG := UG_of (i := 697) rfl (by decide +kernel)
theorem mb_X5_isRival (own : String) (i : Nat) : MLB own i yX5_isRival cX5_isRival 4 (some .boolean) 3 := ⟨wi_X5, wc_X5_isRival, by decide +kernel⟩
theorem wm_X5_isRival : Cond.instanceMethod yX5_isRival ∈ UG := UG_of (i := 696) (by decide +kernel) (by decide +kernel)
theorem we_X5_isRival : Cond.selects (yX5_isRival).cls yX5_isRival yX5_isRival ∈ UG := UG_of (i := 19) (by decide +kernel) (by decide +kernel)
theorem mX5_101 : MLV RX5 101 yX5_isRival cX5_isRival 4 (some .boolean) 5 3 := ⟨mb_X5_isRival _ _, UG_of (i := 694) (by decide +kernel) (by decide +kernel), wm_X5_isRival, we_X5_isRival, rfl, by decide⟩
set_option maxRecDepth 100000 in
theorem wc_X5_startWays : Cond.code yX5_startWays cX5_startWays 4 none ∈ UG := UG_of (i := 713) rfl (by decide +kernel)
theorem mb_X5_startWays (own : String) (i : Nat) : MLB own i yX5_startWays cX5_startWays 4 none 1 := ⟨wi_X5, wc_X5_startWays, by decide +kernel⟩
theorem wm_X5_startWays : Cond.instanceMethod yX5_startWays ∈ UG := UG_of (i := 712) (by decide +kernel) (by decide +kernel)
theorem we_X5_startWays : Cond.selects (yX5_startWays).cls yX5_startWays yX5_startWays ∈ UG := UG_of (i := 20) (by decide +kernel) (by decide +kernel)
theorem mX5_105 : MLV RX5 105 yX5_startWays cX5_startWays 4 none 5 1 := ⟨mb_X5_startWays _ _, UG_of (i := 710) (by decide +kernel) (by decide +kernel), wm_X5_startWays, we_X5_startWays, rfl, by decide⟩
set_option maxRecDepth 100000 in
theorem wc_X5_holdsWays : Cond.code yX5_holdsWays cX5_holdsWays 4 (some .boolean) ∈ UG := UG_of (i := 717) rfl (by decide +kernel)
theorem mb_X5_holdsWays (own : String) (i : Nat) : MLB own i yX5_holdsWays cX5_holdsWays 4 (some .boolean) 2 := ⟨wi_X5, wc_X5_holdsWays, by decide +kernel⟩
theorem wm_X5_holdsWays : Cond.instanceMethod yX5_holdsWays ∈ UG := UG_of (i := 716) (by decide +kernel) (by decide +kernel)
theorem we_X5_holdsWays : Cond.selects (yX5_holdsWays).cls yX5_holdsWays yX5_holdsWays ∈ UG := UG_of (i := 21) (by decide +kernel) (by decide +kernel)
theorem mX5_109 : MLV RX5 109 yX5_holdsWays cX5_holdsWays 4 (some .boolean) 5 2 := ⟨mb_X5_holdsWays _ _, UG_of (i := 714) (by decide +kernel) (by decide +kernel), wm_X5_holdsWays, we_X5_holdsWays, rfl, by decide⟩
set_option maxRecDepth 100000 in
theorem wc_X5_stepWays : Cond.code yX5_stepWays cX5_stepWays 6 none ∈ UG := UG_of (i := 721) rfl (by decide +kernel)
theorem mb_X5_stepWays (own : String) (i : Nat) : MLB own i yX5_stepWays cX5_stepWays 6 none 3 := ⟨wi_X5, wc_X5_stepWays, by decide +kernel⟩
theorem wm_X5_stepWays : Cond.instanceMethod yX5_stepWays ∈ UG := UG_of (i := 720) (by decide +kernel) (by decide +kernel)
theorem we_X5_stepWays : Cond.selects (yX5_stepWays).cls yX5_stepWays yX5_stepWays ∈ UG := UG_of (i := 22) (by decide +kernel) (by decide +kernel)
theorem mX5_113 : MLV RX5 113 yX5_stepWays cX5_stepWays 6 none 5 3 := ⟨mb_X5_stepWays _ _, UG_of (i := 718) (by decide +kernel) (by decide +kernel), wm_X5_stepWays, we_X5_stepWays, rfl, by decide⟩
set_option maxRecDepth 100000 in
theorem wc_X5_moveWays : Cond.code yX5_moveWays cX5_moveWays 6 none ∈ UG := UG_of (i := 725) rfl (by decide +kernel)
theorem mb_X5_moveWays (own : String) (i : Nat) : MLB own i yX5_moveWays cX5_moveWays 6 none 4 := ⟨wi_X5, wc_X5_moveWays, by decide +kernel⟩
theorem wm_X5_moveWays : Cond.instanceMethod yX5_moveWays ∈ UG := UG_of (i := 724) (by decide +kernel) (by decide +kernel)
theorem we_X5_moveWays : Cond.selects (yX5_moveWays).cls yX5_moveWays yX5_moveWays ∈ UG := UG_of (i := 23) (by decide +kernel) (by decide +kernel)
theorem mX5_117 : MLV RX5 117 yX5_moveWays cX5_moveWays 6 none 5 4 := ⟨mb_X5_moveWays _ _, UG_of (i := 722) (by decide +kernel) (by decide +kernel), wm_X5_moveWays, we_X5_moveWays, rfl, by decide⟩
theorem mX6_3 : Cond.methodLink RX6 3 objectInit ∈ UG := UG_of (i := 293) (by decide +kernel) (by decide +kernel)
theorem fX6_9 : FL RX6 9 6 0 true := ⟨RX6, TX6, 3, fcX6, by decide, by decide +kernel, by decide +kernel, UG_of (i := 294) (by decide +kernel) (by decide +kernel)⟩
theorem fX6_15 : FL RX6 15 6 1 true := ⟨RX6, TX6, 3, fcX6, by decide, by decide +kernel, by decide +kernel, UG_of (i := 296) (by decide +kernel) (by decide +kernel)⟩
theorem fX6_18 : FL RX6 18 6 2 false := ⟨RX6, TX6, 3, fcX6, by decide, by decide +kernel, by decide +kernel, UG_of (i := 298) (by decide +kernel) (by decide +kernel)⟩
theorem mX6_22 : MLV RX6 22 yX4_value cX4_value 3 (some .int) 4 0 := ⟨mb_X4_value _ _, UG_of (i := 577) (by decide +kernel) (by decide +kernel), wm_X4_value, we_X4_value, rfl, by decide⟩
set_option maxRecDepth 100000 in
theorem wc_X6_put : Cond.code yX6_put cX6_put 4 none ∈ UG := UG_of (i := 585) rfl (by decide +kernel)
theorem mb_X6_put (own : String) (i : Nat) : MLB own i yX6_put cX6_put 4 none 2 := ⟨wi_X6, wc_X6_put, by decide +kernel⟩
theorem wm_X6_put : Cond.instanceMethod yX6_put ∈ UG := UG_of (i := 584) (by decide +kernel) (by decide +kernel)
theorem we_X6_put : Cond.selects (yX6_put).cls yX6_put yX6_put ∈ UG := UG_of (i := 9) (by decide +kernel) (by decide +kernel)
theorem mX6_28 : MLV RX6 28 yX6_put cX6_put 4 none 6 2 := ⟨mb_X6_put _ _, UG_of (i := 582) (by decide +kernel) (by decide +kernel), wm_X6_put, we_X6_put, rfl, by decide⟩
theorem fX6_32 : FL RX6 32 1 3 false := ⟨RX1, TX1, 4, fcX1, by decide, by decide +kernel, by decide +kernel, UG_of (i := 255) (by decide +kernel) (by decide +kernel)⟩
set_option maxRecDepth 100000 in
theorem wc_X1_worksIn : Cond.code yX1_worksIn cX1_worksIn 3 (some .boolean) ∈ UG := UG_of (i := 594) rfl (by decide +kernel)
theorem mb_X1_worksIn (own : String) (i : Nat) : MLB own i yX1_worksIn cX1_worksIn 3 (some .boolean) 2 := ⟨wi_X1, wc_X1_worksIn, by decide +kernel⟩
theorem wm_X1_worksIn : Cond.instanceMethod yX1_worksIn ∈ UG := UG_of (i := 592) (by decide +kernel) (by decide +kernel)
theorem we_X1_worksIn : Cond.selects (yX1_worksIn).cls yX1_worksIn yX1_worksIn ∈ UG := UG_of (i := 593) (by decide +kernel) (by decide +kernel)
theorem mX6_35 : MLV RX6 35 yX1_worksIn cX1_worksIn 3 (some .boolean) 1 2 := ⟨mb_X1_worksIn _ _, UG_of (i := 591) (by decide +kernel) (by decide +kernel), wm_X1_worksIn, we_X1_worksIn, rfl, by decide⟩
set_option maxRecDepth 100000 in
theorem wc_X1_gainBy : Cond.code yX1_gainBy cX1_gainBy 2 (some .int) ∈ UG := UG_of (i := 606) rfl (by decide +kernel)
theorem mb_X1_gainBy (own : String) (i : Nat) : MLB own i yX1_gainBy cX1_gainBy 2 (some .int) 1 := ⟨wi_X1, wc_X1_gainBy, by decide +kernel⟩
theorem wm_X1_gainBy : Cond.instanceMethod yX1_gainBy ∈ UG := UG_of (i := 604) (by decide +kernel) (by decide +kernel)
theorem we_X1_gainBy : Cond.selects (yX1_gainBy).cls yX1_gainBy yX1_gainBy ∈ UG := UG_of (i := 605) (by decide +kernel) (by decide +kernel)
theorem mX6_39 : MLV RX6 39 yX1_gainBy cX1_gainBy 2 (some .int) 1 1 := ⟨mb_X1_gainBy _ _, UG_of (i := 603) (by decide +kernel) (by decide +kernel), wm_X1_gainBy, we_X1_gainBy, rfl, by decide⟩
theorem fX6_43 : FL RX6 43 1 2 true := ⟨RX1, TX1, 4, fcX1, by decide, by decide +kernel, by decide +kernel, UG_of (i := 253) (by decide +kernel) (by decide +kernel)⟩
set_option maxRecDepth 100000 in
theorem wc_X6_find : Cond.code yX6_find cX6_find 3 (some .int) ∈ UG := UG_of (i := 589) rfl (by decide +kernel)
theorem mb_X6_find (own : String) (i : Nat) : MLB own i yX6_find cX6_find 3 (some .int) 1 := ⟨wi_X6, wc_X6_find, by decide +kernel⟩
theorem wm_X6_find : Cond.instanceMethod yX6_find ∈ UG := UG_of (i := 588) (by decide +kernel) (by decide +kernel)
theorem we_X6_find : Cond.selects (yX6_find).cls yX6_find yX6_find ∈ UG := UG_of (i := 10) (by decide +kernel) (by decide +kernel)
theorem mX6_44 : MLV RX6 44 yX6_find cX6_find 3 (some .int) 6 1 := ⟨mb_X6_find _ _, UG_of (i := 586) (by decide +kernel) (by decide +kernel), wm_X6_find, we_X6_find, rfl, by decide⟩
theorem mX6_47 : MJ RX6 47 Lib.Math.min.name Lib.Math.min.code 2 := ⟨UG_of (i := 590) (by decide +kernel) (by decide +kernel), ws_Mmin, wi_Math, wc_Mmin⟩
theorem mX7_3 : Cond.methodLink RX7 3 objectInit ∈ UG := UG_of (i := 140) (by decide +kernel) (by decide +kernel)
theorem xX7_9 : Cond.classLink RX7 9 "MileLists$Name" ∈ UG := UG_of (i := 141) (by decide +kernel) (by decide +kernel)
theorem fX7_11 : FL RX7 11 7 0 true := ⟨RX7, TX7, 5, fcX7, by decide, by decide +kernel, by decide +kernel, UG_of (i := 160) (by decide +kernel) (by decide +kernel)⟩
theorem xX7_17 : Cond.classLink RX7 17 "MileLists$Numeral" ∈ UG := UG_of (i := 143) (by decide +kernel) (by decide +kernel)
theorem fX7_19 : FL RX7 19 7 1 true := ⟨RX7, TX7, 5, fcX7, by decide, by decide +kernel, by decide +kernel, UG_of (i := 163) (by decide +kernel) (by decide +kernel)⟩
theorem fX7_23 : FL RX7 23 7 2 true := ⟨RX7, TX7, 5, fcX7, by decide, by decide +kernel, by decide +kernel, UG_of (i := 167) (by decide +kernel) (by decide +kernel)⟩
theorem mX7_27 : MLN RX7 27 yX3_init cX3_init 1 0 := ⟨mb_X3_init _ _, by decide +kernel, wm_X3_init, rfl⟩
set_option maxRecDepth 100000 in
theorem wc_X4_init : Cond.code yX4_init cX4_init 1 none ∈ UG := UG_of (i := 149) rfl (by decide +kernel)
theorem mb_X4_init (own : String) (i : Nat) : MLB own i yX4_init cX4_init 1 none 0 := ⟨wi_X4, wc_X4_init, by decide +kernel⟩
theorem wm_X4_init : Cond.instanceMethod yX4_init ∈ UG := UG_of (i := 148) (by decide +kernel) (by decide +kernel)
theorem mX7_28 : MLN RX7 28 yX4_init cX4_init 1 0 := ⟨mb_X4_init _ _, by decide +kernel, wm_X4_init, rfl⟩
theorem fX7_29 : FL RX7 29 7 4 false := ⟨RX7, TX7, 5, fcX7, by decide, by decide +kernel, by decide +kernel, UG_of (i := 171) (by decide +kernel) (by decide +kernel)⟩
theorem mX7_33 : MLV RX7 33 yX3_same cX3_same 3 (some .boolean) 3 1 := ⟨mb_X3_same _ _, UG_of (i := 427) (by decide +kernel) (by decide +kernel), wm_X3_same, we_X3_same, rfl, by decide⟩
theorem fX7_37 : FL RX7 37 7 3 false := ⟨RX7, TX7, 5, fcX7, by decide, by decide +kernel, by decide +kernel, UG_of (i := 170) (by decide +kernel) (by decide +kernel)⟩
theorem mX7_40 : MLV RX7 40 yX4_value cX4_value 3 (some .int) 4 0 := ⟨mb_X4_value _ _, UG_of (i := 740) (by decide +kernel) (by decide +kernel), wm_X4_value, we_X4_value, rfl, by decide⟩
set_option maxRecDepth 100000 in
theorem wc_X7_sameStep : Cond.code yX7_sameStep cX7_sameStep 4 (some .boolean) ∈ UG := UG_of (i := 748) rfl (by decide +kernel)
theorem mb_X7_sameStep (own : String) (i : Nat) : MLB own i yX7_sameStep cX7_sameStep 4 (some .boolean) 3 := ⟨wi_X7, wc_X7_sameStep, by decide +kernel⟩
theorem wm_X7_sameStep : Cond.instanceMethod yX7_sameStep ∈ UG := UG_of (i := 747) (by decide +kernel) (by decide +kernel)
theorem we_X7_sameStep : Cond.selects (yX7_sameStep).cls yX7_sameStep yX7_sameStep ∈ UG := UG_of (i := 25) (by decide +kernel) (by decide +kernel)
theorem mX7_44 : MLV RX7 44 yX7_sameStep cX7_sameStep 4 (some .boolean) 7 3 := ⟨mb_X7_sameStep _ _, UG_of (i := 745) (by decide +kernel) (by decide +kernel), wm_X7_sameStep, we_X7_sameStep, rfl, by decide⟩
set_option maxRecDepth 100000 in
theorem wc_X4_same : Cond.code yX4_same cX4_same 3 (some .boolean) ∈ UG := UG_of (i := 752) rfl (by decide +kernel)
theorem mb_X4_same (own : String) (i : Nat) : MLB own i yX4_same cX4_same 3 (some .boolean) 1 := ⟨wi_X4, wc_X4_same, by decide +kernel⟩
theorem wm_X4_same : Cond.instanceMethod yX4_same ∈ UG := UG_of (i := 750) (by decide +kernel) (by decide +kernel)
theorem we_X4_same : Cond.selects (yX4_same).cls yX4_same yX4_same ∈ UG := UG_of (i := 751) (by decide +kernel) (by decide +kernel)
theorem mX7_48 : MLV RX7 48 yX4_same cX4_same 3 (some .boolean) 4 1 := ⟨mb_X4_same _ _, UG_of (i := 749) (by decide +kernel) (by decide +kernel), wm_X4_same, we_X4_same, rfl, by decide⟩
theorem mX8_3 : Cond.methodLink RX8 3 objectInit ∈ UG := UG_of (i := 121) (by decide +kernel) (by decide +kernel)
theorem fX8_9 : FL RX8 9 8 0 false := ⟨RX8, TX8, 3, fcX8, by decide, by decide +kernel, by decide +kernel, UG_of (i := 122) (by decide +kernel) (by decide +kernel)⟩
theorem fX8_15 : FL RX8 15 8 1 false := ⟨RX8, TX8, 3, fcX8, by decide, by decide +kernel, by decide +kernel, UG_of (i := 124) (by decide +kernel) (by decide +kernel)⟩
theorem fX8_18 : FL RX8 18 8 2 false := ⟨RX8, TX8, 3, fcX8, by decide, by decide +kernel, by decide +kernel, UG_of (i := 126) (by decide +kernel) (by decide +kernel)⟩
theorem fX8_22 : FL RX8 22 7 4 false := ⟨RX7, TX7, 5, fcX7, by decide, by decide +kernel, by decide +kernel, UG_of (i := 172) (by decide +kernel) (by decide +kernel)⟩
theorem fX8_27 : FL RX8 27 10 1 false := ⟨RX10, TX10, 2, fcX10, by decide, by decide +kernel, by decide +kernel, UG_of (i := 90) (by decide +kernel) (by decide +kernel)⟩
set_option maxRecDepth 100000 in
theorem wc_X10_isBlank : Cond.code yX10_isBlank cX10_isBlank 2 (some .boolean) ∈ UG := UG_of (i := 402) rfl (by decide +kernel)
theorem mb_X10_isBlank (own : String) (i : Nat) : MLB own i yX10_isBlank cX10_isBlank 2 (some .boolean) 1 := ⟨wi_X10, wc_X10_isBlank, by decide +kernel⟩
theorem wm_X10_isBlank : Cond.instanceMethod yX10_isBlank ∈ UG := UG_of (i := 400) (by decide +kernel) (by decide +kernel)
theorem we_X10_isBlank : Cond.selects (yX10_isBlank).cls yX10_isBlank yX10_isBlank ∈ UG := UG_of (i := 401) (by decide +kernel) (by decide +kernel)
theorem mX8_32 : MLV RX8 32 yX10_isBlank cX10_isBlank 2 (some .boolean) 10 1 := ⟨mb_X10_isBlank _ _, UG_of (i := 399) (by decide +kernel) (by decide +kernel), wm_X10_isBlank, we_X10_isBlank, rfl, by decide⟩
set_option maxRecDepth 100000 in
theorem wc_X8_takeToken : Cond.code yX8_takeToken cX8_takeToken 6 (some .int) ∈ UG := UG_of (i := 406) rfl (by decide +kernel)
theorem mb_X8_takeToken (own : String) (i : Nat) : MLB own i yX8_takeToken cX8_takeToken 6 (some .int) 3 := ⟨wi_X8, wc_X8_takeToken, by decide +kernel⟩
theorem wm_X8_takeToken : Cond.instanceMethod yX8_takeToken ∈ UG := UG_of (i := 405) (by decide +kernel) (by decide +kernel)
theorem we_X8_takeToken : Cond.selects (yX8_takeToken).cls yX8_takeToken yX8_takeToken ∈ UG := UG_of (i := 0) (by decide +kernel) (by decide +kernel)
theorem mX8_36 : MLV RX8 36 yX8_takeToken cX8_takeToken 6 (some .int) 8 3 := ⟨mb_X8_takeToken _ _, UG_of (i := 403) (by decide +kernel) (by decide +kernel), wm_X8_takeToken, we_X8_takeToken, rfl, by decide⟩
theorem ws_Mmax : Cond.static Lib.Math.max.name ∈ UG := UG_of (i := 448) (by decide +kernel) (by decide +kernel)
set_option maxRecDepth 100000 in
theorem wc_Mmax : Cond.code Lib.Math.max.name Lib.Math.max.code 2 (some .int) ∈ UG := UG_of (i := 449) rfl (by decide +kernel)
theorem mX8_40 : MJ RX8 40 Lib.Math.max.name Lib.Math.max.code 2 := ⟨UG_of (i := 447) (by decide +kernel) (by decide +kernel), ws_Mmax, wi_Math, wc_Mmax⟩
set_option maxRecDepth 100000 in
theorem wc_X8_blame : Cond.code yX8_blame cX8_blame 3 none ∈ UG := UG_of (i := 418) rfl (by decide +kernel)
theorem mb_X8_blame (own : String) (i : Nat) : MLB own i yX8_blame cX8_blame 3 none 2 := ⟨wi_X8, wc_X8_blame, by decide +kernel⟩
theorem wm_X8_blame : Cond.instanceMethod yX8_blame ∈ UG := UG_of (i := 417) (by decide +kernel) (by decide +kernel)
theorem we_X8_blame : Cond.selects (yX8_blame).cls yX8_blame yX8_blame ∈ UG := UG_of (i := 2) (by decide +kernel) (by decide +kernel)
theorem mX8_46 : MLV RX8 46 yX8_blame cX8_blame 3 none 8 2 := ⟨mb_X8_blame _ _, UG_of (i := 415) (by decide +kernel) (by decide +kernel), wm_X8_blame, we_X8_blame, rfl, by decide⟩
theorem mX8_50 : MLV RX8 50 yX10_lettersFrom cX10_lettersFrom 3 (some .int) 10 1 := ⟨mb_X10_lettersFrom _ _, UG_of (i := 407) (by decide +kernel) (by decide +kernel), wm_X10_lettersFrom, we_X10_lettersFrom, rfl, by decide⟩
set_option maxRecDepth 100000 in
theorem wc_X8_takeWord : Cond.code yX8_takeWord cX8_takeWord 6 none ∈ UG := UG_of (i := 414) rfl (by decide +kernel)
theorem mb_X8_takeWord (own : String) (i : Nat) : MLB own i yX8_takeWord cX8_takeWord 6 none 4 := ⟨wi_X8, wc_X8_takeWord, by decide +kernel⟩
theorem wm_X8_takeWord : Cond.instanceMethod yX8_takeWord ∈ UG := UG_of (i := 413) (by decide +kernel) (by decide +kernel)
theorem we_X8_takeWord : Cond.selects (yX8_takeWord).cls yX8_takeWord yX8_takeWord ∈ UG := UG_of (i := 1) (by decide +kernel) (by decide +kernel)
theorem mX8_54 : MLV RX8 54 yX8_takeWord cX8_takeWord 6 none 8 4 := ⟨mb_X8_takeWord _ _, UG_of (i := 411) (by decide +kernel) (by decide +kernel), wm_X8_takeWord, we_X8_takeWord, rfl, by decide⟩
set_option maxRecDepth 100000 in
theorem wc_X10_signsFrom : Cond.code yX10_signsFrom cX10_signsFrom 3 (some .int) ∈ UG := UG_of (i := 434) rfl (by decide +kernel)
theorem mb_X10_signsFrom (own : String) (i : Nat) : MLB own i yX10_signsFrom cX10_signsFrom 3 (some .int) 1 := ⟨wi_X10, wc_X10_signsFrom, by decide +kernel⟩
theorem wm_X10_signsFrom : Cond.instanceMethod yX10_signsFrom ∈ UG := UG_of (i := 432) (by decide +kernel) (by decide +kernel)
theorem we_X10_signsFrom : Cond.selects (yX10_signsFrom).cls yX10_signsFrom yX10_signsFrom ∈ UG := UG_of (i := 433) (by decide +kernel) (by decide +kernel)
theorem mX8_58 : MLV RX8 58 yX10_signsFrom cX10_signsFrom 3 (some .int) 10 1 := ⟨mb_X10_signsFrom _ _, UG_of (i := 431) (by decide +kernel) (by decide +kernel), wm_X10_signsFrom, we_X10_signsFrom, rfl, by decide⟩
set_option maxRecDepth 100000 in
theorem wc_X8_takeSigns : Cond.code yX8_takeSigns cX8_takeSigns 7 none ∈ UG := UG_of (i := 441) rfl (by decide +kernel)
theorem mb_X8_takeSigns (own : String) (i : Nat) : MLB own i yX8_takeSigns cX8_takeSigns 7 none 4 := ⟨wi_X8, wc_X8_takeSigns, by decide +kernel⟩
theorem wm_X8_takeSigns : Cond.instanceMethod yX8_takeSigns ∈ UG := UG_of (i := 440) (by decide +kernel) (by decide +kernel)
theorem we_X8_takeSigns : Cond.selects (yX8_takeSigns).cls yX8_takeSigns yX8_takeSigns ∈ UG := UG_of (i := 3) (by decide +kernel) (by decide +kernel)
theorem mX8_61 : MLV RX8 61 yX8_takeSigns cX8_takeSigns 7 none 8 4 := ⟨mb_X8_takeSigns _ _, UG_of (i := 438) (by decide +kernel) (by decide +kernel), wm_X8_takeSigns, we_X8_takeSigns, rfl, by decide⟩
theorem fX8_64 : FL RX8 64 7 0 true := ⟨RX7, TX7, 5, fcX7, by decide, by decide +kernel, by decide +kernel, UG_of (i := 161) (by decide +kernel) (by decide +kernel)⟩
theorem mX8_68 : MLV RX8 68 yX3_take cX3_take 5 none 3 3 := ⟨mb_X3_take _ _, UG_of (i := 419) (by decide +kernel) (by decide +kernel), wm_X3_take, we_X3_take, rfl, by decide⟩
set_option maxRecDepth 100000 in
theorem wc_X7_hasNameAhead : Cond.code yX7_hasNameAhead cX7_hasNameAhead 3 (some .boolean) ∈ UG := UG_of (i := 426) rfl (by decide +kernel)
theorem mb_X7_hasNameAhead (own : String) (i : Nat) : MLB own i yX7_hasNameAhead cX7_hasNameAhead 3 (some .boolean) 1 := ⟨wi_X7, wc_X7_hasNameAhead, by decide +kernel⟩
theorem wm_X7_hasNameAhead : Cond.instanceMethod yX7_hasNameAhead ∈ UG := UG_of (i := 424) (by decide +kernel) (by decide +kernel)
theorem we_X7_hasNameAhead : Cond.selects (yX7_hasNameAhead).cls yX7_hasNameAhead yX7_hasNameAhead ∈ UG := UG_of (i := 425) (by decide +kernel) (by decide +kernel)
theorem mX8_74 : MLV RX8 74 yX7_hasNameAhead cX7_hasNameAhead 3 (some .boolean) 7 1 := ⟨mb_X7_hasNameAhead _ _, UG_of (i := 423) (by decide +kernel) (by decide +kernel), wm_X7_hasNameAhead, we_X7_hasNameAhead, rfl, by decide⟩
theorem fX8_77 : FL RX8 77 7 1 true := ⟨RX7, TX7, 5, fcX7, by decide, by decide +kernel, by decide +kernel, UG_of (i := 165) (by decide +kernel) (by decide +kernel)⟩
set_option maxRecDepth 100000 in
theorem wc_X4_take : Cond.code yX4_take cX4_take 5 (some .boolean) ∈ UG := UG_of (i := 445) rfl (by decide +kernel)
theorem mb_X4_take (own : String) (i : Nat) : MLB own i yX4_take cX4_take 5 (some .boolean) 3 := ⟨wi_X4, wc_X4_take, by decide +kernel⟩
theorem wm_X4_take : Cond.instanceMethod yX4_take ∈ UG := UG_of (i := 443) (by decide +kernel) (by decide +kernel)
theorem we_X4_take : Cond.selects (yX4_take).cls yX4_take yX4_take ∈ UG := UG_of (i := 444) (by decide +kernel) (by decide +kernel)
theorem mX8_81 : MLV RX8 81 yX4_take cX4_take 5 (some .boolean) 4 3 := ⟨mb_X4_take _ _, UG_of (i := 442) (by decide +kernel) (by decide +kernel), wm_X4_take, we_X4_take, rfl, by decide⟩
theorem mX9_3 : Cond.methodLink RX9 3 objectInit ∈ UG := UG_of (i := 271) (by decide +kernel) (by decide +kernel)
theorem fX9_9 : FL RX9 9 9 0 true := ⟨RX9, TX9, 2, fcX9, by decide, by decide +kernel, by decide +kernel, UG_of (i := 272) (by decide +kernel) (by decide +kernel)⟩
theorem fX9_15 : FL RX9 15 9 1 true := ⟨RX9, TX9, 2, fcX9, by decide, by decide +kernel, by decide +kernel, UG_of (i := 273) (by decide +kernel) (by decide +kernel)⟩
theorem fX9_18 : FL RX9 18 3 1 false := ⟨RX3, TX3, 2, fcX3, by decide, by decide +kernel, by decide +kernel, UG_of (i := 109) (by decide +kernel) (by decide +kernel)⟩
theorem fX9_24 : FL RX9 24 3 0 true := ⟨RX3, TX3, 2, fcX3, by decide, by decide +kernel, by decide +kernel, UG_of (i := 106) (by decide +kernel) (by decide +kernel)⟩
set_option maxRecDepth 100000 in
theorem wc_X9_swapCost : Cond.code yX9_swapCost cX9_swapCost 3 (some .int) ∈ UG := UG_of (i := 552) rfl (by decide +kernel)
theorem mb_X9_swapCost (own : String) (i : Nat) : MLB own i yX9_swapCost cX9_swapCost 3 (some .int) 2 := ⟨wi_X9, wc_X9_swapCost, by decide +kernel⟩
theorem wm_X9_swapCost : Cond.instanceMethod yX9_swapCost ∈ UG := UG_of (i := 551) (by decide +kernel) (by decide +kernel)
theorem we_X9_swapCost : Cond.selects (yX9_swapCost).cls yX9_swapCost yX9_swapCost ∈ UG := UG_of (i := 7) (by decide +kernel) (by decide +kernel)
theorem mX9_27 : MLV RX9 27 yX9_swapCost cX9_swapCost 3 (some .int) 9 2 := ⟨mb_X9_swapCost _ _, UG_of (i := 549) (by decide +kernel) (by decide +kernel), wm_X9_swapCost, we_X9_swapCost, rfl, by decide⟩
theorem mX9_31 : MJ RX9 31 Lib.Math.min.name Lib.Math.min.code 2 := ⟨UG_of (i := 554) (by decide +kernel) (by decide +kernel), ws_Mmin, wi_Math, wc_Mmin⟩
theorem mX9_36 : MLV RX9 36 yX9_alike cX9_alike 4 (some .boolean) 9 2 := ⟨mb_X9_alike _ _, UG_of (i := 553) (by decide +kernel) (by decide +kernel), wm_X9_alike, we_X9_alike, rfl, by decide⟩
