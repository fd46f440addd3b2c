set_option maxRecDepth 100000 in
theorem iX0 : ∀ w ∈ u_ws RX0 TX0 5, w ∈ zTB := by decide +kernel
set_option maxRecDepth 100000 in
theorem iX1 : ∀ w ∈ u_ws RX1 TX1 1, w ∈ zTB := by decide +kernel
set_option maxRecDepth 100000 in
theorem iX2 : ∀ w ∈ u_ws RX2 TX2 6, w ∈ zTB := by decide +kernel
set_option maxRecDepth 100000 in
theorem iX3 : ∀ w ∈ u_ws RX3 TX3 15, w ∈ zTB := by decide +kernel
set_option maxRecDepth 100000 in
theorem iX4 : ∀ w ∈ u_ws RX4 TX4 2, w ∈ zTB := by decide +kernel
set_option maxRecDepth 100000 in
theorem iX5 : ∀ w ∈ u_ws RX5 TX5 7, w ∈ zTB := by decide +kernel
set_option maxRecDepth 100000 in
theorem iX6 : ∀ w ∈ u_ws RX6 TX6 8, w ∈ zTB := by decide +kernel
set_option maxRecDepth 100000 in
theorem iX7 : ∀ w ∈ u_ws RX7 TX7 31, w ∈ zTB := by decide +kernel
theorem tini_RL : Cond.initialized RL ∈ zTB := List.mem_filter.mpr ⟨List.mem_of_getElem? (i := 56) (by decide +kernel), by decide +kernel⟩
theorem tini_RX6 : Cond.initialized RX6 ∈ zTB := List.mem_filter.mpr ⟨List.mem_of_getElem? (i := 57) (by decide +kernel), by decide +kernel⟩
theorem tini_RX5 : Cond.initialized RX5 ∈ zTB := List.mem_filter.mpr ⟨List.mem_of_getElem? (i := 58) (by decide +kernel), by decide +kernel⟩
theorem tini_RX4 : Cond.initialized RX4 ∈ zTB := List.mem_filter.mpr ⟨List.mem_of_getElem? (i := 59) (by decide +kernel), by decide +kernel⟩
theorem tini_RX0 : Cond.initialized RX0 ∈ zTB := List.mem_filter.mpr ⟨List.mem_of_getElem? (i := 60) (by decide +kernel), by decide +kernel⟩
theorem tini_RX1 : Cond.initialized RX1 ∈ zTB := List.mem_filter.mpr ⟨List.mem_of_getElem? (i := 61) (by decide +kernel), by decide +kernel⟩
theorem tini_RX3 : Cond.initialized RX3 ∈ zTB := List.mem_filter.mpr ⟨List.mem_of_getElem? (i := 62) (by decide +kernel), by decide +kernel⟩
theorem tini_RX7 : Cond.initialized RX7 ∈ zTB := List.mem_filter.mpr ⟨List.mem_of_getElem? (i := 63) (by decide +kernel), by decide +kernel⟩
theorem tini_RX2 : Cond.initialized RX2 ∈ zTB := List.mem_filter.mpr ⟨List.mem_of_getElem? (i := 64) (by decide +kernel), by decide +kernel⟩
theorem tini_RJ6 : Cond.initialized RJ6 ∈ zTB := List.mem_filter.mpr ⟨List.mem_of_getElem? (i := 65) (by decide +kernel), by decide +kernel⟩
theorem tini_RJ9 : Cond.initialized RJ9 ∈ zTB := List.mem_filter.mpr ⟨List.mem_of_getElem? (i := 66) (by decide +kernel), by decide +kernel⟩
theorem tini_RJ0 : Cond.initialized RJ0 ∈ zTB := List.mem_filter.mpr ⟨List.mem_of_getElem? (i := 71) (by decide +kernel), by decide +kernel⟩
abbrev mJ6_bitCount_0f7a4 : zM := (yJ6_bitCount_0f7a4, cJ6_bitCount_0f7a4, 1, (some (.int)), none)
theorem tcode_J6_bitCount_0f7a4 : Cond.code yJ6_bitCount_0f7a4 cJ6_bitCount_0f7a4 1 (some (.int)) ∈ zTB := List.mem_filter.mpr ⟨List.mem_of_getElem? (i := 438) (by decide +kernel), by decide +kernel⟩
theorem tm_J6_bitCount_0f7a4 : zMT mJ6_bitCount_0f7a4 1 := ⟨tcode_J6_bitCount_0f7a4, tini_RJ6, ⟨by decide +kernel, by decide +kernel⟩, by decide +kernel, by decide, by decide +kernel, rfl⟩
theorem tms_J6_bitCount_0f7a4 : zMS mJ6_bitCount_0f7a4 1 := ⟨tm_J6_bitCount_0f7a4, List.mem_filter.mpr ⟨List.mem_of_getElem? (i := 437) (by decide +kernel), by decide +kernel⟩⟩
abbrev mJ9_max_f86c9 : zM := (yJ9_max_f86c9, cJ9_max_f86c9, 4, (some (.long)), none)
theorem tcode_J9_max_f86c9 : Cond.code yJ9_max_f86c9 cJ9_max_f86c9 4 (some (.long)) ∈ zTB := List.mem_filter.mpr ⟨List.mem_of_getElem? (i := 483) (by decide +kernel), by decide +kernel⟩
theorem tstat_J9_max_f86c9 : Cond.static yJ9_max_f86c9 ∈ zTB := List.mem_filter.mpr ⟨List.mem_of_getElem? (i := 482) (by decide +kernel), by decide +kernel⟩
abbrev mX0_add : zM := (yX0_add, cX0_add, 5, none, none)
theorem tcode_X0_add : Cond.code yX0_add cX0_add 5 none ∈ zTB := List.mem_filter.mpr ⟨List.mem_of_getElem? (i := 496) (by decide +kernel), by decide +kernel⟩
theorem tm_X0_add : zMT mX0_add 3 := ⟨tcode_X0_add, tini_RX0, ⟨by decide +kernel, by decide +kernel⟩, by decide +kernel, by decide, by decide +kernel, rfl⟩
theorem tmv_X0_add : zMV mX0_add 3 := ⟨tm_X0_add, List.mem_filter.mpr ⟨List.mem_of_getElem? (i := 495) (by decide +kernel), by decide +kernel⟩, List.mem_filter.mpr ⟨List.mem_of_getElem? (i := 15) (by decide +kernel), by decide +kernel⟩⟩
abbrev mX0_addParts : zM := (yX0_addParts, cX0_addParts, 8, none, none)
theorem tcode_X0_addParts : Cond.code yX0_addParts cX0_addParts 8 none ∈ zTB := List.mem_filter.mpr ⟨List.mem_of_getElem? (i := 491) (by decide +kernel), by decide +kernel⟩
theorem tm_X0_addParts : zMT mX0_addParts 4 := ⟨tcode_X0_addParts, tini_RX0, ⟨by decide +kernel, by decide +kernel⟩, by decide +kernel, by decide, by decide +kernel, rfl⟩
theorem tmv_X0_addParts : zMV mX0_addParts 4 := ⟨tm_X0_addParts, List.mem_filter.mpr ⟨List.mem_of_getElem? (i := 490) (by decide +kernel), by decide +kernel⟩, List.mem_filter.mpr ⟨List.mem_of_getElem? (i := 14) (by decide +kernel), by decide +kernel⟩⟩
abbrev mX0_init : zM := (yX0_init, cX0_init, 1, none, none)
theorem tcode_X0_init : Cond.code yX0_init cX0_init 1 none ∈ zTB := List.mem_filter.mpr ⟨List.mem_of_getElem? (i := 128) (by decide +kernel), by decide +kernel⟩
theorem tm_X0_init : zMT mX0_init 0 := ⟨tcode_X0_init, tini_RX0, ⟨by decide +kernel, by decide +kernel⟩, by decide +kernel, by decide, by decide +kernel, rfl⟩
theorem tmi_X0_init : zMI mX0_init 0 := ⟨tm_X0_init, List.mem_filter.mpr ⟨List.mem_of_getElem? (i := 127) (by decide +kernel), by decide +kernel⟩, rfl, rfl⟩
abbrev mX0_make : zM := (yX0_make, cX0_make, 7, none, none)
theorem tcode_X0_make : Cond.code yX0_make cX0_make 7 none ∈ zTB := List.mem_filter.mpr ⟨List.mem_of_getElem? (i := 461) (by decide +kernel), by decide +kernel⟩
theorem tm_X0_make : zMT mX0_make 4 := ⟨tcode_X0_make, tini_RX0, ⟨by decide +kernel, by decide +kernel⟩, by decide +kernel, by decide, by decide +kernel, rfl⟩
theorem tmv_X0_make : zMV mX0_make 4 := ⟨tm_X0_make, List.mem_filter.mpr ⟨List.mem_of_getElem? (i := 459) (by decide +kernel), by decide +kernel⟩, List.mem_filter.mpr ⟨List.mem_of_getElem? (i := 460) (by decide +kernel), by decide +kernel⟩⟩
abbrev mX0_tell : zM := (yX0_tell, cX0_tell, 3, (some (.int)), none)
theorem tcode_X0_tell : Cond.code yX0_tell cX0_tell 3 (some (.int)) ∈ zTB := List.mem_filter.mpr ⟨List.mem_of_getElem? (i := 513) (by decide +kernel), by decide +kernel⟩
theorem tm_X0_tell : zMT mX0_tell 2 := ⟨tcode_X0_tell, tini_RX0, ⟨by decide +kernel, by decide +kernel⟩, by decide +kernel, by decide, by decide +kernel, rfl⟩
theorem tmv_X0_tell : zMV mX0_tell 2 := ⟨tm_X0_tell, List.mem_filter.mpr ⟨List.mem_of_getElem? (i := 511) (by decide +kernel), by decide +kernel⟩, List.mem_filter.mpr ⟨List.mem_of_getElem? (i := 512) (by decide +kernel), by decide +kernel⟩⟩
abbrev mX1_clear : zM := (yX1_clear, cX1_clear, 3, none, none)
theorem tcode_X1_clear : Cond.code yX1_clear cX1_clear 3 none ∈ zTB := List.mem_filter.mpr ⟨List.mem_of_getElem? (i := 298) (by decide +kernel), by decide +kernel⟩
theorem tm_X1_clear : zMT mX1_clear 0 := ⟨tcode_X1_clear, tini_RX1, ⟨by decide +kernel, by decide +kernel⟩, by decide +kernel, by decide, by decide +kernel, rfl⟩
theorem tmv_X1_clear : zMV mX1_clear 0 := ⟨tm_X1_clear, List.mem_filter.mpr ⟨List.mem_of_getElem? (i := 296) (by decide +kernel), by decide +kernel⟩, List.mem_filter.mpr ⟨List.mem_of_getElem? (i := 297) (by decide +kernel), by decide +kernel⟩⟩
abbrev mX1_init : zM := (yX1_init, cX1_init, 2, none, none)
theorem tcode_X1_init : Cond.code yX1_init cX1_init 2 none ∈ zTB := List.mem_filter.mpr ⟨List.mem_of_getElem? (i := 155) (by decide +kernel), by decide +kernel⟩
theorem tm_X1_init : zMT mX1_init 0 := ⟨tcode_X1_init, tini_RX1, ⟨by decide +kernel, by decide +kernel⟩, by decide +kernel, by decide, by decide +kernel, rfl⟩
theorem tmi_X1_init : zMI mX1_init 0 := ⟨tm_X1_init, List.mem_filter.mpr ⟨List.mem_of_getElem? (i := 154) (by decide +kernel), by decide +kernel⟩, rfl, rfl⟩
abbrev mX1_place : zM := (yX1_place, cX1_place, 2, (some (.object "PostTariff$Kind")), none)
theorem tcode_X1_place : Cond.code yX1_place cX1_place 2 (some (.object "PostTariff$Kind")) ∈ zTB := List.mem_filter.mpr ⟨List.mem_of_getElem? (i := 346) (by decide +kernel), by decide +kernel⟩
theorem tm_X1_place : zMT mX1_place 1 := ⟨tcode_X1_place, tini_RX1, ⟨by decide +kernel, by decide +kernel⟩, by decide +kernel, by decide, by decide +kernel, rfl⟩
theorem tmv_X1_place : zMV mX1_place 1 := ⟨tm_X1_place, List.mem_filter.mpr ⟨List.mem_of_getElem? (i := 344) (by decide +kernel), by decide +kernel⟩, List.mem_filter.mpr ⟨List.mem_of_getElem? (i := 345) (by decide +kernel), by decide +kernel⟩⟩
abbrev mX2_has : zM := (yX2_has, cX2_has, 2, (some (.boolean)), none)
theorem tcode_X2_has : Cond.code yX2_has cX2_has 2 (some (.boolean)) ∈ zTB := List.mem_filter.mpr ⟨List.mem_of_getElem? (i := 473) (by decide +kernel), by decide +kernel⟩
theorem tm_X2_has : zMT mX2_has 1 := ⟨tcode_X2_has, tini_RX2, ⟨by decide +kernel, by decide +kernel⟩, by decide +kernel, by decide, by decide +kernel, rfl⟩
theorem tmv_X2_has : zMV mX2_has 1 := ⟨tm_X2_has, List.mem_filter.mpr ⟨List.mem_of_getElem? (i := 471) (by decide +kernel), by decide +kernel⟩, List.mem_filter.mpr ⟨List.mem_of_getElem? (i := 472) (by decide +kernel), by decide +kernel⟩⟩
abbrev mX2_init : zM := (yX2_init, cX2_init, 6, none, none)
theorem tcode_X2_init : Cond.code yX2_init cX2_init 6 none ∈ zTB := List.mem_filter.mpr ⟨List.mem_of_getElem? (i := 399) (by decide +kernel), by decide +kernel⟩
theorem tm_X2_init : zMT mX2_init 5 := ⟨tcode_X2_init, tini_RX2, ⟨by decide +kernel, by decide +kernel⟩, by decide +kernel, by decide, by decide +kernel, rfl⟩
theorem tmi_X2_init : zMI mX2_init 5 := ⟨tm_X2_init, List.mem_filter.mpr ⟨List.mem_of_getElem? (i := 398) (by decide +kernel), by decide +kernel⟩, rfl, rfl⟩
abbrev mX3_addStep : zM := (yX3_addStep, cX3_addStep, 3, none, none)
theorem tcode_X3_addStep : Cond.code yX3_addStep cX3_addStep 3 none ∈ zTB := List.mem_filter.mpr ⟨List.mem_of_getElem? (i := 376) (by decide +kernel), by decide +kernel⟩
theorem tm_X3_addStep : zMT mX3_addStep 2 := ⟨tcode_X3_addStep, tini_RX3, ⟨by decide +kernel, by decide +kernel⟩, by decide +kernel, by decide, by decide +kernel, rfl⟩
theorem tmv_X3_addStep : zMV mX3_addStep 2 := ⟨tm_X3_addStep, List.mem_filter.mpr ⟨List.mem_of_getElem? (i := 374) (by decide +kernel), by decide +kernel⟩, List.mem_filter.mpr ⟨List.mem_of_getElem? (i := 375) (by decide +kernel), by decide +kernel⟩⟩
abbrev mX3_clear : zM := (yX3_clear, cX3_clear, 1, none, none)
theorem tcode_X3_clear : Cond.code yX3_clear cX3_clear 1 none ∈ zTB := List.mem_filter.mpr ⟨List.mem_of_getElem? (i := 302) (by decide +kernel), by decide +kernel⟩
theorem tm_X3_clear : zMT mX3_clear 0 := ⟨tcode_X3_clear, tini_RX3, ⟨by decide +kernel, by decide +kernel⟩, by decide +kernel, by decide, by decide +kernel, rfl⟩
theorem tmv_X3_clear : zMV mX3_clear 0 := ⟨tm_X3_clear, List.mem_filter.mpr ⟨List.mem_of_getElem? (i := 300) (by decide +kernel), by decide +kernel⟩, List.mem_filter.mpr ⟨List.mem_of_getElem? (i := 301) (by decide +kernel), by decide +kernel⟩⟩
abbrev mX3_exclude : zM := (yX3_exclude, cX3_exclude, 3, none, none)
theorem tcode_X3_exclude : Cond.code yX3_exclude cX3_exclude 3 none ∈ zTB := List.mem_filter.mpr ⟨List.mem_of_getElem? (i := 381) (by decide +kernel), by decide +kernel⟩
theorem tm_X3_exclude : zMT mX3_exclude 2 := ⟨tcode_X3_exclude, tini_RX3, ⟨by decide +kernel, by decide +kernel⟩, by decide +kernel, by decide, by decide +kernel, rfl⟩
theorem tmv_X3_exclude : zMV mX3_exclude 2 := ⟨tm_X3_exclude, List.mem_filter.mpr ⟨List.mem_of_getElem? (i := 379) (by decide +kernel), by decide +kernel⟩, List.mem_filter.mpr ⟨List.mem_of_getElem? (i := 380) (by decide +kernel), by decide +kernel⟩⟩
abbrev mX3_excludes : zM := (yX3_excludes, cX3_excludes, 3, (some (.boolean)), none)
theorem tcode_X3_excludes : Cond.code yX3_excludes cX3_excludes 3 (some (.boolean)) ∈ zTB := List.mem_filter.mpr ⟨List.mem_of_getElem? (i := 359) (by decide +kernel), by decide +kernel⟩
theorem tm_X3_excludes : zMT mX3_excludes 2 := ⟨tcode_X3_excludes, tini_RX3, ⟨by decide +kernel, by decide +kernel⟩, by decide +kernel, by decide, by decide +kernel, rfl⟩
theorem tmv_X3_excludes : zMV mX3_excludes 2 := ⟨tm_X3_excludes, List.mem_filter.mpr ⟨List.mem_of_getElem? (i := 357) (by decide +kernel), by decide +kernel⟩, List.mem_filter.mpr ⟨List.mem_of_getElem? (i := 358) (by decide +kernel), by decide +kernel⟩⟩
abbrev mX3_hasSameLimitsAs : zM := (yX3_hasSameLimitsAs, cX3_hasSameLimitsAs, 2, (some (.boolean)), none)
theorem tcode_X3_hasSameLimitsAs : Cond.code yX3_hasSameLimitsAs cX3_hasSameLimitsAs 2 (some (.boolean)) ∈ zTB := List.mem_filter.mpr ⟨List.mem_of_getElem? (i := 532) (by decide +kernel), by decide +kernel⟩
theorem tm_X3_hasSameLimitsAs : zMT mX3_hasSameLimitsAs 1 := ⟨tcode_X3_hasSameLimitsAs, tini_RX3, ⟨by decide +kernel, by decide +kernel⟩, by decide +kernel, by decide, by decide +kernel, rfl⟩
theorem tmv_X3_hasSameLimitsAs : zMV mX3_hasSameLimitsAs 1 := ⟨tm_X3_hasSameLimitsAs, List.mem_filter.mpr ⟨List.mem_of_getElem? (i := 530) (by decide +kernel), by decide +kernel⟩, List.mem_filter.mpr ⟨List.mem_of_getElem? (i := 531) (by decide +kernel), by decide +kernel⟩⟩
abbrev mX3_hasSameNamesAs : zM := (yX3_hasSameNamesAs, cX3_hasSameNamesAs, 3, (some (.boolean)), none)
theorem tcode_X3_hasSameNamesAs : Cond.code yX3_hasSameNamesAs cX3_hasSameNamesAs 3 (some (.boolean)) ∈ zTB := List.mem_filter.mpr ⟨List.mem_of_getElem? (i := 528) (by decide +kernel), by decide +kernel⟩
theorem tm_X3_hasSameNamesAs : zMT mX3_hasSameNamesAs 1 := ⟨tcode_X3_hasSameNamesAs, tini_RX3, ⟨by decide +kernel, by decide +kernel⟩, by decide +kernel, by decide, by decide +kernel, rfl⟩
theorem tmv_X3_hasSameNamesAs : zMV mX3_hasSameNamesAs 1 := ⟨tm_X3_hasSameNamesAs, List.mem_filter.mpr ⟨List.mem_of_getElem? (i := 526) (by decide +kernel), by decide +kernel⟩, List.mem_filter.mpr ⟨List.mem_of_getElem? (i := 527) (by decide +kernel), by decide +kernel⟩⟩
abbrev mX3_hasSameStepsAs : zM := (yX3_hasSameStepsAs, cX3_hasSameStepsAs, 3, (some (.boolean)), none)
theorem tcode_X3_hasSameStepsAs : Cond.code yX3_hasSameStepsAs cX3_hasSameStepsAs 3 (some (.boolean)) ∈ zTB := List.mem_filter.mpr ⟨List.mem_of_getElem? (i := 524) (by decide +kernel), by decide +kernel⟩
theorem tm_X3_hasSameStepsAs : zMT mX3_hasSameStepsAs 1 := ⟨tcode_X3_hasSameStepsAs, tini_RX3, ⟨by decide +kernel, by decide +kernel⟩, by decide +kernel, by decide, by decide +kernel, rfl⟩
theorem tmv_X3_hasSameStepsAs : zMV mX3_hasSameStepsAs 1 := ⟨tm_X3_hasSameStepsAs, List.mem_filter.mpr ⟨List.mem_of_getElem? (i := 522) (by decide +kernel), by decide +kernel⟩, List.mem_filter.mpr ⟨List.mem_of_getElem? (i := 523) (by decide +kernel), by decide +kernel⟩⟩
abbrev mX3_init : zM := (yX3_init, cX3_init, 1, none, none)
theorem tcode_X3_init : Cond.code yX3_init cX3_init 1 none ∈ zTB := List.mem_filter.mpr ⟨List.mem_of_getElem? (i := 162) (by decide +kernel), by decide +kernel⟩
theorem tm_X3_init : zMT mX3_init 0 := ⟨tcode_X3_init, tini_RX3, ⟨by decide +kernel, by decide +kernel⟩, by decide +kernel, by decide, by decide +kernel, rfl⟩
theorem tmi_X3_init : zMI mX3_init 0 := ⟨tm_X3_init, List.mem_filter.mpr ⟨List.mem_of_getElem? (i := 161) (by decide +kernel), by decide +kernel⟩, rfl, rfl⟩
abbrev mX3_lastWeight : zM := (yX3_lastWeight, cX3_lastWeight, 1, (some (.int)), none)
theorem tcode_X3_lastWeight : Cond.code yX3_lastWeight cX3_lastWeight 1 (some (.int)) ∈ zTB := List.mem_filter.mpr ⟨List.mem_of_getElem? (i := 350) (by decide +kernel), by decide +kernel⟩
theorem tm_X3_lastWeight : zMT mX3_lastWeight 0 := ⟨tcode_X3_lastWeight, tini_RX3, ⟨by decide +kernel, by decide +kernel⟩, by decide +kernel, by decide, by decide +kernel, rfl⟩
theorem tmv_X3_lastWeight : zMV mX3_lastWeight 0 := ⟨tm_X3_lastWeight, List.mem_filter.mpr ⟨List.mem_of_getElem? (i := 348) (by decide +kernel), by decide +kernel⟩, List.mem_filter.mpr ⟨List.mem_of_getElem? (i := 349) (by decide +kernel), by decide +kernel⟩⟩
abbrev mX3_stepFor : zM := (yX3_stepFor, cX3_stepFor, 4, (some (.int)), none)
theorem tcode_X3_stepFor : Cond.code yX3_stepFor cX3_stepFor 4 (some (.int)) ∈ zTB := List.mem_filter.mpr ⟨List.mem_of_getElem? (i := 487) (by decide +kernel), by decide +kernel⟩
theorem tm_X3_stepFor : zMT mX3_stepFor 1 := ⟨tcode_X3_stepFor, tini_RX3, ⟨by decide +kernel, by decide +kernel⟩, by decide +kernel, by decide, by decide +kernel, rfl⟩
theorem tmv_X3_stepFor : zMV mX3_stepFor 1 := ⟨tm_X3_stepFor, List.mem_filter.mpr ⟨List.mem_of_getElem? (i := 485) (by decide +kernel), by decide +kernel⟩, List.mem_filter.mpr ⟨List.mem_of_getElem? (i := 486) (by decide +kernel), by decide +kernel⟩⟩
abbrev mX3_takes : zM := (yX3_takes, cX3_takes, 7, (some (.boolean)), none)
theorem tcode_X3_takes : Cond.code yX3_takes cX3_takes 7 (some (.boolean)) ∈ zTB := List.mem_filter.mpr ⟨List.mem_of_getElem? (i := 465) (by decide +kernel), by decide +kernel⟩
theorem tm_X3_takes : zMT mX3_takes 3 := ⟨tcode_X3_takes, tini_RX3, ⟨by decide +kernel, by decide +kernel⟩, by decide +kernel, by decide, by decide +kernel, rfl⟩
theorem tmv_X3_takes : zMV mX3_takes 3 := ⟨tm_X3_takes, List.mem_filter.mpr ⟨List.mem_of_getElem? (i := 463) (by decide +kernel), by decide +kernel⟩, List.mem_filter.mpr ⟨List.mem_of_getElem? (i := 464) (by decide +kernel), by decide +kernel⟩⟩
abbrev mX3_takesServices : zM := (yX3_takesServices, cX3_takesServices, 3, (some (.boolean)), none)
theorem tcode_X3_takesServices : Cond.code yX3_takesServices cX3_takesServices 3 (some (.boolean)) ∈ zTB := List.mem_filter.mpr ⟨List.mem_of_getElem? (i := 469) (by decide +kernel), by decide +kernel⟩
theorem tm_X3_takesServices : zMT mX3_takesServices 1 := ⟨tcode_X3_takesServices, tini_RX3, ⟨by decide +kernel, by decide +kernel⟩, by decide +kernel, by decide, by decide +kernel, rfl⟩
theorem tmv_X3_takesServices : zMV mX3_takesServices 1 := ⟨tm_X3_takesServices, List.mem_filter.mpr ⟨List.mem_of_getElem? (i := 467) (by decide +kernel), by decide +kernel⟩, List.mem_filter.mpr ⟨List.mem_of_getElem? (i := 468) (by decide +kernel), by decide +kernel⟩⟩
abbrev mX3_weightOf : zM := (yX3_weightOf, cX3_weightOf, 2, (some (.long)), none)
theorem tcode_X3_weightOf : Cond.code yX3_weightOf cX3_weightOf 2 (some (.long)) ∈ zTB := List.mem_filter.mpr ⟨List.mem_of_getElem? (i := 477) (by decide +kernel), by decide +kernel⟩
theorem tm_X3_weightOf : zMT mX3_weightOf 1 := ⟨tcode_X3_weightOf, tini_RX3, ⟨by decide +kernel, by decide +kernel⟩, by decide +kernel, by decide, by decide +kernel, rfl⟩
theorem tmv_X3_weightOf : zMV mX3_weightOf 1 := ⟨tm_X3_weightOf, List.mem_filter.mpr ⟨List.mem_of_getElem? (i := 475) (by decide +kernel), by decide +kernel⟩, List.mem_filter.mpr ⟨List.mem_of_getElem? (i := 476) (by decide +kernel), by decide +kernel⟩⟩
abbrev mX4_addExclusions : zM := (yX4_addExclusions, cX4_addExclusions, 4, none, none)
theorem tcode_X4_addExclusions : Cond.code yX4_addExclusions cX4_addExclusions 4 none ∈ zTB := List.mem_filter.mpr ⟨List.mem_of_getElem? (i := 566) (by decide +kernel), by decide +kernel⟩
theorem tm_X4_addExclusions : zMT mX4_addExclusions 1 := ⟨tcode_X4_addExclusions, tini_RX4, ⟨by decide +kernel, by decide +kernel⟩, by decide +kernel, by decide, by decide +kernel, rfl⟩
theorem tmv_X4_addExclusions : zMV mX4_addExclusions 1 := ⟨tm_X4_addExclusions, List.mem_filter.mpr ⟨List.mem_of_getElem? (i := 565) (by decide +kernel), by decide +kernel⟩, List.mem_filter.mpr ⟨List.mem_of_getElem? (i := 20) (by decide +kernel), by decide +kernel⟩⟩
abbrev mX4_addKind : zM := (yX4_addKind, cX4_addKind, 4, none, none)
theorem tcode_X4_addKind : Cond.code yX4_addKind cX4_addKind 4 none ∈ zTB := List.mem_filter.mpr ⟨List.mem_of_getElem? (i := 544) (by decide +kernel), by decide +kernel⟩
theorem tm_X4_addKind : zMT mX4_addKind 2 := ⟨tcode_X4_addKind, tini_RX4, ⟨by decide +kernel, by decide +kernel⟩, by decide +kernel, by decide, by decide +kernel, rfl⟩
theorem tmv_X4_addKind : zMV mX4_addKind 2 := ⟨tm_X4_addKind, List.mem_filter.mpr ⟨List.mem_of_getElem? (i := 542) (by decide +kernel), by decide +kernel⟩, List.mem_filter.mpr ⟨List.mem_of_getElem? (i := 543) (by decide +kernel), by decide +kernel⟩⟩
abbrev mX4_addLimits : zM := (yX4_addLimits, cX4_addLimits, 2, none, none)
theorem tcode_X4_addLimits : Cond.code yX4_addLimits cX4_addLimits 2 none ∈ zTB := List.mem_filter.mpr ⟨List.mem_of_getElem? (i := 571) (by decide +kernel), by decide +kernel⟩
theorem tm_X4_addLimits : zMT mX4_addLimits 1 := ⟨tcode_X4_addLimits, tini_RX4, ⟨by decide +kernel, by decide +kernel⟩, by decide +kernel, by decide, by decide +kernel, rfl⟩
theorem tmv_X4_addLimits : zMV mX4_addLimits 1 := ⟨tm_X4_addLimits, List.mem_filter.mpr ⟨List.mem_of_getElem? (i := 570) (by decide +kernel), by decide +kernel⟩, List.mem_filter.mpr ⟨List.mem_of_getElem? (i := 21) (by decide +kernel), by decide +kernel⟩⟩
abbrev mX4_addNamed : zM := (yX4_addNamed, cX4_addNamed, 5, none, none)
theorem tcode_X4_addNamed : Cond.code yX4_addNamed cX4_addNamed 5 none ∈ zTB := List.mem_filter.mpr ⟨List.mem_of_getElem? (i := 562) (by decide +kernel), by decide +kernel⟩
theorem tm_X4_addNamed : zMT mX4_addNamed 2 := ⟨tcode_X4_addNamed, tini_RX4, ⟨by decide +kernel, by decide +kernel⟩, by decide +kernel, by decide, by decide +kernel, rfl⟩
theorem tmv_X4_addNamed : zMV mX4_addNamed 2 := ⟨tm_X4_addNamed, List.mem_filter.mpr ⟨List.mem_of_getElem? (i := 561) (by decide +kernel), by decide +kernel⟩, List.mem_filter.mpr ⟨List.mem_of_getElem? (i := 19) (by decide +kernel), by decide +kernel⟩⟩
abbrev mX4_addNumber : zM := (yX4_addNumber, cX4_addNumber, 4, none, none)
theorem tcode_X4_addNumber : Cond.code yX4_addNumber cX4_addNumber 4 none ∈ zTB := List.mem_filter.mpr ⟨List.mem_of_getElem? (i := 557) (by decide +kernel), by decide +kernel⟩
theorem tm_X4_addNumber : zMT mX4_addNumber 1 := ⟨tcode_X4_addNumber, tini_RX4, ⟨by decide +kernel, by decide +kernel⟩, by decide +kernel, by decide, by decide +kernel, rfl⟩
theorem tmv_X4_addNumber : zMV mX4_addNumber 1 := ⟨tm_X4_addNumber, List.mem_filter.mpr ⟨List.mem_of_getElem? (i := 556) (by decide +kernel), by decide +kernel⟩, List.mem_filter.mpr ⟨List.mem_of_getElem? (i := 18) (by decide +kernel), by decide +kernel⟩⟩
abbrev mX4_addRow : zM := (yX4_addRow, cX4_addRow, 5, none, none)
theorem tcode_X4_addRow : Cond.code yX4_addRow cX4_addRow 5 none ∈ zTB := List.mem_filter.mpr ⟨List.mem_of_getElem? (i := 548) (by decide +kernel), by decide +kernel⟩
theorem tm_X4_addRow : zMT mX4_addRow 4 := ⟨tcode_X4_addRow, tini_RX4, ⟨by decide +kernel, by decide +kernel⟩, by decide +kernel, by decide, by decide +kernel, rfl⟩
theorem tmv_X4_addRow : zMV mX4_addRow 4 := ⟨tm_X4_addRow, List.mem_filter.mpr ⟨List.mem_of_getElem? (i := 547) (by decide +kernel), by decide +kernel⟩, List.mem_filter.mpr ⟨List.mem_of_getElem? (i := 16) (by decide +kernel), by decide +kernel⟩⟩
abbrev mX4_addSign : zM := (yX4_addSign, cX4_addSign, 2, none, none)
theorem tcode_X4_addSign : Cond.code yX4_addSign cX4_addSign 2 none ∈ zTB := List.mem_filter.mpr ⟨List.mem_of_getElem? (i := 552) (by decide +kernel), by decide +kernel⟩
theorem tm_X4_addSign : zMT mX4_addSign 1 := ⟨tcode_X4_addSign, tini_RX4, ⟨by decide +kernel, by decide +kernel⟩, by decide +kernel, by decide, by decide +kernel, rfl⟩
theorem tmv_X4_addSign : zMV mX4_addSign 1 := ⟨tm_X4_addSign, List.mem_filter.mpr ⟨List.mem_of_getElem? (i := 551) (by decide +kernel), by decide +kernel⟩, List.mem_filter.mpr ⟨List.mem_of_getElem? (i := 17) (by decide +kernel), by decide +kernel⟩⟩
abbrev mX4_init : zM := (yX4_init, cX4_init, 1, none, none)
theorem tcode_X4_init : Cond.code yX4_init cX4_init 1 none ∈ zTB := List.mem_filter.mpr ⟨List.mem_of_getElem? (i := 113) (by decide +kernel), by decide +kernel⟩
theorem tm_X4_init : zMT mX4_init 0 := ⟨tcode_X4_init, tini_RX4, ⟨by decide +kernel, by decide +kernel⟩, by decide +kernel, by decide, by decide +kernel, rfl⟩
theorem tmi_X4_init : zMI mX4_init 0 := ⟨tm_X4_init, List.mem_filter.mpr ⟨List.mem_of_getElem? (i := 112) (by decide +kernel), by decide +kernel⟩, rfl, rfl⟩
abbrev mX4_start : zM := (yX4_start, cX4_start, 1, none, none)
theorem tcode_X4_start : Cond.code yX4_start cX4_start 1 none ∈ zTB := List.mem_filter.mpr ⟨List.mem_of_getElem? (i := 540) (by decide +kernel), by decide +kernel⟩
theorem tm_X4_start : zMT mX4_start 0 := ⟨tcode_X4_start, tini_RX4, ⟨by decide +kernel, by decide +kernel⟩, by decide +kernel, by decide, by decide +kernel, rfl⟩
theorem tmv_X4_start : zMV mX4_start 0 := ⟨tm_X4_start, List.mem_filter.mpr ⟨List.mem_of_getElem? (i := 538) (by decide +kernel), by decide +kernel⟩, List.mem_filter.mpr ⟨List.mem_of_getElem? (i := 539) (by decide +kernel), by decide +kernel⟩⟩
abbrev mX5_append : zM := (yX5_append, cX5_append, 2, none, none)
theorem tcode_X5_append : Cond.code yX5_append cX5_append 2 none ∈ zTB := List.mem_filter.mpr ⟨List.mem_of_getElem? (i := 278) (by decide +kernel), by decide +kernel⟩
theorem tm_X5_append : zMT mX5_append 1 := ⟨tcode_X5_append, tini_RX5, ⟨by decide +kernel, by decide +kernel⟩, by decide +kernel, by decide, by decide +kernel, rfl⟩
theorem tmv_X5_append : zMV mX5_append 1 := ⟨tm_X5_append, List.mem_filter.mpr ⟨List.mem_of_getElem? (i := 276) (by decide +kernel), by decide +kernel⟩, List.mem_filter.mpr ⟨List.mem_of_getElem? (i := 277) (by decide +kernel), by decide +kernel⟩⟩
abbrev mX5_begin : zM := (yX5_begin, cX5_begin, 2, none, none)
theorem tcode_X5_begin : Cond.code yX5_begin cX5_begin 2 none ∈ zTB := List.mem_filter.mpr ⟨List.mem_of_getElem? (i := 367) (by decide +kernel), by decide +kernel⟩
theorem tm_X5_begin : zMT mX5_begin 1 := ⟨tcode_X5_begin, tini_RX5, ⟨by decide +kernel, by decide +kernel⟩, by decide +kernel, by decide, by decide +kernel, rfl⟩
theorem tmv_X5_begin : zMV mX5_begin 1 := ⟨tm_X5_begin, List.mem_filter.mpr ⟨List.mem_of_getElem? (i := 366) (by decide +kernel), by decide +kernel⟩, List.mem_filter.mpr ⟨List.mem_of_getElem? (i := 9) (by decide +kernel), by decide +kernel⟩⟩
abbrev mX5_empty : zM := (yX5_empty, cX5_empty, 1, none, none)
theorem tcode_X5_empty : Cond.code yX5_empty cX5_empty 1 none ∈ zTB := List.mem_filter.mpr ⟨List.mem_of_getElem? (i := 385) (by decide +kernel), by decide +kernel⟩
theorem tm_X5_empty : zMT mX5_empty 0 := ⟨tcode_X5_empty, tini_RX5, ⟨by decide +kernel, by decide +kernel⟩, by decide +kernel, by decide, by decide +kernel, rfl⟩
theorem tmv_X5_empty : zMV mX5_empty 0 := ⟨tm_X5_empty, List.mem_filter.mpr ⟨List.mem_of_getElem? (i := 383) (by decide +kernel), by decide +kernel⟩, List.mem_filter.mpr ⟨List.mem_of_getElem? (i := 384) (by decide +kernel), by decide +kernel⟩⟩
abbrev mX5_expect : zM := (yX5_expect, cX5_expect, 2, none, none)
theorem tcode_X5_expect : Cond.code yX5_expect cX5_expect 2 none ∈ zTB := List.mem_filter.mpr ⟨List.mem_of_getElem? (i := 327) (by decide +kernel), by decide +kernel⟩
theorem tm_X5_expect : zMT mX5_expect 1 := ⟨tcode_X5_expect, tini_RX5, ⟨by decide +kernel, by decide +kernel⟩, by decide +kernel, by decide, by decide +kernel, rfl⟩
theorem tmv_X5_expect : zMV mX5_expect 1 := ⟨tm_X5_expect, List.mem_filter.mpr ⟨List.mem_of_getElem? (i := 326) (by decide +kernel), by decide +kernel⟩, List.mem_filter.mpr ⟨List.mem_of_getElem? (i := 4) (by decide +kernel), by decide +kernel⟩⟩
abbrev mX5_init : zM := (yX5_init, cX5_init, 1, none, none)
theorem tcode_X5_init : Cond.code yX5_init cX5_init 1 none ∈ zTB := List.mem_filter.mpr ⟨List.mem_of_getElem? (i := 84) (by decide +kernel), by decide +kernel⟩
theorem tm_X5_init : zMT mX5_init 0 := ⟨tcode_X5_init, tini_RX5, ⟨by decide +kernel, by decide +kernel⟩, by decide +kernel, by decide, by decide +kernel, rfl⟩
theorem tmi_X5_init : zMI mX5_init 0 := ⟨tm_X5_init, List.mem_filter.mpr ⟨List.mem_of_getElem? (i := 83) (by decide +kernel), by decide +kernel⟩, rfl, rfl⟩
abbrev mX5_isAsSaid : zM := (yX5_isAsSaid, cX5_isAsSaid, 4, (some (.boolean)), none)
theorem tcode_X5_isAsSaid : Cond.code yX5_isAsSaid cX5_isAsSaid 4 (some (.boolean)) ∈ zTB := List.mem_filter.mpr ⟨List.mem_of_getElem? (i := 336) (by decide +kernel), by decide +kernel⟩
theorem tm_X5_isAsSaid : zMT mX5_isAsSaid 3 := ⟨tcode_X5_isAsSaid, tini_RX5, ⟨by decide +kernel, by decide +kernel⟩, by decide +kernel, by decide, by decide +kernel, rfl⟩
theorem tmv_X5_isAsSaid : zMV mX5_isAsSaid 3 := ⟨tm_X5_isAsSaid, List.mem_filter.mpr ⟨List.mem_of_getElem? (i := 335) (by decide +kernel), by decide +kernel⟩, List.mem_filter.mpr ⟨List.mem_of_getElem? (i := 6) (by decide +kernel), by decide +kernel⟩⟩
abbrev mX5_isExcludable : zM := (yX5_isExcludable, cX5_isExcludable, 4, (some (.boolean)), none)
theorem tcode_X5_isExcludable : Cond.code yX5_isExcludable cX5_isExcludable 4 (some (.boolean)) ∈ zTB := List.mem_filter.mpr ⟨List.mem_of_getElem? (i := 355) (by decide +kernel), by decide +kernel⟩
theorem tm_X5_isExcludable : zMT mX5_isExcludable 2 := ⟨tcode_X5_isExcludable, tini_RX5, ⟨by decide +kernel, by decide +kernel⟩, by decide +kernel, by decide, by decide +kernel, rfl⟩
theorem tmv_X5_isExcludable : zMV mX5_isExcludable 2 := ⟨tm_X5_isExcludable, List.mem_filter.mpr ⟨List.mem_of_getElem? (i := 354) (by decide +kernel), by decide +kernel⟩, List.mem_filter.mpr ⟨List.mem_of_getElem? (i := 7) (by decide +kernel), by decide +kernel⟩⟩
abbrev mX5_mayBegin : zM := (yX5_mayBegin, cX5_mayBegin, 2, (some (.boolean)), none)
theorem tcode_X5_mayBegin : Cond.code yX5_mayBegin cX5_mayBegin 2 (some (.boolean)) ∈ zTB := List.mem_filter.mpr ⟨List.mem_of_getElem? (i := 320) (by decide +kernel), by decide +kernel⟩
theorem tm_X5_mayBegin : zMT mX5_mayBegin 1 := ⟨tcode_X5_mayBegin, tini_RX5, ⟨by decide +kernel, by decide +kernel⟩, by decide +kernel, by decide, by decide +kernel, rfl⟩
theorem tmv_X5_mayBegin : zMV mX5_mayBegin 1 := ⟨tm_X5_mayBegin, List.mem_filter.mpr ⟨List.mem_of_getElem? (i := 319) (by decide +kernel), by decide +kernel⟩, List.mem_filter.mpr ⟨List.mem_of_getElem? (i := 3) (by decide +kernel), by decide +kernel⟩⟩
abbrev mX5_numbersOf : zM := (yX5_numbersOf, cX5_numbersOf, 1, (some (.int)), none)
theorem tcode_X5_numbersOf : Cond.code yX5_numbersOf cX5_numbersOf 1 (some (.int)) ∈ zTB := List.mem_filter.mpr ⟨List.mem_of_getElem? (i := 323) (by decide +kernel), by decide +kernel⟩
theorem tm_X5_numbersOf : zMT mX5_numbersOf 1 := ⟨tcode_X5_numbersOf, tini_RX5, ⟨by decide +kernel, by decide +kernel⟩, by decide +kernel, by decide, by decide +kernel, rfl⟩
theorem tms_X5_numbersOf : zMS mX5_numbersOf 1 := ⟨tm_X5_numbersOf, List.mem_filter.mpr ⟨List.mem_of_getElem? (i := 322) (by decide +kernel), by decide +kernel⟩⟩
abbrev mX5_readInto : zM := (yX5_readInto, cX5_readInto, 4, (some (.int)), none)
theorem tcode_X5_readInto : Cond.code yX5_readInto cX5_readInto 4 (some (.int)) ∈ zTB := List.mem_filter.mpr ⟨List.mem_of_getElem? (i := 294) (by decide +kernel), by decide +kernel⟩
theorem tm_X5_readInto : zMT mX5_readInto 1 := ⟨tcode_X5_readInto, tini_RX5, ⟨by decide +kernel, by decide +kernel⟩, by decide +kernel, by decide, by decide +kernel, rfl⟩
theorem tmv_X5_readInto : zMV mX5_readInto 1 := ⟨tm_X5_readInto, List.mem_filter.mpr ⟨List.mem_of_getElem? (i := 292) (by decide +kernel), by decide +kernel⟩, List.mem_filter.mpr ⟨List.mem_of_getElem? (i := 293) (by decide +kernel), by decide +kernel⟩⟩
abbrev mX5_readNumber : zM := (yX5_readNumber, cX5_readNumber, 5, none, none)
theorem tcode_X5_readNumber : Cond.code yX5_readNumber cX5_readNumber 5 none ∈ zTB := List.mem_filter.mpr ⟨List.mem_of_getElem? (i := 331) (by decide +kernel), by decide +kernel⟩
theorem tm_X5_readNumber : zMT mX5_readNumber 2 := ⟨tcode_X5_readNumber, tini_RX5, ⟨by decide +kernel, by decide +kernel⟩, by decide +kernel, by decide, by decide +kernel, rfl⟩
theorem tmv_X5_readNumber : zMV mX5_readNumber 2 := ⟨tm_X5_readNumber, List.mem_filter.mpr ⟨List.mem_of_getElem? (i := 330) (by decide +kernel), by decide +kernel⟩, List.mem_filter.mpr ⟨List.mem_of_getElem? (i := 5) (by decide +kernel), by decide +kernel⟩⟩
abbrev mX5_readRow : zM := (yX5_readRow, cX5_readRow, 4, none, none)
theorem tcode_X5_readRow : Cond.code yX5_readRow cX5_readRow 4 none ∈ zTB := List.mem_filter.mpr ⟨List.mem_of_getElem? (i := 309) (by decide +kernel), by decide +kernel⟩
theorem tm_X5_readRow : zMT mX5_readRow 0 := ⟨tcode_X5_readRow, tini_RX5, ⟨by decide +kernel, by decide +kernel⟩, by decide +kernel, by decide, by decide +kernel, rfl⟩
theorem tmv_X5_readRow : zMV mX5_readRow 0 := ⟨tm_X5_readRow, List.mem_filter.mpr ⟨List.mem_of_getElem? (i := 308) (by decide +kernel), by decide +kernel⟩, List.mem_filter.mpr ⟨List.mem_of_getElem? (i := 1) (by decide +kernel), by decide +kernel⟩⟩
abbrev mX5_signHere : zM := (yX5_signHere, cX5_signHere, 1, (some (.int)), none)
theorem tcode_X5_signHere : Cond.code yX5_signHere cX5_signHere 1 (some (.int)) ∈ zTB := List.mem_filter.mpr ⟨List.mem_of_getElem? (i := 313) (by decide +kernel), by decide +kernel⟩
theorem tm_X5_signHere : zMT mX5_signHere 0 := ⟨tcode_X5_signHere, tini_RX5, ⟨by decide +kernel, by decide +kernel⟩, by decide +kernel, by decide, by decide +kernel, rfl⟩
theorem tmv_X5_signHere : zMV mX5_signHere 0 := ⟨tm_X5_signHere, List.mem_filter.mpr ⟨List.mem_of_getElem? (i := 312) (by decide +kernel), by decide +kernel⟩, List.mem_filter.mpr ⟨List.mem_of_getElem? (i := 2) (by decide +kernel), by decide +kernel⟩⟩
abbrev mX5_take : zM := (yX5_take, cX5_take, 4, none, none)
theorem tcode_X5_take : Cond.code yX5_take cX5_take 4 none ∈ zTB := List.mem_filter.mpr ⟨List.mem_of_getElem? (i := 363) (by decide +kernel), by decide +kernel⟩
theorem tm_X5_take : zMT mX5_take 1 := ⟨tcode_X5_take, tini_RX5, ⟨by decide +kernel, by decide +kernel⟩, by decide +kernel, by decide, by decide +kernel, rfl⟩
theorem tmv_X5_take : zMV mX5_take 1 := ⟨tm_X5_take, List.mem_filter.mpr ⟨List.mem_of_getElem? (i := 362) (by decide +kernel), by decide +kernel⟩, List.mem_filter.mpr ⟨List.mem_of_getElem? (i := 8) (by decide +kernel), by decide +kernel⟩⟩
abbrev mX5_takeOf : zM := (yX5_takeOf, cX5_takeOf, 5, none, none)
theorem tcode_X5_takeOf : Cond.code yX5_takeOf cX5_takeOf 5 none ∈ zTB := List.mem_filter.mpr ⟨List.mem_of_getElem? (i := 372) (by decide +kernel), by decide +kernel⟩
theorem tm_X5_takeOf : zMT mX5_takeOf 4 := ⟨tcode_X5_takeOf, tini_RX5, ⟨by decide +kernel, by decide +kernel⟩, by decide +kernel, by decide, by decide +kernel, rfl⟩
theorem tmv_X5_takeOf : zMV mX5_takeOf 4 := ⟨tm_X5_takeOf, List.mem_filter.mpr ⟨List.mem_of_getElem? (i := 371) (by decide +kernel), by decide +kernel⟩, List.mem_filter.mpr ⟨List.mem_of_getElem? (i := 10) (by decide +kernel), by decide +kernel⟩⟩
abbrev mX6_arePrintedAlike : zM := (yX6_arePrintedAlike, cX6_arePrintedAlike, 2, (some (.boolean)), none)
theorem tcode_X6_arePrintedAlike : Cond.code yX6_arePrintedAlike cX6_arePrintedAlike 2 (some (.boolean)) ∈ zTB := List.mem_filter.mpr ⟨List.mem_of_getElem? (i := 520) (by decide +kernel), by decide +kernel⟩
theorem tm_X6_arePrintedAlike : zMT mX6_arePrintedAlike 2 := ⟨tcode_X6_arePrintedAlike, tini_RX6, ⟨by decide +kernel, by decide +kernel⟩, by decide +kernel, by decide, by decide +kernel, rfl⟩
theorem tms_X6_arePrintedAlike : zMS mX6_arePrintedAlike 2 := ⟨tm_X6_arePrintedAlike, List.mem_filter.mpr ⟨List.mem_of_getElem? (i := 519) (by decide +kernel), by decide +kernel⟩⟩
abbrev mX6_at : zM := (yX6_at, cX6_at, 2, (some (.int)), none)
theorem tcode_X6_at : Cond.code yX6_at cX6_at 2 (some (.int)) ∈ zTB := List.mem_filter.mpr ⟨List.mem_of_getElem? (i := 575) (by decide +kernel), by decide +kernel⟩
theorem tm_X6_at : zMT mX6_at 1 := ⟨tcode_X6_at, tini_RX6, ⟨by decide +kernel, by decide +kernel⟩, by decide +kernel, by decide, by decide +kernel, rfl⟩
theorem tmv_X6_at : zMV mX6_at 1 := ⟨tm_X6_at, List.mem_filter.mpr ⟨List.mem_of_getElem? (i := 573) (by decide +kernel), by decide +kernel⟩, List.mem_filter.mpr ⟨List.mem_of_getElem? (i := 574) (by decide +kernel), by decide +kernel⟩⟩
abbrev mX6_cell : zM := (yX6_cell, cX6_cell, 2, (some (.int)), none)
theorem tcode_X6_cell : Cond.code yX6_cell cX6_cell 2 (some (.int)) ∈ zTB := List.mem_filter.mpr ⟨List.mem_of_getElem? (i := 316) (by decide +kernel), by decide +kernel⟩
theorem tm_X6_cell : zMT mX6_cell 2 := ⟨tcode_X6_cell, tini_RX6, ⟨by decide +kernel, by decide +kernel⟩, by decide +kernel, by decide, by decide +kernel, rfl⟩
theorem tms_X6_cell : zMS mX6_cell 2 := ⟨tm_X6_cell, List.mem_filter.mpr ⟨List.mem_of_getElem? (i := 315) (by decide +kernel), by decide +kernel⟩⟩
abbrev mX6_compare : zM := (yX6_compare, cX6_compare, 6, (some (.int)), none)
theorem tcode_X6_compare : Cond.code yX6_compare cX6_compare 6 (some (.int)) ∈ zTB := List.mem_filter.mpr ⟨List.mem_of_getElem? (i := 517) (by decide +kernel), by decide +kernel⟩
theorem tm_X6_compare : zMT mX6_compare 1 := ⟨tcode_X6_compare, tini_RX6, ⟨by decide +kernel, by decide +kernel⟩, by decide +kernel, by decide, by decide +kernel, rfl⟩
theorem tmv_X6_compare : zMV mX6_compare 1 := ⟨tm_X6_compare, List.mem_filter.mpr ⟨List.mem_of_getElem? (i := 515) (by decide +kernel), by decide +kernel⟩, List.mem_filter.mpr ⟨List.mem_of_getElem? (i := 516) (by decide +kernel), by decide +kernel⟩⟩
abbrev mX6_dimensional : zM := (yX6_dimensional, cX6_dimensional, 5, (some (.long)), none)
theorem tcode_X6_dimensional : Cond.code yX6_dimensional cX6_dimensional 5 (some (.long)) ∈ zTB := List.mem_filter.mpr ⟨List.mem_of_getElem? (i := 652) (by decide +kernel), by decide +kernel⟩
theorem tm_X6_dimensional : zMT mX6_dimensional 2 := ⟨tcode_X6_dimensional, tini_RX6, ⟨by decide +kernel, by decide +kernel⟩, by decide +kernel, by decide, by decide +kernel, rfl⟩
theorem tmv_X6_dimensional : zMV mX6_dimensional 2 := ⟨tm_X6_dimensional, List.mem_filter.mpr ⟨List.mem_of_getElem? (i := 650) (by decide +kernel), by decide +kernel⟩, List.mem_filter.mpr ⟨List.mem_of_getElem? (i := 651) (by decide +kernel), by decide +kernel⟩⟩
abbrev mX6_dividedUp : zM := (yX6_dividedUp, cX6_dividedUp, 4, (some (.long)), none)
theorem tcode_X6_dividedUp : Cond.code yX6_dividedUp cX6_dividedUp 4 (some (.long)) ∈ zTB := List.mem_filter.mpr ⟨List.mem_of_getElem? (i := 480) (by decide +kernel), by decide +kernel⟩
theorem tm_X6_dividedUp : zMT mX6_dividedUp 2 := ⟨tcode_X6_dividedUp, tini_RX6, ⟨by decide +kernel, by decide +kernel⟩, by decide +kernel, by decide, by decide +kernel, rfl⟩
theorem tms_X6_dividedUp : zMS mX6_dividedUp 2 := ⟨tm_X6_dividedUp, List.mem_filter.mpr ⟨List.mem_of_getElem? (i := 479) (by decide +kernel), by decide +kernel⟩⟩
abbrev mX6_explain : zM := (yX6_explain, cX6_explain, 3, (some (.int)), none)
theorem tcode_X6_explain : Cond.code yX6_explain cX6_explain 3 (some (.int)) ∈ zTB := List.mem_filter.mpr ⟨List.mem_of_getElem? (i := 509) (by decide +kernel), by decide +kernel⟩
theorem tm_X6_explain : zMT mX6_explain 2 := ⟨tcode_X6_explain, tini_RX6, ⟨by decide +kernel, by decide +kernel⟩, by decide +kernel, by decide, by decide +kernel, rfl⟩
theorem tmv_X6_explain : zMV mX6_explain 2 := ⟨tm_X6_explain, List.mem_filter.mpr ⟨List.mem_of_getElem? (i := 507) (by decide +kernel), by decide +kernel⟩, List.mem_filter.mpr ⟨List.mem_of_getElem? (i := 508) (by decide +kernel), by decide +kernel⟩⟩
abbrev mX6_fill : zM := (yX6_fill, cX6_fill, 3, none, none)
theorem tcode_X6_fill : Cond.code yX6_fill cX6_fill 3 none ∈ zTB := List.mem_filter.mpr ⟨List.mem_of_getElem? (i := 305) (by decide +kernel), by decide +kernel⟩
theorem tm_X6_fill : zMT mX6_fill 2 := ⟨tcode_X6_fill, tini_RX6, ⟨by decide +kernel, by decide +kernel⟩, by decide +kernel, by decide, by decide +kernel, rfl⟩
theorem tms_X6_fill : zMS mX6_fill 2 := ⟨tm_X6_fill, List.mem_filter.mpr ⟨List.mem_of_getElem? (i := 304) (by decide +kernel), by decide +kernel⟩⟩
abbrev mX6_init : zM := (yX6_init, cX6_init, 2, none, none)
theorem tcode_X6_init : Cond.code yX6_init cX6_init 2 none ∈ zTB := List.mem_filter.mpr ⟨List.mem_of_getElem? (i := 76) (by decide +kernel), by decide +kernel⟩
theorem tm_X6_init : zMT mX6_init 0 := ⟨tcode_X6_init, tini_RX6, ⟨by decide +kernel, by decide +kernel⟩, by decide +kernel, by decide, by decide +kernel, rfl⟩
theorem tmi_X6_init : zMI mX6_init 0 := ⟨tm_X6_init, List.mem_filter.mpr ⟨List.mem_of_getElem? (i := 75) (by decide +kernel), by decide +kernel⟩, rfl, rfl⟩
abbrev mX6_isMeasure : zM := (yX6_isMeasure, cX6_isMeasure, 1, (some (.boolean)), none)
theorem tcode_X6_isMeasure : Cond.code yX6_isMeasure cX6_isMeasure 1 (some (.boolean)) ∈ zTB := List.mem_filter.mpr ⟨List.mem_of_getElem? (i := 393) (by decide +kernel), by decide +kernel⟩
theorem tm_X6_isMeasure : zMT mX6_isMeasure 1 := ⟨tcode_X6_isMeasure, tini_RX6, ⟨by decide +kernel, by decide +kernel⟩, by decide +kernel, by decide, by decide +kernel, rfl⟩
theorem tms_X6_isMeasure : zMS mX6_isMeasure 1 := ⟨tm_X6_isMeasure, List.mem_filter.mpr ⟨List.mem_of_getElem? (i := 392) (by decide +kernel), by decide +kernel⟩⟩
abbrev mX6_isName : zM := (yX6_isName, cX6_isName, 1, (some (.boolean)), none)
theorem tcode_X6_isName : Cond.code yX6_isName cX6_isName 1 (some (.boolean)) ∈ zTB := List.mem_filter.mpr ⟨List.mem_of_getElem? (i := 339) (by decide +kernel), by decide +kernel⟩
theorem tm_X6_isName : zMT mX6_isName 1 := ⟨tcode_X6_isName, tini_RX6, ⟨by decide +kernel, by decide +kernel⟩, by decide +kernel, by decide, by decide +kernel, rfl⟩
theorem tms_X6_isName : zMS mX6_isName 1 := ⟨tm_X6_isName, List.mem_filter.mpr ⟨List.mem_of_getElem? (i := 338) (by decide +kernel), by decide +kernel⟩⟩
abbrev mX6_isWithin : zM := (yX6_isWithin, cX6_isWithin, 3, (some (.boolean)), none)
theorem tcode_X6_isWithin : Cond.code yX6_isWithin cX6_isWithin 3 (some (.boolean)) ∈ zTB := List.mem_filter.mpr ⟨List.mem_of_getElem? (i := 274) (by decide +kernel), by decide +kernel⟩
theorem tm_X6_isWithin : zMT mX6_isWithin 3 := ⟨tcode_X6_isWithin, tini_RX6, ⟨by decide +kernel, by decide +kernel⟩, by decide +kernel, by decide, by decide +kernel, rfl⟩
theorem tms_X6_isWithin : zMS mX6_isWithin 3 := ⟨tm_X6_isWithin, List.mem_filter.mpr ⟨List.mem_of_getElem? (i := 273) (by decide +kernel), by decide +kernel⟩⟩
abbrev mX6_item : zM := (yX6_item, cX6_item, 6, (some (.int)), none)
theorem tcode_X6_item : Cond.code yX6_item cX6_item 6 (some (.int)) ∈ zTB := List.mem_filter.mpr ⟨List.mem_of_getElem? (i := 389) (by decide +kernel), by decide +kernel⟩
theorem tm_X6_item : zMT mX6_item 5 := ⟨tcode_X6_item, tini_RX6, ⟨by decide +kernel, by decide +kernel⟩, by decide +kernel, by decide, by decide +kernel, rfl⟩
theorem tmv_X6_item : zMV mX6_item 5 := ⟨tm_X6_item, List.mem_filter.mpr ⟨List.mem_of_getElem? (i := 387) (by decide +kernel), by decide +kernel⟩, List.mem_filter.mpr ⟨List.mem_of_getElem? (i := 388) (by decide +kernel), by decide +kernel⟩⟩
abbrev mX6_itemOf : zM := (yX6_itemOf, cX6_itemOf, 2, (some (.object "PostTariff$Item")), none)
theorem tcode_X6_itemOf : Cond.code yX6_itemOf cX6_itemOf 2 (some (.object "PostTariff$Item")) ∈ zTB := List.mem_filter.mpr ⟨List.mem_of_getElem? (i := 434) (by decide +kernel), by decide +kernel⟩
theorem tm_X6_itemOf : zMT mX6_itemOf 1 := ⟨tcode_X6_itemOf, tini_RX6, ⟨by decide +kernel, by decide +kernel⟩, by decide +kernel, by decide, by decide +kernel, rfl⟩
theorem tmv_X6_itemOf : zMV mX6_itemOf 1 := ⟨tm_X6_itemOf, List.mem_filter.mpr ⟨List.mem_of_getElem? (i := 433) (by decide +kernel), by decide +kernel⟩, List.mem_filter.mpr ⟨List.mem_of_getElem? (i := 11) (by decide +kernel), by decide +kernel⟩⟩
abbrev mX6_kindOf : zM := (yX6_kindOf, cX6_kindOf, 3, (some (.object "PostTariff$Kind")), none)
theorem tcode_X6_kindOf : Cond.code yX6_kindOf cX6_kindOf 3 (some (.object "PostTariff$Kind")) ∈ zTB := List.mem_filter.mpr ⟨List.mem_of_getElem? (i := 342) (by decide +kernel), by decide +kernel⟩
theorem tm_X6_kindOf : zMT mX6_kindOf 2 := ⟨tcode_X6_kindOf, tini_RX6, ⟨by decide +kernel, by decide +kernel⟩, by decide +kernel, by decide, by decide +kernel, rfl⟩
theorem tms_X6_kindOf : zMS mX6_kindOf 2 := ⟨tm_X6_kindOf, List.mem_filter.mpr ⟨List.mem_of_getElem? (i := 341) (by decide +kernel), by decide +kernel⟩⟩
abbrev mX6_latest : zM := (yX6_latest, cX6_latest, 1, (some (.object "PostTariff$Edition")), none)
theorem tcode_X6_latest : Cond.code yX6_latest cX6_latest 1 (some (.object "PostTariff$Edition")) ∈ zTB := List.mem_filter.mpr ⟨List.mem_of_getElem? (i := 455) (by decide +kernel), by decide +kernel⟩
theorem tm_X6_latest : zMT mX6_latest 0 := ⟨tcode_X6_latest, tini_RX6, ⟨by decide +kernel, by decide +kernel⟩, by decide +kernel, by decide, by decide +kernel, rfl⟩
theorem tmv_X6_latest : zMV mX6_latest 0 := ⟨tm_X6_latest, List.mem_filter.mpr ⟨List.mem_of_getElem? (i := 454) (by decide +kernel), by decide +kernel⟩, List.mem_filter.mpr ⟨List.mem_of_getElem? (i := 13) (by decide +kernel), by decide +kernel⟩⟩
abbrev mX6_least : zM := (yX6_least, cX6_least, 12, (some (.int)), none)
theorem tcode_X6_least : Cond.code yX6_least cX6_least 12 (some (.int)) ∈ zTB := List.mem_filter.mpr ⟨List.mem_of_getElem? (i := 504) (by decide +kernel), by decide +kernel⟩
theorem tm_X6_least : zMT mX6_least 3 := ⟨tcode_X6_least, tini_RX6, ⟨by decide +kernel, by decide +kernel⟩, by decide +kernel, by decide, by decide +kernel, rfl⟩
theorem tmv_X6_least : zMV mX6_least 3 := ⟨tm_X6_least, List.mem_filter.mpr ⟨List.mem_of_getElem? (i := 502) (by decide +kernel), by decide +kernel⟩, List.mem_filter.mpr ⟨List.mem_of_getElem? (i := 503) (by decide +kernel), by decide +kernel⟩⟩
abbrev mX6_price : zM := (yX6_price, cX6_price, 7, (some (.long)), none)
theorem tcode_X6_price : Cond.code yX6_price cX6_price 7 (some (.long)) ∈ zTB := List.mem_filter.mpr ⟨List.mem_of_getElem? (i := 445) (by decide +kernel), by decide +kernel⟩
theorem tm_X6_price : zMT mX6_price 3 := ⟨tcode_X6_price, tini_RX6, ⟨by decide +kernel, by decide +kernel⟩, by decide +kernel, by decide, by decide +kernel, rfl⟩
theorem tmv_X6_price : zMV mX6_price 3 := ⟨tm_X6_price, List.mem_filter.mpr ⟨List.mem_of_getElem? (i := 443) (by decide +kernel), by decide +kernel⟩, List.mem_filter.mpr ⟨List.mem_of_getElem? (i := 444) (by decide +kernel), by decide +kernel⟩⟩
abbrev mX6_pricingRefusal : zM := (yX6_pricingRefusal, cX6_pricingRefusal, 4, (some (.int)), none)
theorem tcode_X6_pricingRefusal : Cond.code yX6_pricingRefusal cX6_pricingRefusal 4 (some (.int)) ∈ zTB := List.mem_filter.mpr ⟨List.mem_of_getElem? (i := 450) (by decide +kernel), by decide +kernel⟩
theorem tm_X6_pricingRefusal : zMT mX6_pricingRefusal 2 := ⟨tcode_X6_pricingRefusal, tini_RX6, ⟨by decide +kernel, by decide +kernel⟩, by decide +kernel, by decide, by decide +kernel, rfl⟩
theorem tmv_X6_pricingRefusal : zMV mX6_pricingRefusal 2 := ⟨tm_X6_pricingRefusal, List.mem_filter.mpr ⟨List.mem_of_getElem? (i := 449) (by decide +kernel), by decide +kernel⟩, List.mem_filter.mpr ⟨List.mem_of_getElem? (i := 12) (by decide +kernel), by decide +kernel⟩⟩
abbrev mX6_print : zM := (yX6_print, cX6_print, 3, (some (.int)), none)
theorem tcode_X6_print : Cond.code yX6_print cX6_print 3 (some (.int)) ∈ zTB := List.mem_filter.mpr ⟨List.mem_of_getElem? (i := 536) (by decide +kernel), by decide +kernel⟩
theorem tm_X6_print : zMT mX6_print 0 := ⟨tcode_X6_print, tini_RX6, ⟨by decide +kernel, by decide +kernel⟩, by decide +kernel, by decide, by decide +kernel, rfl⟩
theorem tmv_X6_print : zMV mX6_print 0 := ⟨tm_X6_print, List.mem_filter.mpr ⟨List.mem_of_getElem? (i := 534) (by decide +kernel), by decide +kernel⟩, List.mem_filter.mpr ⟨List.mem_of_getElem? (i := 535) (by decide +kernel), by decide +kernel⟩⟩
abbrev mX6_put : zM := (yX6_put, cX6_put, 3, none, none)
theorem tcode_X6_put : Cond.code yX6_put cX6_put 3 none ∈ zTB := List.mem_filter.mpr ⟨List.mem_of_getElem? (i := 281) (by decide +kernel), by decide +kernel⟩
theorem tm_X6_put : zMT mX6_put 3 := ⟨tcode_X6_put, tini_RX6, ⟨by decide +kernel, by decide +kernel⟩, by decide +kernel, by decide, by decide +kernel, rfl⟩
theorem tms_X6_put : zMS mX6_put 3 := ⟨tm_X6_put, List.mem_filter.mpr ⟨List.mem_of_getElem? (i := 280) (by decide +kernel), by decide +kernel⟩⟩
abbrev mX6_read : zM := (yX6_read, cX6_read, 3, (some (.int)), none)
theorem tcode_X6_read : Cond.code yX6_read cX6_read 3 (some (.int)) ∈ zTB := List.mem_filter.mpr ⟨List.mem_of_getElem? (i := 285) (by decide +kernel), by decide +kernel⟩
theorem tm_X6_read : zMT mX6_read 0 := ⟨tcode_X6_read, tini_RX6, ⟨by decide +kernel, by decide +kernel⟩, by decide +kernel, by decide, by decide +kernel, rfl⟩
theorem tmv_X6_read : zMV mX6_read 0 := ⟨tm_X6_read, List.mem_filter.mpr ⟨List.mem_of_getElem? (i := 283) (by decide +kernel), by decide +kernel⟩, List.mem_filter.mpr ⟨List.mem_of_getElem? (i := 284) (by decide +kernel), by decide +kernel⟩⟩
abbrev mX6_service : zM := (yX6_service, cX6_service, 4, (some (.int)), none)
theorem tcode_X6_service : Cond.code yX6_service cX6_service 4 (some (.int)) ∈ zTB := List.mem_filter.mpr ⟨List.mem_of_getElem? (i := 430) (by decide +kernel), by decide +kernel⟩
theorem tm_X6_service : zMT mX6_service 2 := ⟨tcode_X6_service, tini_RX6, ⟨by decide +kernel, by decide +kernel⟩, by decide +kernel, by decide, by decide +kernel, rfl⟩
theorem tmv_X6_service : zMV mX6_service 2 := ⟨tm_X6_service, List.mem_filter.mpr ⟨List.mem_of_getElem? (i := 428) (by decide +kernel), by decide +kernel⟩, List.mem_filter.mpr ⟨List.mem_of_getElem? (i := 429) (by decide +kernel), by decide +kernel⟩⟩
abbrev mX6_sign : zM := (yX6_sign, cX6_sign, 2, none, none)
theorem tcode_X6_sign : Cond.code yX6_sign cX6_sign 2 none ∈ zTB := List.mem_filter.mpr ⟨List.mem_of_getElem? (i := 271) (by decide +kernel), by decide +kernel⟩
theorem tm_X6_sign : zMT mX6_sign 1 := ⟨tcode_X6_sign, tini_RX6, ⟨by decide +kernel, by decide +kernel⟩, by decide +kernel, by decide, by decide +kernel, rfl⟩
theorem tmv_X6_sign : zMV mX6_sign 1 := ⟨tm_X6_sign, List.mem_filter.mpr ⟨List.mem_of_getElem? (i := 269) (by decide +kernel), by decide +kernel⟩, List.mem_filter.mpr ⟨List.mem_of_getElem? (i := 270) (by decide +kernel), by decide +kernel⟩⟩
abbrev mX6_slot : zM := (yX6_slot, cX6_slot, 2, (some (.object "PostTariff$Edition")), none)
theorem tcode_X6_slot : Cond.code yX6_slot cX6_slot 2 (some (.object "PostTariff$Edition")) ∈ zTB := List.mem_filter.mpr ⟨List.mem_of_getElem? (i := 289) (by decide +kernel), by decide +kernel⟩
theorem tm_X6_slot : zMT mX6_slot 1 := ⟨tcode_X6_slot, tini_RX6, ⟨by decide +kernel, by decide +kernel⟩, by decide +kernel, by decide, by decide +kernel, rfl⟩
theorem tmv_X6_slot : zMV mX6_slot 1 := ⟨tm_X6_slot, List.mem_filter.mpr ⟨List.mem_of_getElem? (i := 288) (by decide +kernel), by decide +kernel⟩, List.mem_filter.mpr ⟨List.mem_of_getElem? (i := 0) (by decide +kernel), by decide +kernel⟩⟩
abbrev mX7_add : zM := (yX7_add, cX7_add, 6, none, none)
theorem tcode_X7_add : Cond.code yX7_add cX7_add 6 none ∈ zTB := List.mem_filter.mpr ⟨List.mem_of_getElem? (i := 812) (by decide +kernel), by decide +kernel⟩
theorem tm_X7_add : zMT mX7_add 4 := ⟨tcode_X7_add, tini_RX7, ⟨by decide +kernel, by decide +kernel⟩, by decide +kernel, by decide, by decide +kernel, rfl⟩
theorem tmv_X7_add : zMV mX7_add 4 := ⟨tm_X7_add, List.mem_filter.mpr ⟨List.mem_of_getElem? (i := 811) (by decide +kernel), by decide +kernel⟩, List.mem_filter.mpr ⟨List.mem_of_getElem? (i := 32) (by decide +kernel), by decide +kernel⟩⟩
abbrev mX7_areApart : zM := (yX7_areApart, cX7_areApart, 5, (some (.boolean)), none)
theorem tcode_X7_areApart : Cond.code yX7_areApart cX7_areApart 5 (some (.boolean)) ∈ zTB := List.mem_filter.mpr ⟨List.mem_of_getElem? (i := 841) (by decide +kernel), by decide +kernel⟩
theorem tm_X7_areApart : zMT mX7_areApart 2 := ⟨tcode_X7_areApart, tini_RX7, ⟨by decide +kernel, by decide +kernel⟩, by decide +kernel, by decide, by decide +kernel, rfl⟩
theorem tmv_X7_areApart : zMV mX7_areApart 2 := ⟨tm_X7_areApart, List.mem_filter.mpr ⟨List.mem_of_getElem? (i := 840) (by decide +kernel), by decide +kernel⟩, List.mem_filter.mpr ⟨List.mem_of_getElem? (i := 39) (by decide +kernel), by decide +kernel⟩⟩
abbrev mX7_at : zM := (yX7_at, cX7_at, 2, (some (.int)), none)
theorem tcode_X7_at : Cond.code yX7_at cX7_at 2 (some (.int)) ∈ zTB := List.mem_filter.mpr ⟨List.mem_of_getElem? (i := 955) (by decide +kernel), by decide +kernel⟩
theorem tm_X7_at : zMT mX7_at 1 := ⟨tcode_X7_at, tini_RX7, ⟨by decide +kernel, by decide +kernel⟩, by decide +kernel, by decide, by decide +kernel, rfl⟩
theorem tmv_X7_at : zMV mX7_at 1 := ⟨tm_X7_at, List.mem_filter.mpr ⟨List.mem_of_getElem? (i := 953) (by decide +kernel), by decide +kernel⟩, List.mem_filter.mpr ⟨List.mem_of_getElem? (i := 954) (by decide +kernel), by decide +kernel⟩⟩
abbrev mX7_base : zM := (yX7_base, cX7_base, 1, (some (.int)), none)
theorem tcode_X7_base : Cond.code yX7_base cX7_base 1 (some (.int)) ∈ zTB := List.mem_filter.mpr ⟨List.mem_of_getElem? (i := 800) (by decide +kernel), by decide +kernel⟩
theorem tm_X7_base : zMT mX7_base 0 := ⟨tcode_X7_base, tini_RX7, ⟨by decide +kernel, by decide +kernel⟩, by decide +kernel, by decide, by decide +kernel, rfl⟩
theorem tmv_X7_base : zMV mX7_base 0 := ⟨tm_X7_base, List.mem_filter.mpr ⟨List.mem_of_getElem? (i := 799) (by decide +kernel), by decide +kernel⟩, List.mem_filter.mpr ⟨List.mem_of_getElem? (i := 29) (by decide +kernel), by decide +kernel⟩⟩
abbrev mX7_compare : zM := (yX7_compare, cX7_compare, 9, (some (.int)), none)
theorem tcode_X7_compare : Cond.code yX7_compare cX7_compare 9 (some (.int)) ∈ zTB := List.mem_filter.mpr ⟨List.mem_of_getElem? (i := 923) (by decide +kernel), by decide +kernel⟩
theorem tm_X7_compare : zMT mX7_compare 1 := ⟨tcode_X7_compare, tini_RX7, ⟨by decide +kernel, by decide +kernel⟩, by decide +kernel, by decide, by decide +kernel, rfl⟩
theorem tmv_X7_compare : zMV mX7_compare 1 := ⟨tm_X7_compare, List.mem_filter.mpr ⟨List.mem_of_getElem? (i := 921) (by decide +kernel), by decide +kernel⟩, List.mem_filter.mpr ⟨List.mem_of_getElem? (i := 922) (by decide +kernel), by decide +kernel⟩⟩
abbrev mX7_count : zM := (yX7_count, cX7_count, 4, (some (.int)), none)
theorem tcode_X7_count : Cond.code yX7_count cX7_count 4 (some (.int)) ∈ zTB := List.mem_filter.mpr ⟨List.mem_of_getElem? (i := 792) (by decide +kernel), by decide +kernel⟩
theorem tm_X7_count : zMT mX7_count 1 := ⟨tcode_X7_count, tini_RX7, ⟨by decide +kernel, by decide +kernel⟩, by decide +kernel, by decide, by decide +kernel, rfl⟩
theorem tmv_X7_count : zMV mX7_count 1 := ⟨tm_X7_count, List.mem_filter.mpr ⟨List.mem_of_getElem? (i := 791) (by decide +kernel), by decide +kernel⟩, List.mem_filter.mpr ⟨List.mem_of_getElem? (i := 27) (by decide +kernel), by decide +kernel⟩⟩
abbrev mX7_dimensional : zM := (yX7_dimensional, cX7_dimensional, 7, (some (.long)), none)
theorem tcode_X7_dimensional : Cond.code yX7_dimensional cX7_dimensional 7 (some (.long)) ∈ zTB := List.mem_filter.mpr ⟨List.mem_of_getElem? (i := 917) (by decide +kernel), by decide +kernel⟩
theorem tm_X7_dimensional : zMT mX7_dimensional 2 := ⟨tcode_X7_dimensional, tini_RX7, ⟨by decide +kernel, by decide +kernel⟩, by decide +kernel, by decide, by decide +kernel, rfl⟩
theorem tmv_X7_dimensional : zMV mX7_dimensional 2 := ⟨tm_X7_dimensional, List.mem_filter.mpr ⟨List.mem_of_getElem? (i := 915) (by decide +kernel), by decide +kernel⟩, List.mem_filter.mpr ⟨List.mem_of_getElem? (i := 916) (by decide +kernel), by decide +kernel⟩⟩
abbrev mX7_explain : zM := (yX7_explain, cX7_explain, 3, (some (.int)), none)
theorem tcode_X7_explain : Cond.code yX7_explain cX7_explain 3 (some (.int)) ∈ zTB := List.mem_filter.mpr ⟨List.mem_of_getElem? (i := 913) (by decide +kernel), by decide +kernel⟩
theorem tm_X7_explain : zMT mX7_explain 2 := ⟨tcode_X7_explain, tini_RX7, ⟨by decide +kernel, by decide +kernel⟩, by decide +kernel, by decide, by decide +kernel, rfl⟩
theorem tmv_X7_explain : zMV mX7_explain 2 := ⟨tm_X7_explain, List.mem_filter.mpr ⟨List.mem_of_getElem? (i := 911) (by decide +kernel), by decide +kernel⟩, List.mem_filter.mpr ⟨List.mem_of_getElem? (i := 912) (by decide +kernel), by decide +kernel⟩⟩
abbrev mX7_in : zM := (yX7_in, cX7_in, 6, (some (.boolean)), none)
theorem tcode_X7_in : Cond.code yX7_in cX7_in 6 (some (.boolean)) ∈ zTB := List.mem_filter.mpr ⟨List.mem_of_getElem? (i := 854) (by decide +kernel), by decide +kernel⟩
theorem tm_X7_in : zMT mX7_in 3 := ⟨tcode_X7_in, tini_RX7, ⟨by decide +kernel, by decide +kernel⟩, by decide +kernel, by decide, by decide +kernel, rfl⟩
theorem tms_X7_in : zMS mX7_in 3 := ⟨tm_X7_in, List.mem_filter.mpr ⟨List.mem_of_getElem? (i := 853) (by decide +kernel), by decide +kernel⟩⟩
abbrev mX7_init : zM := (yX7_init, cX7_init, 1, none, none)
theorem tcode_X7_init : Cond.code yX7_init cX7_init 1 none ∈ zTB := List.mem_filter.mpr ⟨List.mem_of_getElem? (i := 663) (by decide +kernel), by decide +kernel⟩
theorem tm_X7_init : zMT mX7_init 0 := ⟨tcode_X7_init, tini_RX7, ⟨by decide +kernel, by decide +kernel⟩, by decide +kernel, by decide, by decide +kernel, rfl⟩
theorem tmi_X7_init : zMI mX7_init 0 := ⟨tm_X7_init, List.mem_filter.mpr ⟨List.mem_of_getElem? (i := 662) (by decide +kernel), by decide +kernel⟩, rfl, rfl⟩
abbrev mX7_isDigit : zM := (yX7_isDigit, cX7_isDigit, 1, (some (.boolean)), none)
theorem tcode_X7_isDigit : Cond.code yX7_isDigit cX7_isDigit 1 (some (.boolean)) ∈ zTB := List.mem_filter.mpr ⟨List.mem_of_getElem? (i := 808) (by decide +kernel), by decide +kernel⟩
theorem tm_X7_isDigit : zMT mX7_isDigit 0 := ⟨tcode_X7_isDigit, tini_RX7, ⟨by decide +kernel, by decide +kernel⟩, by decide +kernel, by decide, by decide +kernel, rfl⟩
theorem tmv_X7_isDigit : zMV mX7_isDigit 0 := ⟨tm_X7_isDigit, List.mem_filter.mpr ⟨List.mem_of_getElem? (i := 807) (by decide +kernel), by decide +kernel⟩, List.mem_filter.mpr ⟨List.mem_of_getElem? (i := 31) (by decide +kernel), by decide +kernel⟩⟩
abbrev mX7_isThere : zM := (yX7_isThere, cX7_isThere, 5, (some (.boolean)), none)
theorem tcode_X7_isThere : Cond.code yX7_isThere cX7_isThere 5 (some (.boolean)) ∈ zTB := List.mem_filter.mpr ⟨List.mem_of_getElem? (i := 833) (by decide +kernel), by decide +kernel⟩
theorem tm_X7_isThere : zMT mX7_isThere 2 := ⟨tcode_X7_isThere, tini_RX7, ⟨by decide +kernel, by decide +kernel⟩, by decide +kernel, by decide, by decide +kernel, rfl⟩
theorem tmv_X7_isThere : zMV mX7_isThere 2 := ⟨tm_X7_isThere, List.mem_filter.mpr ⟨List.mem_of_getElem? (i := 832) (by decide +kernel), by decide +kernel⟩, List.mem_filter.mpr ⟨List.mem_of_getElem? (i := 37) (by decide +kernel), by decide +kernel⟩⟩
abbrev mX7_item : zM := (yX7_item, cX7_item, 6, (some (.int)), none)
theorem tcode_X7_item : Cond.code yX7_item cX7_item 6 (some (.int)) ∈ zTB := List.mem_filter.mpr ⟨List.mem_of_getElem? (i := 850) (by decide +kernel), by decide +kernel⟩
theorem tm_X7_item : zMT mX7_item 5 := ⟨tcode_X7_item, tini_RX7, ⟨by decide +kernel, by decide +kernel⟩, by decide +kernel, by decide, by decide +kernel, rfl⟩
theorem tmv_X7_item : zMV mX7_item 5 := ⟨tm_X7_item, List.mem_filter.mpr ⟨List.mem_of_getElem? (i := 848) (by decide +kernel), by decide +kernel⟩, List.mem_filter.mpr ⟨List.mem_of_getElem? (i := 849) (by decide +kernel), by decide +kernel⟩⟩
abbrev mX7_kindEnd : zM := (yX7_kindEnd, cX7_kindEnd, 4, (some (.int)), none)
theorem tcode_X7_kindEnd : Cond.code yX7_kindEnd cX7_kindEnd 4 (some (.int)) ∈ zTB := List.mem_filter.mpr ⟨List.mem_of_getElem? (i := 884) (by decide +kernel), by decide +kernel⟩
theorem tm_X7_kindEnd : zMT mX7_kindEnd 2 := ⟨tcode_X7_kindEnd, tini_RX7, ⟨by decide +kernel, by decide +kernel⟩, by decide +kernel, by decide, by decide +kernel, rfl⟩
theorem tmv_X7_kindEnd : zMV mX7_kindEnd 2 := ⟨tm_X7_kindEnd, List.mem_filter.mpr ⟨List.mem_of_getElem? (i := 883) (by decide +kernel), by decide +kernel⟩, List.mem_filter.mpr ⟨List.mem_of_getElem? (i := 44) (by decide +kernel), by decide +kernel⟩⟩
abbrev mX7_kindRow : zM := (yX7_kindRow, cX7_kindRow, 5, (some (.int)), none)
theorem tcode_X7_kindRow : Cond.code yX7_kindRow cX7_kindRow 5 (some (.int)) ∈ zTB := List.mem_filter.mpr ⟨List.mem_of_getElem? (i := 879) (by decide +kernel), by decide +kernel⟩
theorem tm_X7_kindRow : zMT mX7_kindRow 2 := ⟨tcode_X7_kindRow, tini_RX7, ⟨by decide +kernel, by decide +kernel⟩, by decide +kernel, by decide, by decide +kernel, rfl⟩
theorem tmv_X7_kindRow : zMV mX7_kindRow 2 := ⟨tm_X7_kindRow, List.mem_filter.mpr ⟨List.mem_of_getElem? (i := 878) (by decide +kernel), by decide +kernel⟩, List.mem_filter.mpr ⟨List.mem_of_getElem? (i := 43) (by decide +kernel), by decide +kernel⟩⟩
abbrev mX7_lastRow : zM := (yX7_lastRow, cX7_lastRow, 1, (some (.int)), none)
theorem tcode_X7_lastRow : Cond.code yX7_lastRow cX7_lastRow 1 (some (.int)) ∈ zTB := List.mem_filter.mpr ⟨List.mem_of_getElem? (i := 796) (by decide +kernel), by decide +kernel⟩
theorem tm_X7_lastRow : zMT mX7_lastRow 0 := ⟨tcode_X7_lastRow, tini_RX7, ⟨by decide +kernel, by decide +kernel⟩, by decide +kernel, by decide, by decide +kernel, rfl⟩
theorem tmv_X7_lastRow : zMV mX7_lastRow 0 := ⟨tm_X7_lastRow, List.mem_filter.mpr ⟨List.mem_of_getElem? (i := 795) (by decide +kernel), by decide +kernel⟩, List.mem_filter.mpr ⟨List.mem_of_getElem? (i := 28) (by decide +kernel), by decide +kernel⟩⟩
abbrev mX7_lastWeight : zM := (yX7_lastWeight, cX7_lastWeight, 3, (some (.int)), none)
theorem tcode_X7_lastWeight : Cond.code yX7_lastWeight cX7_lastWeight 3 (some (.int)) ∈ zTB := List.mem_filter.mpr ⟨List.mem_of_getElem? (i := 820) (by decide +kernel), by decide +kernel⟩
theorem tm_X7_lastWeight : zMT mX7_lastWeight 0 := ⟨tcode_X7_lastWeight, tini_RX7, ⟨by decide +kernel, by decide +kernel⟩, by decide +kernel, by decide, by decide +kernel, rfl⟩
theorem tmv_X7_lastWeight : zMV mX7_lastWeight 0 := ⟨tm_X7_lastWeight, List.mem_filter.mpr ⟨List.mem_of_getElem? (i := 819) (by decide +kernel), by decide +kernel⟩, List.mem_filter.mpr ⟨List.mem_of_getElem? (i := 34) (by decide +kernel), by decide +kernel⟩⟩
abbrev mX7_least : zM := (yX7_least, cX7_least, 13, (some (.int)), none)
theorem tcode_X7_least : Cond.code yX7_least cX7_least 13 (some (.int)) ∈ zTB := List.mem_filter.mpr ⟨List.mem_of_getElem? (i := 909) (by decide +kernel), by decide +kernel⟩
theorem tm_X7_least : zMT mX7_least 3 := ⟨tcode_X7_least, tini_RX7, ⟨by decide +kernel, by decide +kernel⟩, by decide +kernel, by decide, by decide +kernel, rfl⟩
theorem tmv_X7_least : zMV mX7_least 3 := ⟨tm_X7_least, List.mem_filter.mpr ⟨List.mem_of_getElem? (i := 907) (by decide +kernel), by decide +kernel⟩, List.mem_filter.mpr ⟨List.mem_of_getElem? (i := 908) (by decide +kernel), by decide +kernel⟩⟩
abbrev mX7_look : zM := (yX7_look, cX7_look, 1, (some (.int)), none)
theorem tcode_X7_look : Cond.code yX7_look cX7_look 1 (some (.int)) ∈ zTB := List.mem_filter.mpr ⟨List.mem_of_getElem? (i := 780) (by decide +kernel), by decide +kernel⟩
theorem tm_X7_look : zMT mX7_look 0 := ⟨tcode_X7_look, tini_RX7, ⟨by decide +kernel, by decide +kernel⟩, by decide +kernel, by decide, by decide +kernel, rfl⟩
theorem tmv_X7_look : zMV mX7_look 0 := ⟨tm_X7_look, List.mem_filter.mpr ⟨List.mem_of_getElem? (i := 779) (by decide +kernel), by decide +kernel⟩, List.mem_filter.mpr ⟨List.mem_of_getElem? (i := 24) (by decide +kernel), by decide +kernel⟩⟩
abbrev mX7_mayGo : zM := (yX7_mayGo, cX7_mayGo, 11, (some (.boolean)), none)
theorem tcode_X7_mayGo : Cond.code yX7_mayGo cX7_mayGo 11 (some (.boolean)) ∈ zTB := List.mem_filter.mpr ⟨List.mem_of_getElem? (i := 888) (by decide +kernel), by decide +kernel⟩
theorem tm_X7_mayGo : zMT mX7_mayGo 5 := ⟨tcode_X7_mayGo, tini_RX7, ⟨by decide +kernel, by decide +kernel⟩, by decide +kernel, by decide, by decide +kernel, rfl⟩
theorem tmv_X7_mayGo : zMV mX7_mayGo 5 := ⟨tm_X7_mayGo, List.mem_filter.mpr ⟨List.mem_of_getElem? (i := 887) (by decide +kernel), by decide +kernel⟩, List.mem_filter.mpr ⟨List.mem_of_getElem? (i := 45) (by decide +kernel), by decide +kernel⟩⟩
abbrev mX7_mayServe : zM := (yX7_mayServe, cX7_mayServe, 6, (some (.boolean)), none)
theorem tcode_X7_mayServe : Cond.code yX7_mayServe cX7_mayServe 6 (some (.boolean)) ∈ zTB := List.mem_filter.mpr ⟨List.mem_of_getElem? (i := 900) (by decide +kernel), by decide +kernel⟩
theorem tm_X7_mayServe : zMT mX7_mayServe 3 := ⟨tcode_X7_mayServe, tini_RX7, ⟨by decide +kernel, by decide +kernel⟩, by decide +kernel, by decide, by decide +kernel, rfl⟩
theorem tmv_X7_mayServe : zMV mX7_mayServe 3 := ⟨tm_X7_mayServe, List.mem_filter.mpr ⟨List.mem_of_getElem? (i := 899) (by decide +kernel), by decide +kernel⟩, List.mem_filter.mpr ⟨List.mem_of_getElem? (i := 48) (by decide +kernel), by decide +kernel⟩⟩
abbrev mX7_must : zM := (yX7_must, cX7_must, 3, (some (.boolean)), none)
theorem tcode_X7_must : Cond.code yX7_must cX7_must 3 (some (.boolean)) ∈ zTB := List.mem_filter.mpr ⟨List.mem_of_getElem? (i := 784) (by decide +kernel), by decide +kernel⟩
theorem tm_X7_must : zMT mX7_must 2 := ⟨tcode_X7_must, tini_RX7, ⟨by decide +kernel, by decide +kernel⟩, by decide +kernel, by decide, by decide +kernel, rfl⟩
theorem tmv_X7_must : zMV mX7_must 2 := ⟨tm_X7_must, List.mem_filter.mpr ⟨List.mem_of_getElem? (i := 783) (by decide +kernel), by decide +kernel⟩, List.mem_filter.mpr ⟨List.mem_of_getElem? (i := 25) (by decide +kernel), by decide +kernel⟩⟩
abbrev mX7_next : zM := (yX7_next, cX7_next, 3, (some (.int)), none)
theorem tcode_X7_next : Cond.code yX7_next cX7_next 3 (some (.int)) ∈ zTB := List.mem_filter.mpr ⟨List.mem_of_getElem? (i := 825) (by decide +kernel), by decide +kernel⟩
theorem tm_X7_next : zMT mX7_next 2 := ⟨tcode_X7_next, tini_RX7, ⟨by decide +kernel, by decide +kernel⟩, by decide +kernel, by decide, by decide +kernel, rfl⟩
theorem tmv_X7_next : zMV mX7_next 2 := ⟨tm_X7_next, List.mem_filter.mpr ⟨List.mem_of_getElem? (i := 824) (by decide +kernel), by decide +kernel⟩, List.mem_filter.mpr ⟨List.mem_of_getElem? (i := 35) (by decide +kernel), by decide +kernel⟩⟩
abbrev mX7_number : zM := (yX7_number, cX7_number, 6, (some (.int)), none)
theorem tcode_X7_number : Cond.code yX7_number cX7_number 6 (some (.int)) ∈ zTB := List.mem_filter.mpr ⟨List.mem_of_getElem? (i := 804) (by decide +kernel), by decide +kernel⟩
theorem tm_X7_number : zMT mX7_number 2 := ⟨tcode_X7_number, tini_RX7, ⟨by decide +kernel, by decide +kernel⟩, by decide +kernel, by decide, by decide +kernel, rfl⟩
theorem tmv_X7_number : zMV mX7_number 2 := ⟨tm_X7_number, List.mem_filter.mpr ⟨List.mem_of_getElem? (i := 803) (by decide +kernel), by decide +kernel⟩, List.mem_filter.mpr ⟨List.mem_of_getElem? (i := 30) (by decide +kernel), by decide +kernel⟩⟩
abbrev mX7_onlyRow : zM := (yX7_onlyRow, cX7_onlyRow, 6, (some (.int)), none)
theorem tcode_X7_onlyRow : Cond.code yX7_onlyRow cX7_onlyRow 6 (some (.int)) ∈ zTB := List.mem_filter.mpr ⟨List.mem_of_getElem? (i := 892) (by decide +kernel), by decide +kernel⟩
theorem tm_X7_onlyRow : zMT mX7_onlyRow 3 := ⟨tcode_X7_onlyRow, tini_RX7, ⟨by decide +kernel, by decide +kernel⟩, by decide +kernel, by decide, by decide +kernel, rfl⟩
theorem tmv_X7_onlyRow : zMV mX7_onlyRow 3 := ⟨tm_X7_onlyRow, List.mem_filter.mpr ⟨List.mem_of_getElem? (i := 891) (by decide +kernel), by decide +kernel⟩, List.mem_filter.mpr ⟨List.mem_of_getElem? (i := 46) (by decide +kernel), by decide +kernel⟩⟩
abbrev mX7_part : zM := (yX7_part, cX7_part, 5, none, none)
theorem tcode_X7_part : Cond.code yX7_part cX7_part 5 none ∈ zTB := List.mem_filter.mpr ⟨List.mem_of_getElem? (i := 904) (by decide +kernel), by decide +kernel⟩
theorem tm_X7_part : zMT mX7_part 3 := ⟨tcode_X7_part, tini_RX7, ⟨by decide +kernel, by decide +kernel⟩, by decide +kernel, by decide, by decide +kernel, rfl⟩
theorem tmv_X7_part : zMV mX7_part 3 := ⟨tm_X7_part, List.mem_filter.mpr ⟨List.mem_of_getElem? (i := 903) (by decide +kernel), by decide +kernel⟩, List.mem_filter.mpr ⟨List.mem_of_getElem? (i := 49) (by decide +kernel), by decide +kernel⟩⟩
abbrev mX7_price : zM := (yX7_price, cX7_price, 6, (some (.long)), none)
theorem tcode_X7_price : Cond.code yX7_price cX7_price 6 (some (.long)) ∈ zTB := List.mem_filter.mpr ⟨List.mem_of_getElem? (i := 865) (by decide +kernel), by decide +kernel⟩
theorem tm_X7_price : zMT mX7_price 3 := ⟨tcode_X7_price, tini_RX7, ⟨by decide +kernel, by decide +kernel⟩, by decide +kernel, by decide, by decide +kernel, rfl⟩
theorem tmv_X7_price : zMV mX7_price 3 := ⟨tm_X7_price, List.mem_filter.mpr ⟨List.mem_of_getElem? (i := 863) (by decide +kernel), by decide +kernel⟩, List.mem_filter.mpr ⟨List.mem_of_getElem? (i := 864) (by decide +kernel), by decide +kernel⟩⟩
abbrev mX7_print : zM := (yX7_print, cX7_print, 3, (some (.int)), none)
theorem tcode_X7_print : Cond.code yX7_print cX7_print 3 (some (.int)) ∈ zTB := List.mem_filter.mpr ⟨List.mem_of_getElem? (i := 951) (by decide +kernel), by decide +kernel⟩
theorem tm_X7_print : zMT mX7_print 0 := ⟨tcode_X7_print, tini_RX7, ⟨by decide +kernel, by decide +kernel⟩, by decide +kernel, by decide, by decide +kernel, rfl⟩
theorem tmv_X7_print : zMV mX7_print 0 := ⟨tm_X7_print, List.mem_filter.mpr ⟨List.mem_of_getElem? (i := 949) (by decide +kernel), by decide +kernel⟩, List.mem_filter.mpr ⟨List.mem_of_getElem? (i := 950) (by decide +kernel), by decide +kernel⟩⟩
abbrev mX7_put : zM := (yX7_put, cX7_put, 2, none, none)
theorem tcode_X7_put : Cond.code yX7_put cX7_put 2 none ∈ zTB := List.mem_filter.mpr ⟨List.mem_of_getElem? (i := 931) (by decide +kernel), by decide +kernel⟩
theorem tm_X7_put : zMT mX7_put 1 := ⟨tcode_X7_put, tini_RX7, ⟨by decide +kernel, by decide +kernel⟩, by decide +kernel, by decide, by decide +kernel, rfl⟩
theorem tmv_X7_put : zMV mX7_put 1 := ⟨tm_X7_put, List.mem_filter.mpr ⟨List.mem_of_getElem? (i := 930) (by decide +kernel), by decide +kernel⟩, List.mem_filter.mpr ⟨List.mem_of_getElem? (i := 51) (by decide +kernel), by decide +kernel⟩⟩
abbrev mX7_putEach : zM := (yX7_putEach, cX7_putEach, 6, none, none)
theorem tcode_X7_putEach : Cond.code yX7_putEach cX7_putEach 6 none ∈ zTB := List.mem_filter.mpr ⟨List.mem_of_getElem? (i := 943) (by decide +kernel), by decide +kernel⟩
theorem tm_X7_putEach : zMT mX7_putEach 3 := ⟨tcode_X7_putEach, tini_RX7, ⟨by decide +kernel, by decide +kernel⟩, by decide +kernel, by decide, by decide +kernel, rfl⟩
theorem tmv_X7_putEach : zMV mX7_putEach 3 := ⟨tm_X7_putEach, List.mem_filter.mpr ⟨List.mem_of_getElem? (i := 942) (by decide +kernel), by decide +kernel⟩, List.mem_filter.mpr ⟨List.mem_of_getElem? (i := 54) (by decide +kernel), by decide +kernel⟩⟩
abbrev mX7_putKind : zM := (yX7_putKind, cX7_putKind, 8, (some (.boolean)), none)
theorem tcode_X7_putKind : Cond.code yX7_putKind cX7_putKind 8 (some (.boolean)) ∈ zTB := List.mem_filter.mpr ⟨List.mem_of_getElem? (i := 927) (by decide +kernel), by decide +kernel⟩
theorem tm_X7_putKind : zMT mX7_putKind 2 := ⟨tcode_X7_putKind, tini_RX7, ⟨by decide +kernel, by decide +kernel⟩, by decide +kernel, by decide, by decide +kernel, rfl⟩
theorem tmv_X7_putKind : zMV mX7_putKind 2 := ⟨tm_X7_putKind, List.mem_filter.mpr ⟨List.mem_of_getElem? (i := 926) (by decide +kernel), by decide +kernel⟩, List.mem_filter.mpr ⟨List.mem_of_getElem? (i := 50) (by decide +kernel), by decide +kernel⟩⟩
abbrev mX7_putNumber : zM := (yX7_putNumber, cX7_putNumber, 3, none, none)
theorem tcode_X7_putNumber : Cond.code yX7_putNumber cX7_putNumber 3 none ∈ zTB := List.mem_filter.mpr ⟨List.mem_of_getElem? (i := 935) (by decide +kernel), by decide +kernel⟩
theorem tm_X7_putNumber : zMT mX7_putNumber 1 := ⟨tcode_X7_putNumber, tini_RX7, ⟨by decide +kernel, by decide +kernel⟩, by decide +kernel, by decide, by decide +kernel, rfl⟩
theorem tmv_X7_putNumber : zMV mX7_putNumber 1 := ⟨tm_X7_putNumber, List.mem_filter.mpr ⟨List.mem_of_getElem? (i := 934) (by decide +kernel), by decide +kernel⟩, List.mem_filter.mpr ⟨List.mem_of_getElem? (i := 52) (by decide +kernel), by decide +kernel⟩⟩
abbrev mX7_putOnly : zM := (yX7_putOnly, cX7_putOnly, 6, none, none)
theorem tcode_X7_putOnly : Cond.code yX7_putOnly cX7_putOnly 6 none ∈ zTB := List.mem_filter.mpr ⟨List.mem_of_getElem? (i := 947) (by decide +kernel), by decide +kernel⟩
theorem tm_X7_putOnly : zMT mX7_putOnly 4 := ⟨tcode_X7_putOnly, tini_RX7, ⟨by decide +kernel, by decide +kernel⟩, by decide +kernel, by decide, by decide +kernel, rfl⟩
theorem tmv_X7_putOnly : zMV mX7_putOnly 4 := ⟨tm_X7_putOnly, List.mem_filter.mpr ⟨List.mem_of_getElem? (i := 946) (by decide +kernel), by decide +kernel⟩, List.mem_filter.mpr ⟨List.mem_of_getElem? (i := 55) (by decide +kernel), by decide +kernel⟩⟩
abbrev mX7_putRow : zM := (yX7_putRow, cX7_putRow, 6, none, none)
theorem tcode_X7_putRow : Cond.code yX7_putRow cX7_putRow 6 none ∈ zTB := List.mem_filter.mpr ⟨List.mem_of_getElem? (i := 939) (by decide +kernel), by decide +kernel⟩
theorem tm_X7_putRow : zMT mX7_putRow 5 := ⟨tcode_X7_putRow, tini_RX7, ⟨by decide +kernel, by decide +kernel⟩, by decide +kernel, by decide, by decide +kernel, rfl⟩
theorem tmv_X7_putRow : zMV mX7_putRow 5 := ⟨tm_X7_putRow, List.mem_filter.mpr ⟨List.mem_of_getElem? (i := 938) (by decide +kernel), by decide +kernel⟩, List.mem_filter.mpr ⟨List.mem_of_getElem? (i := 53) (by decide +kernel), by decide +kernel⟩⟩
abbrev mX7_read : zM := (yX7_read, cX7_read, 4, (some (.int)), none)
theorem tcode_X7_read : Cond.code yX7_read cX7_read 4 (some (.int)) ∈ zTB := List.mem_filter.mpr ⟨List.mem_of_getElem? (i := 772) (by decide +kernel), by decide +kernel⟩
theorem tm_X7_read : zMT mX7_read 0 := ⟨tcode_X7_read, tini_RX7, ⟨by decide +kernel, by decide +kernel⟩, by decide +kernel, by decide, by decide +kernel, rfl⟩
theorem tmv_X7_read : zMV mX7_read 0 := ⟨tm_X7_read, List.mem_filter.mpr ⟨List.mem_of_getElem? (i := 770) (by decide +kernel), by decide +kernel⟩, List.mem_filter.mpr ⟨List.mem_of_getElem? (i := 771) (by decide +kernel), by decide +kernel⟩⟩
abbrev mX7_readApart : zM := (yX7_readApart, cX7_readApart, 6, none, none)
theorem tcode_X7_readApart : Cond.code yX7_readApart cX7_readApart 6 none ∈ zTB := List.mem_filter.mpr ⟨List.mem_of_getElem? (i := 837) (by decide +kernel), by decide +kernel⟩
theorem tm_X7_readApart : zMT mX7_readApart 1 := ⟨tcode_X7_readApart, tini_RX7, ⟨by decide +kernel, by decide +kernel⟩, by decide +kernel, by decide, by decide +kernel, rfl⟩
theorem tmv_X7_readApart : zMV mX7_readApart 1 := ⟨tm_X7_readApart, List.mem_filter.mpr ⟨List.mem_of_getElem? (i := 836) (by decide +kernel), by decide +kernel⟩, List.mem_filter.mpr ⟨List.mem_of_getElem? (i := 38) (by decide +kernel), by decide +kernel⟩⟩
abbrev mX7_readKind : zM := (yX7_readKind, cX7_readKind, 6, none, none)
theorem tcode_X7_readKind : Cond.code yX7_readKind cX7_readKind 6 none ∈ zTB := List.mem_filter.mpr ⟨List.mem_of_getElem? (i := 788) (by decide +kernel), by decide +kernel⟩
theorem tm_X7_readKind : zMT mX7_readKind 1 := ⟨tcode_X7_readKind, tini_RX7, ⟨by decide +kernel, by decide +kernel⟩, by decide +kernel, by decide, by decide +kernel, rfl⟩
theorem tmv_X7_readKind : zMV mX7_readKind 1 := ⟨tm_X7_readKind, List.mem_filter.mpr ⟨List.mem_of_getElem? (i := 787) (by decide +kernel), by decide +kernel⟩, List.mem_filter.mpr ⟨List.mem_of_getElem? (i := 26) (by decide +kernel), by decide +kernel⟩⟩
abbrev mX7_readOnce : zM := (yX7_readOnce, cX7_readOnce, 7, none, none)
theorem tcode_X7_readOnce : Cond.code yX7_readOnce cX7_readOnce 7 none ∈ zTB := List.mem_filter.mpr ⟨List.mem_of_getElem? (i := 845) (by decide +kernel), by decide +kernel⟩
theorem tm_X7_readOnce : zMT mX7_readOnce 2 := ⟨tcode_X7_readOnce, tini_RX7, ⟨by decide +kernel, by decide +kernel⟩, by decide +kernel, by decide, by decide +kernel, rfl⟩
theorem tmv_X7_readOnce : zMV mX7_readOnce 2 := ⟨tm_X7_readOnce, List.mem_filter.mpr ⟨List.mem_of_getElem? (i := 844) (by decide +kernel), by decide +kernel⟩, List.mem_filter.mpr ⟨List.mem_of_getElem? (i := 40) (by decide +kernel), by decide +kernel⟩⟩
abbrev mX7_readOnceEach : zM := (yX7_readOnceEach, cX7_readOnceEach, 6, none, none)
theorem tcode_X7_readOnceEach : Cond.code yX7_readOnceEach cX7_readOnceEach 6 none ∈ zTB := List.mem_filter.mpr ⟨List.mem_of_getElem? (i := 829) (by decide +kernel), by decide +kernel⟩
theorem tm_X7_readOnceEach : zMT mX7_readOnceEach 2 := ⟨tcode_X7_readOnceEach, tini_RX7, ⟨by decide +kernel, by decide +kernel⟩, by decide +kernel, by decide, by decide +kernel, rfl⟩
theorem tmv_X7_readOnceEach : zMV mX7_readOnceEach 2 := ⟨tm_X7_readOnceEach, List.mem_filter.mpr ⟨List.mem_of_getElem? (i := 828) (by decide +kernel), by decide +kernel⟩, List.mem_filter.mpr ⟨List.mem_of_getElem? (i := 36) (by decide +kernel), by decide +kernel⟩⟩
abbrev mX7_readRow : zM := (yX7_readRow, cX7_readRow, 3, none, none)
theorem tcode_X7_readRow : Cond.code yX7_readRow cX7_readRow 3 none ∈ zTB := List.mem_filter.mpr ⟨List.mem_of_getElem? (i := 776) (by decide +kernel), by decide +kernel⟩
theorem tm_X7_readRow : zMT mX7_readRow 0 := ⟨tcode_X7_readRow, tini_RX7, ⟨by decide +kernel, by decide +kernel⟩, by decide +kernel, by decide, by decide +kernel, rfl⟩
theorem tmv_X7_readRow : zMV mX7_readRow 0 := ⟨tm_X7_readRow, List.mem_filter.mpr ⟨List.mem_of_getElem? (i := 775) (by decide +kernel), by decide +kernel⟩, List.mem_filter.mpr ⟨List.mem_of_getElem? (i := 23) (by decide +kernel), by decide +kernel⟩⟩
abbrev mX7_readStep : zM := (yX7_readStep, cX7_readStep, 4, none, none)
theorem tcode_X7_readStep : Cond.code yX7_readStep cX7_readStep 4 none ∈ zTB := List.mem_filter.mpr ⟨List.mem_of_getElem? (i := 816) (by decide +kernel), by decide +kernel⟩
theorem tm_X7_readStep : zMT mX7_readStep 1 := ⟨tcode_X7_readStep, tini_RX7, ⟨by decide +kernel, by decide +kernel⟩, by decide +kernel, by decide, by decide +kernel, rfl⟩
theorem tmv_X7_readStep : zMV mX7_readStep 1 := ⟨tm_X7_readStep, List.mem_filter.mpr ⟨List.mem_of_getElem? (i := 815) (by decide +kernel), by decide +kernel⟩, List.mem_filter.mpr ⟨List.mem_of_getElem? (i := 33) (by decide +kernel), by decide +kernel⟩⟩
abbrev mX7_reckon : zM := (yX7_reckon, cX7_reckon, 21, (some (.long)), none)
theorem tcode_X7_reckon : Cond.code yX7_reckon cX7_reckon 21 (some (.long)) ∈ zTB := List.mem_filter.mpr ⟨List.mem_of_getElem? (i := 875) (by decide +kernel), by decide +kernel⟩
theorem tm_X7_reckon : zMT mX7_reckon 4 := ⟨tcode_X7_reckon, tini_RX7, ⟨by decide +kernel, by decide +kernel⟩, by decide +kernel, by decide, by decide +kernel, rfl⟩
theorem tmv_X7_reckon : zMV mX7_reckon 4 := ⟨tm_X7_reckon, List.mem_filter.mpr ⟨List.mem_of_getElem? (i := 874) (by decide +kernel), by decide +kernel⟩, List.mem_filter.mpr ⟨List.mem_of_getElem? (i := 42) (by decide +kernel), by decide +kernel⟩⟩
abbrev mX7_refusal : zM := (yX7_refusal, cX7_refusal, 5, (some (.int)), none)
theorem tcode_X7_refusal : Cond.code yX7_refusal cX7_refusal 5 (some (.int)) ∈ zTB := List.mem_filter.mpr ⟨List.mem_of_getElem? (i := 869) (by decide +kernel), by decide +kernel⟩
theorem tm_X7_refusal : zMT mX7_refusal 3 := ⟨tcode_X7_refusal, tini_RX7, ⟨by decide +kernel, by decide +kernel⟩, by decide +kernel, by decide, by decide +kernel, rfl⟩
theorem tmv_X7_refusal : zMV mX7_refusal 3 := ⟨tm_X7_refusal, List.mem_filter.mpr ⟨List.mem_of_getElem? (i := 868) (by decide +kernel), by decide +kernel⟩, List.mem_filter.mpr ⟨List.mem_of_getElem? (i := 41) (by decide +kernel), by decide +kernel⟩⟩
abbrev mX7_rowOf : zM := (yX7_rowOf, cX7_rowOf, 7, (some (.int)), none)
theorem tcode_X7_rowOf : Cond.code yX7_rowOf cX7_rowOf 7 (some (.int)) ∈ zTB := List.mem_filter.mpr ⟨List.mem_of_getElem? (i := 896) (by decide +kernel), by decide +kernel⟩
theorem tm_X7_rowOf : zMT mX7_rowOf 4 := ⟨tcode_X7_rowOf, tini_RX7, ⟨by decide +kernel, by decide +kernel⟩, by decide +kernel, by decide, by decide +kernel, rfl⟩
theorem tmv_X7_rowOf : zMV mX7_rowOf 4 := ⟨tm_X7_rowOf, List.mem_filter.mpr ⟨List.mem_of_getElem? (i := 895) (by decide +kernel), by decide +kernel⟩, List.mem_filter.mpr ⟨List.mem_of_getElem? (i := 47) (by decide +kernel), by decide +kernel⟩⟩
abbrev mX7_service : zM := (yX7_service, cX7_service, 5, (some (.int)), none)
theorem tcode_X7_service : Cond.code yX7_service cX7_service 5 (some (.int)) ∈ zTB := List.mem_filter.mpr ⟨List.mem_of_getElem? (i := 860) (by decide +kernel), by decide +kernel⟩
theorem tm_X7_service : zMT mX7_service 2 := ⟨tcode_X7_service, tini_RX7, ⟨by decide +kernel, by decide +kernel⟩, by decide +kernel, by decide, by decide +kernel, rfl⟩
theorem tmv_X7_service : zMV mX7_service 2 := ⟨tm_X7_service, List.mem_filter.mpr ⟨List.mem_of_getElem? (i := 858) (by decide +kernel), by decide +kernel⟩, List.mem_filter.mpr ⟨List.mem_of_getElem? (i := 859) (by decide +kernel), by decide +kernel⟩⟩
abbrev mX7_sign : zM := (yX7_sign, cX7_sign, 2, none, none)
theorem tcode_X7_sign : Cond.code yX7_sign cX7_sign 2 none ∈ zTB := List.mem_filter.mpr ⟨List.mem_of_getElem? (i := 768) (by decide +kernel), by decide +kernel⟩
theorem tm_X7_sign : zMT mX7_sign 1 := ⟨tcode_X7_sign, tini_RX7, ⟨by decide +kernel, by decide +kernel⟩, by decide +kernel, by decide, by decide +kernel, rfl⟩
theorem tmv_X7_sign : zMV mX7_sign 1 := ⟨tm_X7_sign, List.mem_filter.mpr ⟨List.mem_of_getElem? (i := 766) (by decide +kernel), by decide +kernel⟩, List.mem_filter.mpr ⟨List.mem_of_getElem? (i := 767) (by decide +kernel), by decide +kernel⟩⟩
abbrev mX7_thrown : zM := (yX7_thrown, cX7_thrown, 1, (some (.int)), none)
theorem tcode_X7_thrown : Cond.code yX7_thrown cX7_thrown 1 (some (.int)) ∈ zTB := List.mem_filter.mpr ⟨List.mem_of_getElem? (i := 764) (by decide +kernel), by decide +kernel⟩
theorem tm_X7_thrown : zMT mX7_thrown 0 := ⟨tcode_X7_thrown, tini_RX7, ⟨by decide +kernel, by decide +kernel⟩, by decide +kernel, by decide, by decide +kernel, rfl⟩
theorem tmv_X7_thrown : zMV mX7_thrown 0 := ⟨tm_X7_thrown, List.mem_filter.mpr ⟨List.mem_of_getElem? (i := 762) (by decide +kernel), by decide +kernel⟩, List.mem_filter.mpr ⟨List.mem_of_getElem? (i := 763) (by decide +kernel), by decide +kernel⟩⟩
theorem k_RL_15 (M : zM) (hM : M.1.cls = RL) : zLK M 15 mX6_init := Or.inl (by rw [hM]; exact List.mem_filter.mpr ⟨List.mem_of_getElem? (i := 74) (by decide +kernel), by decide +kernel⟩)
theorem k_RX6_3 (M : zM) (hM : M.1.cls = RX6) : Cond.methodLink M.1.cls 3 objectInit ∈ zTB := by rw [hM]; exact List.mem_filter.mpr ⟨List.mem_of_getElem? (i := 77) (by decide +kernel), by decide +kernel⟩
theorem k_RX5_3 (M : zM) (hM : M.1.cls = RX5) : Cond.methodLink M.1.cls 3 objectInit ∈ zTB := by rw [hM]; exact List.mem_filter.mpr ⟨List.mem_of_getElem? (i := 85) (by decide +kernel), by decide +kernel⟩
theorem k_RX4_3 (M : zM) (hM : M.1.cls = RX4) : Cond.methodLink M.1.cls 3 objectInit ∈ zTB := by rw [hM]; exact List.mem_filter.mpr ⟨List.mem_of_getElem? (i := 114) (by decide +kernel), by decide +kernel⟩
theorem k_RX0_3 (M : zM) (hM : M.1.cls = RX0) : Cond.methodLink M.1.cls 3 objectInit ∈ zTB := by rw [hM]; exact List.mem_filter.mpr ⟨List.mem_of_getElem? (i := 129) (by decide +kernel), by decide +kernel⟩
theorem k_RX6_45 (M : zM) (hM : M.1.cls = RX6) : zLK M 45 mX1_init := Or.inl (by rw [hM]; exact List.mem_filter.mpr ⟨List.mem_of_getElem? (i := 153) (by decide +kernel), by decide +kernel⟩)
theorem k_RX1_3 (M : zM) (hM : M.1.cls = RX1) : Cond.methodLink M.1.cls 3 objectInit ∈ zTB := by rw [hM]; exact List.mem_filter.mpr ⟨List.mem_of_getElem? (i := 156) (by decide +kernel), by decide +kernel⟩
theorem k_RX3_3 (M : zM) (hM : M.1.cls = RX3) : Cond.methodLink M.1.cls 3 objectInit ∈ zTB := by rw [hM]; exact List.mem_filter.mpr ⟨List.mem_of_getElem? (i := 163) (by decide +kernel), by decide +kernel⟩
theorem k_RL_19 (M : zM) (hM : M.1.cls = RL) : zLK M 19 mX6_sign := Or.inl (by rw [hM]; exact List.mem_filter.mpr ⟨List.mem_of_getElem? (i := 268) (by decide +kernel), by decide +kernel⟩)
theorem k_RX6_46 (M : zM) (hM : M.1.cls = RX6) : zLK M 46 mX6_isWithin := Or.inl (by rw [hM]; exact List.mem_filter.mpr ⟨List.mem_of_getElem? (i := 272) (by decide +kernel), by decide +kernel⟩)
theorem k_RX6_50 (M : zM) (hM : M.1.cls = RX6) : zLK M 50 mX5_append := Or.inl (by rw [hM]; exact List.mem_filter.mpr ⟨List.mem_of_getElem? (i := 275) (by decide +kernel), by decide +kernel⟩)
theorem k_RL_24 (M : zM) (hM : M.1.cls = RL) : zLK M 24 mX6_read := Or.inl (by rw [hM]; exact List.mem_filter.mpr ⟨List.mem_of_getElem? (i := 282) (by decide +kernel), by decide +kernel⟩)
theorem k_RX6_58 (M : zM) (hM : M.1.cls = RX6) : zLK M 58 mX6_slot := Or.inl (by rw [hM]; exact List.mem_filter.mpr ⟨List.mem_of_getElem? (i := 286) (by decide +kernel), by decide +kernel⟩)
theorem k_RX6_63 (M : zM) (hM : M.1.cls = RX6) : zLK M 63 mX5_readInto := Or.inl (by rw [hM]; exact List.mem_filter.mpr ⟨List.mem_of_getElem? (i := 291) (by decide +kernel), by decide +kernel⟩)
theorem k_RX5_26 (M : zM) (hM : M.1.cls = RX5) : zLK M 26 mX1_clear := Or.inl (by rw [hM]; exact List.mem_filter.mpr ⟨List.mem_of_getElem? (i := 295) (by decide +kernel), by decide +kernel⟩)
theorem k_RX1_18 (M : zM) (hM : M.1.cls = RX1) : zLK M 18 mX3_clear := Or.inl (by rw [hM]; exact List.mem_filter.mpr ⟨List.mem_of_getElem? (i := 299) (by decide +kernel), by decide +kernel⟩)
theorem k_RX5_45 (M : zM) (hM : M.1.cls = RX5) : zLK M 45 mX5_readRow := Or.inl (by rw [hM]; exact List.mem_filter.mpr ⟨List.mem_of_getElem? (i := 306) (by decide +kernel), by decide +kernel⟩)
theorem k_RX5_57 (M : zM) (hM : M.1.cls = RX5) : zLK M 57 mX5_signHere := Or.inl (by rw [hM]; exact List.mem_filter.mpr ⟨List.mem_of_getElem? (i := 310) (by decide +kernel), by decide +kernel⟩)
theorem k_RX5_61 (M : zM) (hM : M.1.cls = RX5) : zLK M 61 mX5_mayBegin := Or.inl (by rw [hM]; exact List.mem_filter.mpr ⟨List.mem_of_getElem? (i := 317) (by decide +kernel), by decide +kernel⟩)
theorem k_RX5_65 (M : zM) (hM : M.1.cls = RX5) : zLK M 65 mX5_numbersOf := Or.inl (by rw [hM]; exact List.mem_filter.mpr ⟨List.mem_of_getElem? (i := 321) (by decide +kernel), by decide +kernel⟩)
theorem k_RX5_48 (M : zM) (hM : M.1.cls = RX5) : zLK M 48 mX5_expect := Or.inl (by rw [hM]; exact List.mem_filter.mpr ⟨List.mem_of_getElem? (i := 324) (by decide +kernel), by decide +kernel⟩)
theorem k_RX5_69 (M : zM) (hM : M.1.cls = RX5) : zLK M 69 mX5_readNumber := Or.inl (by rw [hM]; exact List.mem_filter.mpr ⟨List.mem_of_getElem? (i := 328) (by decide +kernel), by decide +kernel⟩)
theorem k_RX5_84 (M : zM) (hM : M.1.cls = RX5) : zLK M 84 mX5_isAsSaid := Or.inl (by rw [hM]; exact List.mem_filter.mpr ⟨List.mem_of_getElem? (i := 333) (by decide +kernel), by decide +kernel⟩)
theorem k_RX6_170 (M : zM) (hM : M.1.cls = RX6) : zLK M 170 mX1_place := Or.inl (by rw [hM]; exact List.mem_filter.mpr ⟨List.mem_of_getElem? (i := 343) (by decide +kernel), by decide +kernel⟩)
theorem k_RX5_109 (M : zM) (hM : M.1.cls = RX5) : zLK M 109 mX3_lastWeight := Or.inl (by rw [hM]; exact List.mem_filter.mpr ⟨List.mem_of_getElem? (i := 347) (by decide +kernel), by decide +kernel⟩)
theorem k_RX5_118 (M : zM) (hM : M.1.cls = RX5) : zLK M 118 mX5_isExcludable := Or.inl (by rw [hM]; exact List.mem_filter.mpr ⟨List.mem_of_getElem? (i := 352) (by decide +kernel), by decide +kernel⟩)
theorem k_RX5_122 (M : zM) (hM : M.1.cls = RX5) : zLK M 122 mX3_excludes := Or.inl (by rw [hM]; exact List.mem_filter.mpr ⟨List.mem_of_getElem? (i := 356) (by decide +kernel), by decide +kernel⟩)
theorem k_RX5_73 (M : zM) (hM : M.1.cls = RX5) : zLK M 73 mX5_take := Or.inl (by rw [hM]; exact List.mem_filter.mpr ⟨List.mem_of_getElem? (i := 360) (by decide +kernel), by decide +kernel⟩)
theorem k_RX5_125 (M : zM) (hM : M.1.cls = RX5) : zLK M 125 mX5_begin := Or.inl (by rw [hM]; exact List.mem_filter.mpr ⟨List.mem_of_getElem? (i := 364) (by decide +kernel), by decide +kernel⟩)
theorem k_RX5_132 (M : zM) (hM : M.1.cls = RX5) : zLK M 132 mX1_place := Or.inl (by rw [hM]; exact List.mem_filter.mpr ⟨List.mem_of_getElem? (i := 368) (by decide +kernel), by decide +kernel⟩)
theorem k_RX5_128 (M : zM) (hM : M.1.cls = RX5) : zLK M 128 mX5_takeOf := Or.inl (by rw [hM]; exact List.mem_filter.mpr ⟨List.mem_of_getElem? (i := 369) (by decide +kernel), by decide +kernel⟩)
theorem k_RX5_140 (M : zM) (hM : M.1.cls = RX5) : zLK M 140 mX3_addStep := Or.inl (by rw [hM]; exact List.mem_filter.mpr ⟨List.mem_of_getElem? (i := 373) (by decide +kernel), by decide +kernel⟩)
theorem k_RX5_143 (M : zM) (hM : M.1.cls = RX5) : zLK M 143 mX3_exclude := Or.inl (by rw [hM]; exact List.mem_filter.mpr ⟨List.mem_of_getElem? (i := 378) (by decide +kernel), by decide +kernel⟩)
theorem k_RX6_67 (M : zM) (hM : M.1.cls = RX6) : zLK M 67 mX5_empty := Or.inl (by rw [hM]; exact List.mem_filter.mpr ⟨List.mem_of_getElem? (i := 382) (by decide +kernel), by decide +kernel⟩)
theorem k_RL_29 (M : zM) (hM : M.1.cls = RL) : zLK M 29 mX6_item := Or.inl (by rw [hM]; exact List.mem_filter.mpr ⟨List.mem_of_getElem? (i := 386) (by decide +kernel), by decide +kernel⟩)
theorem k_RX6_70 (M : zM) (hM : M.1.cls = RX6) : zLK M 70 mX6_isName := Or.inl (by rw [hM]; exact List.mem_filter.mpr ⟨List.mem_of_getElem? (i := 390) (by decide +kernel), by decide +kernel⟩)
theorem k_RX6_74 (M : zM) (hM : M.1.cls = RX6) : zLK M 74 mX6_isMeasure := Or.inl (by rw [hM]; exact List.mem_filter.mpr ⟨List.mem_of_getElem? (i := 391) (by decide +kernel), by decide +kernel⟩)
theorem k_RX6_81 (M : zM) (hM : M.1.cls = RX6) : zLK M 81 mX2_init := Or.inl (by rw [hM]; exact List.mem_filter.mpr ⟨List.mem_of_getElem? (i := 397) (by decide +kernel), by decide +kernel⟩)
theorem k_RX2_1 (M : zM) (hM : M.1.cls = RX2) : Cond.methodLink M.1.cls 1 objectInit ∈ zTB := by rw [hM]; exact List.mem_filter.mpr ⟨List.mem_of_getElem? (i := 400) (by decide +kernel), by decide +kernel⟩
theorem k_RL_34 (M : zM) (hM : M.1.cls = RL) : zLK M 34 mX6_service := Or.inl (by rw [hM]; exact List.mem_filter.mpr ⟨List.mem_of_getElem? (i := 427) (by decide +kernel), by decide +kernel⟩)
theorem k_RX6_84 (M : zM) (hM : M.1.cls = RX6) : zLK M 84 mX6_itemOf := Or.inl (by rw [hM]; exact List.mem_filter.mpr ⟨List.mem_of_getElem? (i := 431) (by decide +kernel), by decide +kernel⟩)
theorem k_RX6_92 (M : zM) (hM : M.1.cls = RX6) : zLK M 92 mJ6_bitCount_0f7a4 := Or.inl (by rw [hM]; exact List.mem_filter.mpr ⟨List.mem_of_getElem? (i := 436) (by decide +kernel), by decide +kernel⟩)
theorem k_RL_41 (M : zM) (hM : M.1.cls = RL) : zLK M 41 mX6_price := Or.inl (by rw [hM]; exact List.mem_filter.mpr ⟨List.mem_of_getElem? (i := 442) (by decide +kernel), by decide +kernel⟩)
theorem k_RX6_100 (M : zM) (hM : M.1.cls = RX6) : zLK M 100 mX6_pricingRefusal := Or.inl (by rw [hM]; exact List.mem_filter.mpr ⟨List.mem_of_getElem? (i := 447) (by decide +kernel), by decide +kernel⟩)
theorem k_RX6_104 (M : zM) (hM : M.1.cls = RX6) : zLK M 104 mX6_latest := Or.inl (by rw [hM]; exact List.mem_filter.mpr ⟨List.mem_of_getElem? (i := 452) (by decide +kernel), by decide +kernel⟩)
theorem k_RX6_111 (M : zM) (hM : M.1.cls = RX6) : zLK M 111 mX6_kindOf := Or.inl (by rw [hM]; exact List.mem_filter.mpr ⟨List.mem_of_getElem? (i := 457) (by decide +kernel), by decide +kernel⟩)
theorem k_RX6_115 (M : zM) (hM : M.1.cls = RX6) : zLK M 115 mX0_make := Or.inl (by rw [hM]; exact List.mem_filter.mpr ⟨List.mem_of_getElem? (i := 458) (by decide +kernel), by decide +kernel⟩)
theorem k_RX0_31 (M : zM) (hM : M.1.cls = RX0) : zLK M 31 mX3_takes := Or.inl (by rw [hM]; exact List.mem_filter.mpr ⟨List.mem_of_getElem? (i := 462) (by decide +kernel), by decide +kernel⟩)
theorem k_RX3_76 (M : zM) (hM : M.1.cls = RX3) : zLK M 76 mX3_takesServices := Or.inl (by rw [hM]; exact List.mem_filter.mpr ⟨List.mem_of_getElem? (i := 466) (by decide +kernel), by decide +kernel⟩)
theorem k_RX3_80 (M : zM) (hM : M.1.cls = RX3) : zLK M 80 mX2_has := Or.inl (by rw [hM]; exact List.mem_filter.mpr ⟨List.mem_of_getElem? (i := 470) (by decide +kernel), by decide +kernel⟩)
theorem k_RX0_37 (M : zM) (hM : M.1.cls = RX0) : zLK M 37 mX3_weightOf := Or.inl (by rw [hM]; exact List.mem_filter.mpr ⟨List.mem_of_getElem? (i := 474) (by decide +kernel), by decide +kernel⟩)
theorem tl_RX3_93 : Cond.methodLink RX3 93 yJ9_max_f86c9 ∈ zTB := List.mem_filter.mpr ⟨List.mem_of_getElem? (i := 481) (by decide +kernel), by decide +kernel⟩
theorem k_RX0_41 (M : zM) (hM : M.1.cls = RX0) : zLK M 41 mX3_stepFor := Or.inl (by rw [hM]; exact List.mem_filter.mpr ⟨List.mem_of_getElem? (i := 484) (by decide +kernel), by decide +kernel⟩)
theorem k_RX0_45 (M : zM) (hM : M.1.cls = RX0) : zLK M 45 mX0_addParts := Or.inl (by rw [hM]; exact List.mem_filter.mpr ⟨List.mem_of_getElem? (i := 488) (by decide +kernel), by decide +kernel⟩)
theorem k_RX0_56 (M : zM) (hM : M.1.cls = RX0) : zLK M 56 mX0_add := Or.inl (by rw [hM]; exact List.mem_filter.mpr ⟨List.mem_of_getElem? (i := 493) (by decide +kernel), by decide +kernel⟩)
theorem k_RX0_65 (M : zM) (hM : M.1.cls = RX0) : zLK M 65 mX2_has := Or.inl (by rw [hM]; exact List.mem_filter.mpr ⟨List.mem_of_getElem? (i := 499) (by decide +kernel), by decide +kernel⟩)
theorem k_RL_46 (M : zM) (hM : M.1.cls = RL) : zLK M 46 mX6_least := Or.inl (by rw [hM]; exact List.mem_filter.mpr ⟨List.mem_of_getElem? (i := 501) (by decide +kernel), by decide +kernel⟩)
theorem k_RL_51 (M : zM) (hM : M.1.cls = RL) : zLK M 51 mX6_explain := Or.inl (by rw [hM]; exact List.mem_filter.mpr ⟨List.mem_of_getElem? (i := 506) (by decide +kernel), by decide +kernel⟩)
theorem k_RX6_125 (M : zM) (hM : M.1.cls = RX6) : zLK M 125 mX0_tell := Or.inl (by rw [hM]; exact List.mem_filter.mpr ⟨List.mem_of_getElem? (i := 510) (by decide +kernel), by decide +kernel⟩)
theorem k_RL_64 (M : zM) (hM : M.1.cls = RL) : zLK M 64 mX6_compare := Or.inl (by rw [hM]; exact List.mem_filter.mpr ⟨List.mem_of_getElem? (i := 514) (by decide +kernel), by decide +kernel⟩)
theorem k_RX6_144 (M : zM) (hM : M.1.cls = RX6) : zLK M 144 mX6_arePrintedAlike := Or.inl (by rw [hM]; exact List.mem_filter.mpr ⟨List.mem_of_getElem? (i := 518) (by decide +kernel), by decide +kernel⟩)
theorem k_RX6_180 (M : zM) (hM : M.1.cls = RX6) : zLK M 180 mX3_hasSameStepsAs := Or.inl (by rw [hM]; exact List.mem_filter.mpr ⟨List.mem_of_getElem? (i := 521) (by decide +kernel), by decide +kernel⟩)
theorem k_RX6_184 (M : zM) (hM : M.1.cls = RX6) : zLK M 184 mX3_hasSameNamesAs := Or.inl (by rw [hM]; exact List.mem_filter.mpr ⟨List.mem_of_getElem? (i := 525) (by decide +kernel), by decide +kernel⟩)
theorem k_RX6_187 (M : zM) (hM : M.1.cls = RX6) : zLK M 187 mX3_hasSameLimitsAs := Or.inl (by rw [hM]; exact List.mem_filter.mpr ⟨List.mem_of_getElem? (i := 529) (by decide +kernel), by decide +kernel⟩)
theorem k_RL_69 (M : zM) (hM : M.1.cls = RL) : zLK M 69 mX6_print := Or.inl (by rw [hM]; exact List.mem_filter.mpr ⟨List.mem_of_getElem? (i := 533) (by decide +kernel), by decide +kernel⟩)
theorem k_RX6_149 (M : zM) (hM : M.1.cls = RX6) : zLK M 149 mX4_start := Or.inl (by rw [hM]; exact List.mem_filter.mpr ⟨List.mem_of_getElem? (i := 537) (by decide +kernel), by decide +kernel⟩)
theorem k_RX6_152 (M : zM) (hM : M.1.cls = RX6) : zLK M 152 mX4_addKind := Or.inl (by rw [hM]; exact List.mem_filter.mpr ⟨List.mem_of_getElem? (i := 541) (by decide +kernel), by decide +kernel⟩)
theorem k_RX4_19 (M : zM) (hM : M.1.cls = RX4) : zLK M 19 mX4_addRow := Or.inl (by rw [hM]; exact List.mem_filter.mpr ⟨List.mem_of_getElem? (i := 545) (by decide +kernel), by decide +kernel⟩)
theorem k_RX4_80 (M : zM) (hM : M.1.cls = RX4) : zLK M 80 mX4_addSign := Or.inl (by rw [hM]; exact List.mem_filter.mpr ⟨List.mem_of_getElem? (i := 549) (by decide +kernel), by decide +kernel⟩)
theorem k_RX4_84 (M : zM) (hM : M.1.cls = RX4) : zLK M 84 mX4_addNumber := Or.inl (by rw [hM]; exact List.mem_filter.mpr ⟨List.mem_of_getElem? (i := 554) (by decide +kernel), by decide +kernel⟩)
theorem k_RX4_41 (M : zM) (hM : M.1.cls = RX4) : zLK M 41 mX4_addNamed := Or.inl (by rw [hM]; exact List.mem_filter.mpr ⟨List.mem_of_getElem? (i := 559) (by decide +kernel), by decide +kernel⟩)
theorem k_RX4_48 (M : zM) (hM : M.1.cls = RX4) : zLK M 48 mX4_addExclusions := Or.inl (by rw [hM]; exact List.mem_filter.mpr ⟨List.mem_of_getElem? (i := 563) (by decide +kernel), by decide +kernel⟩)
theorem k_RX4_55 (M : zM) (hM : M.1.cls = RX4) : zLK M 55 mX3_excludes := Or.inl (by rw [hM]; exact List.mem_filter.mpr ⟨List.mem_of_getElem? (i := 567) (by decide +kernel), by decide +kernel⟩)
theorem k_RX4_52 (M : zM) (hM : M.1.cls = RX4) : zLK M 52 mX4_addLimits := Or.inl (by rw [hM]; exact List.mem_filter.mpr ⟨List.mem_of_getElem? (i := 568) (by decide +kernel), by decide +kernel⟩)
theorem k_RL_73 (M : zM) (hM : M.1.cls = RL) : zLK M 73 mX6_at := Or.inl (by rw [hM]; exact List.mem_filter.mpr ⟨List.mem_of_getElem? (i := 572) (by decide +kernel), by decide +kernel⟩)
theorem k_RX6_163 (M : zM) (hM : M.1.cls = RX6) : zLK M 163 mX6_cell := Or.inl (by rw [hM]; exact List.mem_filter.mpr ⟨List.mem_of_getElem? (i := 576) (by decide +kernel), by decide +kernel⟩)
theorem k_RL_7 (M : zM) (hM : M.1.cls = RL) : zLK M 7 mX6_dimensional := Or.inl (by rw [hM]; exact List.mem_filter.mpr ⟨List.mem_of_getElem? (i := 649) (by decide +kernel), by decide +kernel⟩)
theorem k_RX6_140 (M : zM) (hM : M.1.cls = RX6) : zLK M 140 mX6_dividedUp := Or.inl (by rw [hM]; exact List.mem_filter.mpr ⟨List.mem_of_getElem? (i := 658) (by decide +kernel), by decide +kernel⟩)
theorem k_RL_18 (M : zM) (hM : M.1.cls = RL) : zLK M 18 mX7_init := Or.inl (by rw [hM]; exact List.mem_filter.mpr ⟨List.mem_of_getElem? (i := 661) (by decide +kernel), by decide +kernel⟩)
theorem k_RX7_1 (M : zM) (hM : M.1.cls = RX7) : Cond.methodLink M.1.cls 1 objectInit ∈ zTB := by rw [hM]; exact List.mem_filter.mpr ⟨List.mem_of_getElem? (i := 664) (by decide +kernel), by decide +kernel⟩
theorem k_RL_61 (M : zM) (hM : M.1.cls = RL) : zLK M 61 mX7_thrown := Or.inl (by rw [hM]; exact List.mem_filter.mpr ⟨List.mem_of_getElem? (i := 761) (by decide +kernel), by decide +kernel⟩)
theorem k_RL_23 (M : zM) (hM : M.1.cls = RL) : zLK M 23 mX7_sign := Or.inl (by rw [hM]; exact List.mem_filter.mpr ⟨List.mem_of_getElem? (i := 765) (by decide +kernel), by decide +kernel⟩)
theorem k_RL_28 (M : zM) (hM : M.1.cls = RL) : zLK M 28 mX7_read := Or.inl (by rw [hM]; exact List.mem_filter.mpr ⟨List.mem_of_getElem? (i := 769) (by decide +kernel), by decide +kernel⟩)
theorem k_RX7_152 (M : zM) (hM : M.1.cls = RX7) : zLK M 152 mX7_readRow := Or.inl (by rw [hM]; exact List.mem_filter.mpr ⟨List.mem_of_getElem? (i := 773) (by decide +kernel), by decide +kernel⟩)
theorem k_RX7_88 (M : zM) (hM : M.1.cls = RX7) : zLK M 88 mX7_look := Or.inl (by rw [hM]; exact List.mem_filter.mpr ⟨List.mem_of_getElem? (i := 777) (by decide +kernel), by decide +kernel⟩)
theorem k_RX7_96 (M : zM) (hM : M.1.cls = RX7) : zLK M 96 mX7_must := Or.inl (by rw [hM]; exact List.mem_filter.mpr ⟨List.mem_of_getElem? (i := 781) (by decide +kernel), by decide +kernel⟩)
theorem k_RX7_135 (M : zM) (hM : M.1.cls = RX7) : zLK M 135 mX7_readKind := Or.inl (by rw [hM]; exact List.mem_filter.mpr ⟨List.mem_of_getElem? (i := 785) (by decide +kernel), by decide +kernel⟩)
theorem k_RX7_113 (M : zM) (hM : M.1.cls = RX7) : zLK M 113 mX7_count := Or.inl (by rw [hM]; exact List.mem_filter.mpr ⟨List.mem_of_getElem? (i := 789) (by decide +kernel), by decide +kernel⟩)
theorem k_RX7_110 (M : zM) (hM : M.1.cls = RX7) : zLK M 110 mX7_lastRow := Or.inl (by rw [hM]; exact List.mem_filter.mpr ⟨List.mem_of_getElem? (i := 793) (by decide +kernel), by decide +kernel⟩)
theorem k_RX7_104 (M : zM) (hM : M.1.cls = RX7) : zLK M 104 mX7_base := Or.inl (by rw [hM]; exact List.mem_filter.mpr ⟨List.mem_of_getElem? (i := 797) (by decide +kernel), by decide +kernel⟩)
theorem k_RX7_100 (M : zM) (hM : M.1.cls = RX7) : zLK M 100 mX7_number := Or.inl (by rw [hM]; exact List.mem_filter.mpr ⟨List.mem_of_getElem? (i := 801) (by decide +kernel), by decide +kernel⟩)
theorem k_RX7_92 (M : zM) (hM : M.1.cls = RX7) : zLK M 92 mX7_isDigit := Or.inl (by rw [hM]; exact List.mem_filter.mpr ⟨List.mem_of_getElem? (i := 805) (by decide +kernel), by decide +kernel⟩)
theorem k_RX7_117 (M : zM) (hM : M.1.cls = RX7) : zLK M 117 mX7_add := Or.inl (by rw [hM]; exact List.mem_filter.mpr ⟨List.mem_of_getElem? (i := 809) (by decide +kernel), by decide +kernel⟩)
theorem k_RX7_139 (M : zM) (hM : M.1.cls = RX7) : zLK M 139 mX7_readStep := Or.inl (by rw [hM]; exact List.mem_filter.mpr ⟨List.mem_of_getElem? (i := 813) (by decide +kernel), by decide +kernel⟩)
theorem k_RX7_121 (M : zM) (hM : M.1.cls = RX7) : zLK M 121 mX7_lastWeight := Or.inl (by rw [hM]; exact List.mem_filter.mpr ⟨List.mem_of_getElem? (i := 817) (by decide +kernel), by decide +kernel⟩)
theorem k_RX7_125 (M : zM) (hM : M.1.cls = RX7) : zLK M 125 mX7_next := Or.inl (by rw [hM]; exact List.mem_filter.mpr ⟨List.mem_of_getElem? (i := 822) (by decide +kernel), by decide +kernel⟩)
theorem k_RX7_142 (M : zM) (hM : M.1.cls = RX7) : zLK M 142 mX7_readOnceEach := Or.inl (by rw [hM]; exact List.mem_filter.mpr ⟨List.mem_of_getElem? (i := 826) (by decide +kernel), by decide +kernel⟩)
theorem k_RX7_128 (M : zM) (hM : M.1.cls = RX7) : zLK M 128 mX7_isThere := Or.inl (by rw [hM]; exact List.mem_filter.mpr ⟨List.mem_of_getElem? (i := 830) (by decide +kernel), by decide +kernel⟩)
theorem k_RX7_146 (M : zM) (hM : M.1.cls = RX7) : zLK M 146 mX7_readApart := Or.inl (by rw [hM]; exact List.mem_filter.mpr ⟨List.mem_of_getElem? (i := 834) (by decide +kernel), by decide +kernel⟩)
theorem k_RX7_132 (M : zM) (hM : M.1.cls = RX7) : zLK M 132 mX7_areApart := Or.inl (by rw [hM]; exact List.mem_filter.mpr ⟨List.mem_of_getElem? (i := 838) (by decide +kernel), by decide +kernel⟩)
theorem k_RX7_149 (M : zM) (hM : M.1.cls = RX7) : zLK M 149 mX7_readOnce := Or.inl (by rw [hM]; exact List.mem_filter.mpr ⟨List.mem_of_getElem? (i := 842) (by decide +kernel), by decide +kernel⟩)
theorem k_RL_33 (M : zM) (hM : M.1.cls = RL) : zLK M 33 mX7_item := Or.inl (by rw [hM]; exact List.mem_filter.mpr ⟨List.mem_of_getElem? (i := 847) (by decide +kernel), by decide +kernel⟩)
theorem k_RX7_161 (M : zM) (hM : M.1.cls = RX7) : zLK M 161 mX7_in := Or.inl (by rw [hM]; exact List.mem_filter.mpr ⟨List.mem_of_getElem? (i := 852) (by decide +kernel), by decide +kernel⟩)
theorem k_RL_38 (M : zM) (hM : M.1.cls = RL) : zLK M 38 mX7_service := Or.inl (by rw [hM]; exact List.mem_filter.mpr ⟨List.mem_of_getElem? (i := 857) (by decide +kernel), by decide +kernel⟩)
theorem k_RL_45 (M : zM) (hM : M.1.cls = RL) : zLK M 45 mX7_price := Or.inl (by rw [hM]; exact List.mem_filter.mpr ⟨List.mem_of_getElem? (i := 862) (by decide +kernel), by decide +kernel⟩)
theorem k_RX7_208 (M : zM) (hM : M.1.cls = RX7) : zLK M 208 mX7_refusal := Or.inl (by rw [hM]; exact List.mem_filter.mpr ⟨List.mem_of_getElem? (i := 866) (by decide +kernel), by decide +kernel⟩)
theorem k_RX7_212 (M : zM) (hM : M.1.cls = RX7) : zLK M 212 mX7_reckon := Or.inl (by rw [hM]; exact List.mem_filter.mpr ⟨List.mem_of_getElem? (i := 872) (by decide +kernel), by decide +kernel⟩)
theorem k_RX7_187 (M : zM) (hM : M.1.cls = RX7) : zLK M 187 mX7_kindRow := Or.inl (by rw [hM]; exact List.mem_filter.mpr ⟨List.mem_of_getElem? (i := 876) (by decide +kernel), by decide +kernel⟩)
theorem k_RX7_192 (M : zM) (hM : M.1.cls = RX7) : zLK M 192 mX7_kindEnd := Or.inl (by rw [hM]; exact List.mem_filter.mpr ⟨List.mem_of_getElem? (i := 881) (by decide +kernel), by decide +kernel⟩)
theorem k_RX7_195 (M : zM) (hM : M.1.cls = RX7) : zLK M 195 mX7_mayGo := Or.inl (by rw [hM]; exact List.mem_filter.mpr ⟨List.mem_of_getElem? (i := 885) (by decide +kernel), by decide +kernel⟩)
theorem k_RX7_179 (M : zM) (hM : M.1.cls = RX7) : zLK M 179 mX7_onlyRow := Or.inl (by rw [hM]; exact List.mem_filter.mpr ⟨List.mem_of_getElem? (i := 889) (by decide +kernel), by decide +kernel⟩)
theorem k_RX7_175 (M : zM) (hM : M.1.cls = RX7) : zLK M 175 mX7_rowOf := Or.inl (by rw [hM]; exact List.mem_filter.mpr ⟨List.mem_of_getElem? (i := 893) (by decide +kernel), by decide +kernel⟩)
theorem k_RX7_183 (M : zM) (hM : M.1.cls = RX7) : zLK M 183 mX7_mayServe := Or.inl (by rw [hM]; exact List.mem_filter.mpr ⟨List.mem_of_getElem? (i := 897) (by decide +kernel), by decide +kernel⟩)
theorem k_RX7_199 (M : zM) (hM : M.1.cls = RX7) : zLK M 199 mX7_part := Or.inl (by rw [hM]; exact List.mem_filter.mpr ⟨List.mem_of_getElem? (i := 901) (by decide +kernel), by decide +kernel⟩)
theorem k_RL_50 (M : zM) (hM : M.1.cls = RL) : zLK M 50 mX7_least := Or.inl (by rw [hM]; exact List.mem_filter.mpr ⟨List.mem_of_getElem? (i := 906) (by decide +kernel), by decide +kernel⟩)
theorem k_RL_54 (M : zM) (hM : M.1.cls = RL) : zLK M 54 mX7_explain := Or.inl (by rw [hM]; exact List.mem_filter.mpr ⟨List.mem_of_getElem? (i := 910) (by decide +kernel), by decide +kernel⟩)
theorem k_RL_60 (M : zM) (hM : M.1.cls = RL) : zLK M 60 mX7_dimensional := Or.inl (by rw [hM]; exact List.mem_filter.mpr ⟨List.mem_of_getElem? (i := 914) (by decide +kernel), by decide +kernel⟩)
theorem k_RL_68 (M : zM) (hM : M.1.cls = RL) : zLK M 68 mX7_compare := Or.inl (by rw [hM]; exact List.mem_filter.mpr ⟨List.mem_of_getElem? (i := 920) (by decide +kernel), by decide +kernel⟩)
theorem k_RX7_240 (M : zM) (hM : M.1.cls = RX7) : zLK M 240 mX7_putKind := Or.inl (by rw [hM]; exact List.mem_filter.mpr ⟨List.mem_of_getElem? (i := 924) (by decide +kernel), by decide +kernel⟩)
theorem k_RX7_223 (M : zM) (hM : M.1.cls = RX7) : zLK M 223 mX7_put := Or.inl (by rw [hM]; exact List.mem_filter.mpr ⟨List.mem_of_getElem? (i := 928) (by decide +kernel), by decide +kernel⟩)
theorem k_RX7_226 (M : zM) (hM : M.1.cls = RX7) : zLK M 226 mX7_putNumber := Or.inl (by rw [hM]; exact List.mem_filter.mpr ⟨List.mem_of_getElem? (i := 932) (by decide +kernel), by decide +kernel⟩)
theorem k_RX7_229 (M : zM) (hM : M.1.cls = RX7) : zLK M 229 mX7_putRow := Or.inl (by rw [hM]; exact List.mem_filter.mpr ⟨List.mem_of_getElem? (i := 936) (by decide +kernel), by decide +kernel⟩)
theorem k_RX7_233 (M : zM) (hM : M.1.cls = RX7) : zLK M 233 mX7_putEach := Or.inl (by rw [hM]; exact List.mem_filter.mpr ⟨List.mem_of_getElem? (i := 940) (by decide +kernel), by decide +kernel⟩)
theorem k_RX7_237 (M : zM) (hM : M.1.cls = RX7) : zLK M 237 mX7_putOnly := Or.inl (by rw [hM]; exact List.mem_filter.mpr ⟨List.mem_of_getElem? (i := 944) (by decide +kernel), by decide +kernel⟩)
theorem k_RL_72 (M : zM) (hM : M.1.cls = RL) : zLK M 72 mX7_print := Or.inl (by rw [hM]; exact List.mem_filter.mpr ⟨List.mem_of_getElem? (i := 948) (by decide +kernel), by decide +kernel⟩)
theorem k_RL_76 (M : zM) (hM : M.1.cls = RL) : zLK M 76 mX7_at := Or.inl (by rw [hM]; exact List.mem_filter.mpr ⟨List.mem_of_getElem? (i := 952) (by decide +kernel), by decide +kernel⟩)
theorem k_RX6_11 (M : zM) (hM : M.1.cls = RX6) : zLK M 11 mX5_init := Or.inr ⟨"PostTariff", by rw [hM]; exact List.mem_filter.mpr ⟨List.mem_of_getElem? (i := 82) (by decide +kernel), rfl⟩⟩
theorem k_RX6_18 (M : zM) (hM : M.1.cls = RX6) : zLK M 18 mX4_init := Or.inr ⟨"PostTariff", by rw [hM]; exact List.mem_filter.mpr ⟨List.mem_of_getElem? (i := 111) (by decide +kernel), rfl⟩⟩
theorem k_RX6_25 (M : zM) (hM : M.1.cls = RX6) : zLK M 25 mX0_init := Or.inr ⟨"PostTariff", by rw [hM]; exact List.mem_filter.mpr ⟨List.mem_of_getElem? (i := 126) (by decide +kernel), rfl⟩⟩
theorem k_RX1_17 (M : zM) (hM : M.1.cls = RX1) : zLK M 17 mX3_init := Or.inr ⟨"PostTariff", by rw [hM]; exact List.mem_filter.mpr ⟨List.mem_of_getElem? (i := 160) (by decide +kernel), rfl⟩⟩
theorem k_RX5_22 (M : zM) (hM : M.1.cls = RX5) : zLK M 22 mX6_put := Or.inr ⟨"PostTariff", by rw [hM]; exact List.mem_filter.mpr ⟨List.mem_of_getElem? (i := 279) (by decide +kernel), rfl⟩⟩
theorem k_RX3_35 (M : zM) (hM : M.1.cls = RX3) : zLK M 35 mX6_fill := Or.inr ⟨"PostTariff", by rw [hM]; exact List.mem_filter.mpr ⟨List.mem_of_getElem? (i := 303) (by decide +kernel), rfl⟩⟩
theorem k_RX5_76 (M : zM) (hM : M.1.cls = RX5) : zLK M 76 mX6_cell := Or.inr ⟨"PostTariff", by rw [hM]; exact List.mem_filter.mpr ⟨List.mem_of_getElem? (i := 314) (by decide +kernel), rfl⟩⟩
theorem k_RX5_80 (M : zM) (hM : M.1.cls = RX5) : zLK M 80 mX6_isWithin := Or.inr ⟨"PostTariff", by rw [hM]; exact List.mem_filter.mpr ⟨List.mem_of_getElem? (i := 332) (by decide +kernel), rfl⟩⟩
theorem k_RX5_102 (M : zM) (hM : M.1.cls = RX5) : zLK M 102 mX6_isName := Or.inr ⟨"PostTariff", by rw [hM]; exact List.mem_filter.mpr ⟨List.mem_of_getElem? (i := 337) (by decide +kernel), rfl⟩⟩
theorem k_RX5_105 (M : zM) (hM : M.1.cls = RX5) : zLK M 105 mX6_kindOf := Or.inr ⟨"PostTariff", by rw [hM]; exact List.mem_filter.mpr ⟨List.mem_of_getElem? (i := 340) (by decide +kernel), rfl⟩⟩
theorem k_RX3_67 (M : zM) (hM : M.1.cls = RX3) : zLK M 67 mX6_cell := Or.inr ⟨"PostTariff", by rw [hM]; exact List.mem_filter.mpr ⟨List.mem_of_getElem? (i := 351) (by decide +kernel), rfl⟩⟩
theorem k_RX3_63 (M : zM) (hM : M.1.cls = RX3) : zLK M 63 mX6_put := Or.inr ⟨"PostTariff", by rw [hM]; exact List.mem_filter.mpr ⟨List.mem_of_getElem? (i := 377) (by decide +kernel), rfl⟩⟩
theorem k_RX3_89 (M : zM) (hM : M.1.cls = RX3) : zLK M 89 mX6_dividedUp := Or.inr ⟨"PostTariff", by rw [hM]; exact List.mem_filter.mpr ⟨List.mem_of_getElem? (i := 478) (by decide +kernel), rfl⟩⟩
theorem k_RX0_52 (M : zM) (hM : M.1.cls = RX0) : zLK M 52 mX6_cell := Or.inr ⟨"PostTariff", by rw [hM]; exact List.mem_filter.mpr ⟨List.mem_of_getElem? (i := 492) (by decide +kernel), rfl⟩⟩
theorem k_RX0_81 (M : zM) (hM : M.1.cls = RX0) : zLK M 81 mX6_put := Or.inr ⟨"PostTariff", by rw [hM]; exact List.mem_filter.mpr ⟨List.mem_of_getElem? (i := 497) (by decide +kernel), rfl⟩⟩
theorem k_RX0_77 (M : zM) (hM : M.1.cls = RX0) : zLK M 77 mX6_dividedUp := Or.inr ⟨"PostTariff", by rw [hM]; exact List.mem_filter.mpr ⟨List.mem_of_getElem? (i := 500) (by decide +kernel), rfl⟩⟩
theorem k_RX4_87 (M : zM) (hM : M.1.cls = RX4) : zLK M 87 mX6_put := Or.inr ⟨"PostTariff", by rw [hM]; exact List.mem_filter.mpr ⟨List.mem_of_getElem? (i := 553) (by decide +kernel), rfl⟩⟩
theorem k_RX4_31 (M : zM) (hM : M.1.cls = RX4) : zLK M 31 mX6_cell := Or.inr ⟨"PostTariff", by rw [hM]; exact List.mem_filter.mpr ⟨List.mem_of_getElem? (i := 558) (by decide +kernel), rfl⟩⟩
theorem f_RX5_9 : zFL RX5 9 5 0 2 true := ⟨(RX5, TX5, 7), rfl, by decide, by decide, List.mem_filter.mpr ⟨List.mem_of_getElem? (i := 86) (by decide +kernel), by decide +kernel⟩, iX5, rfl, rfl, rfl⟩
theorem f_RX5_18 : zFL RX5 18 5 1 0 false := ⟨(RX5, TX5, 7), rfl, by decide, by decide, List.mem_filter.mpr ⟨List.mem_of_getElem? (i := 87) (by decide +kernel), by decide +kernel⟩, iX5, rfl, rfl, rfl⟩
theorem f_RX5_39 : zFL RX5 39 5 2 0 false := ⟨(RX5, TX5, 7), rfl, by decide, by decide, List.mem_filter.mpr ⟨List.mem_of_getElem? (i := 88) (by decide +kernel), by decide +kernel⟩, iX5, rfl, rfl, rfl⟩
theorem f_RX5_42 : zFL RX5 42 5 3 0 false := ⟨(RX5, TX5, 7), rfl, by decide, by decide, List.mem_filter.mpr ⟨List.mem_of_getElem? (i := 89) (by decide +kernel), by decide +kernel⟩, iX5, rfl, rfl, rfl⟩
theorem f_RX5_31 : zFL RX5 31 5 4 2 false := ⟨(RX5, TX5, 7), rfl, by decide, by decide, List.mem_filter.mpr ⟨List.mem_of_getElem? (i := 90) (by decide +kernel), by decide +kernel⟩, iX5, rfl, rfl, rfl⟩
theorem f_RX5_35 : zFL RX5 35 5 5 2 false := ⟨(RX5, TX5, 7), rfl, by decide, by decide, List.mem_filter.mpr ⟨List.mem_of_getElem? (i := 91) (by decide +kernel), by decide +kernel⟩, iX5, rfl, rfl, rfl⟩
theorem f_RX5_15 : zFL RX5 15 5 6 2 true := ⟨(RX5, TX5, 7), rfl, by decide, by decide, List.mem_filter.mpr ⟨List.mem_of_getElem? (i := 92) (by decide +kernel), by decide +kernel⟩, iX5, rfl, rfl, rfl⟩
theorem f_RX4_9 : zFL RX4 9 4 0 2 true := ⟨(RX4, TX4, 2), rfl, by decide, by decide, List.mem_filter.mpr ⟨List.mem_of_getElem? (i := 115) (by decide +kernel), by decide +kernel⟩, iX4, rfl, rfl, rfl⟩
theorem f_RX6_159 : zFL RX6 159 4 0 2 true := ⟨(RX4, TX4, 2), rfl, by decide, by decide, List.mem_filter.mpr ⟨List.mem_of_getElem? (i := 116) (by decide +kernel), by decide +kernel⟩, iX4, rfl, rfl, rfl⟩
theorem f_RX4_15 : zFL RX4 15 4 1 0 false := ⟨(RX4, TX4, 2), rfl, by decide, by decide, List.mem_filter.mpr ⟨List.mem_of_getElem? (i := 117) (by decide +kernel), by decide +kernel⟩, iX4, rfl, rfl, rfl⟩
theorem f_RX6_156 : zFL RX6 156 4 1 0 false := ⟨(RX4, TX4, 2), rfl, by decide, by decide, List.mem_filter.mpr ⟨List.mem_of_getElem? (i := 118) (by decide +kernel), by decide +kernel⟩, iX4, rfl, rfl, rfl⟩
theorem f_RX0_9 : zFL RX0 9 0 0 2 true := ⟨(RX0, TX0, 5), rfl, by decide, by decide, List.mem_filter.mpr ⟨List.mem_of_getElem? (i := 131) (by decide +kernel), by decide +kernel⟩, iX0, rfl, rfl, rfl⟩
theorem f_RX0_15 : zFL RX0 15 0 1 2 true := ⟨(RX0, TX0, 5), rfl, by decide, by decide, List.mem_filter.mpr ⟨List.mem_of_getElem? (i := 132) (by decide +kernel), by decide +kernel⟩, iX0, rfl, rfl, rfl⟩
theorem f_RX0_18 : zFL RX0 18 0 2 2 true := ⟨(RX0, TX0, 5), rfl, by decide, by decide, List.mem_filter.mpr ⟨List.mem_of_getElem? (i := 133) (by decide +kernel), by decide +kernel⟩, iX0, rfl, rfl, rfl⟩
theorem f_RX0_27 : zFL RX0 27 0 3 0 false := ⟨(RX0, TX0, 5), rfl, by decide, by decide, List.mem_filter.mpr ⟨List.mem_of_getElem? (i := 134) (by decide +kernel), by decide +kernel⟩, iX0, rfl, rfl, rfl⟩
theorem f_RX0_23 : zFL RX0 23 0 4 1 false := ⟨(RX0, TX0, 5), rfl, by decide, by decide, List.mem_filter.mpr ⟨List.mem_of_getElem? (i := 135) (by decide +kernel), by decide +kernel⟩, iX0, rfl, rfl, rfl⟩
theorem f_RX6_119 : zFL RX6 119 0 4 1 false := ⟨(RX0, TX0, 5), rfl, by decide, by decide, List.mem_filter.mpr ⟨List.mem_of_getElem? (i := 136) (by decide +kernel), by decide +kernel⟩, iX0, rfl, rfl, rfl⟩
theorem f_RX3_27 : zFL RX3 27 3 0 0 false := ⟨(RX3, TX3, 15), rfl, by decide, by decide, List.mem_filter.mpr ⟨List.mem_of_getElem? (i := 164) (by decide +kernel), by decide +kernel⟩, iX3, rfl, rfl, rfl⟩
theorem f_RX5_136 : zFL RX5 136 3 0 0 false := ⟨(RX3, TX3, 15), rfl, by decide, by decide, List.mem_filter.mpr ⟨List.mem_of_getElem? (i := 165) (by decide +kernel), by decide +kernel⟩, iX3, rfl, rfl, rfl⟩
theorem f_RX6_174 : zFL RX6 174 3 0 0 false := ⟨(RX3, TX3, 15), rfl, by decide, by decide, List.mem_filter.mpr ⟨List.mem_of_getElem? (i := 166) (by decide +kernel), by decide +kernel⟩, iX3, rfl, rfl, rfl⟩
theorem f_RX3_31 : zFL RX3 31 3 1 0 false := ⟨(RX3, TX3, 15), rfl, by decide, by decide, List.mem_filter.mpr ⟨List.mem_of_getElem? (i := 167) (by decide +kernel), by decide +kernel⟩, iX3, rfl, rfl, rfl⟩
theorem f_RX4_23 : zFL RX4 23 3 1 0 false := ⟨(RX3, TX3, 15), rfl, by decide, by decide, List.mem_filter.mpr ⟨List.mem_of_getElem? (i := 168) (by decide +kernel), by decide +kernel⟩, iX3, rfl, rfl, rfl⟩
theorem f_RX5_52 : zFL RX5 52 3 1 0 false := ⟨(RX3, TX3, 15), rfl, by decide, by decide, List.mem_filter.mpr ⟨List.mem_of_getElem? (i := 169) (by decide +kernel), by decide +kernel⟩, iX3, rfl, rfl, rfl⟩
theorem f_RX3_9 : zFL RX3 9 3 2 2 true := ⟨(RX3, TX3, 15), rfl, by decide, by decide, List.mem_filter.mpr ⟨List.mem_of_getElem? (i := 170) (by decide +kernel), by decide +kernel⟩, iX3, rfl, rfl, rfl⟩
theorem f_RX4_28 : zFL RX4 28 3 2 2 true := ⟨(RX3, TX3, 15), rfl, by decide, by decide, List.mem_filter.mpr ⟨List.mem_of_getElem? (i := 171) (by decide +kernel), by decide +kernel⟩, iX3, rfl, rfl, rfl⟩
theorem f_RX3_15 : zFL RX3 15 3 3 2 true := ⟨(RX3, TX3, 15), rfl, by decide, by decide, List.mem_filter.mpr ⟨List.mem_of_getElem? (i := 172) (by decide +kernel), by decide +kernel⟩, iX3, rfl, rfl, rfl⟩
theorem f_RX0_49 : zFL RX0 49 3 3 2 true := ⟨(RX3, TX3, 15), rfl, by decide, by decide, List.mem_filter.mpr ⟨List.mem_of_getElem? (i := 173) (by decide +kernel), by decide +kernel⟩, iX3, rfl, rfl, rfl⟩
theorem f_RX4_35 : zFL RX4 35 3 3 2 true := ⟨(RX3, TX3, 15), rfl, by decide, by decide, List.mem_filter.mpr ⟨List.mem_of_getElem? (i := 174) (by decide +kernel), by decide +kernel⟩, iX3, rfl, rfl, rfl⟩
theorem f_RX3_18 : zFL RX3 18 3 4 2 true := ⟨(RX3, TX3, 15), rfl, by decide, by decide, List.mem_filter.mpr ⟨List.mem_of_getElem? (i := 175) (by decide +kernel), by decide +kernel⟩, iX3, rfl, rfl, rfl⟩
theorem f_RX0_60 : zFL RX0 60 3 4 2 true := ⟨(RX3, TX3, 15), rfl, by decide, by decide, List.mem_filter.mpr ⟨List.mem_of_getElem? (i := 176) (by decide +kernel), by decide +kernel⟩, iX3, rfl, rfl, rfl⟩
theorem f_RX4_38 : zFL RX4 38 3 4 2 true := ⟨(RX3, TX3, 15), rfl, by decide, by decide, List.mem_filter.mpr ⟨List.mem_of_getElem? (i := 177) (by decide +kernel), by decide +kernel⟩, iX3, rfl, rfl, rfl⟩
theorem f_RX5_112 : zFL RX5 112 3 4 2 true := ⟨(RX3, TX3, 15), rfl, by decide, by decide, List.mem_filter.mpr ⟨List.mem_of_getElem? (i := 178) (by decide +kernel), by decide +kernel⟩, iX3, rfl, rfl, rfl⟩
theorem f_RX3_21 : zFL RX3 21 3 5 2 true := ⟨(RX3, TX3, 15), rfl, by decide, by decide, List.mem_filter.mpr ⟨List.mem_of_getElem? (i := 179) (by decide +kernel), by decide +kernel⟩, iX3, rfl, rfl, rfl⟩
theorem f_RX0_71 : zFL RX0 71 3 5 2 true := ⟨(RX3, TX3, 15), rfl, by decide, by decide, List.mem_filter.mpr ⟨List.mem_of_getElem? (i := 180) (by decide +kernel), by decide +kernel⟩, iX3, rfl, rfl, rfl⟩
theorem f_RX4_45 : zFL RX4 45 3 5 2 true := ⟨(RX3, TX3, 15), rfl, by decide, by decide, List.mem_filter.mpr ⟨List.mem_of_getElem? (i := 181) (by decide +kernel), by decide +kernel⟩, iX3, rfl, rfl, rfl⟩
theorem f_RX5_115 : zFL RX5 115 3 5 2 true := ⟨(RX3, TX3, 15), rfl, by decide, by decide, List.mem_filter.mpr ⟨List.mem_of_getElem? (i := 182) (by decide +kernel), by decide +kernel⟩, iX3, rfl, rfl, rfl⟩
theorem f_RX3_24 : zFL RX3 24 3 6 2 true := ⟨(RX3, TX3, 15), rfl, by decide, by decide, List.mem_filter.mpr ⟨List.mem_of_getElem? (i := 183) (by decide +kernel), by decide +kernel⟩, iX3, rfl, rfl, rfl⟩
theorem f_RX3_39 : zFL RX3 39 3 7 0 false := ⟨(RX3, TX3, 15), rfl, by decide, by decide, List.mem_filter.mpr ⟨List.mem_of_getElem? (i := 184) (by decide +kernel), by decide +kernel⟩, iX3, rfl, rfl, rfl⟩
theorem f_RX5_87 : zFL RX5 87 3 7 0 false := ⟨(RX3, TX3, 15), rfl, by decide, by decide, List.mem_filter.mpr ⟨List.mem_of_getElem? (i := 185) (by decide +kernel), by decide +kernel⟩, iX3, rfl, rfl, rfl⟩
theorem f_RX3_42 : zFL RX3 42 3 8 0 false := ⟨(RX3, TX3, 15), rfl, by decide, by decide, List.mem_filter.mpr ⟨List.mem_of_getElem? (i := 186) (by decide +kernel), by decide +kernel⟩, iX3, rfl, rfl, rfl⟩
theorem f_RX4_59 : zFL RX4 59 3 8 0 false := ⟨(RX3, TX3, 15), rfl, by decide, by decide, List.mem_filter.mpr ⟨List.mem_of_getElem? (i := 187) (by decide +kernel), by decide +kernel⟩, iX3, rfl, rfl, rfl⟩
theorem f_RX5_90 : zFL RX5 90 3 8 0 false := ⟨(RX3, TX3, 15), rfl, by decide, by decide, List.mem_filter.mpr ⟨List.mem_of_getElem? (i := 188) (by decide +kernel), by decide +kernel⟩, iX3, rfl, rfl, rfl⟩
theorem f_RX3_45 : zFL RX3 45 3 9 0 false := ⟨(RX3, TX3, 15), rfl, by decide, by decide, List.mem_filter.mpr ⟨List.mem_of_getElem? (i := 189) (by decide +kernel), by decide +kernel⟩, iX3, rfl, rfl, rfl⟩
theorem f_RX4_62 : zFL RX4 62 3 9 0 false := ⟨(RX3, TX3, 15), rfl, by decide, by decide, List.mem_filter.mpr ⟨List.mem_of_getElem? (i := 190) (by decide +kernel), by decide +kernel⟩, iX3, rfl, rfl, rfl⟩
theorem f_RX5_146 : zFL RX5 146 3 9 0 false := ⟨(RX3, TX3, 15), rfl, by decide, by decide, List.mem_filter.mpr ⟨List.mem_of_getElem? (i := 191) (by decide +kernel), by decide +kernel⟩, iX3, rfl, rfl, rfl⟩
theorem f_RX3_48 : zFL RX3 48 3 10 0 false := ⟨(RX3, TX3, 15), rfl, by decide, by decide, List.mem_filter.mpr ⟨List.mem_of_getElem? (i := 192) (by decide +kernel), by decide +kernel⟩, iX3, rfl, rfl, rfl⟩
theorem f_RX4_65 : zFL RX4 65 3 10 0 false := ⟨(RX3, TX3, 15), rfl, by decide, by decide, List.mem_filter.mpr ⟨List.mem_of_getElem? (i := 193) (by decide +kernel), by decide +kernel⟩, iX3, rfl, rfl, rfl⟩
theorem f_RX5_149 : zFL RX5 149 3 10 0 false := ⟨(RX3, TX3, 15), rfl, by decide, by decide, List.mem_filter.mpr ⟨List.mem_of_getElem? (i := 194) (by decide +kernel), by decide +kernel⟩, iX3, rfl, rfl, rfl⟩
theorem f_RX3_51 : zFL RX3 51 3 11 0 false := ⟨(RX3, TX3, 15), rfl, by decide, by decide, List.mem_filter.mpr ⟨List.mem_of_getElem? (i := 195) (by decide +kernel), by decide +kernel⟩, iX3, rfl, rfl, rfl⟩
theorem f_RX4_68 : zFL RX4 68 3 11 0 false := ⟨(RX3, TX3, 15), rfl, by decide, by decide, List.mem_filter.mpr ⟨List.mem_of_getElem? (i := 196) (by decide +kernel), by decide +kernel⟩, iX3, rfl, rfl, rfl⟩
theorem f_RX5_93 : zFL RX5 93 3 11 0 false := ⟨(RX3, TX3, 15), rfl, by decide, by decide, List.mem_filter.mpr ⟨List.mem_of_getElem? (i := 197) (by decide +kernel), by decide +kernel⟩, iX3, rfl, rfl, rfl⟩
theorem f_RX3_54 : zFL RX3 54 3 12 0 false := ⟨(RX3, TX3, 15), rfl, by decide, by decide, List.mem_filter.mpr ⟨List.mem_of_getElem? (i := 198) (by decide +kernel), by decide +kernel⟩, iX3, rfl, rfl, rfl⟩
theorem f_RX4_71 : zFL RX4 71 3 12 0 false := ⟨(RX3, TX3, 15), rfl, by decide, by decide, List.mem_filter.mpr ⟨List.mem_of_getElem? (i := 199) (by decide +kernel), by decide +kernel⟩, iX3, rfl, rfl, rfl⟩
theorem f_RX5_96 : zFL RX5 96 3 12 0 false := ⟨(RX3, TX3, 15), rfl, by decide, by decide, List.mem_filter.mpr ⟨List.mem_of_getElem? (i := 200) (by decide +kernel), by decide +kernel⟩, iX3, rfl, rfl, rfl⟩
theorem f_RX3_57 : zFL RX3 57 3 13 0 false := ⟨(RX3, TX3, 15), rfl, by decide, by decide, List.mem_filter.mpr ⟨List.mem_of_getElem? (i := 201) (by decide +kernel), by decide +kernel⟩, iX3, rfl, rfl, rfl⟩
theorem f_RX4_74 : zFL RX4 74 3 13 0 false := ⟨(RX3, TX3, 15), rfl, by decide, by decide, List.mem_filter.mpr ⟨List.mem_of_getElem? (i := 202) (by decide +kernel), by decide +kernel⟩, iX3, rfl, rfl, rfl⟩
theorem f_RX5_152 : zFL RX5 152 3 13 0 false := ⟨(RX3, TX3, 15), rfl, by decide, by decide, List.mem_filter.mpr ⟨List.mem_of_getElem? (i := 203) (by decide +kernel), by decide +kernel⟩, iX3, rfl, rfl, rfl⟩
theorem f_RX3_60 : zFL RX3 60 3 14 0 false := ⟨(RX3, TX3, 15), rfl, by decide, by decide, List.mem_filter.mpr ⟨List.mem_of_getElem? (i := 204) (by decide +kernel), by decide +kernel⟩, iX3, rfl, rfl, rfl⟩
theorem f_RX0_74 : zFL RX0 74 3 14 0 false := ⟨(RX3, TX3, 15), rfl, by decide, by decide, List.mem_filter.mpr ⟨List.mem_of_getElem? (i := 205) (by decide +kernel), by decide +kernel⟩, iX3, rfl, rfl, rfl⟩
theorem f_RX4_77 : zFL RX4 77 3 14 0 false := ⟨(RX3, TX3, 15), rfl, by decide, by decide, List.mem_filter.mpr ⟨List.mem_of_getElem? (i := 206) (by decide +kernel), by decide +kernel⟩, iX3, rfl, rfl, rfl⟩
theorem f_RX5_99 : zFL RX5 99 3 14 0 false := ⟨(RX3, TX3, 15), rfl, by decide, by decide, List.mem_filter.mpr ⟨List.mem_of_getElem? (i := 207) (by decide +kernel), by decide +kernel⟩, iX3, rfl, rfl, rfl⟩
theorem f_RX1_11 : zFL RX1 11 1 0 2 true := ⟨(RX1, TX1, 1), rfl, by decide, by decide, List.mem_filter.mpr ⟨List.mem_of_getElem? (i := 239) (by decide +kernel), by decide +kernel⟩, iX1, rfl, rfl, rfl⟩
theorem f_RX6_12 : zFL RX6 12 6 0 2 true := ⟨(RX6, TX6, 8), rfl, by decide, by decide, List.mem_filter.mpr ⟨List.mem_of_getElem? (i := 243) (by decide +kernel), by decide +kernel⟩, iX6, rfl, rfl, rfl⟩
theorem f_RX6_19 : zFL RX6 19 6 1 2 true := ⟨(RX6, TX6, 8), rfl, by decide, by decide, List.mem_filter.mpr ⟨List.mem_of_getElem? (i := 244) (by decide +kernel), by decide +kernel⟩, iX6, rfl, rfl, rfl⟩
theorem f_RX6_26 : zFL RX6 26 6 2 2 true := ⟨(RX6, TX6, 8), rfl, by decide, by decide, List.mem_filter.mpr ⟨List.mem_of_getElem? (i := 245) (by decide +kernel), by decide +kernel⟩, iX6, rfl, rfl, rfl⟩
theorem f_RX6_30 : zFL RX6 30 6 3 2 true := ⟨(RX6, TX6, 8), rfl, by decide, by decide, List.mem_filter.mpr ⟨List.mem_of_getElem? (i := 246) (by decide +kernel), by decide +kernel⟩, iX6, rfl, rfl, rfl⟩
theorem f_RX6_35 : zFL RX6 35 6 4 2 true := ⟨(RX6, TX6, 8), rfl, by decide, by decide, List.mem_filter.mpr ⟨List.mem_of_getElem? (i := 247) (by decide +kernel), by decide +kernel⟩, iX6, rfl, rfl, rfl⟩
theorem f_RX6_78 : zFL RX6 78 6 5 0 false := ⟨(RX6, TX6, 8), rfl, by decide, by decide, List.mem_filter.mpr ⟨List.mem_of_getElem? (i := 248) (by decide +kernel), by decide +kernel⟩, iX6, rfl, rfl, rfl⟩
theorem f_RX6_41 : zFL RX6 41 6 6 2 true := ⟨(RX6, TX6, 8), rfl, by decide, by decide, List.mem_filter.mpr ⟨List.mem_of_getElem? (i := 249) (by decide +kernel), by decide +kernel⟩, iX6, rfl, rfl, rfl⟩
theorem f_RX6_54 : zFL RX6 54 6 7 0 false := ⟨(RX6, TX6, 8), rfl, by decide, by decide, List.mem_filter.mpr ⟨List.mem_of_getElem? (i := 250) (by decide +kernel), by decide +kernel⟩, iX6, rfl, rfl, rfl⟩
theorem f_RX2_7 : zFL RX2 7 2 0 0 true := ⟨(RX2, TX2, 6), rfl, by decide, by decide, List.mem_filter.mpr ⟨List.mem_of_getElem? (i := 401) (by decide +kernel), by decide +kernel⟩, iX2, rfl, rfl, rfl⟩
theorem f_RX6_108 : zFL RX6 108 2 0 0 true := ⟨(RX2, TX2, 6), rfl, by decide, by decide, List.mem_filter.mpr ⟨List.mem_of_getElem? (i := 402) (by decide +kernel), by decide +kernel⟩, iX2, rfl, rfl, rfl⟩
theorem f_RX2_13 : zFL RX2 13 2 1 0 true := ⟨(RX2, TX2, 6), rfl, by decide, by decide, List.mem_filter.mpr ⟨List.mem_of_getElem? (i := 403) (by decide +kernel), by decide +kernel⟩, iX2, rfl, rfl, rfl⟩
theorem f_RX3_86 : zFL RX3 86 2 1 0 true := ⟨(RX2, TX2, 6), rfl, by decide, by decide, List.mem_filter.mpr ⟨List.mem_of_getElem? (i := 404) (by decide +kernel), by decide +kernel⟩, iX2, rfl, rfl, rfl⟩
theorem f_RX2_16 : zFL RX2 16 2 2 0 true := ⟨(RX2, TX2, 6), rfl, by decide, by decide, List.mem_filter.mpr ⟨List.mem_of_getElem? (i := 405) (by decide +kernel), by decide +kernel⟩, iX2, rfl, rfl, rfl⟩
theorem f_RX3_71 : zFL RX3 71 2 2 0 true := ⟨(RX2, TX2, 6), rfl, by decide, by decide, List.mem_filter.mpr ⟨List.mem_of_getElem? (i := 406) (by decide +kernel), by decide +kernel⟩, iX2, rfl, rfl, rfl⟩
theorem f_RX2_19 : zFL RX2 19 2 3 0 true := ⟨(RX2, TX2, 6), rfl, by decide, by decide, List.mem_filter.mpr ⟨List.mem_of_getElem? (i := 407) (by decide +kernel), by decide +kernel⟩, iX2, rfl, rfl, rfl⟩
theorem f_RX3_74 : zFL RX3 74 2 3 0 true := ⟨(RX2, TX2, 6), rfl, by decide, by decide, List.mem_filter.mpr ⟨List.mem_of_getElem? (i := 408) (by decide +kernel), by decide +kernel⟩, iX2, rfl, rfl, rfl⟩
theorem f_RX2_22 : zFL RX2 22 2 4 0 true := ⟨(RX2, TX2, 6), rfl, by decide, by decide, List.mem_filter.mpr ⟨List.mem_of_getElem? (i := 409) (by decide +kernel), by decide +kernel⟩, iX2, rfl, rfl, rfl⟩
theorem f_RX3_75 : zFL RX3 75 2 4 0 true := ⟨(RX2, TX2, 6), rfl, by decide, by decide, List.mem_filter.mpr ⟨List.mem_of_getElem? (i := 410) (by decide +kernel), by decide +kernel⟩, iX2, rfl, rfl, rfl⟩
theorem f_RX2_25 : zFL RX2 25 2 5 0 false := ⟨(RX2, TX2, 6), rfl, by decide, by decide, List.mem_filter.mpr ⟨List.mem_of_getElem? (i := 411) (by decide +kernel), by decide +kernel⟩, iX2, rfl, rfl, rfl⟩
theorem f_RX6_89 : zFL RX6 89 2 5 0 false := ⟨(RX2, TX2, 6), rfl, by decide, by decide, List.mem_filter.mpr ⟨List.mem_of_getElem? (i := 412) (by decide +kernel), by decide +kernel⟩, iX2, rfl, rfl, rfl⟩
theorem f_RX3_84 : zFL RX3 84 2 5 0 false := ⟨(RX2, TX2, 6), rfl, by decide, by decide, List.mem_filter.mpr ⟨List.mem_of_getElem? (i := 413) (by decide +kernel), by decide +kernel⟩, iX2, rfl, rfl, rfl⟩
theorem f_RX7_75 : zFL RX7 75 7 0 0 false := ⟨(RX7, TX7, 31), rfl, by decide, by decide, List.mem_filter.mpr ⟨List.mem_of_getElem? (i := 665) (by decide +kernel), by decide +kernel⟩, iX7, rfl, rfl, rfl⟩
theorem f_RX7_7 : zFL RX7 7 7 1 2 true := ⟨(RX7, TX7, 31), rfl, by decide, by decide, List.mem_filter.mpr ⟨List.mem_of_getElem? (i := 666) (by decide +kernel), by decide +kernel⟩, iX7, rfl, rfl, rfl⟩
theorem f_RX7_79 : zFL RX7 79 7 2 0 false := ⟨(RX7, TX7, 31), rfl, by decide, by decide, List.mem_filter.mpr ⟨List.mem_of_getElem? (i := 667) (by decide +kernel), by decide +kernel⟩, iX7, rfl, rfl, rfl⟩
theorem f_RX7_82 : zFL RX7 82 7 3 0 false := ⟨(RX7, TX7, 31), rfl, by decide, by decide, List.mem_filter.mpr ⟨List.mem_of_getElem? (i := 668) (by decide +kernel), by decide +kernel⟩, iX7, rfl, rfl, rfl⟩
theorem f_RX7_85 : zFL RX7 85 7 4 0 false := ⟨(RX7, TX7, 31), rfl, by decide, by decide, List.mem_filter.mpr ⟨List.mem_of_getElem? (i := 669) (by decide +kernel), by decide +kernel⟩, iX7, rfl, rfl, rfl⟩
theorem f_RX7_13 : zFL RX7 13 7 5 2 true := ⟨(RX7, TX7, 31), rfl, by decide, by decide, List.mem_filter.mpr ⟨List.mem_of_getElem? (i := 670) (by decide +kernel), by decide +kernel⟩, iX7, rfl, rfl, rfl⟩
theorem f_RX7_16 : zFL RX7 16 7 6 2 true := ⟨(RX7, TX7, 31), rfl, by decide, by decide, List.mem_filter.mpr ⟨List.mem_of_getElem? (i := 671) (by decide +kernel), by decide +kernel⟩, iX7, rfl, rfl, rfl⟩
theorem f_RX7_19 : zFL RX7 19 7 7 2 true := ⟨(RX7, TX7, 31), rfl, by decide, by decide, List.mem_filter.mpr ⟨List.mem_of_getElem? (i := 672) (by decide +kernel), by decide +kernel⟩, iX7, rfl, rfl, rfl⟩
theorem f_RX7_22 : zFL RX7 22 7 8 2 true := ⟨(RX7, TX7, 31), rfl, by decide, by decide, List.mem_filter.mpr ⟨List.mem_of_getElem? (i := 673) (by decide +kernel), by decide +kernel⟩, iX7, rfl, rfl, rfl⟩
theorem f_RX7_25 : zFL RX7 25 7 9 2 true := ⟨(RX7, TX7, 31), rfl, by decide, by decide, List.mem_filter.mpr ⟨List.mem_of_getElem? (i := 674) (by decide +kernel), by decide +kernel⟩, iX7, rfl, rfl, rfl⟩
theorem f_RX7_155 : zFL RX7 155 7 10 0 false := ⟨(RX7, TX7, 31), rfl, by decide, by decide, List.mem_filter.mpr ⟨List.mem_of_getElem? (i := 675) (by decide +kernel), by decide +kernel⟩, iX7, rfl, rfl, rfl⟩
theorem f_RX7_107 : zFL RX7 107 7 11 0 false := ⟨(RX7, TX7, 31), rfl, by decide, by decide, List.mem_filter.mpr ⟨List.mem_of_getElem? (i := 676) (by decide +kernel), by decide +kernel⟩, iX7, rfl, rfl, rfl⟩
theorem f_RX7_168 : zFL RX7 168 7 12 0 false := ⟨(RX7, TX7, 31), rfl, by decide, by decide, List.mem_filter.mpr ⟨List.mem_of_getElem? (i := 677) (by decide +kernel), by decide +kernel⟩, iX7, rfl, rfl, rfl⟩
theorem f_RX7_28 : zFL RX7 28 7 13 2 true := ⟨(RX7, TX7, 31), rfl, by decide, by decide, List.mem_filter.mpr ⟨List.mem_of_getElem? (i := 678) (by decide +kernel), by decide +kernel⟩, iX7, rfl, rfl, rfl⟩
theorem f_RX7_31 : zFL RX7 31 7 14 2 true := ⟨(RX7, TX7, 31), rfl, by decide, by decide, List.mem_filter.mpr ⟨List.mem_of_getElem? (i := 679) (by decide +kernel), by decide +kernel⟩, iX7, rfl, rfl, rfl⟩
theorem f_RX7_34 : zFL RX7 34 7 15 2 true := ⟨(RX7, TX7, 31), rfl, by decide, by decide, List.mem_filter.mpr ⟨List.mem_of_getElem? (i := 680) (by decide +kernel), by decide +kernel⟩, iX7, rfl, rfl, rfl⟩
theorem f_RX7_37 : zFL RX7 37 7 16 2 true := ⟨(RX7, TX7, 31), rfl, by decide, by decide, List.mem_filter.mpr ⟨List.mem_of_getElem? (i := 681) (by decide +kernel), by decide +kernel⟩, iX7, rfl, rfl, rfl⟩
theorem f_RX7_40 : zFL RX7 40 7 17 2 true := ⟨(RX7, TX7, 31), rfl, by decide, by decide, List.mem_filter.mpr ⟨List.mem_of_getElem? (i := 682) (by decide +kernel), by decide +kernel⟩, iX7, rfl, rfl, rfl⟩
theorem f_RX7_43 : zFL RX7 43 7 18 2 true := ⟨(RX7, TX7, 31), rfl, by decide, by decide, List.mem_filter.mpr ⟨List.mem_of_getElem? (i := 683) (by decide +kernel), by decide +kernel⟩, iX7, rfl, rfl, rfl⟩
theorem f_RX7_172 : zFL RX7 172 7 19 0 false := ⟨(RX7, TX7, 31), rfl, by decide, by decide, List.mem_filter.mpr ⟨List.mem_of_getElem? (i := 684) (by decide +kernel), by decide +kernel⟩, iX7, rfl, rfl, rfl⟩
theorem f_RX7_47 : zFL RX7 47 7 20 2 true := ⟨(RX7, TX7, 31), rfl, by decide, by decide, List.mem_filter.mpr ⟨List.mem_of_getElem? (i := 685) (by decide +kernel), by decide +kernel⟩, iX7, rfl, rfl, rfl⟩
theorem f_RX7_50 : zFL RX7 50 7 21 2 true := ⟨(RX7, TX7, 31), rfl, by decide, by decide, List.mem_filter.mpr ⟨List.mem_of_getElem? (i := 686) (by decide +kernel), by decide +kernel⟩, iX7, rfl, rfl, rfl⟩
theorem f_RX7_54 : zFL RX7 54 7 22 2 true := ⟨(RX7, TX7, 31), rfl, by decide, by decide, List.mem_filter.mpr ⟨List.mem_of_getElem? (i := 687) (by decide +kernel), by decide +kernel⟩, iX7, rfl, rfl, rfl⟩
theorem f_RX7_243 : zFL RX7 243 7 23 0 false := ⟨(RX7, TX7, 31), rfl, by decide, by decide, List.mem_filter.mpr ⟨List.mem_of_getElem? (i := 688) (by decide +kernel), by decide +kernel⟩, iX7, rfl, rfl, rfl⟩
theorem f_RX7_57 : zFL RX7 57 7 24 2 true := ⟨(RX7, TX7, 31), rfl, by decide, by decide, List.mem_filter.mpr ⟨List.mem_of_getElem? (i := 689) (by decide +kernel), by decide +kernel⟩, iX7, rfl, rfl, rfl⟩
theorem f_RX7_220 : zFL RX7 220 7 25 0 false := ⟨(RX7, TX7, 31), rfl, by decide, by decide, List.mem_filter.mpr ⟨List.mem_of_getElem? (i := 690) (by decide +kernel), by decide +kernel⟩, iX7, rfl, rfl, rfl⟩
theorem f_RX7_60 : zFL RX7 60 7 26 2 true := ⟨(RX7, TX7, 31), rfl, by decide, by decide, List.mem_filter.mpr ⟨List.mem_of_getElem? (i := 691) (by decide +kernel), by decide +kernel⟩, iX7, rfl, rfl, rfl⟩
theorem f_RX7_63 : zFL RX7 63 7 27 2 true := ⟨(RX7, TX7, 31), rfl, by decide, by decide, List.mem_filter.mpr ⟨List.mem_of_getElem? (i := 692) (by decide +kernel), by decide +kernel⟩, iX7, rfl, rfl, rfl⟩
theorem f_RX7_66 : zFL RX7 66 7 28 2 true := ⟨(RX7, TX7, 31), rfl, by decide, by decide, List.mem_filter.mpr ⟨List.mem_of_getElem? (i := 693) (by decide +kernel), by decide +kernel⟩, iX7, rfl, rfl, rfl⟩
theorem f_RX7_69 : zFL RX7 69 7 29 2 true := ⟨(RX7, TX7, 31), rfl, by decide, by decide, List.mem_filter.mpr ⟨List.mem_of_getElem? (i := 694) (by decide +kernel), by decide +kernel⟩, iX7, rfl, rfl, rfl⟩
theorem f_RX7_72 : zFL RX7 72 7 30 2 true := ⟨(RX7, TX7, 31), rfl, by decide, by decide, List.mem_filter.mpr ⟨List.mem_of_getElem? (i := 695) (by decide +kernel), by decide +kernel⟩, iX7, rfl, rfl, rfl⟩
theorem tc_RX6_62 : Cond.constant RX6 62 (-1000004) ∈ zTB := List.mem_filter.mpr ⟨List.mem_of_getElem? (i := 290) (by decide +kernel), by decide +kernel⟩
theorem tc_RX6_169 : Cond.constant RX6 169 (100000) ∈ zTB := List.mem_filter.mpr ⟨List.mem_of_getElem? (i := 394) (by decide +kernel), by decide +kernel⟩
theorem tc_RX6_77 : Cond.constant RX6 77 (-1000002) ∈ zTB := List.mem_filter.mpr ⟨List.mem_of_getElem? (i := 395) (by decide +kernel), by decide +kernel⟩
theorem tc_RX6_88 : Cond.constant RX6 88 (-1000001) ∈ zTB := List.mem_filter.mpr ⟨List.mem_of_getElem? (i := 435) (by decide +kernel), by decide +kernel⟩
theorem tc_RJ6_265 : Cond.constant RJ6 265 (1431655765) ∈ zTB := List.mem_filter.mpr ⟨List.mem_of_getElem? (i := 439) (by decide +kernel), by decide +kernel⟩
theorem tc_RJ6_266 : Cond.constant RJ6 266 (858993459) ∈ zTB := List.mem_filter.mpr ⟨List.mem_of_getElem? (i := 440) (by decide +kernel), by decide +kernel⟩
theorem tc_RJ6_267 : Cond.constant RJ6 267 (252645135) ∈ zTB := List.mem_filter.mpr ⟨List.mem_of_getElem? (i := 441) (by decide +kernel), by decide +kernel⟩
theorem tc_RX6_148 : Cond.constant RX6 148 (-1000003) ∈ zTB := List.mem_filter.mpr ⟨List.mem_of_getElem? (i := 456) (by decide +kernel), by decide +kernel⟩
theorem tc_RX7_124 : Cond.constant RX7 124 (9999999) ∈ zTB := List.mem_filter.mpr ⟨List.mem_of_getElem? (i := 821) (by decide +kernel), by decide +kernel⟩
theorem tc_RX7_158 : Cond.constant RX7 158 (-1000004) ∈ zTB := List.mem_filter.mpr ⟨List.mem_of_getElem? (i := 846) (by decide +kernel), by decide +kernel⟩
theorem tc_RX7_167 : Cond.constant RX7 167 (-1000002) ∈ zTB := List.mem_filter.mpr ⟨List.mem_of_getElem? (i := 856) (by decide +kernel), by decide +kernel⟩
theorem tc_RX7_171 : Cond.constant RX7 171 (-1000001) ∈ zTB := List.mem_filter.mpr ⟨List.mem_of_getElem? (i := 861) (by decide +kernel), by decide +kernel⟩
theorem tc_RX7_207 : Cond.constant RX7 207 (-1000003) ∈ zTB := List.mem_filter.mpr ⟨List.mem_of_getElem? (i := 871) (by decide +kernel), by decide +kernel⟩
theorem tc_RX0_21 : Cond.constantLong RX0 21 (-1) ∈ zTB := List.mem_filter.mpr ⟨List.mem_of_getElem? (i := 130) (by decide +kernel), by decide +kernel⟩
theorem tc_RX6_98 : Cond.constantLong RX6 98 (-1000001) ∈ zTB := List.mem_filter.mpr ⟨List.mem_of_getElem? (i := 446) (by decide +kernel), by decide +kernel⟩
theorem tc_RX6_167 : Cond.constantLong RX6 167 (9999999) ∈ zTB := List.mem_filter.mpr ⟨List.mem_of_getElem? (i := 451) (by decide +kernel), by decide +kernel⟩
theorem tc_RX0_63 : Cond.constantLong RX0 63 (100) ∈ zTB := List.mem_filter.mpr ⟨List.mem_of_getElem? (i := 498) (by decide +kernel), by decide +kernel⟩
theorem tc_RX6_123 : Cond.constantLong RX6 123 (-1) ∈ zTB := List.mem_filter.mpr ⟨List.mem_of_getElem? (i := 505) (by decide +kernel), by decide +kernel⟩
theorem tc_RX6_129 : Cond.constantLong RX6 129 (1000000000000000) ∈ zTB := List.mem_filter.mpr ⟨List.mem_of_getElem? (i := 653) (by decide +kernel), by decide +kernel⟩
theorem tc_RX6_131 : Cond.constantLong RX6 131 (-1000002) ∈ zTB := List.mem_filter.mpr ⟨List.mem_of_getElem? (i := 654) (by decide +kernel), by decide +kernel⟩
theorem tc_RX7_159 : Cond.constantLong RX7 159 (9) ∈ zTB := List.mem_filter.mpr ⟨List.mem_of_getElem? (i := 851) (by decide +kernel), by decide +kernel⟩
theorem tc_RX7_165 : Cond.constantLong RX7 165 (100000) ∈ zTB := List.mem_filter.mpr ⟨List.mem_of_getElem? (i := 855) (by decide +kernel), by decide +kernel⟩
theorem tc_RX7_205 : Cond.constantLong RX7 205 (9999999) ∈ zTB := List.mem_filter.mpr ⟨List.mem_of_getElem? (i := 870) (by decide +kernel), by decide +kernel⟩
theorem tc_RX7_190 : Cond.constantLong RX7 190 (-1) ∈ zTB := List.mem_filter.mpr ⟨List.mem_of_getElem? (i := 880) (by decide +kernel), by decide +kernel⟩
theorem tc_RX7_203 : Cond.constantLong RX7 203 (100) ∈ zTB := List.mem_filter.mpr ⟨List.mem_of_getElem? (i := 905) (by decide +kernel), by decide +kernel⟩
theorem tc_RX7_216 : Cond.constantLong RX7 216 (1000000000000000) ∈ zTB := List.mem_filter.mpr ⟨List.mem_of_getElem? (i := 918) (by decide +kernel), by decide +kernel⟩
theorem tc_RX7_218 : Cond.constantLong RX7 218 (-1000002) ∈ zTB := List.mem_filter.mpr ⟨List.mem_of_getElem? (i := 919) (by decide +kernel), by decide +kernel⟩
theorem tc_RL_39 : Cond.constantLong RL 39 (4294967295) ∈ zTB := List.mem_filter.mpr ⟨List.mem_of_getElem? (i := 956) (by decide +kernel), by decide +kernel⟩
theorem tcl_RL_8 : Cond.classLink RL 8 RX6 ∈ zTB := List.mem_filter.mpr ⟨List.mem_of_getElem? (i := 72) (by decide +kernel), by decide +kernel⟩
theorem tcl_RX6_9 : Cond.classLink RX6 9 RX5 ∈ zTB := List.mem_filter.mpr ⟨List.mem_of_getElem? (i := 80) (by decide +kernel), by decide +kernel⟩
theorem tcl_RX6_16 : Cond.classLink RX6 16 RX4 ∈ zTB := List.mem_filter.mpr ⟨List.mem_of_getElem? (i := 109) (by decide +kernel), by decide +kernel⟩
theorem tcl_RX6_23 : Cond.classLink RX6 23 RX0 ∈ zTB := List.mem_filter.mpr ⟨List.mem_of_getElem? (i := 124) (by decide +kernel), by decide +kernel⟩
theorem tcl_RX6_33 : Cond.classLink RX6 33 RX2 ∈ zTB := List.mem_filter.mpr ⟨List.mem_of_getElem? (i := 148) (by decide +kernel), by decide +kernel⟩
theorem tcl_RX6_39 : Cond.classLink RX6 39 RX1 ∈ zTB := List.mem_filter.mpr ⟨List.mem_of_getElem? (i := 150) (by decide +kernel), by decide +kernel⟩
theorem tcl_RX1_9 : Cond.classLink RX1 9 RX3 ∈ zTB := List.mem_filter.mpr ⟨List.mem_of_getElem? (i := 157) (by decide +kernel), by decide +kernel⟩
theorem tcl_RL_16 : Cond.classLink RL 16 RX7 ∈ zTB := List.mem_filter.mpr ⟨List.mem_of_getElem? (i := 659) (by decide +kernel), by decide +kernel⟩
theorem tin_RX6 : Cond.instantiable RX6 8 ∈ zTB := List.mem_filter.mpr ⟨List.mem_of_getElem? (i := 73) (by decide +kernel), by decide +kernel⟩
theorem tin_RX5 : Cond.instantiable RX5 7 ∈ zTB := List.mem_filter.mpr ⟨List.mem_of_getElem? (i := 81) (by decide +kernel), by decide +kernel⟩
theorem tin_RX4 : Cond.instantiable RX4 2 ∈ zTB := List.mem_filter.mpr ⟨List.mem_of_getElem? (i := 110) (by decide +kernel), by decide +kernel⟩
theorem tin_RX0 : Cond.instantiable RX0 5 ∈ zTB := List.mem_filter.mpr ⟨List.mem_of_getElem? (i := 125) (by decide +kernel), by decide +kernel⟩
theorem tin_RX1 : Cond.instantiable RX1 1 ∈ zTB := List.mem_filter.mpr ⟨List.mem_of_getElem? (i := 152) (by decide +kernel), by decide +kernel⟩
theorem tin_RX3 : Cond.instantiable RX3 15 ∈ zTB := List.mem_filter.mpr ⟨List.mem_of_getElem? (i := 159) (by decide +kernel), by decide +kernel⟩
theorem tin_RX2 : Cond.instantiable RX2 6 ∈ zTB := List.mem_filter.mpr ⟨List.mem_of_getElem? (i := 396) (by decide +kernel), by decide +kernel⟩
theorem tin_RX7 : Cond.instantiable RX7 31 ∈ zTB := List.mem_filter.mpr ⟨List.mem_of_getElem? (i := 660) (by decide +kernel), by decide +kernel⟩
theorem tarr_int : Cond.arrayClass .int ∈ zTB := List.mem_filter.mpr ⟨List.mem_of_getElem? (i := 108) (by decide +kernel), by decide +kernel⟩
theorem tarr_byte : Cond.arrayClass .byte ∈ zTB := List.mem_filter.mpr ⟨List.mem_of_getElem? (i := 644) (by decide +kernel), by decide +kernel⟩
theorem tarr_boolean : Cond.arrayClass .boolean ∈ zTB := List.mem_filter.mpr ⟨List.mem_of_getElem? (i := 759) (by decide +kernel), by decide +kernel⟩
theorem tarr_long : Cond.arrayClass .long ∈ zTB := List.mem_filter.mpr ⟨List.mem_of_getElem? (i := 760) (by decide +kernel), by decide +kernel⟩
theorem tobj_in : Cond.instanceMethod objectInit ∈ zTB := List.mem_filter.mpr ⟨List.mem_of_getElem? (i := 78) (by decide +kernel), by decide +kernel⟩
theorem tobj_code : Cond.code objectInit ⟨#[0xb1]⟩ 1 none ∈ zTB := List.mem_filter.mpr ⟨List.mem_of_getElem? (i := 79) (by decide +kernel), by decide +kernel⟩
