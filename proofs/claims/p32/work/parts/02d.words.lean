set_option maxRecDepth 100000 in
theorem wd_428 : Cond.code yL_bearings cL_bearings 6 (some .boolean) ∈ lwG := lwG_of 428 (by rfl) (by decide +kernel)
set_option maxRecDepth 100000 in
theorem wd_445 : Cond.code yL_wires cL_wires 13 (some .boolean) ∈ lwG := lwG_of 445 (by rfl) (by decide +kernel)
set_option maxRecDepth 100000 in
theorem wd_517 : Cond.code yL_stations cL_stations 11 (some .boolean) ∈ lwG := lwG_of 517 (by rfl) (by decide +kernel)
set_option maxRecDepth 100000 in
theorem wd_594 : Cond.code yL_passes cL_passes 7 (some .boolean) ∈ lwG := lwG_of 594 (by rfl) (by decide +kernel)
set_option maxRecDepth 100000 in
theorem wd_609 : Cond.code yL_observes cL_observes 20 (some .boolean) ∈ lwG := lwG_of 609 (by rfl) (by decide +kernel)
set_option maxRecDepth 100000 in
theorem wd_663 : Cond.code yL_orients cL_orients 8 (some .boolean) ∈ lwG := lwG_of 663 (by rfl) (by decide +kernel)
set_option maxRecDepth 100000 in
theorem wd_675 : Cond.code yL_swaps cL_swaps 10 (some .boolean) ∈ lwG := lwG_of 675 (by rfl) (by decide +kernel)
set_option maxRecDepth 100000 in
theorem wd_686 : Cond.code yL_errors cL_errors 5 (some .boolean) ∈ lwG := lwG_of 686 (by rfl) (by decide +kernel)
