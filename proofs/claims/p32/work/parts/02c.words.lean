theorem hi_X0 : ∀ w ∈ wsX00, w ∈ lwG := fun w hw => by
  obtain ⟨k, hk, e⟩ := List.mem_map.mp hw
  rw [← e]
  have hk := List.mem_range.mp hk
  rcases (show k = 0 ∨ k = 1 ∨ k = 2 ∨ k = 3 by omega) with rfl | rfl | rfl | rfl
  · exact lwG_of 108 (by decide +kernel) (by decide +kernel)
  · exact lwG_of 110 (by decide +kernel) (by decide +kernel)
  · exact lwG_of 112 (by decide +kernel) (by decide +kernel)
  · exact lwG_of 114 (by decide +kernel) (by decide +kernel)
theorem hi_X1 : ∀ w ∈ wsX10, w ∈ lwG := fun w hw => by
  obtain ⟨k, hk, e⟩ := List.mem_map.mp hw
  rw [← e]
  have hk := List.mem_range.mp hk
  rcases (show k = 0 ∨ k = 1 ∨ k = 2 ∨ k = 3 ∨ k = 4 ∨ k = 5 by omega) with rfl | rfl | rfl | rfl | rfl | rfl
  · exact lwG_of 148 (by decide +kernel) (by decide +kernel)
  · exact lwG_of 150 (by decide +kernel) (by decide +kernel)
  · exact lwG_of 152 (by decide +kernel) (by decide +kernel)
  · exact lwG_of 154 (by decide +kernel) (by decide +kernel)
  · exact lwG_of 156 (by decide +kernel) (by decide +kernel)
  · exact lwG_of 158 (by decide +kernel) (by decide +kernel)
theorem hi_X2 : ∀ w ∈ wsX20, w ∈ lwG := fun w hw => by
  obtain ⟨k, hk, e⟩ := List.mem_map.mp hw
  rw [← e]
  have hk := List.mem_range.mp hk
  rcases (show k = 0 ∨ k = 1 ∨ k = 2 ∨ k = 3 ∨ k = 4 ∨ k = 5 by omega) with rfl | rfl | rfl | rfl | rfl | rfl
  · exact lwG_of 229 (by decide +kernel) (by decide +kernel)
  · exact lwG_of 231 (by decide +kernel) (by decide +kernel)
  · exact lwG_of 233 (by decide +kernel) (by decide +kernel)
  · exact lwG_of 235 (by decide +kernel) (by decide +kernel)
  · exact lwG_of 237 (by decide +kernel) (by decide +kernel)
  · exact lwG_of 239 (by decide +kernel) (by decide +kernel)
theorem hi_X3 : ∀ w ∈ wsX30, w ∈ lwG := fun w hw => by
  obtain ⟨k, hk, e⟩ := List.mem_map.mp hw
  rw [← e]
  have hk := List.mem_range.mp hk
  rcases (show k = 0 ∨ k = 1 ∨ k = 2 ∨ k = 3 by omega) with rfl | rfl | rfl | rfl
  · exact lwG_of 629 (by decide +kernel) (by decide +kernel)
  · exact lwG_of 631 (by decide +kernel) (by decide +kernel)
  · exact lwG_of 633 (by decide +kernel) (by decide +kernel)
  · exact lwG_of 635 (by decide +kernel) (by decide +kernel)
theorem hi_X4 : ∀ w ∈ wsX40, w ∈ lwG := fun w hw => by
  obtain ⟨k, hk, e⟩ := List.mem_map.mp hw
  rw [← e]
  have hk := List.mem_range.mp hk
  rcases (show k = 0 ∨ k = 1 ∨ k = 2 ∨ k = 3 ∨ k = 4 ∨ k = 5 ∨ k = 6 ∨ k = 7 by omega) with rfl | rfl | rfl | rfl | rfl | rfl | rfl | rfl
  · exact lwG_of 201 (by decide +kernel) (by decide +kernel)
  · exact lwG_of 203 (by decide +kernel) (by decide +kernel)
  · exact lwG_of 205 (by decide +kernel) (by decide +kernel)
  · exact lwG_of 207 (by decide +kernel) (by decide +kernel)
  · exact lwG_of 209 (by decide +kernel) (by decide +kernel)
  · exact lwG_of 211 (by decide +kernel) (by decide +kernel)
  · exact lwG_of 213 (by decide +kernel) (by decide +kernel)
  · exact lwG_of 215 (by decide +kernel) (by decide +kernel)
theorem hi_X5 : ∀ w ∈ wsX50, w ∈ lwG := fun w hw => by
  obtain ⟨k, hk, e⟩ := List.mem_map.mp hw
  rw [← e]
  have hk := List.mem_range.mp hk
  rcases (show k = 0 ∨ k = 1 ∨ k = 2 ∨ k = 3 ∨ k = 4 by omega) with rfl | rfl | rfl | rfl | rfl
  · exact lwG_of 174 (by decide +kernel) (by decide +kernel)
  · exact lwG_of 176 (by decide +kernel) (by decide +kernel)
  · exact lwG_of 178 (by decide +kernel) (by decide +kernel)
  · exact lwG_of 180 (by decide +kernel) (by decide +kernel)
  · exact lwG_of 182 (by decide +kernel) (by decide +kernel)
theorem hi_X6 : ∀ w ∈ wsX60, w ∈ lwG := fun w hw => by
  obtain ⟨k, hk, e⟩ := List.mem_map.mp hw
  rw [← e]
  have hk := List.mem_range.mp hk
  rcases (show k = 0 ∨ k = 1 ∨ k = 2 ∨ k = 3 ∨ k = 4 ∨ k = 5 ∨ k = 6 ∨ k = 7 ∨ k = 8 ∨ k = 9 ∨ k = 10 ∨ k = 11 by omega) with rfl | rfl | rfl | rfl | rfl | rfl | rfl | rfl | rfl | rfl | rfl | rfl
  · exact lwG_of 72 (by decide +kernel) (by decide +kernel)
  · exact lwG_of 74 (by decide +kernel) (by decide +kernel)
  · exact lwG_of 76 (by decide +kernel) (by decide +kernel)
  · exact lwG_of 78 (by decide +kernel) (by decide +kernel)
  · exact lwG_of 80 (by decide +kernel) (by decide +kernel)
  · exact lwG_of 82 (by decide +kernel) (by decide +kernel)
  · exact lwG_of 84 (by decide +kernel) (by decide +kernel)
  · exact lwG_of 86 (by decide +kernel) (by decide +kernel)
  · exact lwG_of 88 (by decide +kernel) (by decide +kernel)
  · exact lwG_of 90 (by decide +kernel) (by decide +kernel)
  · exact lwG_of 92 (by decide +kernel) (by decide +kernel)
  · exact lwG_of 94 (by decide +kernel) (by decide +kernel)
theorem hi_X7 : ∀ w ∈ wsX70, w ∈ lwG := fun w hw => by
  obtain ⟨k, hk, e⟩ := List.mem_map.mp hw
  rw [← e]
  have hk := List.mem_range.mp hk
  rcases (show k = 0 ∨ k = 1 ∨ k = 2 ∨ k = 3 ∨ k = 4 ∨ k = 5 ∨ k = 6 ∨ k = 7 by omega) with rfl | rfl | rfl | rfl | rfl | rfl | rfl | rfl
  · exact lwG_of 253 (by decide +kernel) (by decide +kernel)
  · exact lwG_of 255 (by decide +kernel) (by decide +kernel)
  · exact lwG_of 257 (by decide +kernel) (by decide +kernel)
  · exact lwG_of 259 (by decide +kernel) (by decide +kernel)
  · exact lwG_of 261 (by decide +kernel) (by decide +kernel)
  · exact lwG_of 263 (by decide +kernel) (by decide +kernel)
  · exact lwG_of 265 (by decide +kernel) (by decide +kernel)
  · exact lwG_of 267 (by decide +kernel) (by decide +kernel)
def wsX0_init : List Cond := .code yX0_init cX0_init 1 none :: lwG
def wsX0_copyFrom : List Cond := .code yX0_copyFrom cX0_copyFrom 2 none :: lwG
def wsX0_become : List Cond := .code yX0_become cX0_become 5 none :: lwG
def wsJ9_floorDiv_f86c9 : List Cond := .code yJ9_floorDiv_f86c9 cJ9_floorDiv_f86c9 6 (some .long) :: lwG
def wsX0_bend : List Cond := .code yX0_bend cX0_bend 8 (some .int) :: lwG
def wsX1_init : List Cond := .code yX1_init cX1_init 1 none :: lwG
def wsX1_copyFrom : List Cond := .code yX1_copyFrom cX1_copyFrom 2 none :: lwG
def wsX1_property : List Cond := .code yX1_property cX1_property 2 (some .int) :: lwG
def wsX2_init : List Cond := .code yX2_init cX2_init 1 none :: lwG
def wsX3_init : List Cond := .code yX3_init cX3_init 1 none :: lwG
def wsX3_add : List Cond := .code yX3_add cX3_add 2 none :: lwG
def wsJ9_floorDiv_7cf53 : List Cond := .code yJ9_floorDiv_7cf53 cJ9_floorDiv_7cf53 3 (some .int) :: lwG
def wsX3_mean : List Cond := .code yX3_mean cX3_mean 1 (some .int) :: lwG
def wsX3_spread : List Cond := .code yX3_spread cX3_spread 1 (some .int) :: lwG
def wsX6_init : List Cond := .code yX6_init cX6_init 1 none :: lwG
def wsX5_init : List Cond := .code yX5_init cX5_init 2 none :: lwG
def wsX4_init : List Cond := .code yX4_init cX4_init 2 none :: lwG
def wsX6_copyFrom : List Cond := .code yX6_copyFrom cX6_copyFrom 2 none :: lwG
def wsX5_copyFrom : List Cond := .code yX5_copyFrom cX5_copyFrom 3 none :: lwG
def wsX4_copyFrom : List Cond := .code yX4_copyFrom cX4_copyFrom 3 none :: lwG
def wsX4_hungWires : List Cond := .code yX4_hungWires cX4_hungWires 3 (some .int) :: lwG
def wsX4_orientedStations : List Cond := .code yX4_orientedStations cX4_orientedStations 3 (some .int) :: lwG
def wsX5_validObservations : List Cond := .code yX5_validObservations cX5_validObservations 3 (some .int) :: lwG
def wsX4_validObservations : List Cond := .code yX4_validObservations cX4_validObservations 3 (some .int) :: lwG
def wsX4_voidWire : List Cond := .code yX4_voidWire cX4_voidWire 5 (some .int) :: lwG
def wsX4_voidAllWires : List Cond := .code yX4_voidAllWires cX4_voidAllWires 2 none :: lwG
def wsX6_periodTicks : List Cond := .code yX6_periodTicks cX6_periodTicks 1 (some .int) :: lwG
def wsX6_calmed : List Cond := .code yX6_calmed cX6_calmed 2 (some .int) :: lwG
def wsX6_swayOneTick : List Cond := .code yX6_swayOneTick cX6_swayOneTick 1 none :: lwG
def wsX4_passTick : List Cond := .code yX4_passTick cX4_passTick 2 none :: lwG
def wsX4_restAt : List Cond := .code yX4_restAt cX4_restAt 6 (some .int) :: lwG
def wsX7_isWithin : List Cond := .code yX7_isWithin cX7_isWithin 3 (some .boolean) :: lwG
def wsX7_roundedToZero : List Cond := .code yX7_roundedToZero cX7_roundedToZero 2 (some .int) :: lwG
def wsX6_swing : List Cond := .code yX6_swing cX6_swing 1 (some .int) :: lwG
def wsX6_swayAt : List Cond := .code yX6_swayAt cX6_swayAt 4 (some .int) :: lwG
def wsX4_look : List Cond := .code yX4_look cX4_look 11 none :: lwG
def wsX5_become : List Cond := .code yX5_become cX5_become 4 none :: lwG
def wsX6_startSway : List Cond := .code yX6_startSway cX6_startSway 2 none :: lwG
def wsX6_hangAnew : List Cond := .code yX6_hangAnew cX6_hangAnew 5 none :: lwG
def wsX6_tradePlaces : List Cond := .code yX6_tradePlaces cX6_tradePlaces 4 none :: lwG
def wsX6_ticksUntilCalm : List Cond := .code yX6_ticksUntilCalm cX6_ticksUntilCalm 5 (some .int) :: lwG
def wsX6_property : List Cond := .code yX6_property cX6_property 2 (some .int) :: lwG
def wsX7_init : List Cond := .code yX7_init cX7_init 2 none :: lwG
def wsX7_isWire : List Cond := .code yX7_isWire cX7_isWire 1 (some .boolean) :: lwG
def wsX7_dropOldestState : List Cond := .code yX7_dropOldestState cX7_dropOldestState 3 none :: lwG
def wsX7_remember : List Cond := .code yX7_remember cX7_remember 1 none :: lwG
def wsX7_hang : List Cond := .code yX7_hang cX7_hang 6 (some .int) :: lwG
def wsX7_isHung : List Cond := .code yX7_isHung cX7_isHung 2 (some .boolean) :: lwG
def wsX7_refuse : List Cond := .code yX7_refuse cX7_refuse 2 (some .int) :: lwG
def wsX7_lift : List Cond := .code yX7_lift cX7_lift 2 (some .int) :: lwG
def wsX7_setClamp : List Cond := .code yX7_setClamp cX7_setClamp 5 (some .int) :: lwG
def wsX7_setBucket : List Cond := .code yX7_setBucket cX7_setBucket 5 (some .int) :: lwG
def wsX7_push : List Cond := .code yX7_push cX7_push 5 (some .int) :: lwG
def wsX7_swap : List Cond := .code yX7_swap cX7_swap 5 (some .int) :: lwG
def wsX7_addCurrent : List Cond := .code yX7_addCurrent cX7_addCurrent 5 (some .int) :: lwG
def wsX7_clearCurrents : List Cond := .code yX7_clearCurrents cX7_clearCurrents 2 (some .int) :: lwG
def wsX7_addStation : List Cond := .code yX7_addStation cX7_addStation 4 (some .int) :: lwG
def wsX7_setTolerance : List Cond := .code yX7_setTolerance cX7_setTolerance 3 (some .int) :: lwG
def wsX7_pass : List Cond := .code yX7_pass cX7_pass 3 (some .int) :: lwG
def wsX7_isStation : List Cond := .code yX7_isStation cX7_isStation 2 (some .boolean) :: lwG
def wsX7_observe : List Cond := .code yX7_observe cX7_observe 4 (some .int) :: lwG
def wsX7_firstOf : List Cond := .code yX7_firstOf cX7_firstOf 2 (some (.object "PlumbShaft$Wire")) :: lwG
def wsX7_secondOf : List Cond := .code yX7_secondOf cX7_secondOf 2 (some (.object "PlumbShaft$Wire")) :: lwG
def wsX7_isPairHung : List Cond := .code yX7_isPairHung cX7_isPairHung 2 (some .boolean) :: lwG
def wsX7_firstSeen : List Cond := .code yX7_firstSeen cX7_firstSeen 3 (some (.object "PlumbShaft$Observation")) :: lwG
def wsX7_secondSeen : List Cond := .code yX7_secondSeen cX7_secondSeen 3 (some (.object "PlumbShaft$Observation")) :: lwG
def wsX7_isPairAtOnePlace : List Cond := .code yX7_isPairAtOnePlace cX7_isPairAtOnePlace 2 (some .boolean) :: lwG
def wsX7_reasonAgainst : List Cond := .code yX7_reasonAgainst cX7_reasonAgainst 5 (some .int) :: lwG
def wsX7_lowerReason : List Cond := .code yX7_lowerReason cX7_lowerReason 2 (some .int) :: lwG
def wsX7_bearingOf : List Cond := .code yX7_bearingOf cX7_bearingOf 6 (some .int) :: lwG
def wsJ9_floorMod_f86c9 : List Cond := .code yJ9_floorMod_f86c9 cJ9_floorMod_f86c9 6 (some .long) :: lwG
def wsX7_onCircle : List Cond := .code yX7_onCircle cX7_onCircle 2 (some .int) :: lwG
def wsX7_surfaceBearing : List Cond := .code yX7_surfaceBearing cX7_surfaceBearing 4 (some .int) :: lwG
def wsX7_orientationFrom : List Cond := .code yX7_orientationFrom cX7_orientationFrom 7 (some .int) :: lwG
def wsX7_orient : List Cond := .code yX7_orient cX7_orient 7 (some .int) :: lwG
def wsX7_isSlot : List Cond := .code yX7_isSlot cX7_isSlot 1 (some .boolean) :: lwG
def wsX7_keep : List Cond := .code yX7_keep cX7_keep 2 (some .int) :: lwG
def wsX7_restore : List Cond := .code yX7_restore cX7_restore 2 (some .int) :: lwG
def wsX7_wire : List Cond := .code yX7_wire cX7_wire 3 (some .int) :: lwG
def wsX7_errorOfReading : List Cond := .code yX7_errorOfReading cX7_errorOfReading 4 (some .int) :: lwG
def wsX7_rest : List Cond := .code yX7_rest cX7_rest 5 (some .int) :: lwG
def wsX7_position : List Cond := .code yX7_position cX7_position 6 (some .int) :: lwG
def wsX7_calmIn : List Cond := .code yX7_calmIn cX7_calmIn 3 (some .int) :: lwG
def wsX7_station : List Cond := .code yX7_station cX7_station 4 (some .int) :: lwG
def wsX7_observation : List Cond := .code yX7_observation cX7_observation 5 (some .int) :: lwG
def wsX7_bearing : List Cond := .code yX7_bearing cX7_bearing 3 (some .int) :: lwG
def wsX7_isPair : List Cond := .code yX7_isPair cX7_isPair 1 (some .boolean) :: lwG
def wsX7_surface : List Cond := .code yX7_surface cX7_surface 2 (some .int) :: lwG
def wsX7_given : List Cond := .code yX7_given cX7_given 3 (some .int) :: lwG
def wsX7_count : List Cond := .code yX7_count cX7_count 2 (some .int) :: lwG
def wsJ9_abs_0f7a4 : List Cond := .code yJ9_abs_0f7a4 cJ9_abs_0f7a4 1 (some .int) :: lwG
def wsJ9_abs_067f4 : List Cond := .code yJ9_abs_067f4 cJ9_abs_067f4 2 (some .long) :: lwG
def wsJ9_max_7cf53 : List Cond := .code yJ9_max_7cf53 cJ9_max_7cf53 2 (some .int) :: lwG
def wsJ9_min_7cf53 : List Cond := .code yJ9_min_7cf53 cJ9_min_7cf53 2 (some .int) :: lwG
def wsL_cell : List Cond := .code yL_cell cL_cell 2 (some .int) :: lwG
def wsL_low : List Cond := .code yL_low cL_low 2 (some .int) :: lwG
def wsL_size : List Cond := .code yL_size cL_size 1 (some .int) :: lwG
def wsL_round : List Cond := .code yL_round cL_round 1 (some .int) :: lwG
def wsL_bearings : List Cond := .code yL_bearings cL_bearings 6 (some .boolean) :: lwG
def wsL_swing : List Cond := .code yL_swing cL_swing 4 (some .int) :: lwG
def wsL_across : List Cond := .code yL_across cL_across 3 (some .int) :: lwG
def wsL_at : List Cond := .code yL_at cL_at 7 (some .int) :: lwG
def wsL_calmer : List Cond := .code yL_calmer cL_calmer 2 (some .int) :: lwG
def wsL_wires : List Cond := .code yL_wires cL_wires 13 (some .boolean) :: lwG
def wsL_stations : List Cond := .code yL_stations cL_stations 11 (some .boolean) :: lwG
def wsL_passes : List Cond := .code yL_passes cL_passes 7 (some .boolean) :: lwG
def wsL_observes : List Cond := .code yL_observes cL_observes 20 (some .boolean) :: lwG
def wsL_orients : List Cond := .code yL_orients cL_orients 8 (some .boolean) :: lwG
def wsL_swaps : List Cond := .code yL_swaps cL_swaps 10 (some .boolean) :: lwG
def wsL_errors : List Cond := .code yL_errors cL_errors 5 (some .boolean) :: lwG

