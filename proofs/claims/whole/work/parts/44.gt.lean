/-! The words of the throws. Printed by wip/whole/gt.py -/
theorem ga_10_58 : (∀ w ∈ vx_atS "CountHouse" 58 "java/lang/IllegalStateException" ["java/lang/RuntimeException", "java/lang/Exception"], w ∈ P1.1) ∧ (∀ w ∈ vx_atS "CountHouse" 58 "java/lang/IllegalStateException" ["java/lang/RuntimeException", "java/lang/Exception"], vx_ot w = true) := by
  have h : (vx_atS "CountHouse" 58 "java/lang/IllegalStateException" ["java/lang/RuntimeException", "java/lang/Exception"]).all (fun w => decide (w ∈ tables_1) && gz_good w && vx_ot w) = true := by decide +kernel
  constructor
  · intro w hw
    have h1 := List.all_eq_true.mp h w hw
    simp only [Bool.and_eq_true, decide_eq_true_eq] at h1
    exact gm_t h1.1.1 h1.1.2
  · intro w hw
    have h1 := List.all_eq_true.mp h w hw
    simp only [Bool.and_eq_true, decide_eq_true_eq] at h1
    exact h1.2
theorem gt_H_precinct_21 : gz_tw P1 F_H_precinct "java/lang/IllegalStateException" "the precinct is there already" ["java/lang/RuntimeException", "java/lang/Exception"] 54 56 58 10 := by
  refine ⟨gw_298, gw_13, List.mem_of_getElem? (i := 3) (by decide +kernel), ga_10_58.1, fun w hw => ?_, by decide +kernel, by decide +kernel, List.mem_cons_self, List.mem_cons_of_mem _ List.mem_cons_self, _, rfl, rfl, rfl⟩
  rcases List.mem_cons.mp hw with rfl | hw
  · decide +kernel
  · rcases List.mem_cons.mp hw with rfl | hw
    · decide +kernel
    · exact ga_10_58.2 w hw
theorem ga_8_302 : (∀ w ∈ vx_atS "CountHouse" 302 "java/lang/IndexOutOfBoundsException" ["java/lang/RuntimeException", "java/lang/Exception"], w ∈ P1.1) ∧ (∀ w ∈ vx_atS "CountHouse" 302 "java/lang/IndexOutOfBoundsException" ["java/lang/RuntimeException", "java/lang/Exception"], vx_ot w = true) := by
  have h : (vx_atS "CountHouse" 302 "java/lang/IndexOutOfBoundsException" ["java/lang/RuntimeException", "java/lang/Exception"]).all (fun w => decide (w ∈ tables_1) && gz_good w && vx_ot w) = true := by decide +kernel
  constructor
  · intro w hw
    have h1 := List.all_eq_true.mp h w hw
    simp only [Bool.and_eq_true, decide_eq_true_eq] at h1
    exact gm_t h1.1.1 h1.1.2
  · intro w hw
    have h1 := List.all_eq_true.mp h w hw
    simp only [Bool.and_eq_true, decide_eq_true_eq] at h1
    exact h1.2
theorem gt_H_requirePrecinctNumber_10 : gz_tw P1 F_H_requirePrecinctNumber "java/lang/IndexOutOfBoundsException" "no such precinct" ["java/lang/RuntimeException", "java/lang/Exception"] 298 305 302 8 := by
  refine ⟨gw_205, gw_11, List.mem_of_getElem? (i := 0) (by decide +kernel), ga_8_302.1, fun w hw => ?_, by decide +kernel, by decide +kernel, List.mem_cons_self, List.mem_cons_of_mem _ List.mem_cons_self, _, rfl, rfl, rfl⟩
  rcases List.mem_cons.mp hw with rfl | hw
  · decide +kernel
  · rcases List.mem_cons.mp hw with rfl | hw
    · decide +kernel
    · exact ga_8_302.2 w hw
theorem gt_H_requireOffice_10 : gz_tw P1 F_H_requireOffice "java/lang/IndexOutOfBoundsException" "no such office" ["java/lang/RuntimeException", "java/lang/Exception"] 298 300 302 8 := by
  refine ⟨gw_205, gw_11, List.mem_of_getElem? (i := 1) (by decide +kernel), ga_8_302.1, fun w hw => ?_, by decide +kernel, by decide +kernel, List.mem_cons_self, List.mem_cons_of_mem _ List.mem_cons_self, _, rfl, rfl, rfl⟩
  rcases List.mem_cons.mp hw with rfl | hw
  · decide +kernel
  · rcases List.mem_cons.mp hw with rfl | hw
    · decide +kernel
    · exact ga_8_302.2 w hw
theorem ga_9_79 : (∀ w ∈ vx_atS "CountHouse" 79 "java/lang/IllegalArgumentException" ["java/lang/RuntimeException", "java/lang/Exception"], w ∈ P1.1) ∧ (∀ w ∈ vx_atS "CountHouse" 79 "java/lang/IllegalArgumentException" ["java/lang/RuntimeException", "java/lang/Exception"], vx_ot w = true) := by
  have h : (vx_atS "CountHouse" 79 "java/lang/IllegalArgumentException" ["java/lang/RuntimeException", "java/lang/Exception"]).all (fun w => decide (w ∈ tables_1) && gz_good w && vx_ot w) = true := by decide +kernel
  constructor
  · intro w hw
    have h1 := List.all_eq_true.mp h w hw
    simp only [Bool.and_eq_true, decide_eq_true_eq] at h1
    exact gm_t h1.1.1 h1.1.2
  · intro w hw
    have h1 := List.all_eq_true.mp h w hw
    simp only [Bool.and_eq_true, decide_eq_true_eq] at h1
    exact h1.2
theorem gt_H_requireCount_11 : gz_tw P1 F_H_requireCount "java/lang/IllegalArgumentException" "not 0 .. 10000000" ["java/lang/RuntimeException", "java/lang/Exception"] 75 296 79 9 := by
  refine ⟨gw_282, gw_12, List.mem_of_getElem? (i := 2) (by decide +kernel), ga_9_79.1, fun w hw => ?_, by decide +kernel, by decide +kernel, List.mem_cons_self, List.mem_cons_of_mem _ List.mem_cons_self, _, rfl, rfl, rfl⟩
  rcases List.mem_cons.mp hw with rfl | hw
  · decide +kernel
  · rcases List.mem_cons.mp hw with rfl | hw
    · decide +kernel
    · exact ga_9_79.2 w hw
theorem gt_H_requireOption_10 : gz_tw P1 F_H_requireOption "java/lang/IndexOutOfBoundsException" "no such option" ["java/lang/RuntimeException", "java/lang/Exception"] 298 303 302 8 := by
  refine ⟨gw_205, gw_11, List.mem_of_getElem? (i := 4) (by decide +kernel), ga_8_302.1, fun w hw => ?_, by decide +kernel, by decide +kernel, List.mem_cons_self, List.mem_cons_of_mem _ List.mem_cons_self, _, rfl, rfl, rfl⟩
  rcases List.mem_cons.mp hw with rfl | hw
  · decide +kernel
  · rcases List.mem_cons.mp hw with rfl | hw
    · decide +kernel
    · exact ga_8_302.2 w hw
theorem gt_H_version_16 : gz_tw P1 F_H_version "java/lang/IllegalArgumentException" "the version is not above the newest" ["java/lang/RuntimeException", "java/lang/Exception"] 75 77 79 9 := by
  refine ⟨gw_282, gw_12, List.mem_of_getElem? (i := 6) (by decide +kernel), ga_9_79.1, fun w hw => ?_, by decide +kernel, by decide +kernel, List.mem_cons_self, List.mem_cons_of_mem _ List.mem_cons_self, _, rfl, rfl, rfl⟩
  rcases List.mem_cons.mp hw with rfl | hw
  · decide +kernel
  · rcases List.mem_cons.mp hw with rfl | hw
    · decide +kernel
    · exact ga_9_79.2 w hw
theorem ga_11_88 : (∀ w ∈ vx_atS "CountHouse" 88 "java/lang/UnsupportedOperationException" ["java/lang/RuntimeException", "java/lang/Exception"], w ∈ P1.1) ∧ (∀ w ∈ vx_atS "CountHouse" 88 "java/lang/UnsupportedOperationException" ["java/lang/RuntimeException", "java/lang/Exception"], vx_ot w = true) := by
  have h : (vx_atS "CountHouse" 88 "java/lang/UnsupportedOperationException" ["java/lang/RuntimeException", "java/lang/Exception"]).all (fun w => decide (w ∈ tables_1) && gz_good w && vx_ot w) = true := by decide +kernel
  constructor
  · intro w hw
    have h1 := List.all_eq_true.mp h w hw
    simp only [Bool.and_eq_true, decide_eq_true_eq] at h1
    exact gm_t h1.1.1 h1.1.2
  · intro w hw
    have h1 := List.all_eq_true.mp h w hw
    simp only [Bool.and_eq_true, decide_eq_true_eq] at h1
    exact h1.2
theorem gt_H_version_45 : gz_tw P1 F_H_version "java/lang/UnsupportedOperationException" "no more versions" ["java/lang/RuntimeException", "java/lang/Exception"] 84 86 88 11 := by
  refine ⟨gw_362, gw_15, List.mem_of_getElem? (i := 7) (by decide +kernel), ga_11_88.1, fun w hw => ?_, by decide +kernel, by decide +kernel, List.mem_cons_self, List.mem_cons_of_mem _ List.mem_cons_self, _, rfl, rfl, rfl⟩
  rcases List.mem_cons.mp hw with rfl | hw
  · decide +kernel
  · rcases List.mem_cons.mp hw with rfl | hw
    · decide +kernel
    · exact ga_11_88.2 w hw
theorem gt_H_precinctThatIsThere_15 : gz_tw P1 F_H_precinctThatIsThere "java/lang/IndexOutOfBoundsException" "the precinct is not there yet" ["java/lang/RuntimeException", "java/lang/Exception"] 298 307 302 8 := by
  refine ⟨gw_205, gw_11, List.mem_of_getElem? (i := 5) (by decide +kernel), ga_8_302.1, fun w hw => ?_, by decide +kernel, by decide +kernel, List.mem_cons_self, List.mem_cons_of_mem _ List.mem_cons_self, _, rfl, rfl, rfl⟩
  rcases List.mem_cons.mp hw with rfl | hw
  · decide +kernel
  · rcases List.mem_cons.mp hw with rfl | hw
    · decide +kernel
    · exact ga_8_302.2 w hw
theorem gt_H_hang_17 : gz_tw P1 F_H_hang "java/lang/IllegalArgumentException" "this office cannot hang there" ["java/lang/RuntimeException", "java/lang/Exception"] 75 117 79 9 := by
  refine ⟨gw_282, gw_12, List.mem_of_getElem? (i := 8) (by decide +kernel), ga_9_79.1, fun w hw => ?_, by decide +kernel, by decide +kernel, List.mem_cons_self, List.mem_cons_of_mem _ List.mem_cons_self, _, rfl, rfl, rfl⟩
  rcases List.mem_cons.mp hw with rfl | hw
  · decide +kernel
  · rcases List.mem_cons.mp hw with rfl | hw
    · decide +kernel
    · exact ga_9_79.2 w hw
theorem gt_H_hang_62 : gz_tw P1 F_H_hang "java/lang/IllegalStateException" "down, or the other one is below it" ["java/lang/RuntimeException", "java/lang/Exception"] 54 127 58 10 := by
  refine ⟨gw_298, gw_13, List.mem_of_getElem? (i := 9) (by decide +kernel), ga_10_58.1, fun w hw => ?_, by decide +kernel, by decide +kernel, List.mem_cons_self, List.mem_cons_of_mem _ List.mem_cons_self, _, rfl, rfl, rfl⟩
  rcases List.mem_cons.mp hw with rfl | hw
  · decide +kernel
  · rcases List.mem_cons.mp hw with rfl | hw
    · decide +kernel
    · exact ga_10_58.2 w hw
theorem gt_H_hang_81 : gz_tw P1 F_H_hang "java/lang/UnsupportedOperationException" "no more hangings" ["java/lang/RuntimeException", "java/lang/Exception"] 84 132 88 11 := by
  refine ⟨gw_362, gw_15, List.mem_of_getElem? (i := 10) (by decide +kernel), ga_11_88.1, fun w hw => ?_, by decide +kernel, by decide +kernel, List.mem_cons_self, List.mem_cons_of_mem _ List.mem_cons_self, _, rfl, rfl, rfl⟩
  rcases List.mem_cons.mp hw with rfl | hw
  · decide +kernel
  · rcases List.mem_cons.mp hw with rfl | hw
    · decide +kernel
    · exact ga_11_88.2 w hw
theorem gt_H_fail_18 : gz_tw P1 F_H_fail "java/lang/IllegalStateException" "the office is down" ["java/lang/RuntimeException", "java/lang/Exception"] 54 152 58 10 := by
  refine ⟨gw_298, gw_13, List.mem_of_getElem? (i := 11) (by decide +kernel), ga_10_58.1, fun w hw => ?_, by decide +kernel, by decide +kernel, List.mem_cons_self, List.mem_cons_of_mem _ List.mem_cons_self, _, rfl, rfl, rfl⟩
  rcases List.mem_cons.mp hw with rfl | hw
  · decide +kernel
  · rcases List.mem_cons.mp hw with rfl | hw
    · decide +kernel
    · exact ga_10_58.2 w hw
theorem gt_H_fail_37 : gz_tw P1 F_H_fail "java/lang/UnsupportedOperationException" "no more failures" ["java/lang/RuntimeException", "java/lang/Exception"] 84 157 88 11 := by
  refine ⟨gw_362, gw_15, List.mem_of_getElem? (i := 12) (by decide +kernel), ga_11_88.1, fun w hw => ?_, by decide +kernel, by decide +kernel, List.mem_cons_self, List.mem_cons_of_mem _ List.mem_cons_self, _, rfl, rfl, rfl⟩
  rcases List.mem_cons.mp hw with rfl | hw
  · decide +kernel
  · rcases List.mem_cons.mp hw with rfl | hw
    · decide +kernel
    · exact ga_11_88.2 w hw
theorem gt_H_revive_18 : gz_tw P1 F_H_revive "java/lang/IllegalStateException" "the office is up" ["java/lang/RuntimeException", "java/lang/Exception"] 54 165 58 10 := by
  refine ⟨gw_298, gw_13, List.mem_of_getElem? (i := 13) (by decide +kernel), ga_10_58.1, fun w hw => ?_, by decide +kernel, by decide +kernel, List.mem_cons_self, List.mem_cons_of_mem _ List.mem_cons_self, _, rfl, rfl, rfl⟩
  rcases List.mem_cons.mp hw with rfl | hw
  · decide +kernel
  · rcases List.mem_cons.mp hw with rfl | hw
    · decide +kernel
    · exact ga_10_58.2 w hw
theorem gt_H_move_18 : gz_tw P1 F_H_move "java/lang/IllegalStateException" "it is its home already" ["java/lang/RuntimeException", "java/lang/Exception"] 54 174 58 10 := by
  refine ⟨gw_298, gw_13, List.mem_of_getElem? (i := 14) (by decide +kernel), ga_10_58.1, fun w hw => ?_, by decide +kernel, by decide +kernel, List.mem_cons_self, List.mem_cons_of_mem _ List.mem_cons_self, _, rfl, rfl, rfl⟩
  rcases List.mem_cons.mp hw with rfl | hw
  · decide +kernel
  · rcases List.mem_cons.mp hw with rfl | hw
    · decide +kernel
    · exact ga_10_58.2 w hw
theorem gt_H_requireLetter_15 : gz_tw P1 F_H_requireLetter "java/lang/IndexOutOfBoundsException" "no such letter" ["java/lang/RuntimeException", "java/lang/Exception"] 298 309 302 8 := by
  refine ⟨gw_205, gw_11, List.mem_of_getElem? (i := 15) (by decide +kernel), ga_8_302.1, fun w hw => ?_, by decide +kernel, by decide +kernel, List.mem_cons_self, List.mem_cons_of_mem _ List.mem_cons_self, _, rfl, rfl, rfl⟩
  rcases List.mem_cons.mp hw with rfl | hw
  · decide +kernel
  · rcases List.mem_cons.mp hw with rfl | hw
    · decide +kernel
    · exact ga_8_302.2 w hw
theorem gt_H_twin_18 : gz_tw P1 F_H_twin "java/lang/IllegalStateException" "no more letters" ["java/lang/RuntimeException", "java/lang/Exception"] 54 228 58 10 := by
  refine ⟨gw_298, gw_13, List.mem_of_getElem? (i := 16) (by decide +kernel), ga_10_58.1, fun w hw => ?_, by decide +kernel, by decide +kernel, List.mem_cons_self, List.mem_cons_of_mem _ List.mem_cons_self, _, rfl, rfl, rfl⟩
  rcases List.mem_cons.mp hw with rfl | hw
  · decide +kernel
  · rcases List.mem_cons.mp hw with rfl | hw
    · decide +kernel
    · exact ga_10_58.2 w hw
theorem gt_H_resend_19 : gz_tw P1 F_H_resend "java/lang/IllegalStateException" "the office hangs nowhere" ["java/lang/RuntimeException", "java/lang/Exception"] 54 234 58 10 := by
  refine ⟨gw_298, gw_13, List.mem_of_getElem? (i := 17) (by decide +kernel), ga_10_58.1, fun w hw => ?_, by decide +kernel, by decide +kernel, List.mem_cons_self, List.mem_cons_of_mem _ List.mem_cons_self, _, rfl, rfl, rfl⟩
  rcases List.mem_cons.mp hw with rfl | hw
  · decide +kernel
  · rcases List.mem_cons.mp hw with rfl | hw
    · decide +kernel
    · exact ga_10_58.2 w hw
theorem gt_H_letter_86 : gz_tw P1 F_H_letter "java/lang/IllegalArgumentException" "nothing of a letter" ["java/lang/RuntimeException", "java/lang/Exception"] 75 247 79 9 := by
  refine ⟨gw_282, gw_12, List.mem_of_getElem? (i := 18) (by decide +kernel), ga_9_79.1, fun w hw => ?_, by decide +kernel, by decide +kernel, List.mem_cons_self, List.mem_cons_of_mem _ List.mem_cons_self, _, rfl, rfl, rfl⟩
  rcases List.mem_cons.mp hw with rfl | hw
  · decide +kernel
  · rcases List.mem_cons.mp hw with rfl | hw
    · decide +kernel
    · exact ga_9_79.2 w hw
theorem gt_H_office_113 : gz_tw P1 F_H_office "java/lang/IllegalArgumentException" "nothing of an office" ["java/lang/RuntimeException", "java/lang/Exception"] 75 271 79 9 := by
  refine ⟨gw_282, gw_12, List.mem_of_getElem? (i := 19) (by decide +kernel), ga_9_79.1, fun w hw => ?_, by decide +kernel, by decide +kernel, List.mem_cons_self, List.mem_cons_of_mem _ List.mem_cons_self, _, rfl, rfl, rfl⟩
  rcases List.mem_cons.mp hw with rfl | hw
  · decide +kernel
  · rcases List.mem_cons.mp hw with rfl | hw
    · decide +kernel
    · exact ga_9_79.2 w hw
theorem gt_H_seats_21 : gz_tw P1 F_H_seats "java/lang/IllegalArgumentException" "not 1 .. 1000 seats" ["java/lang/RuntimeException", "java/lang/Exception"] 75 273 79 9 := by
  refine ⟨gw_282, gw_12, List.mem_of_getElem? (i := 20) (by decide +kernel), ga_9_79.1, fun w hw => ?_, by decide +kernel, by decide +kernel, List.mem_cons_self, List.mem_cons_of_mem _ List.mem_cons_self, _, rfl, rfl, rfl⟩
  rcases List.mem_cons.mp hw with rfl | hw
  · decide +kernel
  · rcases List.mem_cons.mp hw with rfl | hw
    · decide +kernel
    · exact ga_9_79.2 w hw
theorem gt_H_seats_41 : gz_tw P1 F_H_seats "java/lang/IllegalArgumentException" "no such rule" ["java/lang/RuntimeException", "java/lang/Exception"] 75 275 79 9 := by
  refine ⟨gw_282, gw_12, List.mem_of_getElem? (i := 21) (by decide +kernel), ga_9_79.1, fun w hw => ?_, by decide +kernel, by decide +kernel, List.mem_cons_self, List.mem_cons_of_mem _ List.mem_cons_self, _, rfl, rfl, rfl⟩
  rcases List.mem_cons.mp hw with rfl | hw
  · decide +kernel
  · rcases List.mem_cons.mp hw with rfl | hw
    · decide +kernel
    · exact ga_9_79.2 w hw
