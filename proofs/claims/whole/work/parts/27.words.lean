theorem ok_X2_below : pw_ok yX2_below cX2_below 2 (some .boolean) 2 := ⟨pw_memT (by decide +kernel) (by decide +kernel), pw_memT (by decide +kernel) (by decide +kernel), by decide +kernel, by decide +kernel, by decide +kernel, by decide +kernel⟩
theorem lk_RX2_53 : Cond.methodLink RX2 53 yX2_below ∈ pw_T ∧ Cond.static yX2_below ∈ pw_T := ⟨pw_memT (by decide +kernel) (by decide +kernel), pw_memT (by decide +kernel) (by decide +kernel)⟩
theorem fl_RX2_13 : Cond.fieldLink RX2 13 (TX2 2).1 (TX2 2).2.1 (TX2 2).2.2.1 ∈ pw_T := pw_memT (by decide +kernel) (by decide +kernel)
theorem fl_RX2_21 : Cond.fieldLink RX2 21 (TX2 7).1 (TX2 7).2.1 (TX2 7).2.2.1 ∈ pw_T := pw_memT (by decide +kernel) (by decide +kernel)
