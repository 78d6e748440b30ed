theorem ok_X2_told : pw_ok yX2_told cX2_told 5 (some .int) 2 := ⟨pw_memT (by decide +kernel) (by decide +kernel), pw_memT (by decide +kernel) (by decide +kernel), by decide +kernel, by decide +kernel, by decide +kernel, by decide +kernel⟩
theorem lk_RX2_87 : Cond.methodLink RX2 87 yX2_told ∈ pw_T ∧ Cond.instanceMethod yX2_told ∈ pw_T ∧ Cond.selects RX2 yX2_told yX2_told ∈ pw_T := ⟨pw_memT (by decide +kernel) (by decide +kernel), pw_memT (by decide +kernel) (by decide +kernel), pw_memT (by decide +kernel) (by decide +kernel)⟩
theorem cl_RX2_79 : Cond.constantLong RX2 79 1103515245 ∈ pw_T := pw_memT (by decide +kernel) (by decide +kernel)
theorem cl_RX2_81 : Cond.constantLong RX2 81 12345 ∈ pw_T := pw_memT (by decide +kernel) (by decide +kernel)
theorem cl_RX2_83 : Cond.constantLong RX2 83 2147483648 ∈ pw_T := pw_memT (by decide +kernel) (by decide +kernel)
theorem cl_RX2_85 : Cond.constantLong RX2 85 65536 ∈ pw_T := pw_memT (by decide +kernel) (by decide +kernel)
theorem oi_RX2_1 : Cond.methodLink RX2 1 objectInit ∈ pw_T ∧ Cond.instanceMethod objectInit ∈ pw_T ∧ Cond.code objectInit ⟨#[0xb1]⟩ 1 none ∈ pw_T := ⟨pw_memT (by decide +kernel) (by decide +kernel), pw_memT (by decide +kernel) (by decide +kernel), pw_memT (by decide +kernel) (by decide +kernel)⟩
