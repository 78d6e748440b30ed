theorem fl_RX1_44 : Cond.fieldLink RX1 44 (TX1 3).1 (TX1 3).2.1 (TX1 3).2.2.1 ∈ pw_T := pw_memT (by decide +kernel) (by decide +kernel)
theorem fl_RX1_69 : Cond.fieldLink RX1 69 (TX0 1).1 (TX0 1).2.1 (TX0 1).2.2.1 ∈ pw_T := pw_memT (by decide +kernel) (by decide +kernel)
theorem fl_RX1_183 : Cond.fieldLink RX1 183 (TX0 0).1 (TX0 0).2.1 (TX0 0).2.2.1 ∈ pw_T := pw_memT (by decide +kernel) (by decide +kernel)
theorem ok_X0_allPresent : pw_ok yX0_allPresent cX0_allPresent 1 (some .int) 0 := ⟨pw_memT (by decide +kernel) (by decide +kernel), pw_memT (by decide +kernel) (by decide +kernel), by decide +kernel, by decide +kernel, by decide +kernel, by decide +kernel⟩
theorem lk_RX1_141 : Cond.methodLink RX1 141 yX0_allPresent ∈ pw_T ∧ Cond.instanceMethod yX0_allPresent ∈ pw_T ∧ Cond.selects RX0 yX0_allPresent yX0_allPresent ∈ pw_T := ⟨pw_memT (by decide +kernel) (by decide +kernel), pw_memT (by decide +kernel) (by decide +kernel), pw_memT (by decide +kernel) (by decide +kernel)⟩
