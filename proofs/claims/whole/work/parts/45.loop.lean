/-! ===== the law's loop ===== -/
theorem ll_e {L : Nat} (h : L ≤ 2049) : nI L - 4 < nI (1 + 4 * ((L - 1) / 4)) := by
  rcases Nat.lt_or_ge L 4 with h4 | h4
  · exact Int32.lt_of_lt_of_le (pk_sneg (b := 4) (by decide) h4) (nI_pos' (by omega))
  · rw [show nI L - 4 = nI (L - 4) from pk_sub (b := 4) h4]
    exact nI_lt (by omega) (by omega)
theorem ll_s {L k : Nat} (h : L ≤ 2049) (hk : k < (L - 1) / 4) : ¬ nI L - 4 < nI (1 + 4 * k) := by
  rw [show nI L - 4 = nI (L - 4) from pk_sub (b := 4) (by omega)]
  exact nI_nlt (by omega) (by omega)
theorem ll_i (k : Nat) : nI (1 + 4 * k) + 4 = nI (1 + 4 * (k + 1)) := by
  rw [show 1 + 4 * (k + 1) = (1 + 4 * k) + 4 by omega]
  exact nI_add _ 4
set_option maxHeartbeats 4000000 in
set_option maxRecDepth 100000 in
theorem lw_loop {p : Program} {e : Env} {s : State} {m : MethodId} {below : List Frame} {meth : Method} {c : Code} {b : Nat} (l : Launch) (hl : l.stackTraces = false) (G : pw_G) (hX : pw_Cx p l s m #[Value.ref b] meth c G cL_law 7 RL) (hr : meth.sig.returnType = ret) (hlk : meth.locks = false) (hsz : G.2.1 = s.heap) (hL : G.2.2.2.2.1 ≤ 2049) (hLn : G.2.2.2.2.1 < 2 ^ 31) (ax ay ao : Nat) : ∀ k, k ≤ (G.2.2.2.2.1 - 1) / 4 → ∀ (M : pw_M) (th : Int32) (oL : Nat → Int64) (cn sl : Nat), LW G ax ay ao th oL M → cn ≤ 40 + 5 * k → sl ≤ 1000 + 36 * k → pw_W p l e room_1 s m #[Value.ref b] below meth c (lw_Z below #[Value.ref b] s) G 7 M cn sl 33 [(4, .int (nI (1 + 4 * k))), (3, .ref ao), (2, .ref ay), (1, .ref ax), (0, .ref G.2.2.2.1)] [] := by
  refine pw_lp _ ?_ ?_
  · intro M th oL cn sl hW hcn hsl
    refine pw_iload (pc := 33) hX dL_law_33 0 rfl ?_
    refine pw_aload_n (pc := 35) hX dL_law_35 4 rfl ?_
    refine pw_slen (pc := 36) hX dL_law_36 rfl ?_
    refine pw_iconst (pc := 37) (v := 4) hX dL_law_37 (by decide) ?_
    refine pw_isub (pc := 38) (z := (nI G.2.2.2.2.1) - 4) hX dL_law_38 rfl ?_
    refine pw_icmp_gt (pc := 39) hX 1216 dL_law_39 (by decide) (fun hc_1 => ?_) (fun hc_1 => absurd (ll_e hL) hc_1)
    refine pw_iconst (pc := 1216) (v := 1) hX dL_law_1216 (by decide) ?_
    intro H locs ls h1 h2 h3
    exact W.widen (k := 601024) (n := 7293000) (by omega) (by omega) (va_forget (fun q hq => hsz ▸ h2 q hq) (lw_ret hX.1 hX.2.1 hr hlk dL_law_1217))
  · intro k hk ih M th oL cn sl hW hcn hsl
    have tail : ∀ (M9 : pw_M) (th9 : Int32) (oL9 : Nat → Int64) (c9 s9 : Nat), LW G ax ay ao th9 oL9 M9 → c9 ≤ cn + 5 → s9 ≤ sl + 36 → pw_W p l e room_1 s m #[Value.ref b] below meth c (lw_Z below #[Value.ref b] s) G 7 M9 c9 s9 1210 [(4, .int (nI (1 + 4 * k))), (3, .ref ao), (2, .ref ay), (1, .ref ax), (0, .ref G.2.2.2.1)] [] := by
      intro M9 th9 oL9 c9 s9 hW9 hc9 hs9
      refine pw_iinc (pc := 1210) (v := nI (1 + 4 * (k + 1))) (j := 0) hX [(4, .int (nI (1 + 4 * (k + 1)))), (3, .ref ao), (2, .ref ay), (1, .ref ax), (0, .ref G.2.2.2.1)] dL_law_1210 rfl (ll_i k) (by decide) rfl ?_
      refine pw_goto (pc := 1213) hX 33 dL_law_1213 (by decide) ?_
      exact ih M9 th9 oL9 c9 s9 hW9 (by omega) (by omega)
    refine pw_iload (pc := 33) hX dL_law_33 0 rfl ?_
    refine pw_aload_n (pc := 35) hX dL_law_35 4 rfl ?_
    refine pw_slen (pc := 36) hX dL_law_36 rfl ?_
    refine pw_iconst (pc := 37) (v := 4) hX dL_law_37 (by decide) ?_
    refine pw_isub (pc := 38) (z := (nI G.2.2.2.2.1) - 4) hX dL_law_38 rfl ?_
    refine pw_icmp_gt (pc := 39) hX 1216 dL_law_39 (by decide) (fun hc_2 => absurd hc_2 (ll_s hL hk)) (fun hc_2 => ?_)
    refine pw_aload_n (pc := 42) hX dL_law_42 4 rfl ?_
    refine pw_iload (pc := 43) hX dL_law_43 0 rfl ?_
    refine pw_sld (pc := 45) (j := 1 + 4 * k) hX dL_law_45 (by omega) hLn ?_
    refine pw_bipush (pc := 46) (v := 31) hX dL_law_46 (by decide) ?_
    obtain ⟨j, hj, hje⟩ := pk_andE (G.2.2.2.2.2 (1 + 4 * k)) (m := 31) 5 (by decide)
    refine pw_iand (pc := 48) (z := nI j) hX dL_law_48 hje ?_
    rcases (show j = 0 ∨ j = 1 ∨ j = 2 ∨ j = 3 ∨ j = 4 ∨ j = 5 ∨ j = 6 ∨ j = 7 ∨ j = 8 ∨ j = 9 ∨ j = 10 ∨ j = 11 ∨ j = 12 ∨ j = 13 ∨ j = 14 ∨ j = 15 ∨ j = 16 ∨ j = 17 ∨ 18 ≤ j by omega) with rfl | rfl | rfl | rfl | rfl | rfl | rfl | rfl | rfl | rfl | rfl | rfl | rfl | rfl | rfl | rfl | rfl | rfl | hj18
    · exact pw_swIn (pc := 49) hX 136 dL_law_49 (by decide) (by decide) (off := 87) (by decide) (by decide) (lw_c0 l hl G hX hLn ax ay ao (1 + 4 * k) (by omega) th oL M cn sl hW (by omega) (by omega) tail)
    · exact pw_swIn (pc := 49) hX 204 dL_law_49 (by decide) (by decide) (off := 155) (by decide) (by decide) (lw_c1 l hl G hX hLn ax ay ao (1 + 4 * k) (by omega) th oL M cn sl hW (by omega) (by omega) tail)
    · exact pw_swIn (pc := 49) hX 248 dL_law_49 (by decide) (by decide) (off := 199) (by decide) (by decide) (lw_c2 l hl G hX hLn ax ay ao (1 + 4 * k) (by omega) th oL M cn sl hW (by omega) (by omega) tail)
    · exact pw_swIn (pc := 49) hX 308 dL_law_49 (by decide) (by decide) (off := 259) (by decide) (by decide) (lw_c3 l hl G hX hLn ax ay ao (1 + 4 * k) (by omega) th oL M cn sl hW (by omega) (by omega) tail)
    · exact pw_swIn (pc := 49) hX 364 dL_law_49 (by decide) (by decide) (off := 315) (by decide) (by decide) (lw_c4 l hl G hX hLn ax ay ao (1 + 4 * k) (by omega) th oL M cn sl hW (by omega) (by omega) tail)
    · exact pw_swIn (pc := 49) hX 455 dL_law_49 (by decide) (by decide) (off := 406) (by decide) (by decide) (lw_c5 l hl G hX hLn ax ay ao (1 + 4 * k) (by omega) th oL M cn sl hW (by omega) (by omega) tail)
    · exact pw_swIn (pc := 49) hX 535 dL_law_49 (by decide) (by decide) (off := 486) (by decide) (by decide) (lw_c6 l hl G hX hLn ax ay ao (1 + 4 * k) (by omega) th oL M cn sl hW (by omega) (by omega) tail)
    · exact pw_swIn (pc := 49) hX 603 dL_law_49 (by decide) (by decide) (off := 554) (by decide) (by decide) (lw_c7 l hl G hX hLn ax ay ao (1 + 4 * k) (by omega) th oL M cn sl hW (by omega) (by omega) tail)
    · exact pw_swIn (pc := 49) hX 683 dL_law_49 (by decide) (by decide) (off := 634) (by decide) (by decide) (lw_c8 l hl G hX hLn ax ay ao (1 + 4 * k) (by omega) th oL M cn sl hW (by omega) (by omega) tail)
    · exact pw_swIn (pc := 49) hX 719 dL_law_49 (by decide) (by decide) (off := 670) (by decide) (by decide) (lw_c9 l hl G hX hLn ax ay ao (1 + 4 * k) (by omega) th oL M cn sl hW (by omega) (by omega) tail)
    · exact pw_swIn (pc := 49) hX 806 dL_law_49 (by decide) (by decide) (off := 757) (by decide) (by decide) (lw_c10 l hl G hX hLn ax ay ao (1 + 4 * k) (by omega) th oL M cn sl hW (by omega) (by omega) tail)
    · exact pw_swIn (pc := 49) hX 869 dL_law_49 (by decide) (by decide) (off := 820) (by decide) (by decide) (lw_c11 l hl G hX hLn ax ay ao (1 + 4 * k) (by omega) th oL M cn sl hW (by omega) (by omega) tail)
    · exact pw_swIn (pc := 49) hX 932 dL_law_49 (by decide) (by decide) (off := 883) (by decide) (by decide) (lw_c12 l hl G hX hLn ax ay ao (1 + 4 * k) (by omega) th oL M cn sl hW (by omega) (by omega) tail)
    · exact pw_swIn (pc := 49) hX 945 dL_law_49 (by decide) (by decide) (off := 896) (by decide) (by decide) (lw_c13 l hl G hX hLn ax ay ao (1 + 4 * k) (by omega) th oL M cn sl hW (by omega) (by omega) tail)
    · exact pw_swIn (pc := 49) hX 981 dL_law_49 (by decide) (by decide) (off := 932) (by decide) (by decide) (lw_c14 l hl G hX hLn ax ay ao (1 + 4 * k) (by omega) th oL M cn sl hW (by omega) (by omega) tail)
    · exact pw_swIn (pc := 49) hX 1049 dL_law_49 (by decide) (by decide) (off := 1000) (by decide) (by decide) (lw_c15 l hl G hX hLn ax ay ao (1 + 4 * k) (by omega) th oL M cn sl hW (by omega) (by omega) tail)
    · exact pw_swIn (pc := 49) hX 1129 dL_law_49 (by decide) (by decide) (off := 1080) (by decide) (by decide) (lw_c16 l hl G hX hLn ax ay ao (1 + 4 * k) (by omega) th oL M cn sl hW (by omega) (by omega) tail)
    · exact pw_swIn (pc := 49) hX 1185 dL_law_49 (by decide) (by decide) (off := 1136) (by decide) (by decide) (lw_c17 l hl G hX hLn ax ay ao (1 + 4 * k) (by omega) th oL M cn sl hW (by omega) (by omega) tail)
    · exact pw_swOut (pc := 49) hX 1210 dL_law_49 (Or.inr (by rw [nI_toInt (by omega)]; omega)) (by decide) (tail M th oL cn sl hW (by omega) (by omega))
theorem cw_has {G : pw_G} {ad : Nat → Nat} {n : Nat} {td sd : Int32} {dk to er os pl : Nat → Int32} {oo : Nat → Option Nat} {wa pr de : Nat → Nat → Int32} {M : pw_M} (h : cw G ad n 0 td sd dk to er os pl oo wa pr de M) : ∀ x, x < 6 + 4 * 0 → ∃ e, M (ad x) = some e := fun x hx => by
  rcases (show x = 0 ∨ x = 1 ∨ x = 2 ∨ x = 3 ∨ x = 4 ∨ x = 5 by omega) with rfl | rfl | rfl | rfl | rfl | rfl
  · exact ⟨_, h.1⟩
  · exact ⟨_, h.2.1⟩
  · exact ⟨_, h.2.2.1⟩
  · exact ⟨_, h.2.2.2.1⟩
  · exact ⟨_, h.2.2.2.2.1⟩
  · exact ⟨_, h.2.2.2.2.2.1⟩
theorem lw_born {G : pw_G} {ad am : Nat → Nat} {n ax ay ao b8 : Nat} {e2 e3 : va_E} {M1 M2 : pw_M} {oL : Nat → Int64} (hax : ad 0 = ax) (hay : am 0 = ay)
    (hc : ∀ (os pl : Nat → Int32) (wa pr de : Nat → Nat → Int32), cw G ad n 0 0 1 (fun _ => 0) (fun _ => 0) (fun _ => 0) os pl (fun _ => none) wa pr de M1) (hf2 : pw_fr G M1 ay) (hab : ab (pw_up M1 ay e2) b8) (hnew : ∀ x, 1 ≤ x → x < 9 → b8 ≤ am x)
    (hm : mw G am n 0 0 0 1 (fun _ => 0) (fun _ => 0) (fun _ => 0) (fun _ => 0) (fun _ => 0) (fun _ _ => 0) (fun _ _ => 0) (fun _ _ => 0) M2) (hk : kp ay (pw_up M1 ay e2) M2) (hf3 : pw_fr G M2 ao) (he3 : e3 = .inl (G.2.2.1 3, 1, .inr (.inl oL))) : LW G ax ay ao 0 oL (pw_up M2 ao e3) := by
  have hcw := hc (fun _ => 0) (fun _ => 0) (fun _ _ => 0) (fun _ _ => 0) (fun _ _ => 0)
  have k1 : ∀ (x : Nat) (e : va_E), M1 (ad x) = some e → ad x < ay ∧ M2 (ad x) = some e := fun x e he => by
    have h1 := hf2.2 _ _ he
    exact ⟨h1, hk _ _ (pw_ke he (Nat.ne_of_lt h1)) (Nat.ne_of_lt h1)⟩
  have k2 : ∀ (x : Nat) (e : va_E), M1 (ad x) = some e → (pw_up M2 ao e3) (ad x) = some e := fun x e he => pw_ke (k1 x e he).2 (Nat.ne_of_lt (hf3.2 _ _ (k1 x e he).2))
  refine ⟨ad, am, n, 0, 0, 1, _, _, _, _, _, _, _, _, _, _, hax, hay, cw_fr hcw (fun x e _ he => k2 x e he), mw_fr hm (fun y e _ he => pw_ke he (Nat.ne_of_lt (hf3.2 _ _ he))), by rw [he3]; exact pw_us, ⟨fun x hx y hy h => ?_, fun x hx h => ?_, fun y hy h => ?_⟩, by decide, li_0 _ _ _ _ _⟩
  · obtain ⟨e, he⟩ := cw_has hcw x hx
    have g1 := (k1 x e he).1
    by_cases hy0 : y = 0
    · subst hy0
      omega
    · have g2 := hab _ _ (pw_ke he (Nat.ne_of_lt g1))
      have g3 := hnew y (by omega) hy
      omega
  · obtain ⟨e, he⟩ := cw_has hcw x hx
    have g1 := hf3.2 _ _ (k1 x e he).2
    omega
  · obtain ⟨e, he⟩ := mw_has hm y hy
    have g1 := hf3.2 _ _ he
    omega
set_option maxHeartbeats 4000000 in
set_option maxRecDepth 100000 in
theorem lw_begin {p : Program} {e : Env} {s : State} {m : MethodId} {below : List Frame} {meth : Method} {c : Code} {b : Nat} (l : Launch) (hl : l.stackTraces = false) (G : pw_G) (hX : pw_Cx p l s m #[Value.ref b] meth c G cL_law 7 RL) (hr : meth.sig.returnType = ret) (hlk : meth.locks = false) (hsz : G.2.1 = s.heap) (hL : G.2.2.2.2.1 ≤ 2049) (hLn : G.2.2.2.2.1 < 2 ^ 31) : pw_W p l e room_1 s m #[Value.ref b] below meth c (lw_Z below #[Value.ref b] s) G 7 (fun _ => none) 0 0 0 [(0, .ref G.2.2.2.1)] [] := by
  refine pw_new (pc := 0) (fs := [.null, .int 0, .null, .null, .null, .null, .int 0, .int 0]) hX dL_law_0 (ci := 1) rfl inT_1 tyX1 tyX1_ok cn_RL_8 (by decide +kernel) (Nat.le_of_ble_eq_true rfl) (Nat.le_of_ble_eq_true rfl) (fun q_1 hf_q_1 => ?_)
  have hm_2 : pw_up (fun _ => none) q_1 (.inr (1, [.null, .int 0, .null, .null, .null, .null, .int 0, .int 0])) q_1 = some (.inr (1, [.null, .int 0, .null, .null, .null, .null, .int 0, .int 0])) := pw_us
  refine pw_dup (pc := 3) hX dL_law_3 rfl ?_
  refine pw_aload_n (pc := 4) hX dL_law_4 0 rfl ?_
  refine pw_iconst (pc := 5) (v := 0) hX dL_law_5 (by decide) ?_
  refine pw_callS (pc := 6) (st := [.ref q_1, .ref q_1]) hX (lc_read l hl G (pw_up (fun _ => none) q_1 (.inr (1, [.null, .int 0, .null, .null, .null, .null, .int 0, .int 0]))) hLn) ok_L_cell lk_RL_76 dL_law_6 rfl ⟨⟨by decide, by decide⟩, Nat.le_of_ble_eq_true rfl, Nat.le_of_ble_eq_true rfl, Nat.le_of_ble_eq_true rfl⟩ rfl (fun v9 M9 hp9 => ?_)
  obtain ⟨rfl, rfl⟩ := hp9
  refine pw_callI (pc := 9) (st := [.ref q_1]) hX (cp_init l hl G (pw_up (fun _ => none) q_1 (.inr (1, [.null, .int 0, .null, .null, .null, .null, .int 0, .int 0]))) q_1 (if 0 < G.2.2.2.2.1 then G.2.2.2.2.2 0 else 0) hm_2) ok_X1_init rfl lk_RL_81 dL_law_9 rfl ⟨⟨by decide, by decide⟩, Nat.le_of_ble_eq_true rfl, Nat.le_of_ble_eq_true rfl, Nat.le_of_ble_eq_true rfl⟩ rfl (fun v9 M1 hp9 => ?_)
  obtain ⟨rfl, ad, b9, hax, hab9, hnew9, hcw, hkp9⟩ := hp9
  refine pw_astore_n (pc := 12) hX [(1, .ref q_1), (0, .ref G.2.2.2.1)] dL_law_12 (by decide) rfl ?_
  refine pw_new (pc := 13) (fs := [.int 0, .null, .null, .int 0, .int 0, .int 0, .long 0, .null, .null, .null, .null, .null, .null]) hX dL_law_13 (ci := 2) rfl inT_2 tyX2 tyX2_ok cn_RL_83 (by decide +kernel) (Nat.le_of_ble_eq_true rfl) (Nat.le_of_ble_eq_true rfl) (fun q_3 hf_q_3 => ?_)
  have hm_4 : pw_up M1 q_3 (.inr (2, [.int 0, .null, .null, .int 0, .int 0, .int 0, .long 0, .null, .null, .null, .null, .null, .null])) q_3 = some (.inr (2, [.int 0, .null, .null, .int 0, .int 0, .int 0, .long 0, .null, .null, .null, .null, .null, .null])) := pw_us
  refine pw_dup (pc := 16) hX dL_law_16 rfl ?_
  refine pw_aload_n (pc := 17) hX dL_law_17 1 rfl ?_
  refine pw_iconst (pc := 18) (v := 0) hX dL_law_18 (by decide) ?_
  refine pw_callS (pc := 19) (st := [.ref q_3, .ref q_3]) hX (lc_read l hl G (pw_up M1 q_3 (.inr (2, [.int 0, .null, .null, .int 0, .int 0, .int 0, .long 0, .null, .null, .null, .null, .null, .null]))) hLn) ok_L_cell lk_RL_76 dL_law_19 rfl ⟨⟨by decide, by decide⟩, Nat.le_of_ble_eq_true rfl, Nat.le_of_ble_eq_true rfl, Nat.le_of_ble_eq_true rfl⟩ rfl (fun v9 M9 hp9 => ?_)
  obtain ⟨rfl, rfl⟩ := hp9
  refine pw_callI (pc := 22) (st := [.ref q_3]) hX (mp_init l hl G (pw_up M1 q_3 (.inr (2, [.int 0, .null, .null, .int 0, .int 0, .int 0, .long 0, .null, .null, .null, .null, .null, .null]))) q_3 (if 0 < G.2.2.2.2.1 then G.2.2.2.2.2 0 else 0) hm_4) ok_X2_init rfl lk_RL_85 dL_law_22 rfl ⟨⟨by decide, by decide⟩, Nat.le_of_ble_eq_true rfl, Nat.le_of_ble_eq_true rfl, Nat.le_of_ble_eq_true rfl⟩ rfl (fun v9 M2 hp9 => ?_)
  obtain ⟨rfl, am, b8, hay, hab8, hnew8, hmw, hkp8⟩ := hp9
  refine pw_astore_n (pc := 25) hX [(2, .ref q_3), (1, .ref q_1), (0, .ref G.2.2.2.1)] dL_law_25 (by decide) rfl ?_
  refine pw_iconst (pc := 26) (v := nI 1) hX dL_law_26 (by decide) ?_
  refine pw_newl (pc := 27) (n := 1) hX dL_law_27 ac_long (by decide) (Nat.le_of_ble_eq_true rfl) (Nat.le_of_ble_eq_true rfl) (fun q_5 hf_q_5 => ?_)
  have hm_6 : pw_up M2 q_5 (.inl (G.2.2.1 3, 1, .inr (.inl (fun _ => 0)))) q_5 = some (.inl (G.2.2.1 3, 1, .inr (.inl (fun _ => 0)))) := pw_us
  refine pw_astore_n (pc := 29) hX [(3, .ref q_5), (2, .ref q_3), (1, .ref q_1), (0, .ref G.2.2.2.1)] dL_law_29 (by decide) rfl ?_
  refine pw_iconst (pc := 30) (v := nI 1) hX dL_law_30 (by decide) ?_
  refine pw_istore (pc := 31) hX [(4, .int (nI 1)), (3, .ref q_5), (2, .ref q_3), (1, .ref q_1), (0, .ref G.2.2.2.1)] dL_law_31 (by decide) rfl ?_
  refine pw_lv [0, 1, 2, 3, 4] _ rfl (lw_loop l hl G hX hr hlk hsz hL hLn q_1 q_3 q_5 0 (Nat.zero_le _) _ 0 (fun _ => 0) _ _ ?_ (Nat.le_of_ble_eq_true rfl) (Nat.le_of_ble_eq_true rfl))
  exact lw_born hax hay hcw hf_q_3 hab8 hnew8 hmw hkp8 hf_q_5 rfl
