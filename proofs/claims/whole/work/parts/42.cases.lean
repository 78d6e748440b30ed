/-! ===== the law's cases ===== -/
theorem lg_0 {x y : Int64} (h : x = y) : lg_cmp x y = 0 := by
  subst h
  unfold lg_cmp
  rw [if_neg (fun h9 => absurd h9 (Int64.lt_irrefl (a := x))), if_pos rfl]
section LT
variable {G : pw_G} {ax ay ao : Nat} {th : Int32} {oL : Nat → Int64} {M : pw_M}
theorem lt_thrown (l : Launch) (hl : l.stackTraces = false) (hW : LW G ax ay ao th oL M) : pw_Met l yX2_thrown cX2_thrown 1 (some .int) 3 0 0 G [.ref ay] M (fun v9 M9 => v9 = some (.int th) ∧ M = M9) := by
  obtain ⟨ad, am, n, oc, td, sn, dk, to, er, os, pl, oo, wa, pr, de, la, -, rfl, -, hm, -⟩ := hW
  exact mt_thrown l hl G M am n oc td th _ dk to er os pl wa pr la hm
theorem lt_m (hW : LW G ax ay ao th oL M) : ∃ fs, M ay = some (.inr (2, fs)) := by
  obtain ⟨ad, am, n, oc, td, sn, dk, to, er, os, pl, oo, wa, pr, de, la, -, rfl, -, hm, -⟩ := hW
  exact ⟨_, hm.1⟩
theorem lt_o (hW : LW G ax ay ao th oL M) : M ao = some (.inl (G.2.2.1 3, 1, .inr (.inl oL))) := by
  obtain ⟨ad, am, n, oc, td, sn, dk, to, er, os, pl, oo, wa, pr, de, la, -, -, -, -, ho, -⟩ := hW
  exact ho
end LT
set_option maxHeartbeats 4000000 in
set_option maxRecDepth 100000 in
theorem lw_c0 {p : Program} {e : Env} {s : State} {m : MethodId} {args : Array Value} {below : List Frame} {meth : Method} {c : Code} {Q : State → Prop} (l : Launch) (hl : l.stackTraces = false) (G : pw_G) (hX : pw_Cx p l s m args meth c G cL_law 7 RL) (hLn : G.2.2.2.2.1 < 2 ^ 31) (ax ay ao ii : Nat) (hi : ii + 3 < G.2.2.2.2.1) (th : Int32) (oL : Nat → Int64) (M : pw_M) (cn sl : Nat) (hW : LW G ax ay ao th oL M) (hcn : cn + 5 ≤ 601024) (hsl : sl + 36 ≤ 7293000) (kk : ∀ (M9 : pw_M) (th9 : Int32) (oL9 : Nat → Int64) (c9 s9 : Nat), LW G ax ay ao th9 oL9 M9 → c9 ≤ cn + 5 → s9 ≤ sl + 36 → pw_W p l e room_1 s m args below meth c Q G 7 M9 c9 s9 1210 [(4, .int (nI ii)), (3, .ref ao), (2, .ref ay), (1, .ref ax), (0, .ref G.2.2.2.1)] []) : pw_W p l e room_1 s m args below meth c Q G 7 M cn sl 136 [(4, .int (nI ii)), (3, .ref ao), (2, .ref ay), (1, .ref ax), (0, .ref G.2.2.2.1)] [] := by
  obtain ⟨ad, am, n, oc, td, sn, dk, to, er, os, pl, oo, wa, pr, de, la, rfl, rfl, hc, hm, ho, hds, hsn, hI⟩ := hW
  refine pw_aload_n (pc := 136) hX dL_law_136 3 rfl ?_
  refine pw_aload_n (pc := 137) hX dL_law_137 4 rfl ?_
  refine pw_iload (pc := 138) hX dL_law_138 0 rfl ?_
  refine pw_iconst (pc := 140) (v := 1) hX dL_law_140 (by decide) ?_
  refine pw_iadd (pc := 141) (z := nI (ii + 1)) hX dL_law_141 (nI_add ii 1) ?_
  refine pw_sld (pc := 142) (j := ii + 1) hX dL_law_142 (by omega) hLn ?_
  refine pw_aload_n (pc := 143) hX dL_law_143 4 rfl ?_
  refine pw_iload (pc := 144) hX dL_law_144 0 rfl ?_
  refine pw_iconst (pc := 146) (v := 2) hX dL_law_146 (by decide) ?_
  refine pw_iadd (pc := 147) (z := nI (ii + 2)) hX dL_law_147 (nI_add ii 2) ?_
  refine pw_sld (pc := 148) (j := ii + 2) hX dL_law_148 (by omega) hLn ?_
  refine pw_aload_n (pc := 149) hX dL_law_149 1 rfl ?_
  refine pw_callSh (pc := 150) (st := []) hX (lc_tote l hl G M (ad 0) ao (G.2.2.2.2.2 (ii + 1)) (G.2.2.2.2.2 (ii + 2)) _ hc.1 oL _ _ (cp_tote l hl G M ad n oc td (nI sn) dk to er os pl oo wa pr de hc (G.2.2.2.2.2 (ii + 1)) (G.2.2.2.2.2 (ii + 2))) (fun v M1 h => ⟨_, h.2.1, h.2.2.2 _ _ ho hds.2.1⟩)) ok_L_tote lk_RL_86 dL_law_150 rfl ⟨⟨by decide, by decide⟩, Nat.le_of_ble_eq_true rfl, (show _ ≤ 601024 by omega), (show _ ≤ 7293000 by omega)⟩ rfl (fun v9 M9 hp9 => ?_)
  obtain ⟨rfl, hm1⟩ := j1 (PO := (fun v9 M9 => cd_tote (G.2.2.2.2.2 (ii + 1)) (G.2.2.2.2.2 (ii + 2)) = 0 ∧ v9 = some (.int (to (ix (G.2.2.2.2.2 (ii + 1))) + (G.2.2.2.2.2 (ii + 2)))) ∧ cw G ad n oc td (nI sn) dk (upd to (ix (G.2.2.2.2.2 (ii + 1))) (to (ix (G.2.2.2.2.2 (ii + 1))) + (G.2.2.2.2.2 (ii + 2)))) er os pl oo wa pr de M9 ∧ fm ad (6 + 4 * oc) M M9)) (cv := fun y => y.toInt64) (cd := (cd_tote (G.2.2.2.2.2 (ii + 1)) (G.2.2.2.2.2 (ii + 2)))) hm hds (fun v M1 h => ⟨h.1, h.2.2.2⟩) hp9
  refine pw_istore (pc := 153) hX [(5, .int ((cd_tote (G.2.2.2.2.2 (ii + 1)) (G.2.2.2.2.2 (ii + 2))))), (4, .int (nI ii)), (3, .ref ao), (2, .ref (am 0)), (1, .ref (ad 0)), (0, .ref G.2.2.2.1)] dL_law_153 (by decide) rfl ?_
  refine pw_aload_n (pc := 155) hX dL_law_155 3 rfl ?_
  refine pw_aload_n (pc := 156) hX dL_law_156 5 rfl ?_
  refine pw_iload (pc := 157) hX dL_law_157 1 rfl ?_
  refine pw_iconst (pc := 159) (v := 1) hX dL_law_159 (by decide) ?_
  refine pw_iadd (pc := 160) (z := nI (ii + 1)) hX dL_law_160 (nI_add ii 1) ?_
  refine pw_sld (pc := 161) (j := ii + 1) hX dL_law_161 (by omega) hLn ?_
  refine pw_aload_n (pc := 162) hX dL_law_162 5 rfl ?_
  refine pw_iload (pc := 163) hX dL_law_163 1 rfl ?_
  refine pw_iconst (pc := 165) (v := 2) hX dL_law_165 (by decide) ?_
  refine pw_iadd (pc := 166) (z := nI (ii + 2)) hX dL_law_166 (nI_add ii 2) ?_
  refine pw_sld (pc := 167) (j := ii + 2) hX dL_law_167 (by omega) hLn ?_
  refine pw_callV (pc := 168) (st := []) hX (mp_tote l hl G M9 am n oc td th (lN sn) dk to er os pl wa pr la hm1  (G.2.2.2.2.2 (ii + 1)) (G.2.2.2.2.2 (ii + 2))) hm1.1 rfl ok_X2_tote lk_RL_89 dL_law_168 rfl ⟨⟨by decide, by decide⟩, Nat.le_of_ble_eq_true rfl, (show _ ≤ 601024 by omega), (show _ ≤ 7293000 by omega)⟩ rfl (fun v8 M8 hp8 => ?_)
  obtain ⟨z, oL8, rfl, hW8, hz8⟩ := j2_tote (G.2.2.2.2.2 (ii + 1)) (G.2.2.2.2.2 (ii + 2)) hc hm ho hds hsn hI hp9 hp8
  refine pw_istore (pc := 171) hX [(6, .int z), (5, .int ((cd_tote (G.2.2.2.2.2 (ii + 1)) (G.2.2.2.2.2 (ii + 2))))), (4, .int (nI ii)), (3, .ref ao), (2, .ref (am 0)), (1, .ref (ad 0)), (0, .ref G.2.2.2.1)] dL_law_171 (by decide) rfl ?_
  refine pw_aload_n (pc := 173) hX dL_law_173 4 rfl ?_
  refine pw_callV (pc := 174) (st := []) hX (lt_thrown l hl hW8) (lt_m hW8).choose_spec rfl ok_X2_thrown lk_RL_90 dL_law_174 rfl ⟨⟨by decide, by decide⟩, Nat.le_of_ble_eq_true rfl, (show _ ≤ 601024 by omega), (show _ ≤ 7293000 by omega)⟩ rfl (fun v7 M7 hp7 => ?_)
  obtain ⟨rfl, rfl⟩ := hp7
  refine pw_iload (pc := 177) hX dL_law_177 1 rfl ?_
  refine pw_icmp_eq (pc := 179) hX 184 dL_law_179 (by decide) (fun hc_1 => ?_) (fun hc_1 => absurd rfl hc_1)
  refine pw_iload (pc := 184) hX dL_law_184 1 rfl ?_
  refine pw_if_ne (pc := 186) hX 201 dL_law_186 (by decide) (fun hc_2 => ?_) (fun hc_2 => ?_)
  · refine pw_goto (pc := 201) hX 1210 dL_law_201 (by decide) ?_
    exact pw_lv [2, 3, 4, 5, 6] _ rfl (kk _ _ _ _ _ hW8 (by omega) (by omega))
  · refine pw_aload_n (pc := 189) hX dL_law_189 3 rfl ?_
    refine pw_iconst (pc := 190) (v := 0) hX dL_law_190 (by decide) ?_
    refine pw_lald (pc := 191) (j := 0) hX dL_law_191 (lt_o hW8) (by decide) (by decide) ?_
    refine pw_iload (pc := 192) hX dL_law_192 0 rfl ?_
    refine pw_i2l (pc := 194) (v := z.toInt64) hX dL_law_194 rfl ?_
    refine pw_lcmp (pc := 195) (z := 0) hX dL_law_195 (lg_0 (hz8 hc_2)) ?_
    refine pw_if_eq (pc := 196) hX 201 dL_law_196 (by decide) (fun hc_3 => ?_) (fun hc_3 => absurd rfl hc_3)
    refine pw_goto (pc := 201) hX 1210 dL_law_201 (by decide) ?_
    exact pw_lv [2, 3, 4, 5, 6] _ rfl (kk _ _ _ _ _ hW8 (by omega) (by omega))
set_option maxHeartbeats 4000000 in
set_option maxRecDepth 100000 in
theorem lw_c1 {p : Program} {e : Env} {s : State} {m : MethodId} {args : Array Value} {below : List Frame} {meth : Method} {c : Code} {Q : State → Prop} (l : Launch) (hl : l.stackTraces = false) (G : pw_G) (hX : pw_Cx p l s m args meth c G cL_law 7 RL) (hLn : G.2.2.2.2.1 < 2 ^ 31) (ax ay ao ii : Nat) (hi : ii + 3 < G.2.2.2.2.1) (th : Int32) (oL : Nat → Int64) (M : pw_M) (cn sl : Nat) (hW : LW G ax ay ao th oL M) (hcn : cn + 5 ≤ 601024) (hsl : sl + 36 ≤ 7293000) (kk : ∀ (M9 : pw_M) (th9 : Int32) (oL9 : Nat → Int64) (c9 s9 : Nat), LW G ax ay ao th9 oL9 M9 → c9 ≤ cn + 5 → s9 ≤ sl + 36 → pw_W p l e room_1 s m args below meth c Q G 7 M9 c9 s9 1210 [(4, .int (nI ii)), (3, .ref ao), (2, .ref ay), (1, .ref ax), (0, .ref G.2.2.2.1)] []) : pw_W p l e room_1 s m args below meth c Q G 7 M cn sl 204 [(4, .int (nI ii)), (3, .ref ao), (2, .ref ay), (1, .ref ax), (0, .ref G.2.2.2.1)] [] := by
  obtain ⟨ad, am, n, oc, td, sn, dk, to, er, os, pl, oo, wa, pr, de, la, rfl, rfl, hc, hm, ho, hds, hsn, hI⟩ := hW
  refine pw_aload_n (pc := 204) hX dL_law_204 3 rfl ?_
  refine pw_aload_n (pc := 205) hX dL_law_205 1 rfl ?_
  refine pw_callSh (pc := 206) (st := []) hX (lc_order l hl G M (ad 0) ao  _ hc.1 oL _ _ (cp_order l hl G M ad n oc td (nI sn) dk to er os pl oo wa pr de hc ) (fun v M1 h => by obtain ⟨-, hv, _, _, _, -, -, -, -, -, hf⟩ := h; exact ⟨_, hv, hf _ _ ho hds.2.1⟩)) ok_L_order lk_RL_93 dL_law_206 rfl ⟨⟨by decide, by decide⟩, Nat.le_of_ble_eq_true rfl, (show _ ≤ 601024 by omega), (show _ ≤ 7293000 by omega)⟩ rfl (fun v9 M9 hp9 => ?_)
  obtain ⟨rfl, hm1⟩ := j1 (PO := (fun v9 M9 => cd_order oc = 0 ∧ v9 = some (.int (nI oc)) ∧ ∃ (ad9 : Nat → Nat) (f9 : Nat → Int32) (b9 : Nat), (∀ x, x < 6 + 4 * oc → ad9 x = ad x) ∧ ab M b9 ∧ (∀ g, g < 10 → f9 g = -1) ∧ (∀ x, 6 + 4 * oc ≤ x → x < 6 + 4 * (oc + 1) → b9 ≤ ad9 x) ∧ cw G ad9 n (oc + 1) td (nI sn) dk to er (va_up os oc 0) (va_up pl oc (-1)) oo (va_up wa oc (fun _ => 0)) (va_up pr oc (fun _ => 0)) (va_up de oc f9) M9 ∧ fm ad (6 + 4 * oc) M M9)) (cv := fun y => y.toInt64) (cd := (cd_order oc)) hm hds (fun v M1 h => by obtain ⟨h0, -, _, _, _, -, -, -, -, -, hf⟩ := h; exact ⟨h0, hf⟩) hp9
  refine pw_istore (pc := 209) hX [(5, .int ((cd_order oc))), (4, .int (nI ii)), (3, .ref ao), (2, .ref (am 0)), (1, .ref (ad 0)), (0, .ref G.2.2.2.1)] dL_law_209 (by decide) rfl ?_
  refine pw_aload_n (pc := 211) hX dL_law_211 3 rfl ?_
  refine pw_callV (pc := 212) (st := []) hX (mp_order l hl G M9 am n oc td th (lN sn) dk to er os pl wa pr la hm1  ) hm1.1 rfl ok_X2_order lk_RL_96 dL_law_212 rfl ⟨⟨by decide, by decide⟩, Nat.le_of_ble_eq_true rfl, (show _ ≤ 601024 by omega), (show _ ≤ 7293000 by omega)⟩ rfl (fun v8 M8 hp8 => ?_)
  obtain ⟨z, oL8, rfl, hW8, hz8⟩ := j2_order  hc hm ho hds hsn hI hp9 hp8
  refine pw_istore (pc := 215) hX [(6, .int z), (5, .int ((cd_order oc))), (4, .int (nI ii)), (3, .ref ao), (2, .ref (am 0)), (1, .ref (ad 0)), (0, .ref G.2.2.2.1)] dL_law_215 (by decide) rfl ?_
  refine pw_aload_n (pc := 217) hX dL_law_217 4 rfl ?_
  refine pw_callV (pc := 218) (st := []) hX (lt_thrown l hl hW8) (lt_m hW8).choose_spec rfl ok_X2_thrown lk_RL_90 dL_law_218 rfl ⟨⟨by decide, by decide⟩, Nat.le_of_ble_eq_true rfl, (show _ ≤ 601024 by omega), (show _ ≤ 7293000 by omega)⟩ rfl (fun v7 M7 hp7 => ?_)
  obtain ⟨rfl, rfl⟩ := hp7
  refine pw_iload (pc := 221) hX dL_law_221 1 rfl ?_
  refine pw_icmp_eq (pc := 223) hX 228 dL_law_223 (by decide) (fun hc_1 => ?_) (fun hc_1 => absurd rfl hc_1)
  refine pw_iload (pc := 228) hX dL_law_228 1 rfl ?_
  refine pw_if_ne (pc := 230) hX 245 dL_law_230 (by decide) (fun hc_2 => ?_) (fun hc_2 => ?_)
  · refine pw_goto (pc := 245) hX 1210 dL_law_245 (by decide) ?_
    exact pw_lv [2, 3, 4, 5, 6] _ rfl (kk _ _ _ _ _ hW8 (by omega) (by omega))
  · refine pw_aload_n (pc := 233) hX dL_law_233 3 rfl ?_
    refine pw_iconst (pc := 234) (v := 0) hX dL_law_234 (by decide) ?_
    refine pw_lald (pc := 235) (j := 0) hX dL_law_235 (lt_o hW8) (by decide) (by decide) ?_
    refine pw_iload (pc := 236) hX dL_law_236 0 rfl ?_
    refine pw_i2l (pc := 238) (v := z.toInt64) hX dL_law_238 rfl ?_
    refine pw_lcmp (pc := 239) (z := 0) hX dL_law_239 (lg_0 (hz8 hc_2)) ?_
    refine pw_if_eq (pc := 240) hX 245 dL_law_240 (by decide) (fun hc_3 => ?_) (fun hc_3 => absurd rfl hc_3)
    refine pw_goto (pc := 245) hX 1210 dL_law_245 (by decide) ?_
    exact pw_lv [2, 3, 4, 5, 6] _ rfl (kk _ _ _ _ _ hW8 (by omega) (by omega))
set_option maxHeartbeats 4000000 in
set_option maxRecDepth 100000 in
theorem lw_c2 {p : Program} {e : Env} {s : State} {m : MethodId} {args : Array Value} {below : List Frame} {meth : Method} {c : Code} {Q : State → Prop} (l : Launch) (hl : l.stackTraces = false) (G : pw_G) (hX : pw_Cx p l s m args meth c G cL_law 7 RL) (hLn : G.2.2.2.2.1 < 2 ^ 31) (ax ay ao ii : Nat) (hi : ii + 3 < G.2.2.2.2.1) (th : Int32) (oL : Nat → Int64) (M : pw_M) (cn sl : Nat) (hW : LW G ax ay ao th oL M) (hcn : cn + 5 ≤ 601024) (hsl : sl + 36 ≤ 7293000) (kk : ∀ (M9 : pw_M) (th9 : Int32) (oL9 : Nat → Int64) (c9 s9 : Nat), LW G ax ay ao th9 oL9 M9 → c9 ≤ cn + 5 → s9 ≤ sl + 36 → pw_W p l e room_1 s m args below meth c Q G 7 M9 c9 s9 1210 [(4, .int (nI ii)), (3, .ref ao), (2, .ref ay), (1, .ref ax), (0, .ref G.2.2.2.1)] []) : pw_W p l e room_1 s m args below meth c Q G 7 M cn sl 248 [(4, .int (nI ii)), (3, .ref ao), (2, .ref ay), (1, .ref ax), (0, .ref G.2.2.2.1)] [] := by
  obtain ⟨ad, am, n, oc, td, sn, dk, to, er, os, pl, oo, wa, pr, de, la, rfl, rfl, hc, hm, ho, hds, hsn, hI⟩ := hW
  refine pw_aload_n (pc := 248) hX dL_law_248 3 rfl ?_
  refine pw_aload_n (pc := 249) hX dL_law_249 4 rfl ?_
  refine pw_iload (pc := 250) hX dL_law_250 0 rfl ?_
  refine pw_iconst (pc := 252) (v := 1) hX dL_law_252 (by decide) ?_
  refine pw_iadd (pc := 253) (z := nI (ii + 1)) hX dL_law_253 (nI_add ii 1) ?_
  refine pw_sld (pc := 254) (j := ii + 1) hX dL_law_254 (by omega) hLn ?_
  refine pw_aload_n (pc := 255) hX dL_law_255 4 rfl ?_
  refine pw_iload (pc := 256) hX dL_law_256 0 rfl ?_
  refine pw_iconst (pc := 258) (v := 2) hX dL_law_258 (by decide) ?_
  refine pw_iadd (pc := 259) (z := nI (ii + 2)) hX dL_law_259 (nI_add ii 2) ?_
  refine pw_sld (pc := 260) (j := ii + 2) hX dL_law_260 (by omega) hLn ?_
  refine pw_aload_n (pc := 261) hX dL_law_261 4 rfl ?_
  refine pw_iload (pc := 262) hX dL_law_262 0 rfl ?_
  refine pw_iconst (pc := 264) (v := 3) hX dL_law_264 (by decide) ?_
  refine pw_iadd (pc := 265) (z := nI (ii + 3)) hX dL_law_265 (nI_add ii 3) ?_
  refine pw_sld (pc := 266) (j := ii + 3) hX dL_law_266 (by omega) hLn ?_
  refine pw_callSh (pc := 267) (st := []) hX (lc_line l hl G M (ad 0) (G.2.2.2.2.2 (ii + 1)) (G.2.2.2.2.2 (ii + 2)) (G.2.2.2.2.2 (ii + 3)) _ hc.1 _ _ (cp_line l hl G M ad n oc td (nI sn) dk to er os pl oo wa pr de hc (G.2.2.2.2.2 (ii + 1)) (G.2.2.2.2.2 (ii + 2)) (G.2.2.2.2.2 (ii + 3))) (fun v M1 h => h.2.1)) ok_L_line lk_RL_97 dL_law_267 rfl ⟨⟨by decide, by decide⟩, Nat.le_of_ble_eq_true rfl, (show _ ≤ 601024 by omega), (show _ ≤ 7293000 by omega)⟩ rfl (fun v9 M9 hp9 => ?_)
  obtain ⟨rfl, hm1⟩ := j1v (PO := (fun v9 M9 => cd_line oc os wa (G.2.2.2.2.2 (ii + 1)) (G.2.2.2.2.2 (ii + 2)) (G.2.2.2.2.2 (ii + 3)) = 0 ∧ v9 = none ∧ cw G ad n oc td (nI sn) dk to er os pl oo (va_up wa (ix (G.2.2.2.2.2 (ii + 1))) (upd (wa (ix (G.2.2.2.2.2 (ii + 1)))) (ix (G.2.2.2.2.2 (ii + 2))) (G.2.2.2.2.2 (ii + 3)))) pr de M9 ∧ fm ad (6 + 4 * oc) M M9)) (cd := (cd_line oc os wa (G.2.2.2.2.2 (ii + 1)) (G.2.2.2.2.2 (ii + 2)) (G.2.2.2.2.2 (ii + 3)))) hm hds (fun v M1 h => ⟨h.1, h.2.2.2⟩) hp9
  refine pw_istore (pc := 270) hX [(5, .int ((cd_line oc os wa (G.2.2.2.2.2 (ii + 1)) (G.2.2.2.2.2 (ii + 2)) (G.2.2.2.2.2 (ii + 3))))), (4, .int (nI ii)), (3, .ref ao), (2, .ref (am 0)), (1, .ref (ad 0)), (0, .ref G.2.2.2.1)] dL_law_270 (by decide) rfl ?_
  refine pw_aload_n (pc := 272) hX dL_law_272 3 rfl ?_
  refine pw_aload_n (pc := 273) hX dL_law_273 5 rfl ?_
  refine pw_iload (pc := 274) hX dL_law_274 1 rfl ?_
  refine pw_iconst (pc := 276) (v := 1) hX dL_law_276 (by decide) ?_
  refine pw_iadd (pc := 277) (z := nI (ii + 1)) hX dL_law_277 (nI_add ii 1) ?_
  refine pw_sld (pc := 278) (j := ii + 1) hX dL_law_278 (by omega) hLn ?_
  refine pw_aload_n (pc := 279) hX dL_law_279 5 rfl ?_
  refine pw_iload (pc := 280) hX dL_law_280 1 rfl ?_
  refine pw_iconst (pc := 282) (v := 2) hX dL_law_282 (by decide) ?_
  refine pw_iadd (pc := 283) (z := nI (ii + 2)) hX dL_law_283 (nI_add ii 2) ?_
  refine pw_sld (pc := 284) (j := ii + 2) hX dL_law_284 (by omega) hLn ?_
  refine pw_aload_n (pc := 285) hX dL_law_285 5 rfl ?_
  refine pw_iload (pc := 286) hX dL_law_286 1 rfl ?_
  refine pw_iconst (pc := 288) (v := 3) hX dL_law_288 (by decide) ?_
  refine pw_iadd (pc := 289) (z := nI (ii + 3)) hX dL_law_289 (nI_add ii 3) ?_
  refine pw_sld (pc := 290) (j := ii + 3) hX dL_law_290 (by omega) hLn ?_
  refine pw_callV (pc := 291) (st := []) hX (mp_line l hl G M9 am n oc td th (lN sn) dk to er os pl wa pr la hm1  (G.2.2.2.2.2 (ii + 1)) (G.2.2.2.2.2 (ii + 2)) (G.2.2.2.2.2 (ii + 3))) hm1.1 rfl ok_X2_line lk_RL_100 dL_law_291 rfl ⟨⟨by decide, by decide⟩, Nat.le_of_ble_eq_true rfl, (show _ ≤ 601024 by omega), (show _ ≤ 7293000 by omega)⟩ rfl (fun v8 M8 hp8 => ?_)
  obtain ⟨rfl, oL8, hW8⟩ := j2_line (G.2.2.2.2.2 (ii + 1)) (G.2.2.2.2.2 (ii + 2)) (G.2.2.2.2.2 (ii + 3)) hc hm ho hds hsn hI hp9 hp8
  refine pw_aload_n (pc := 294) hX dL_law_294 3 rfl ?_
  refine pw_callV (pc := 295) (st := []) hX (lt_thrown l hl hW8) (lt_m hW8).choose_spec rfl ok_X2_thrown lk_RL_90 dL_law_295 rfl ⟨⟨by decide, by decide⟩, Nat.le_of_ble_eq_true rfl, (show _ ≤ 601024 by omega), (show _ ≤ 7293000 by omega)⟩ rfl (fun v7 M7 hp7 => ?_)
  obtain ⟨rfl, rfl⟩ := hp7
  refine pw_iload (pc := 298) hX dL_law_298 0 rfl ?_
  refine pw_icmp_eq (pc := 300) hX 305 dL_law_300 (by decide) (fun hc_1 => ?_) (fun hc_1 => absurd rfl hc_1)
  refine pw_goto (pc := 305) hX 1210 dL_law_305 (by decide) ?_
  exact pw_lv [1, 2, 3, 4, 5] _ rfl (kk _ _ _ _ _ hW8 (by omega) (by omega))
set_option maxHeartbeats 4000000 in
set_option maxRecDepth 100000 in
theorem lw_c3 {p : Program} {e : Env} {s : State} {m : MethodId} {args : Array Value} {below : List Frame} {meth : Method} {c : Code} {Q : State → Prop} (l : Launch) (hl : l.stackTraces = false) (G : pw_G) (hX : pw_Cx p l s m args meth c G cL_law 7 RL) (hLn : G.2.2.2.2.1 < 2 ^ 31) (ax ay ao ii : Nat) (hi : ii + 3 < G.2.2.2.2.1) (th : Int32) (oL : Nat → Int64) (M : pw_M) (cn sl : Nat) (hW : LW G ax ay ao th oL M) (hcn : cn + 5 ≤ 601024) (hsl : sl + 36 ≤ 7293000) (kk : ∀ (M9 : pw_M) (th9 : Int32) (oL9 : Nat → Int64) (c9 s9 : Nat), LW G ax ay ao th9 oL9 M9 → c9 ≤ cn + 5 → s9 ≤ sl + 36 → pw_W p l e room_1 s m args below meth c Q G 7 M9 c9 s9 1210 [(4, .int (nI ii)), (3, .ref ao), (2, .ref ay), (1, .ref ax), (0, .ref G.2.2.2.1)] []) : pw_W p l e room_1 s m args below meth c Q G 7 M cn sl 308 [(4, .int (nI ii)), (3, .ref ao), (2, .ref ay), (1, .ref ax), (0, .ref G.2.2.2.1)] [] := by
  obtain ⟨ad, am, n, oc, td, sn, dk, to, er, os, pl, oo, wa, pr, de, la, rfl, rfl, hc, hm, ho, hds, hsn, hI⟩ := hW
  refine pw_aload_n (pc := 308) hX dL_law_308 3 rfl ?_
  refine pw_aload_n (pc := 309) hX dL_law_309 4 rfl ?_
  refine pw_iload (pc := 310) hX dL_law_310 0 rfl ?_
  refine pw_iconst (pc := 312) (v := 1) hX dL_law_312 (by decide) ?_
  refine pw_iadd (pc := 313) (z := nI (ii + 1)) hX dL_law_313 (nI_add ii 1) ?_
  refine pw_sld (pc := 314) (j := ii + 1) hX dL_law_314 (by omega) hLn ?_
  refine pw_aload_n (pc := 315) hX dL_law_315 1 rfl ?_
  refine pw_callSh (pc := 316) (st := []) hX (lc_cell l hl G M (ad 0) ao (G.2.2.2.2.2 (ii + 1)) _ hc.1 oL _ _ (cp_cell l hl G M ad n oc td (nI sn) dk to er os pl oo wa pr de hc (G.2.2.2.2.2 (ii + 1))) (fun v M1 h => by obtain ⟨-, ⟨_, -, hv, -⟩ | ⟨hv, -⟩, hf⟩ := h <;> exact ⟨_, hv, hf _ _ ho hds.2.1⟩)) ok_L_cell_ lk_RL_101 dL_law_316 rfl ⟨⟨by decide, by decide⟩, Nat.le_of_ble_eq_true rfl, (show _ ≤ 601024 by omega), (show _ ≤ 7293000 by omega)⟩ rfl (fun v9 M9 hp9 => ?_)
  obtain ⟨rfl, hm1⟩ := j1 (PO := (fun v9 M9 => cd_cell oc os wa (G.2.2.2.2.2 (ii + 1)) = 0 ∧ ((∃ i, i < n ∧ v9 = some (.int (nI i)) ∧ oo i = none ∧ dk i = 0 ∧ (∀ k, k < i → ¬ (oo k = none ∧ dk k = 0)) ∧ cw G ad n oc td (nI sn) dk to er (va_up os (ix (G.2.2.2.2.2 (ii + 1))) 1) (va_up pl (ix (G.2.2.2.2.2 (ii + 1))) (nI i)) (va_up oo i (some (ix (G.2.2.2.2.2 (ii + 1))))) wa pr de M9) ∨ v9 = some (.int (-1)) ∧ (∀ i, i < n → ¬ (oo i = none ∧ dk i = 0)) ∧ M = M9) ∧ fm ad (6 + 4 * oc) M M9)) (cv := fun y => y.toInt64) (cd := (cd_cell oc os wa (G.2.2.2.2.2 (ii + 1)))) hm hds (fun v M1 h => ⟨h.1, h.2.2⟩) hp9
  refine pw_istore (pc := 319) hX [(5, .int ((cd_cell oc os wa (G.2.2.2.2.2 (ii + 1))))), (4, .int (nI ii)), (3, .ref ao), (2, .ref (am 0)), (1, .ref (ad 0)), (0, .ref G.2.2.2.1)] dL_law_319 (by decide) rfl ?_
  refine pw_aload_n (pc := 321) hX dL_law_321 3 rfl ?_
  refine pw_aload_n (pc := 322) hX dL_law_322 5 rfl ?_
  refine pw_iload (pc := 323) hX dL_law_323 1 rfl ?_
  refine pw_iconst (pc := 325) (v := 1) hX dL_law_325 (by decide) ?_
  refine pw_iadd (pc := 326) (z := nI (ii + 1)) hX dL_law_326 (nI_add ii 1) ?_
  refine pw_sld (pc := 327) (j := ii + 1) hX dL_law_327 (by omega) hLn ?_
  refine pw_callV (pc := 328) (st := []) hX (mp_cell l hl G M9 am n oc td th (lN sn) dk to er os pl wa pr la hm1 oo hI.1 (G.2.2.2.2.2 (ii + 1))) hm1.1 rfl ok_X2_cell lk_RL_104 dL_law_328 rfl ⟨⟨by decide, by decide⟩, Nat.le_of_ble_eq_true rfl, (show _ ≤ 601024 by omega), (show _ ≤ 7293000 by omega)⟩ rfl (fun v8 M8 hp8 => ?_)
  obtain ⟨z, oL8, rfl, hW8, hz8⟩ := j2_cell (G.2.2.2.2.2 (ii + 1)) hc hm ho hds hsn hI hp9 hp8
  refine pw_istore (pc := 331) hX [(6, .int z), (5, .int ((cd_cell oc os wa (G.2.2.2.2.2 (ii + 1))))), (4, .int (nI ii)), (3, .ref ao), (2, .ref (am 0)), (1, .ref (ad 0)), (0, .ref G.2.2.2.1)] dL_law_331 (by decide) rfl ?_
  refine pw_aload_n (pc := 333) hX dL_law_333 4 rfl ?_
  refine pw_callV (pc := 334) (st := []) hX (lt_thrown l hl hW8) (lt_m hW8).choose_spec rfl ok_X2_thrown lk_RL_90 dL_law_334 rfl ⟨⟨by decide, by decide⟩, Nat.le_of_ble_eq_true rfl, (show _ ≤ 601024 by omega), (show _ ≤ 7293000 by omega)⟩ rfl (fun v7 M7 hp7 => ?_)
  obtain ⟨rfl, rfl⟩ := hp7
  refine pw_iload (pc := 337) hX dL_law_337 1 rfl ?_
  refine pw_icmp_eq (pc := 339) hX 344 dL_law_339 (by decide) (fun hc_1 => ?_) (fun hc_1 => absurd rfl hc_1)
  refine pw_iload (pc := 344) hX dL_law_344 1 rfl ?_
  refine pw_if_ne (pc := 346) hX 361 dL_law_346 (by decide) (fun hc_2 => ?_) (fun hc_2 => ?_)
  · refine pw_goto (pc := 361) hX 1210 dL_law_361 (by decide) ?_
    exact pw_lv [2, 3, 4, 5, 6] _ rfl (kk _ _ _ _ _ hW8 (by omega) (by omega))
  · refine pw_aload_n (pc := 349) hX dL_law_349 3 rfl ?_
    refine pw_iconst (pc := 350) (v := 0) hX dL_law_350 (by decide) ?_
    refine pw_lald (pc := 351) (j := 0) hX dL_law_351 (lt_o hW8) (by decide) (by decide) ?_
    refine pw_iload (pc := 352) hX dL_law_352 0 rfl ?_
    refine pw_i2l (pc := 354) (v := z.toInt64) hX dL_law_354 rfl ?_
    refine pw_lcmp (pc := 355) (z := 0) hX dL_law_355 (lg_0 (hz8 hc_2)) ?_
    refine pw_if_eq (pc := 356) hX 361 dL_law_356 (by decide) (fun hc_3 => ?_) (fun hc_3 => absurd rfl hc_3)
    refine pw_goto (pc := 361) hX 1210 dL_law_361 (by decide) ?_
    exact pw_lv [2, 3, 4, 5, 6] _ rfl (kk _ _ _ _ _ hW8 (by omega) (by omega))
set_option maxHeartbeats 4000000 in
set_option maxRecDepth 100000 in
theorem lw_c4 {p : Program} {e : Env} {s : State} {m : MethodId} {args : Array Value} {below : List Frame} {meth : Method} {c : Code} {Q : State → Prop} (l : Launch) (hl : l.stackTraces = false) (G : pw_G) (hX : pw_Cx p l s m args meth c G cL_law 7 RL) (hLn : G.2.2.2.2.1 < 2 ^ 31) (ax ay ao ii : Nat) (hi : ii + 3 < G.2.2.2.2.1) (th : Int32) (oL : Nat → Int64) (M : pw_M) (cn sl : Nat) (hW : LW G ax ay ao th oL M) (hcn : cn + 5 ≤ 601024) (hsl : sl + 36 ≤ 7293000) (kk : ∀ (M9 : pw_M) (th9 : Int32) (oL9 : Nat → Int64) (c9 s9 : Nat), LW G ax ay ao th9 oL9 M9 → c9 ≤ cn + 5 → s9 ≤ sl + 36 → pw_W p l e room_1 s m args below meth c Q G 7 M9 c9 s9 1210 [(4, .int (nI ii)), (3, .ref ao), (2, .ref ay), (1, .ref ax), (0, .ref G.2.2.2.1)] []) : pw_W p l e room_1 s m args below meth c Q G 7 M cn sl 364 [(4, .int (nI ii)), (3, .ref ao), (2, .ref ay), (1, .ref ax), (0, .ref G.2.2.2.1)] [] := by
  obtain ⟨ad, am, n, oc, td, sn, dk, to, er, os, pl, oo, wa, pr, de, la, rfl, rfl, hc, hm, ho, hds, hsn, hI⟩ := hW
  refine pw_aload_n (pc := 364) hX dL_law_364 3 rfl ?_
  refine pw_aload_n (pc := 365) hX dL_law_365 4 rfl ?_
  refine pw_iload (pc := 366) hX dL_law_366 0 rfl ?_
  refine pw_iconst (pc := 368) (v := 1) hX dL_law_368 (by decide) ?_
  refine pw_iadd (pc := 369) (z := nI (ii + 1)) hX dL_law_369 (nI_add ii 1) ?_
  refine pw_sld (pc := 370) (j := ii + 1) hX dL_law_370 (by omega) hLn ?_
  refine pw_aload_n (pc := 371) hX dL_law_371 4 rfl ?_
  refine pw_iload (pc := 372) hX dL_law_372 0 rfl ?_
  refine pw_iconst (pc := 374) (v := 2) hX dL_law_374 (by decide) ?_
  refine pw_iadd (pc := 375) (z := nI (ii + 2)) hX dL_law_375 (nI_add ii 2) ?_
  refine pw_sld (pc := 376) (j := ii + 2) hX dL_law_376 (by omega) hLn ?_
  refine pw_if_eq (pc := 377) hX 384 dL_law_377 (by decide) (fun hc_1 => ?_) (fun hc_1 => ?_)
  · refine pw_iconst (pc := 384) (v := 0) hX dL_law_384 (by decide) ?_
    refine pw_aload_n (pc := 385) hX dL_law_385 1 rfl ?_
    refine pw_callSh (pc := 386) (st := []) hX (lc_light l hl G M (ad 0) ao (G.2.2.2.2.2 (ii + 1)) 0 _ hc.1 oL _ _ (cp_light l hl G M ad n oc td (nI sn) dk to er os pl oo wa pr de hc (G.2.2.2.2.2 (ii + 1)) 0) (fun v M1 h => ⟨_, h.2.1, h.2.2.2 _ _ ho hds.2.1⟩)) ok_L_light lk_RL_105 dL_law_386 rfl ⟨⟨by decide, by decide⟩, Nat.le_of_ble_eq_true rfl, (show _ ≤ 601024 by omega), (show _ ≤ 7293000 by omega)⟩ rfl (fun v9 M9 hp9 => ?_)
    obtain ⟨rfl, hm1⟩ := j1 (PO := (fun v9 M9 => cd_light n (G.2.2.2.2.2 (ii + 1)) = 0 ∧ v9 = some (.int (if dk (ix (G.2.2.2.2.2 (ii + 1))) = 0 then 1 else 0)) ∧ cw G ad n oc td (nI sn) (upd dk (ix (G.2.2.2.2.2 (ii + 1))) (if 0 = 0 then 1 else 0)) to er os pl oo wa pr de M9 ∧ fm ad (6 + 4 * oc) M M9)) (cv := fun y => if y = 0 then 0 else 1) (cd := (cd_light n (G.2.2.2.2.2 (ii + 1)))) hm hds (fun v M1 h => ⟨h.1, h.2.2.2⟩) hp9
    refine pw_istore (pc := 389) hX [(5, .int ((cd_light n (G.2.2.2.2.2 (ii + 1))))), (4, .int (nI ii)), (3, .ref ao), (2, .ref (am 0)), (1, .ref (ad 0)), (0, .ref G.2.2.2.1)] dL_law_389 (by decide) rfl ?_
    refine pw_aload_n (pc := 391) hX dL_law_391 3 rfl ?_
    refine pw_aload_n (pc := 392) hX dL_law_392 5 rfl ?_
    refine pw_iload (pc := 393) hX dL_law_393 1 rfl ?_
    refine pw_iconst (pc := 395) (v := 1) hX dL_law_395 (by decide) ?_
    refine pw_iadd (pc := 396) (z := nI (ii + 1)) hX dL_law_396 (nI_add ii 1) ?_
    refine pw_sld (pc := 397) (j := ii + 1) hX dL_law_397 (by omega) hLn ?_
    refine pw_aload_n (pc := 398) hX dL_law_398 5 rfl ?_
    refine pw_iload (pc := 399) hX dL_law_399 1 rfl ?_
    refine pw_iconst (pc := 401) (v := 2) hX dL_law_401 (by decide) ?_
    refine pw_iadd (pc := 402) (z := nI (ii + 2)) hX dL_law_402 (nI_add ii 2) ?_
    refine pw_sld (pc := 403) (j := ii + 2) hX dL_law_403 (by omega) hLn ?_
    refine pw_if_eq (pc := 404) hX 411 dL_law_404 (by decide) (fun hc_2 => ?_) (fun hc_2 => absurd hc_1 hc_2)
    refine pw_iconst (pc := 411) (v := 0) hX dL_law_411 (by decide) ?_
    refine pw_callV (pc := 412) (st := []) hX (mp_light l hl G M9 am n oc td th (lN sn) dk to er os pl wa pr la hm1  (G.2.2.2.2.2 (ii + 1)) 0) hm1.1 rfl ok_X2_light lk_RL_108 dL_law_412 rfl ⟨⟨by decide, by decide⟩, Nat.le_of_ble_eq_true rfl, (show _ ≤ 601024 by omega), (show _ ≤ 7293000 by omega)⟩ rfl (fun v8 M8 hp8 => ?_)
    obtain ⟨z, oL8, rfl, hW8, hz8⟩ := j2_light (G.2.2.2.2.2 (ii + 1)) 0 hc hm ho hds hsn hI hp9 hp8
    refine pw_istore (pc := 415) hX [(6, .int z), (5, .int ((cd_light n (G.2.2.2.2.2 (ii + 1))))), (4, .int (nI ii)), (3, .ref ao), (2, .ref (am 0)), (1, .ref (ad 0)), (0, .ref G.2.2.2.1)] dL_law_415 (by decide) rfl ?_
    refine pw_aload_n (pc := 417) hX dL_law_417 4 rfl ?_
    refine pw_callV (pc := 418) (st := []) hX (lt_thrown l hl hW8) (lt_m hW8).choose_spec rfl ok_X2_thrown lk_RL_90 dL_law_418 rfl ⟨⟨by decide, by decide⟩, Nat.le_of_ble_eq_true rfl, (show _ ≤ 601024 by omega), (show _ ≤ 7293000 by omega)⟩ rfl (fun v7 M7 hp7 => ?_)
    obtain ⟨rfl, rfl⟩ := hp7
    refine pw_iload (pc := 421) hX dL_law_421 1 rfl ?_
    refine pw_icmp_eq (pc := 423) hX 428 dL_law_423 (by decide) (fun hc_3 => ?_) (fun hc_3 => absurd rfl hc_3)
    refine pw_iload (pc := 428) hX dL_law_428 1 rfl ?_
    refine pw_if_ne (pc := 430) hX 452 dL_law_430 (by decide) (fun hc_4 => ?_) (fun hc_4 => ?_)
    · refine pw_goto (pc := 452) hX 1210 dL_law_452 (by decide) ?_
      exact pw_lv [2, 3, 4, 5, 6] _ rfl (kk _ _ _ _ _ hW8 (by omega) (by omega))
    · refine pw_aload_n (pc := 433) hX dL_law_433 3 rfl ?_
      refine pw_iconst (pc := 434) (v := 0) hX dL_law_434 (by decide) ?_
      refine pw_lald (pc := 435) (j := 0) hX dL_law_435 (lt_o hW8) (by decide) (by decide) ?_
      refine pw_iload (pc := 436) hX dL_law_436 0 rfl ?_
      refine pw_if_eq (pc := 438) hX 445 dL_law_438 (by decide) (fun hc_5 => ?_) (fun hc_5 => ?_)
      · refine pw_lconst (pc := 445) (v := 0) hX dL_law_445 (by decide) ?_
        refine pw_lcmp (pc := 446) (z := 0) hX dL_law_446 (lg_0 ((hz8 hc_4).trans (if_pos hc_5))) ?_
        refine pw_if_eq (pc := 447) hX 452 dL_law_447 (by decide) (fun hc_6 => ?_) (fun hc_6 => absurd rfl hc_6)
        refine pw_goto (pc := 452) hX 1210 dL_law_452 (by decide) ?_
        exact pw_lv [2, 3, 4, 5, 6] _ rfl (kk _ _ _ _ _ hW8 (by omega) (by omega))
      · refine pw_lconst (pc := 441) (v := 1) hX dL_law_441 (by decide) ?_
        refine pw_goto (pc := 442) hX 446 dL_law_442 (by decide) ?_
        refine pw_lcmp (pc := 446) (z := 0) hX dL_law_446 (lg_0 ((hz8 hc_4).trans (if_neg hc_5))) ?_
        refine pw_if_eq (pc := 447) hX 452 dL_law_447 (by decide) (fun hc_7 => ?_) (fun hc_7 => absurd rfl hc_7)
        refine pw_goto (pc := 452) hX 1210 dL_law_452 (by decide) ?_
        exact pw_lv [2, 3, 4, 5, 6] _ rfl (kk _ _ _ _ _ hW8 (by omega) (by omega))
  · refine pw_iconst (pc := 380) (v := 1) hX dL_law_380 (by decide) ?_
    refine pw_goto (pc := 381) hX 385 dL_law_381 (by decide) ?_
    refine pw_aload_n (pc := 385) hX dL_law_385 1 rfl ?_
    refine pw_callSh (pc := 386) (st := []) hX (lc_light l hl G M (ad 0) ao (G.2.2.2.2.2 (ii + 1)) 1 _ hc.1 oL _ _ (cp_light l hl G M ad n oc td (nI sn) dk to er os pl oo wa pr de hc (G.2.2.2.2.2 (ii + 1)) 1) (fun v M1 h => ⟨_, h.2.1, h.2.2.2 _ _ ho hds.2.1⟩)) ok_L_light lk_RL_105 dL_law_386 rfl ⟨⟨by decide, by decide⟩, Nat.le_of_ble_eq_true rfl, (show _ ≤ 601024 by omega), (show _ ≤ 7293000 by omega)⟩ rfl (fun v9 M9 hp9 => ?_)
    obtain ⟨rfl, hm1⟩ := j1 (PO := (fun v9 M9 => cd_light n (G.2.2.2.2.2 (ii + 1)) = 0 ∧ v9 = some (.int (if dk (ix (G.2.2.2.2.2 (ii + 1))) = 0 then 1 else 0)) ∧ cw G ad n oc td (nI sn) (upd dk (ix (G.2.2.2.2.2 (ii + 1))) (if 1 = 0 then 1 else 0)) to er os pl oo wa pr de M9 ∧ fm ad (6 + 4 * oc) M M9)) (cv := fun y => if y = 0 then 0 else 1) (cd := (cd_light n (G.2.2.2.2.2 (ii + 1)))) hm hds (fun v M1 h => ⟨h.1, h.2.2.2⟩) hp9
    refine pw_istore (pc := 389) hX [(5, .int ((cd_light n (G.2.2.2.2.2 (ii + 1))))), (4, .int (nI ii)), (3, .ref ao), (2, .ref (am 0)), (1, .ref (ad 0)), (0, .ref G.2.2.2.1)] dL_law_389 (by decide) rfl ?_
    refine pw_aload_n (pc := 391) hX dL_law_391 3 rfl ?_
    refine pw_aload_n (pc := 392) hX dL_law_392 5 rfl ?_
    refine pw_iload (pc := 393) hX dL_law_393 1 rfl ?_
    refine pw_iconst (pc := 395) (v := 1) hX dL_law_395 (by decide) ?_
    refine pw_iadd (pc := 396) (z := nI (ii + 1)) hX dL_law_396 (nI_add ii 1) ?_
    refine pw_sld (pc := 397) (j := ii + 1) hX dL_law_397 (by omega) hLn ?_
    refine pw_aload_n (pc := 398) hX dL_law_398 5 rfl ?_
    refine pw_iload (pc := 399) hX dL_law_399 1 rfl ?_
    refine pw_iconst (pc := 401) (v := 2) hX dL_law_401 (by decide) ?_
    refine pw_iadd (pc := 402) (z := nI (ii + 2)) hX dL_law_402 (nI_add ii 2) ?_
    refine pw_sld (pc := 403) (j := ii + 2) hX dL_law_403 (by omega) hLn ?_
    refine pw_if_eq (pc := 404) hX 411 dL_law_404 (by decide) (fun hc_8 => absurd hc_8 hc_1) (fun hc_8 => ?_)
    refine pw_iconst (pc := 407) (v := 1) hX dL_law_407 (by decide) ?_
    refine pw_goto (pc := 408) hX 412 dL_law_408 (by decide) ?_
    refine pw_callV (pc := 412) (st := []) hX (mp_light l hl G M9 am n oc td th (lN sn) dk to er os pl wa pr la hm1  (G.2.2.2.2.2 (ii + 1)) 1) hm1.1 rfl ok_X2_light lk_RL_108 dL_law_412 rfl ⟨⟨by decide, by decide⟩, Nat.le_of_ble_eq_true rfl, (show _ ≤ 601024 by omega), (show _ ≤ 7293000 by omega)⟩ rfl (fun v8 M8 hp8 => ?_)
    obtain ⟨z, oL8, rfl, hW8, hz8⟩ := j2_light (G.2.2.2.2.2 (ii + 1)) 1 hc hm ho hds hsn hI hp9 hp8
    refine pw_istore (pc := 415) hX [(6, .int z), (5, .int ((cd_light n (G.2.2.2.2.2 (ii + 1))))), (4, .int (nI ii)), (3, .ref ao), (2, .ref (am 0)), (1, .ref (ad 0)), (0, .ref G.2.2.2.1)] dL_law_415 (by decide) rfl ?_
    refine pw_aload_n (pc := 417) hX dL_law_417 4 rfl ?_
    refine pw_callV (pc := 418) (st := []) hX (lt_thrown l hl hW8) (lt_m hW8).choose_spec rfl ok_X2_thrown lk_RL_90 dL_law_418 rfl ⟨⟨by decide, by decide⟩, Nat.le_of_ble_eq_true rfl, (show _ ≤ 601024 by omega), (show _ ≤ 7293000 by omega)⟩ rfl (fun v7 M7 hp7 => ?_)
    obtain ⟨rfl, rfl⟩ := hp7
    refine pw_iload (pc := 421) hX dL_law_421 1 rfl ?_
    refine pw_icmp_eq (pc := 423) hX 428 dL_law_423 (by decide) (fun hc_9 => ?_) (fun hc_9 => absurd rfl hc_9)
    refine pw_iload (pc := 428) hX dL_law_428 1 rfl ?_
    refine pw_if_ne (pc := 430) hX 452 dL_law_430 (by decide) (fun hc_10 => ?_) (fun hc_10 => ?_)
    · refine pw_goto (pc := 452) hX 1210 dL_law_452 (by decide) ?_
      exact pw_lv [2, 3, 4, 5, 6] _ rfl (kk _ _ _ _ _ hW8 (by omega) (by omega))
    · refine pw_aload_n (pc := 433) hX dL_law_433 3 rfl ?_
      refine pw_iconst (pc := 434) (v := 0) hX dL_law_434 (by decide) ?_
      refine pw_lald (pc := 435) (j := 0) hX dL_law_435 (lt_o hW8) (by decide) (by decide) ?_
      refine pw_iload (pc := 436) hX dL_law_436 0 rfl ?_
      refine pw_if_eq (pc := 438) hX 445 dL_law_438 (by decide) (fun hc_11 => ?_) (fun hc_11 => ?_)
      · refine pw_lconst (pc := 445) (v := 0) hX dL_law_445 (by decide) ?_
        refine pw_lcmp (pc := 446) (z := 0) hX dL_law_446 (lg_0 ((hz8 hc_10).trans (if_pos hc_11))) ?_
        refine pw_if_eq (pc := 447) hX 452 dL_law_447 (by decide) (fun hc_12 => ?_) (fun hc_12 => absurd rfl hc_12)
        refine pw_goto (pc := 452) hX 1210 dL_law_452 (by decide) ?_
        exact pw_lv [2, 3, 4, 5, 6] _ rfl (kk _ _ _ _ _ hW8 (by omega) (by omega))
      · refine pw_lconst (pc := 441) (v := 1) hX dL_law_441 (by decide) ?_
        refine pw_goto (pc := 442) hX 446 dL_law_442 (by decide) ?_
        refine pw_lcmp (pc := 446) (z := 0) hX dL_law_446 (lg_0 ((hz8 hc_10).trans (if_neg hc_11))) ?_
        refine pw_if_eq (pc := 447) hX 452 dL_law_447 (by decide) (fun hc_13 => ?_) (fun hc_13 => absurd rfl hc_13)
        refine pw_goto (pc := 452) hX 1210 dL_law_452 (by decide) ?_
        exact pw_lv [2, 3, 4, 5, 6] _ rfl (kk _ _ _ _ _ hW8 (by omega) (by omega))
set_option maxHeartbeats 4000000 in
set_option maxRecDepth 100000 in
theorem lw_c5 {p : Program} {e : Env} {s : State} {m : MethodId} {args : Array Value} {below : List Frame} {meth : Method} {c : Code} {Q : State → Prop} (l : Launch) (hl : l.stackTraces = false) (G : pw_G) (hX : pw_Cx p l s m args meth c G cL_law 7 RL) (hLn : G.2.2.2.2.1 < 2 ^ 31) (ax ay ao ii : Nat) (hi : ii + 3 < G.2.2.2.2.1) (th : Int32) (oL : Nat → Int64) (M : pw_M) (cn sl : Nat) (hW : LW G ax ay ao th oL M) (hcn : cn + 5 ≤ 601024) (hsl : sl + 36 ≤ 7293000) (kk : ∀ (M9 : pw_M) (th9 : Int32) (oL9 : Nat → Int64) (c9 s9 : Nat), LW G ax ay ao th9 oL9 M9 → c9 ≤ cn + 5 → s9 ≤ sl + 36 → pw_W p l e room_1 s m args below meth c Q G 7 M9 c9 s9 1210 [(4, .int (nI ii)), (3, .ref ao), (2, .ref ay), (1, .ref ax), (0, .ref G.2.2.2.1)] []) : pw_W p l e room_1 s m args below meth c Q G 7 M cn sl 455 [(4, .int (nI ii)), (3, .ref ao), (2, .ref ay), (1, .ref ax), (0, .ref G.2.2.2.1)] [] := by
  obtain ⟨ad, am, n, oc, td, sn, dk, to, er, os, pl, oo, wa, pr, de, la, rfl, rfl, hc, hm, ho, hds, hsn, hI⟩ := hW
  refine pw_aload_n (pc := 455) hX dL_law_455 3 rfl ?_
  refine pw_aload_n (pc := 456) hX dL_law_456 4 rfl ?_
  refine pw_iload (pc := 457) hX dL_law_457 0 rfl ?_
  refine pw_iconst (pc := 459) (v := 1) hX dL_law_459 (by decide) ?_
  refine pw_iadd (pc := 460) (z := nI (ii + 1)) hX dL_law_460 (nI_add ii 1) ?_
  refine pw_sld (pc := 461) (j := ii + 1) hX dL_law_461 (by omega) hLn ?_
  refine pw_aload_n (pc := 462) hX dL_law_462 4 rfl ?_
  refine pw_iload (pc := 463) hX dL_law_463 0 rfl ?_
  refine pw_iconst (pc := 465) (v := 2) hX dL_law_465 (by decide) ?_
  refine pw_iadd (pc := 466) (z := nI (ii + 2)) hX dL_law_466 (nI_add ii 2) ?_
  refine pw_sld (pc := 467) (j := ii + 2) hX dL_law_467 (by omega) hLn ?_
  refine pw_aload_n (pc := 468) hX dL_law_468 4 rfl ?_
  refine pw_iload (pc := 469) hX dL_law_469 0 rfl ?_
  refine pw_iconst (pc := 471) (v := 3) hX dL_law_471 (by decide) ?_
  refine pw_iadd (pc := 472) (z := nI (ii + 3)) hX dL_law_472 (nI_add ii 3) ?_
  refine pw_sld (pc := 473) (j := ii + 3) hX dL_law_473 (by omega) hLn ?_
  refine pw_aload_n (pc := 474) hX dL_law_474 1 rfl ?_
  refine pw_callSh (pc := 475) (st := []) hX (lc_scan l hl G M (ad 0) ao (G.2.2.2.2.2 (ii + 1)) (G.2.2.2.2.2 (ii + 2)) (G.2.2.2.2.2 (ii + 3)) _ hc.1 oL _ _ (cp_scan l hl G M ad n oc td (nI sn) dk to er os pl oo wa pr de hc (G.2.2.2.2.2 (ii + 1)) (G.2.2.2.2.2 (ii + 2)) (G.2.2.2.2.2 (ii + 3))) (fun v M1 h => by obtain ⟨-, ⟨-, hv, -⟩ | ⟨_, _, -, -, hv, -⟩, hf⟩ := h <;> exact ⟨_, hv, hf _ _ ho hds.2.1⟩)) ok_L_scan lk_RL_109 dL_law_475 rfl ⟨⟨by decide, by decide⟩, Nat.le_of_ble_eq_true rfl, (show _ ≤ 601024 by omega), (show _ ≤ 7293000 by omega)⟩ rfl (fun v9 M9 hp9 => ?_)
  obtain ⟨rfl, hm1⟩ := j1 (PO := (fun v9 M9 => cd_scan n (G.2.2.2.2.2 (ii + 1)) (G.2.2.2.2.2 (ii + 2)) (G.2.2.2.2.2 (ii + 3)) = 0 ∧ (oo (ix (G.2.2.2.2.2 (ii + 1))) = none ∧ v9 = some (.int (-1)) ∧ cw G ad n oc td (nI sn) dk to (upd er (ix (G.2.2.2.2.2 (ii + 3))) (er (ix (G.2.2.2.2.2 (ii + 3))) + 1)) os pl oo wa pr de M9 ∨ ∃ j r, oo (ix (G.2.2.2.2.2 (ii + 1))) = some j ∧ j < oc ∧ v9 = some (.int r) ∧ r = sc_r (dk (ix (G.2.2.2.2.2 (ii + 1)))) (wa j (ix (G.2.2.2.2.2 (ii + 2)))) (pr j (ix (G.2.2.2.2.2 (ii + 2)))) (os j) (to (ix (G.2.2.2.2.2 (ii + 2)))) ∧ (r = 1 ∧ cw G ad n oc td (nI sn) dk (upd to (ix (G.2.2.2.2.2 (ii + 2))) (to (ix (G.2.2.2.2.2 (ii + 2))) - 1)) er os pl oo wa (va_up pr j (upd (pr j) (ix (G.2.2.2.2.2 (ii + 2))) (pr j (ix (G.2.2.2.2.2 (ii + 2))) + 1))) de M9 ∨ r < 0 ∧ cw G ad n oc td (nI sn) dk to (upd er (ix (G.2.2.2.2.2 (ii + 3))) (er (ix (G.2.2.2.2.2 (ii + 3))) + 1)) os pl oo wa pr de M9)) ∧ fm ad (6 + 4 * oc) M M9)) (cv := fun y => y.toInt64) (cd := (cd_scan n (G.2.2.2.2.2 (ii + 1)) (G.2.2.2.2.2 (ii + 2)) (G.2.2.2.2.2 (ii + 3)))) hm hds (fun v M1 h => ⟨h.1, h.2.2⟩) hp9
  refine pw_istore (pc := 478) hX [(5, .int ((cd_scan n (G.2.2.2.2.2 (ii + 1)) (G.2.2.2.2.2 (ii + 2)) (G.2.2.2.2.2 (ii + 3))))), (4, .int (nI ii)), (3, .ref ao), (2, .ref (am 0)), (1, .ref (ad 0)), (0, .ref G.2.2.2.1)] dL_law_478 (by decide) rfl ?_
  refine pw_aload_n (pc := 480) hX dL_law_480 3 rfl ?_
  refine pw_aload_n (pc := 481) hX dL_law_481 5 rfl ?_
  refine pw_iload (pc := 482) hX dL_law_482 1 rfl ?_
  refine pw_iconst (pc := 484) (v := 1) hX dL_law_484 (by decide) ?_
  refine pw_iadd (pc := 485) (z := nI (ii + 1)) hX dL_law_485 (nI_add ii 1) ?_
  refine pw_sld (pc := 486) (j := ii + 1) hX dL_law_486 (by omega) hLn ?_
  refine pw_aload_n (pc := 487) hX dL_law_487 5 rfl ?_
  refine pw_iload (pc := 488) hX dL_law_488 1 rfl ?_
  refine pw_iconst (pc := 490) (v := 2) hX dL_law_490 (by decide) ?_
  refine pw_iadd (pc := 491) (z := nI (ii + 2)) hX dL_law_491 (nI_add ii 2) ?_
  refine pw_sld (pc := 492) (j := ii + 2) hX dL_law_492 (by omega) hLn ?_
  refine pw_aload_n (pc := 493) hX dL_law_493 5 rfl ?_
  refine pw_iload (pc := 494) hX dL_law_494 1 rfl ?_
  refine pw_iconst (pc := 496) (v := 3) hX dL_law_496 (by decide) ?_
  refine pw_iadd (pc := 497) (z := nI (ii + 3)) hX dL_law_497 (nI_add ii 3) ?_
  refine pw_sld (pc := 498) (j := ii + 3) hX dL_law_498 (by omega) hLn ?_
  refine pw_callV (pc := 499) (st := []) hX (mp_scan l hl G M9 am n oc td th (lN sn) dk to er os pl wa pr la hm1 oo hI.1 (G.2.2.2.2.2 (ii + 1)) (G.2.2.2.2.2 (ii + 2)) (G.2.2.2.2.2 (ii + 3))) hm1.1 rfl ok_X2_scan lk_RL_112 dL_law_499 rfl ⟨⟨by decide, by decide⟩, Nat.le_of_ble_eq_true rfl, (show _ ≤ 601024 by omega), (show _ ≤ 7293000 by omega)⟩ rfl (fun v8 M8 hp8 => ?_)
  obtain ⟨z, oL8, rfl, hW8, hz8⟩ := j2_scan (G.2.2.2.2.2 (ii + 1)) (G.2.2.2.2.2 (ii + 2)) (G.2.2.2.2.2 (ii + 3)) hc hm ho hds hsn hI hp9 hp8
  refine pw_istore (pc := 502) hX [(6, .int z), (5, .int ((cd_scan n (G.2.2.2.2.2 (ii + 1)) (G.2.2.2.2.2 (ii + 2)) (G.2.2.2.2.2 (ii + 3))))), (4, .int (nI ii)), (3, .ref ao), (2, .ref (am 0)), (1, .ref (ad 0)), (0, .ref G.2.2.2.1)] dL_law_502 (by decide) rfl ?_
  refine pw_aload_n (pc := 504) hX dL_law_504 4 rfl ?_
  refine pw_callV (pc := 505) (st := []) hX (lt_thrown l hl hW8) (lt_m hW8).choose_spec rfl ok_X2_thrown lk_RL_90 dL_law_505 rfl ⟨⟨by decide, by decide⟩, Nat.le_of_ble_eq_true rfl, (show _ ≤ 601024 by omega), (show _ ≤ 7293000 by omega)⟩ rfl (fun v7 M7 hp7 => ?_)
  obtain ⟨rfl, rfl⟩ := hp7
  refine pw_iload (pc := 508) hX dL_law_508 1 rfl ?_
  refine pw_icmp_eq (pc := 510) hX 515 dL_law_510 (by decide) (fun hc_1 => ?_) (fun hc_1 => absurd rfl hc_1)
  refine pw_iload (pc := 515) hX dL_law_515 1 rfl ?_
  refine pw_if_ne (pc := 517) hX 532 dL_law_517 (by decide) (fun hc_2 => ?_) (fun hc_2 => ?_)
  · refine pw_goto (pc := 532) hX 1210 dL_law_532 (by decide) ?_
    exact pw_lv [2, 3, 4, 5, 6] _ rfl (kk _ _ _ _ _ hW8 (by omega) (by omega))
  · refine pw_aload_n (pc := 520) hX dL_law_520 3 rfl ?_
    refine pw_iconst (pc := 521) (v := 0) hX dL_law_521 (by decide) ?_
    refine pw_lald (pc := 522) (j := 0) hX dL_law_522 (lt_o hW8) (by decide) (by decide) ?_
    refine pw_iload (pc := 523) hX dL_law_523 0 rfl ?_
    refine pw_i2l (pc := 525) (v := z.toInt64) hX dL_law_525 rfl ?_
    refine pw_lcmp (pc := 526) (z := 0) hX dL_law_526 (lg_0 (hz8 hc_2)) ?_
    refine pw_if_eq (pc := 527) hX 532 dL_law_527 (by decide) (fun hc_3 => ?_) (fun hc_3 => absurd rfl hc_3)
    refine pw_goto (pc := 532) hX 1210 dL_law_532 (by decide) ?_
    exact pw_lv [2, 3, 4, 5, 6] _ rfl (kk _ _ _ _ _ hW8 (by omega) (by omega))
set_option maxHeartbeats 4000000 in
set_option maxRecDepth 100000 in
theorem lw_c6 {p : Program} {e : Env} {s : State} {m : MethodId} {args : Array Value} {below : List Frame} {meth : Method} {c : Code} {Q : State → Prop} (l : Launch) (hl : l.stackTraces = false) (G : pw_G) (hX : pw_Cx p l s m args meth c G cL_law 7 RL) (hLn : G.2.2.2.2.1 < 2 ^ 31) (ax ay ao ii : Nat) (hi : ii + 3 < G.2.2.2.2.1) (th : Int32) (oL : Nat → Int64) (M : pw_M) (cn sl : Nat) (hW : LW G ax ay ao th oL M) (hcn : cn + 5 ≤ 601024) (hsl : sl + 36 ≤ 7293000) (kk : ∀ (M9 : pw_M) (th9 : Int32) (oL9 : Nat → Int64) (c9 s9 : Nat), LW G ax ay ao th9 oL9 M9 → c9 ≤ cn + 5 → s9 ≤ sl + 36 → pw_W p l e room_1 s m args below meth c Q G 7 M9 c9 s9 1210 [(4, .int (nI ii)), (3, .ref ao), (2, .ref ay), (1, .ref ax), (0, .ref G.2.2.2.1)] []) : pw_W p l e room_1 s m args below meth c Q G 7 M cn sl 535 [(4, .int (nI ii)), (3, .ref ao), (2, .ref ay), (1, .ref ax), (0, .ref G.2.2.2.1)] [] := by
  obtain ⟨ad, am, n, oc, td, sn, dk, to, er, os, pl, oo, wa, pr, de, la, rfl, rfl, hc, hm, ho, hds, hsn, hI⟩ := hW
  refine pw_aload_n (pc := 535) hX dL_law_535 3 rfl ?_
  refine pw_aload_n (pc := 536) hX dL_law_536 4 rfl ?_
  refine pw_iload (pc := 537) hX dL_law_537 0 rfl ?_
  refine pw_iconst (pc := 539) (v := 1) hX dL_law_539 (by decide) ?_
  refine pw_iadd (pc := 540) (z := nI (ii + 1)) hX dL_law_540 (nI_add ii 1) ?_
  refine pw_sld (pc := 541) (j := ii + 1) hX dL_law_541 (by omega) hLn ?_
  refine pw_aload_n (pc := 542) hX dL_law_542 4 rfl ?_
  refine pw_iload (pc := 543) hX dL_law_543 0 rfl ?_
  refine pw_iconst (pc := 545) (v := 2) hX dL_law_545 (by decide) ?_
  refine pw_iadd (pc := 546) (z := nI (ii + 2)) hX dL_law_546 (nI_add ii 2) ?_
  refine pw_sld (pc := 547) (j := ii + 2) hX dL_law_547 (by omega) hLn ?_
  refine pw_aload_n (pc := 548) hX dL_law_548 1 rfl ?_
  refine pw_callSh (pc := 549) (st := []) hX (lc_undo l hl G M (ad 0) ao (G.2.2.2.2.2 (ii + 1)) (G.2.2.2.2.2 (ii + 2)) _ hc.1 oL _ _ (cp_undo l hl G M ad n oc td (nI sn) dk to er os pl oo wa pr de hc (G.2.2.2.2.2 (ii + 1)) (G.2.2.2.2.2 (ii + 2))) (fun v M1 h => by obtain ⟨-, _, -, -, hv, -, hf⟩ := h; exact ⟨_, hv, hf _ _ ho hds.2.1⟩)) ok_L_undo lk_RL_113 dL_law_549 rfl ⟨⟨by decide, by decide⟩, Nat.le_of_ble_eq_true rfl, (show _ ≤ 601024 by omega), (show _ ≤ 7293000 by omega)⟩ rfl (fun v9 M9 hp9 => ?_)
  obtain ⟨rfl, hm1⟩ := j1 (PO := (fun v9 M9 => cd_undo n oo os pr (G.2.2.2.2.2 (ii + 1)) (G.2.2.2.2.2 (ii + 2)) = 0 ∧ ∃ j, oo (ix (G.2.2.2.2.2 (ii + 1))) = some j ∧ j < oc ∧ v9 = some (.int (pr j (ix (G.2.2.2.2.2 (ii + 2))) - 1)) ∧ cw G ad n oc td (nI sn) dk (upd to (ix (G.2.2.2.2.2 (ii + 2))) (to (ix (G.2.2.2.2.2 (ii + 2))) + 1)) er os pl oo wa (va_up pr j (upd (pr j) (ix (G.2.2.2.2.2 (ii + 2))) (pr j (ix (G.2.2.2.2.2 (ii + 2))) - 1))) de M9 ∧ fm ad (6 + 4 * oc) M M9)) (cv := fun y => y.toInt64) (cd := (cd_undo n oo os pr (G.2.2.2.2.2 (ii + 1)) (G.2.2.2.2.2 (ii + 2)))) hm hds (fun v M1 h => by obtain ⟨h0, _, -, -, -, -, hf⟩ := h; exact ⟨h0, hf⟩) hp9
  refine pw_istore (pc := 552) hX [(5, .int ((cd_undo n oo os pr (G.2.2.2.2.2 (ii + 1)) (G.2.2.2.2.2 (ii + 2))))), (4, .int (nI ii)), (3, .ref ao), (2, .ref (am 0)), (1, .ref (ad 0)), (0, .ref G.2.2.2.1)] dL_law_552 (by decide) rfl ?_
  refine pw_aload_n (pc := 554) hX dL_law_554 3 rfl ?_
  refine pw_aload_n (pc := 555) hX dL_law_555 5 rfl ?_
  refine pw_iload (pc := 556) hX dL_law_556 1 rfl ?_
  refine pw_iconst (pc := 558) (v := 1) hX dL_law_558 (by decide) ?_
  refine pw_iadd (pc := 559) (z := nI (ii + 1)) hX dL_law_559 (nI_add ii 1) ?_
  refine pw_sld (pc := 560) (j := ii + 1) hX dL_law_560 (by omega) hLn ?_
  refine pw_aload_n (pc := 561) hX dL_law_561 5 rfl ?_
  refine pw_iload (pc := 562) hX dL_law_562 1 rfl ?_
  refine pw_iconst (pc := 564) (v := 2) hX dL_law_564 (by decide) ?_
  refine pw_iadd (pc := 565) (z := nI (ii + 2)) hX dL_law_565 (nI_add ii 2) ?_
  refine pw_sld (pc := 566) (j := ii + 2) hX dL_law_566 (by omega) hLn ?_
  refine pw_callV (pc := 567) (st := []) hX (mp_undo l hl G M9 am n oc td th (lN sn) dk to er os pl wa pr la hm1 oo hI.1 (G.2.2.2.2.2 (ii + 1)) (G.2.2.2.2.2 (ii + 2))) hm1.1 rfl ok_X2_undo lk_RL_115 dL_law_567 rfl ⟨⟨by decide, by decide⟩, Nat.le_of_ble_eq_true rfl, (show _ ≤ 601024 by omega), (show _ ≤ 7293000 by omega)⟩ rfl (fun v8 M8 hp8 => ?_)
  obtain ⟨z, oL8, rfl, hW8, hz8⟩ := j2_undo (G.2.2.2.2.2 (ii + 1)) (G.2.2.2.2.2 (ii + 2)) hc hm ho hds hsn hI hp9 hp8
  refine pw_istore (pc := 570) hX [(6, .int z), (5, .int ((cd_undo n oo os pr (G.2.2.2.2.2 (ii + 1)) (G.2.2.2.2.2 (ii + 2))))), (4, .int (nI ii)), (3, .ref ao), (2, .ref (am 0)), (1, .ref (ad 0)), (0, .ref G.2.2.2.1)] dL_law_570 (by decide) rfl ?_
  refine pw_aload_n (pc := 572) hX dL_law_572 4 rfl ?_
  refine pw_callV (pc := 573) (st := []) hX (lt_thrown l hl hW8) (lt_m hW8).choose_spec rfl ok_X2_thrown lk_RL_90 dL_law_573 rfl ⟨⟨by decide, by decide⟩, Nat.le_of_ble_eq_true rfl, (show _ ≤ 601024 by omega), (show _ ≤ 7293000 by omega)⟩ rfl (fun v7 M7 hp7 => ?_)
  obtain ⟨rfl, rfl⟩ := hp7
  refine pw_iload (pc := 576) hX dL_law_576 1 rfl ?_
  refine pw_icmp_eq (pc := 578) hX 583 dL_law_578 (by decide) (fun hc_1 => ?_) (fun hc_1 => absurd rfl hc_1)
  refine pw_iload (pc := 583) hX dL_law_583 1 rfl ?_
  refine pw_if_ne (pc := 585) hX 600 dL_law_585 (by decide) (fun hc_2 => ?_) (fun hc_2 => ?_)
  · refine pw_goto (pc := 600) hX 1210 dL_law_600 (by decide) ?_
    exact pw_lv [2, 3, 4, 5, 6] _ rfl (kk _ _ _ _ _ hW8 (by omega) (by omega))
  · refine pw_aload_n (pc := 588) hX dL_law_588 3 rfl ?_
    refine pw_iconst (pc := 589) (v := 0) hX dL_law_589 (by decide) ?_
    refine pw_lald (pc := 590) (j := 0) hX dL_law_590 (lt_o hW8) (by decide) (by decide) ?_
    refine pw_iload (pc := 591) hX dL_law_591 0 rfl ?_
    refine pw_i2l (pc := 593) (v := z.toInt64) hX dL_law_593 rfl ?_
    refine pw_lcmp (pc := 594) (z := 0) hX dL_law_594 (lg_0 (hz8 hc_2)) ?_
    refine pw_if_eq (pc := 595) hX 600 dL_law_595 (by decide) (fun hc_3 => ?_) (fun hc_3 => absurd rfl hc_3)
    refine pw_goto (pc := 600) hX 1210 dL_law_600 (by decide) ?_
    exact pw_lv [2, 3, 4, 5, 6] _ rfl (kk _ _ _ _ _ hW8 (by omega) (by omega))
set_option maxHeartbeats 4000000 in
set_option maxRecDepth 100000 in
theorem lw_c7 {p : Program} {e : Env} {s : State} {m : MethodId} {args : Array Value} {below : List Frame} {meth : Method} {c : Code} {Q : State → Prop} (l : Launch) (hl : l.stackTraces = false) (G : pw_G) (hX : pw_Cx p l s m args meth c G cL_law 7 RL) (hLn : G.2.2.2.2.1 < 2 ^ 31) (ax ay ao ii : Nat) (hi : ii + 3 < G.2.2.2.2.1) (th : Int32) (oL : Nat → Int64) (M : pw_M) (cn sl : Nat) (hW : LW G ax ay ao th oL M) (hcn : cn + 5 ≤ 601024) (hsl : sl + 36 ≤ 7293000) (kk : ∀ (M9 : pw_M) (th9 : Int32) (oL9 : Nat → Int64) (c9 s9 : Nat), LW G ax ay ao th9 oL9 M9 → c9 ≤ cn + 5 → s9 ≤ sl + 36 → pw_W p l e room_1 s m args below meth c Q G 7 M9 c9 s9 1210 [(4, .int (nI ii)), (3, .ref ao), (2, .ref ay), (1, .ref ax), (0, .ref G.2.2.2.1)] []) : pw_W p l e room_1 s m args below meth c Q G 7 M cn sl 603 [(4, .int (nI ii)), (3, .ref ao), (2, .ref ay), (1, .ref ax), (0, .ref G.2.2.2.1)] [] := by
  obtain ⟨ad, am, n, oc, td, sn, dk, to, er, os, pl, oo, wa, pr, de, la, rfl, rfl, hc, hm, ho, hds, hsn, hI⟩ := hW
  refine pw_aload_n (pc := 603) hX dL_law_603 3 rfl ?_
  refine pw_aload_n (pc := 604) hX dL_law_604 4 rfl ?_
  refine pw_iload (pc := 605) hX dL_law_605 0 rfl ?_
  refine pw_iconst (pc := 607) (v := 1) hX dL_law_607 (by decide) ?_
  refine pw_iadd (pc := 608) (z := nI (ii + 1)) hX dL_law_608 (nI_add ii 1) ?_
  refine pw_sld (pc := 609) (j := ii + 1) hX dL_law_609 (by omega) hLn ?_
  refine pw_aload_n (pc := 610) hX dL_law_610 4 rfl ?_
  refine pw_iload (pc := 611) hX dL_law_611 0 rfl ?_
  refine pw_iconst (pc := 613) (v := 2) hX dL_law_613 (by decide) ?_
  refine pw_iadd (pc := 614) (z := nI (ii + 2)) hX dL_law_614 (nI_add ii 2) ?_
  refine pw_sld (pc := 615) (j := ii + 2) hX dL_law_615 (by omega) hLn ?_
  refine pw_aload_n (pc := 616) hX dL_law_616 4 rfl ?_
  refine pw_iload (pc := 617) hX dL_law_617 0 rfl ?_
  refine pw_iconst (pc := 619) (v := 3) hX dL_law_619 (by decide) ?_
  refine pw_iadd (pc := 620) (z := nI (ii + 3)) hX dL_law_620 (nI_add ii 3) ?_
  refine pw_sld (pc := 621) (j := ii + 3) hX dL_law_621 (by omega) hLn ?_
  refine pw_aload_n (pc := 622) hX dL_law_622 1 rfl ?_
  refine pw_callSh (pc := 623) (st := []) hX (lc_miss l hl G M (ad 0) ao (G.2.2.2.2.2 (ii + 1)) (G.2.2.2.2.2 (ii + 2)) (G.2.2.2.2.2 (ii + 3)) _ hc.1 oL _ _ (cp_miss l hl G M ad n oc td (nI sn) dk to er os pl oo wa pr de hc (G.2.2.2.2.2 (ii + 1)) (G.2.2.2.2.2 (ii + 2)) (G.2.2.2.2.2 (ii + 3))) (fun v M1 h => ⟨_, h.2.1, h.2.2.2 _ _ ho hds.2.1⟩)) ok_L_miss lk_RL_116 dL_law_623 rfl ⟨⟨by decide, by decide⟩, Nat.le_of_ble_eq_true rfl, (show _ ≤ 601024 by omega), (show _ ≤ 7293000 by omega)⟩ rfl (fun v9 M9 hp9 => ?_)
  obtain ⟨rfl, hm1⟩ := j1 (PO := (fun v9 M9 => cd_miss oc os wa pr (G.2.2.2.2.2 (ii + 1)) (G.2.2.2.2.2 (ii + 2)) (G.2.2.2.2.2 (ii + 3)) = 0 ∧ v9 = some (.int (wa (ix (G.2.2.2.2.2 (ii + 1))) (ix (G.2.2.2.2.2 (ii + 2))) - pr (ix (G.2.2.2.2.2 (ii + 1))) (ix (G.2.2.2.2.2 (ii + 2))))) ∧ cw G ad n oc td (nI sn) dk to er os pl oo wa pr (va_up de (ix (G.2.2.2.2.2 (ii + 1))) (upd (de (ix (G.2.2.2.2.2 (ii + 1)))) (ix (G.2.2.2.2.2 (ii + 2))) (G.2.2.2.2.2 (ii + 3)))) M9 ∧ fm ad (6 + 4 * oc) M M9)) (cv := fun y => y.toInt64) (cd := (cd_miss oc os wa pr (G.2.2.2.2.2 (ii + 1)) (G.2.2.2.2.2 (ii + 2)) (G.2.2.2.2.2 (ii + 3)))) hm hds (fun v M1 h => ⟨h.1, h.2.2.2⟩) hp9
  refine pw_istore (pc := 626) hX [(5, .int ((cd_miss oc os wa pr (G.2.2.2.2.2 (ii + 1)) (G.2.2.2.2.2 (ii + 2)) (G.2.2.2.2.2 (ii + 3))))), (4, .int (nI ii)), (3, .ref ao), (2, .ref (am 0)), (1, .ref (ad 0)), (0, .ref G.2.2.2.1)] dL_law_626 (by decide) rfl ?_
  refine pw_aload_n (pc := 628) hX dL_law_628 3 rfl ?_
  refine pw_aload_n (pc := 629) hX dL_law_629 5 rfl ?_
  refine pw_iload (pc := 630) hX dL_law_630 1 rfl ?_
  refine pw_iconst (pc := 632) (v := 1) hX dL_law_632 (by decide) ?_
  refine pw_iadd (pc := 633) (z := nI (ii + 1)) hX dL_law_633 (nI_add ii 1) ?_
  refine pw_sld (pc := 634) (j := ii + 1) hX dL_law_634 (by omega) hLn ?_
  refine pw_aload_n (pc := 635) hX dL_law_635 5 rfl ?_
  refine pw_iload (pc := 636) hX dL_law_636 1 rfl ?_
  refine pw_iconst (pc := 638) (v := 2) hX dL_law_638 (by decide) ?_
  refine pw_iadd (pc := 639) (z := nI (ii + 2)) hX dL_law_639 (nI_add ii 2) ?_
  refine pw_sld (pc := 640) (j := ii + 2) hX dL_law_640 (by omega) hLn ?_
  refine pw_aload_n (pc := 641) hX dL_law_641 5 rfl ?_
  refine pw_iload (pc := 642) hX dL_law_642 1 rfl ?_
  refine pw_iconst (pc := 644) (v := 3) hX dL_law_644 (by decide) ?_
  refine pw_iadd (pc := 645) (z := nI (ii + 3)) hX dL_law_645 (nI_add ii 3) ?_
  refine pw_sld (pc := 646) (j := ii + 3) hX dL_law_646 (by omega) hLn ?_
  refine pw_callV (pc := 647) (st := []) hX (mp_miss l hl G M9 am n oc td th (lN sn) dk to er os pl wa pr la hm1 (li_P hI) (G.2.2.2.2.2 (ii + 1)) (G.2.2.2.2.2 (ii + 2)) (G.2.2.2.2.2 (ii + 3))) hm1.1 rfl ok_X2_miss lk_RL_118 dL_law_647 rfl ⟨⟨by decide, by decide⟩, Nat.le_of_ble_eq_true rfl, (show _ ≤ 601024 by omega), (show _ ≤ 7293000 by omega)⟩ rfl (fun v8 M8 hp8 => ?_)
  obtain ⟨z, oL8, rfl, hW8, hz8⟩ := j2_miss (G.2.2.2.2.2 (ii + 1)) (G.2.2.2.2.2 (ii + 2)) (G.2.2.2.2.2 (ii + 3)) hc hm ho hds hsn hI hp9 hp8
  refine pw_istore (pc := 650) hX [(6, .int z), (5, .int ((cd_miss oc os wa pr (G.2.2.2.2.2 (ii + 1)) (G.2.2.2.2.2 (ii + 2)) (G.2.2.2.2.2 (ii + 3))))), (4, .int (nI ii)), (3, .ref ao), (2, .ref (am 0)), (1, .ref (ad 0)), (0, .ref G.2.2.2.1)] dL_law_650 (by decide) rfl ?_
  refine pw_aload_n (pc := 652) hX dL_law_652 4 rfl ?_
  refine pw_callV (pc := 653) (st := []) hX (lt_thrown l hl hW8) (lt_m hW8).choose_spec rfl ok_X2_thrown lk_RL_90 dL_law_653 rfl ⟨⟨by decide, by decide⟩, Nat.le_of_ble_eq_true rfl, (show _ ≤ 601024 by omega), (show _ ≤ 7293000 by omega)⟩ rfl (fun v7 M7 hp7 => ?_)
  obtain ⟨rfl, rfl⟩ := hp7
  refine pw_iload (pc := 656) hX dL_law_656 1 rfl ?_
  refine pw_icmp_eq (pc := 658) hX 663 dL_law_658 (by decide) (fun hc_1 => ?_) (fun hc_1 => absurd rfl hc_1)
  refine pw_iload (pc := 663) hX dL_law_663 1 rfl ?_
  refine pw_if_ne (pc := 665) hX 680 dL_law_665 (by decide) (fun hc_2 => ?_) (fun hc_2 => ?_)
  · refine pw_goto (pc := 680) hX 1210 dL_law_680 (by decide) ?_
    exact pw_lv [2, 3, 4, 5, 6] _ rfl (kk _ _ _ _ _ hW8 (by omega) (by omega))
  · refine pw_aload_n (pc := 668) hX dL_law_668 3 rfl ?_
    refine pw_iconst (pc := 669) (v := 0) hX dL_law_669 (by decide) ?_
    refine pw_lald (pc := 670) (j := 0) hX dL_law_670 (lt_o hW8) (by decide) (by decide) ?_
    refine pw_iload (pc := 671) hX dL_law_671 0 rfl ?_
    refine pw_i2l (pc := 673) (v := z.toInt64) hX dL_law_673 rfl ?_
    refine pw_lcmp (pc := 674) (z := 0) hX dL_law_674 (lg_0 (hz8 hc_2)) ?_
    refine pw_if_eq (pc := 675) hX 680 dL_law_675 (by decide) (fun hc_3 => ?_) (fun hc_3 => absurd rfl hc_3)
    refine pw_goto (pc := 680) hX 1210 dL_law_680 (by decide) ?_
    exact pw_lv [2, 3, 4, 5, 6] _ rfl (kk _ _ _ _ _ hW8 (by omega) (by omega))
set_option maxHeartbeats 4000000 in
set_option maxRecDepth 100000 in
theorem lw_c8 {p : Program} {e : Env} {s : State} {m : MethodId} {args : Array Value} {below : List Frame} {meth : Method} {c : Code} {Q : State → Prop} (l : Launch) (hl : l.stackTraces = false) (G : pw_G) (hX : pw_Cx p l s m args meth c G cL_law 7 RL) (hLn : G.2.2.2.2.1 < 2 ^ 31) (ax ay ao ii : Nat) (hi : ii + 3 < G.2.2.2.2.1) (th : Int32) (oL : Nat → Int64) (M : pw_M) (cn sl : Nat) (hW : LW G ax ay ao th oL M) (hcn : cn + 5 ≤ 601024) (hsl : sl + 36 ≤ 7293000) (kk : ∀ (M9 : pw_M) (th9 : Int32) (oL9 : Nat → Int64) (c9 s9 : Nat), LW G ax ay ao th9 oL9 M9 → c9 ≤ cn + 5 → s9 ≤ sl + 36 → pw_W p l e room_1 s m args below meth c Q G 7 M9 c9 s9 1210 [(4, .int (nI ii)), (3, .ref ao), (2, .ref ay), (1, .ref ax), (0, .ref G.2.2.2.1)] []) : pw_W p l e room_1 s m args below meth c Q G 7 M cn sl 683 [(4, .int (nI ii)), (3, .ref ao), (2, .ref ay), (1, .ref ax), (0, .ref G.2.2.2.1)] [] := by
  obtain ⟨ad, am, n, oc, td, sn, dk, to, er, os, pl, oo, wa, pr, de, la, rfl, rfl, hc, hm, ho, hds, hsn, hI⟩ := hW
  refine pw_aload_n (pc := 683) hX dL_law_683 3 rfl ?_
  refine pw_aload_n (pc := 684) hX dL_law_684 4 rfl ?_
  refine pw_iload (pc := 685) hX dL_law_685 0 rfl ?_
  refine pw_iconst (pc := 687) (v := 1) hX dL_law_687 (by decide) ?_
  refine pw_iadd (pc := 688) (z := nI (ii + 1)) hX dL_law_688 (nI_add ii 1) ?_
  refine pw_sld (pc := 689) (j := ii + 1) hX dL_law_689 (by omega) hLn ?_
  refine pw_callSh (pc := 690) (st := []) hX (lc_day l hl G M (ad 0) (G.2.2.2.2.2 (ii + 1)) _ hc.1 _ _ (cp_day l hl G M ad n oc td (nI sn) dk to er os pl oo wa pr de hc (G.2.2.2.2.2 (ii + 1))) (fun v M1 h => h.2.1)) ok_L_day lk_RL_119 dL_law_690 rfl ⟨⟨by decide, by decide⟩, Nat.le_of_ble_eq_true rfl, (show _ ≤ 601024 by omega), (show _ ≤ 7293000 by omega)⟩ rfl (fun v9 M9 hp9 => ?_)
  obtain ⟨rfl, hm1⟩ := j1v (PO := (fun v9 M9 => cd_day td (G.2.2.2.2.2 (ii + 1)) = 0 ∧ v9 = none ∧ cw G ad n oc (G.2.2.2.2.2 (ii + 1)) (nI sn) dk to er os pl oo wa pr de M9 ∧ fm ad (6 + 4 * oc) M M9)) (cd := (cd_day td (G.2.2.2.2.2 (ii + 1)))) hm hds (fun v M1 h => ⟨h.1, h.2.2.2⟩) hp9
  refine pw_istore (pc := 693) hX [(5, .int ((cd_day td (G.2.2.2.2.2 (ii + 1))))), (4, .int (nI ii)), (3, .ref ao), (2, .ref (am 0)), (1, .ref (ad 0)), (0, .ref G.2.2.2.1)] dL_law_693 (by decide) rfl ?_
  refine pw_aload_n (pc := 695) hX dL_law_695 3 rfl ?_
  refine pw_aload_n (pc := 696) hX dL_law_696 5 rfl ?_
  refine pw_iload (pc := 697) hX dL_law_697 1 rfl ?_
  refine pw_iconst (pc := 699) (v := 1) hX dL_law_699 (by decide) ?_
  refine pw_iadd (pc := 700) (z := nI (ii + 1)) hX dL_law_700 (nI_add ii 1) ?_
  refine pw_sld (pc := 701) (j := ii + 1) hX dL_law_701 (by omega) hLn ?_
  refine pw_callV (pc := 702) (st := []) hX (mp_day l hl G M9 am n oc td th (lN sn) dk to er os pl wa pr la hm1  (G.2.2.2.2.2 (ii + 1))) hm1.1 rfl ok_X2_day lk_RL_122 dL_law_702 rfl ⟨⟨by decide, by decide⟩, Nat.le_of_ble_eq_true rfl, (show _ ≤ 601024 by omega), (show _ ≤ 7293000 by omega)⟩ rfl (fun v8 M8 hp8 => ?_)
  obtain ⟨rfl, oL8, hW8⟩ := j2_day (G.2.2.2.2.2 (ii + 1)) hc hm ho hds hsn hI hp9 hp8
  refine pw_aload_n (pc := 705) hX dL_law_705 3 rfl ?_
  refine pw_callV (pc := 706) (st := []) hX (lt_thrown l hl hW8) (lt_m hW8).choose_spec rfl ok_X2_thrown lk_RL_90 dL_law_706 rfl ⟨⟨by decide, by decide⟩, Nat.le_of_ble_eq_true rfl, (show _ ≤ 601024 by omega), (show _ ≤ 7293000 by omega)⟩ rfl (fun v7 M7 hp7 => ?_)
  obtain ⟨rfl, rfl⟩ := hp7
  refine pw_iload (pc := 709) hX dL_law_709 0 rfl ?_
  refine pw_icmp_eq (pc := 711) hX 716 dL_law_711 (by decide) (fun hc_1 => ?_) (fun hc_1 => absurd rfl hc_1)
  refine pw_goto (pc := 716) hX 1210 dL_law_716 (by decide) ?_
  exact pw_lv [1, 2, 3, 4, 5] _ rfl (kk _ _ _ _ _ hW8 (by omega) (by omega))
set_option maxHeartbeats 4000000 in
set_option maxRecDepth 100000 in
theorem lw_c9 {p : Program} {e : Env} {s : State} {m : MethodId} {args : Array Value} {below : List Frame} {meth : Method} {c : Code} {Q : State → Prop} (l : Launch) (hl : l.stackTraces = false) (G : pw_G) (hX : pw_Cx p l s m args meth c G cL_law 7 RL) (hLn : G.2.2.2.2.1 < 2 ^ 31) (ax ay ao ii : Nat) (hi : ii + 3 < G.2.2.2.2.1) (th : Int32) (oL : Nat → Int64) (M : pw_M) (cn sl : Nat) (hW : LW G ax ay ao th oL M) (hcn : cn + 5 ≤ 601024) (hsl : sl + 36 ≤ 7293000) (kk : ∀ (M9 : pw_M) (th9 : Int32) (oL9 : Nat → Int64) (c9 s9 : Nat), LW G ax ay ao th9 oL9 M9 → c9 ≤ cn + 5 → s9 ≤ sl + 36 → pw_W p l e room_1 s m args below meth c Q G 7 M9 c9 s9 1210 [(4, .int (nI ii)), (3, .ref ao), (2, .ref ay), (1, .ref ax), (0, .ref G.2.2.2.1)] []) : pw_W p l e room_1 s m args below meth c Q G 7 M cn sl 719 [(4, .int (nI ii)), (3, .ref ao), (2, .ref ay), (1, .ref ax), (0, .ref G.2.2.2.1)] [] := by
  obtain ⟨ad, am, n, oc, td, sn, dk, to, er, os, pl, oo, wa, pr, de, la, rfl, rfl, hc, hm, ho, hds, hsn, hI⟩ := hW
  refine pw_aload_n (pc := 719) hX dL_law_719 3 rfl ?_
  refine pw_aload_n (pc := 720) hX dL_law_720 4 rfl ?_
  refine pw_iload (pc := 721) hX dL_law_721 0 rfl ?_
  refine pw_iconst (pc := 723) (v := 1) hX dL_law_723 (by decide) ?_
  refine pw_iadd (pc := 724) (z := nI (ii + 1)) hX dL_law_724 (nI_add ii 1) ?_
  refine pw_sld (pc := 725) (j := ii + 1) hX dL_law_725 (by omega) hLn ?_
  refine pw_aload_n (pc := 726) hX dL_law_726 4 rfl ?_
  refine pw_iload (pc := 727) hX dL_law_727 0 rfl ?_
  refine pw_iconst (pc := 729) (v := 2) hX dL_law_729 (by decide) ?_
  refine pw_iadd (pc := 730) (z := nI (ii + 2)) hX dL_law_730 (nI_add ii 2) ?_
  refine pw_sld (pc := 731) (j := ii + 2) hX dL_law_731 (by omega) hLn ?_
  refine pw_aload_n (pc := 732) hX dL_law_732 4 rfl ?_
  refine pw_iload (pc := 733) hX dL_law_733 0 rfl ?_
  refine pw_iconst (pc := 735) (v := 3) hX dL_law_735 (by decide) ?_
  refine pw_iadd (pc := 736) (z := nI (ii + 3)) hX dL_law_736 (nI_add ii 3) ?_
  refine pw_sld (pc := 737) (j := ii + 3) hX dL_law_737 (by omega) hLn ?_
  refine pw_aload_n (pc := 738) hX dL_law_738 1 rfl ?_
  refine pw_callSh (pc := 739) (st := []) hX (lc_change l hl G M (ad 0) ao (G.2.2.2.2.2 (ii + 1)) (G.2.2.2.2.2 (ii + 2)) (G.2.2.2.2.2 (ii + 3)) _ hc.1 oL _ _ (cp_change l hl G M ad n oc td (nI sn) dk to er os pl oo wa pr de hc (G.2.2.2.2.2 (ii + 1)) (G.2.2.2.2.2 (ii + 2)) (G.2.2.2.2.2 (ii + 3))) (fun v M1 h => by obtain ⟨-, ⟨hv, -⟩ | ⟨hv, -⟩, hf⟩ := h <;> exact ⟨_, hv, hf _ _ ho hds.2.1⟩)) ok_L_change lk_RL_123 dL_law_739 rfl ⟨⟨by decide, by decide⟩, Nat.le_of_ble_eq_true rfl, (show _ ≤ 601024 by omega), (show _ ≤ 7293000 by omega)⟩ rfl (fun v9 M9 hp9 => ?_)
  obtain ⟨rfl, hm1⟩ := j1 (PO := (fun v9 M9 => cd_change oc os wa (G.2.2.2.2.2 (ii + 1)) (G.2.2.2.2.2 (ii + 2)) (G.2.2.2.2.2 (ii + 3)) = 0 ∧ (v9 = some (.int 0) ∧ (G.2.2.2.2.2 (ii + 3)) < pr (ix (G.2.2.2.2.2 (ii + 1))) (ix (G.2.2.2.2.2 (ii + 2))) ∧ M = M9 ∨ v9 = some (.int 1) ∧ pr (ix (G.2.2.2.2.2 (ii + 1))) (ix (G.2.2.2.2.2 (ii + 2))) ≤ (G.2.2.2.2.2 (ii + 3)) ∧ cw G ad n oc td (nI sn) dk to er os pl oo (va_up wa (ix (G.2.2.2.2.2 (ii + 1))) (upd (wa (ix (G.2.2.2.2.2 (ii + 1)))) (ix (G.2.2.2.2.2 (ii + 2))) (G.2.2.2.2.2 (ii + 3)))) pr de M9) ∧ fm ad (6 + 4 * oc) M M9)) (cv := fun y => if y = 0 then 0 else 1) (cd := (cd_change oc os wa (G.2.2.2.2.2 (ii + 1)) (G.2.2.2.2.2 (ii + 2)) (G.2.2.2.2.2 (ii + 3)))) hm hds (fun v M1 h => ⟨h.1, h.2.2⟩) hp9
  refine pw_istore (pc := 742) hX [(5, .int ((cd_change oc os wa (G.2.2.2.2.2 (ii + 1)) (G.2.2.2.2.2 (ii + 2)) (G.2.2.2.2.2 (ii + 3))))), (4, .int (nI ii)), (3, .ref ao), (2, .ref (am 0)), (1, .ref (ad 0)), (0, .ref G.2.2.2.1)] dL_law_742 (by decide) rfl ?_
  refine pw_aload_n (pc := 744) hX dL_law_744 3 rfl ?_
  refine pw_aload_n (pc := 745) hX dL_law_745 5 rfl ?_
  refine pw_iload (pc := 746) hX dL_law_746 1 rfl ?_
  refine pw_iconst (pc := 748) (v := 1) hX dL_law_748 (by decide) ?_
  refine pw_iadd (pc := 749) (z := nI (ii + 1)) hX dL_law_749 (nI_add ii 1) ?_
  refine pw_sld (pc := 750) (j := ii + 1) hX dL_law_750 (by omega) hLn ?_
  refine pw_aload_n (pc := 751) hX dL_law_751 5 rfl ?_
  refine pw_iload (pc := 752) hX dL_law_752 1 rfl ?_
  refine pw_iconst (pc := 754) (v := 2) hX dL_law_754 (by decide) ?_
  refine pw_iadd (pc := 755) (z := nI (ii + 2)) hX dL_law_755 (nI_add ii 2) ?_
  refine pw_sld (pc := 756) (j := ii + 2) hX dL_law_756 (by omega) hLn ?_
  refine pw_aload_n (pc := 757) hX dL_law_757 5 rfl ?_
  refine pw_iload (pc := 758) hX dL_law_758 1 rfl ?_
  refine pw_iconst (pc := 760) (v := 3) hX dL_law_760 (by decide) ?_
  refine pw_iadd (pc := 761) (z := nI (ii + 3)) hX dL_law_761 (nI_add ii 3) ?_
  refine pw_sld (pc := 762) (j := ii + 3) hX dL_law_762 (by omega) hLn ?_
  refine pw_callV (pc := 763) (st := []) hX (mp_change l hl G M9 am n oc td th (lN sn) dk to er os pl wa pr la hm1 (li_S hI) (G.2.2.2.2.2 (ii + 1)) (G.2.2.2.2.2 (ii + 2)) (G.2.2.2.2.2 (ii + 3))) hm1.1 rfl ok_X2_change lk_RL_125 dL_law_763 rfl ⟨⟨by decide, by decide⟩, Nat.le_of_ble_eq_true rfl, (show _ ≤ 601024 by omega), (show _ ≤ 7293000 by omega)⟩ rfl (fun v8 M8 hp8 => ?_)
  obtain ⟨z, oL8, rfl, hW8, hz8⟩ := j2_change (G.2.2.2.2.2 (ii + 1)) (G.2.2.2.2.2 (ii + 2)) (G.2.2.2.2.2 (ii + 3)) hc hm ho hds hsn hI hp9 hp8
  refine pw_istore (pc := 766) hX [(6, .int z), (5, .int ((cd_change oc os wa (G.2.2.2.2.2 (ii + 1)) (G.2.2.2.2.2 (ii + 2)) (G.2.2.2.2.2 (ii + 3))))), (4, .int (nI ii)), (3, .ref ao), (2, .ref (am 0)), (1, .ref (ad 0)), (0, .ref G.2.2.2.1)] dL_law_766 (by decide) rfl ?_
  refine pw_aload_n (pc := 768) hX dL_law_768 4 rfl ?_
  refine pw_callV (pc := 769) (st := []) hX (lt_thrown l hl hW8) (lt_m hW8).choose_spec rfl ok_X2_thrown lk_RL_90 dL_law_769 rfl ⟨⟨by decide, by decide⟩, Nat.le_of_ble_eq_true rfl, (show _ ≤ 601024 by omega), (show _ ≤ 7293000 by omega)⟩ rfl (fun v7 M7 hp7 => ?_)
  obtain ⟨rfl, rfl⟩ := hp7
  refine pw_iload (pc := 772) hX dL_law_772 1 rfl ?_
  refine pw_icmp_eq (pc := 774) hX 779 dL_law_774 (by decide) (fun hc_1 => ?_) (fun hc_1 => absurd rfl hc_1)
  refine pw_iload (pc := 779) hX dL_law_779 1 rfl ?_
  refine pw_if_ne (pc := 781) hX 803 dL_law_781 (by decide) (fun hc_2 => ?_) (fun hc_2 => ?_)
  · refine pw_goto (pc := 803) hX 1210 dL_law_803 (by decide) ?_
    exact pw_lv [2, 3, 4, 5, 6] _ rfl (kk _ _ _ _ _ hW8 (by omega) (by omega))
  · refine pw_aload_n (pc := 784) hX dL_law_784 3 rfl ?_
    refine pw_iconst (pc := 785) (v := 0) hX dL_law_785 (by decide) ?_
    refine pw_lald (pc := 786) (j := 0) hX dL_law_786 (lt_o hW8) (by decide) (by decide) ?_
    refine pw_iload (pc := 787) hX dL_law_787 0 rfl ?_
    refine pw_if_eq (pc := 789) hX 796 dL_law_789 (by decide) (fun hc_3 => ?_) (fun hc_3 => ?_)
    · refine pw_lconst (pc := 796) (v := 0) hX dL_law_796 (by decide) ?_
      refine pw_lcmp (pc := 797) (z := 0) hX dL_law_797 (lg_0 ((hz8 hc_2).trans (if_pos hc_3))) ?_
      refine pw_if_eq (pc := 798) hX 803 dL_law_798 (by decide) (fun hc_4 => ?_) (fun hc_4 => absurd rfl hc_4)
      refine pw_goto (pc := 803) hX 1210 dL_law_803 (by decide) ?_
      exact pw_lv [2, 3, 4, 5, 6] _ rfl (kk _ _ _ _ _ hW8 (by omega) (by omega))
    · refine pw_lconst (pc := 792) (v := 1) hX dL_law_792 (by decide) ?_
      refine pw_goto (pc := 793) hX 797 dL_law_793 (by decide) ?_
      refine pw_lcmp (pc := 797) (z := 0) hX dL_law_797 (lg_0 ((hz8 hc_2).trans (if_neg hc_3))) ?_
      refine pw_if_eq (pc := 798) hX 803 dL_law_798 (by decide) (fun hc_5 => ?_) (fun hc_5 => absurd rfl hc_5)
      refine pw_goto (pc := 803) hX 1210 dL_law_803 (by decide) ?_
      exact pw_lv [2, 3, 4, 5, 6] _ rfl (kk _ _ _ _ _ hW8 (by omega) (by omega))
set_option maxHeartbeats 4000000 in
set_option maxRecDepth 100000 in
theorem lw_c10 {p : Program} {e : Env} {s : State} {m : MethodId} {args : Array Value} {below : List Frame} {meth : Method} {c : Code} {Q : State → Prop} (l : Launch) (hl : l.stackTraces = false) (G : pw_G) (hX : pw_Cx p l s m args meth c G cL_law 7 RL) (hLn : G.2.2.2.2.1 < 2 ^ 31) (ax ay ao ii : Nat) (hi : ii + 3 < G.2.2.2.2.1) (th : Int32) (oL : Nat → Int64) (M : pw_M) (cn sl : Nat) (hW : LW G ax ay ao th oL M) (hcn : cn + 5 ≤ 601024) (hsl : sl + 36 ≤ 7293000) (kk : ∀ (M9 : pw_M) (th9 : Int32) (oL9 : Nat → Int64) (c9 s9 : Nat), LW G ax ay ao th9 oL9 M9 → c9 ≤ cn + 5 → s9 ≤ sl + 36 → pw_W p l e room_1 s m args below meth c Q G 7 M9 c9 s9 1210 [(4, .int (nI ii)), (3, .ref ao), (2, .ref ay), (1, .ref ax), (0, .ref G.2.2.2.1)] []) : pw_W p l e room_1 s m args below meth c Q G 7 M cn sl 806 [(4, .int (nI ii)), (3, .ref ao), (2, .ref ay), (1, .ref ax), (0, .ref G.2.2.2.1)] [] := by
  obtain ⟨ad, am, n, oc, td, sn, dk, to, er, os, pl, oo, wa, pr, de, la, rfl, rfl, hc, hm, ho, hds, hsn, hI⟩ := hW
  refine pw_aload_n (pc := 806) hX dL_law_806 3 rfl ?_
  refine pw_aload_n (pc := 807) hX dL_law_807 4 rfl ?_
  refine pw_iload (pc := 808) hX dL_law_808 0 rfl ?_
  refine pw_iconst (pc := 810) (v := 1) hX dL_law_810 (by decide) ?_
  refine pw_iadd (pc := 811) (z := nI (ii + 1)) hX dL_law_811 (nI_add ii 1) ?_
  refine pw_sld (pc := 812) (j := ii + 1) hX dL_law_812 (by omega) hLn ?_
  refine pw_aload_n (pc := 813) hX dL_law_813 1 rfl ?_
  refine pw_callSh (pc := 814) (st := []) hX (lc_complete l hl G M (ad 0) ao (G.2.2.2.2.2 (ii + 1)) _ hc.1 oL _ _ (cp_complete l hl G M ad n oc td (nI sn) dk to er os pl oo wa pr de hc (G.2.2.2.2.2 (ii + 1))) (fun v M1 h => by obtain ⟨-, ⟨hv, -⟩ | ⟨hv, -⟩, hf⟩ := h <;> exact ⟨_, hv, hf _ _ ho hds.2.1⟩)) ok_L_complete lk_RL_126 dL_law_814 rfl ⟨⟨by decide, by decide⟩, Nat.le_of_ble_eq_true rfl, (show _ ≤ 601024 by omega), (show _ ≤ 7293000 by omega)⟩ rfl (fun v9 M9 hp9 => ?_)
  obtain ⟨rfl, hm1⟩ := j1 (PO := (fun v9 M9 => cd_complete oc os (G.2.2.2.2.2 (ii + 1)) = 0 ∧ (v9 = some (.int 1) ∧ (∀ g, g < 10 → ¬ od_gu td (wa (ix (G.2.2.2.2.2 (ii + 1)))) (pr (ix (G.2.2.2.2.2 (ii + 1)))) (de (ix (G.2.2.2.2.2 (ii + 1)))) g < wa (ix (G.2.2.2.2.2 (ii + 1))) g - pr (ix (G.2.2.2.2.2 (ii + 1))) g) ∧ cw G ad n oc td (nI sn) dk to er (va_up os (ix (G.2.2.2.2.2 (ii + 1))) 2) pl oo wa pr de M9 ∨ v9 = some (.int 0) ∧ (∃ g, g < 10 ∧ od_gu td (wa (ix (G.2.2.2.2.2 (ii + 1)))) (pr (ix (G.2.2.2.2.2 (ii + 1)))) (de (ix (G.2.2.2.2.2 (ii + 1)))) g < wa (ix (G.2.2.2.2.2 (ii + 1))) g - pr (ix (G.2.2.2.2.2 (ii + 1))) g) ∧ M = M9) ∧ fm ad (6 + 4 * oc) M M9)) (cv := fun y => if y = 0 then 0 else 1) (cd := (cd_complete oc os (G.2.2.2.2.2 (ii + 1)))) hm hds (fun v M1 h => ⟨h.1, h.2.2⟩) hp9
  refine pw_istore (pc := 817) hX [(5, .int ((cd_complete oc os (G.2.2.2.2.2 (ii + 1))))), (4, .int (nI ii)), (3, .ref ao), (2, .ref (am 0)), (1, .ref (ad 0)), (0, .ref G.2.2.2.1)] dL_law_817 (by decide) rfl ?_
  refine pw_aload_n (pc := 819) hX dL_law_819 3 rfl ?_
  refine pw_aload_n (pc := 820) hX dL_law_820 5 rfl ?_
  refine pw_iload (pc := 821) hX dL_law_821 1 rfl ?_
  refine pw_iconst (pc := 823) (v := 1) hX dL_law_823 (by decide) ?_
  refine pw_iadd (pc := 824) (z := nI (ii + 1)) hX dL_law_824 (nI_add ii 1) ?_
  refine pw_sld (pc := 825) (j := ii + 1) hX dL_law_825 (by omega) hLn ?_
  refine pw_callV (pc := 826) (st := []) hX (mp_complete l hl G M9 am n oc td th (lN sn) dk to er os pl wa pr la hm1  (G.2.2.2.2.2 (ii + 1))) hm1.1 rfl ok_X2_complete lk_RL_128 dL_law_826 rfl ⟨⟨by decide, by decide⟩, Nat.le_of_ble_eq_true rfl, (show _ ≤ 601024 by omega), (show _ ≤ 7293000 by omega)⟩ rfl (fun v8 M8 hp8 => ?_)
  obtain ⟨z, oL8, rfl, hW8, hz8⟩ := j2_complete (G.2.2.2.2.2 (ii + 1)) hc hm ho hds hsn hI hp9 hp8
  refine pw_istore (pc := 829) hX [(6, .int z), (5, .int ((cd_complete oc os (G.2.2.2.2.2 (ii + 1))))), (4, .int (nI ii)), (3, .ref ao), (2, .ref (am 0)), (1, .ref (ad 0)), (0, .ref G.2.2.2.1)] dL_law_829 (by decide) rfl ?_
  refine pw_aload_n (pc := 831) hX dL_law_831 4 rfl ?_
  refine pw_callV (pc := 832) (st := []) hX (lt_thrown l hl hW8) (lt_m hW8).choose_spec rfl ok_X2_thrown lk_RL_90 dL_law_832 rfl ⟨⟨by decide, by decide⟩, Nat.le_of_ble_eq_true rfl, (show _ ≤ 601024 by omega), (show _ ≤ 7293000 by omega)⟩ rfl (fun v7 M7 hp7 => ?_)
  obtain ⟨rfl, rfl⟩ := hp7
  refine pw_iload (pc := 835) hX dL_law_835 1 rfl ?_
  refine pw_icmp_eq (pc := 837) hX 842 dL_law_837 (by decide) (fun hc_1 => ?_) (fun hc_1 => absurd rfl hc_1)
  refine pw_iload (pc := 842) hX dL_law_842 1 rfl ?_
  refine pw_if_ne (pc := 844) hX 866 dL_law_844 (by decide) (fun hc_2 => ?_) (fun hc_2 => ?_)
  · refine pw_goto (pc := 866) hX 1210 dL_law_866 (by decide) ?_
    exact pw_lv [2, 3, 4, 5, 6] _ rfl (kk _ _ _ _ _ hW8 (by omega) (by omega))
  · refine pw_aload_n (pc := 847) hX dL_law_847 3 rfl ?_
    refine pw_iconst (pc := 848) (v := 0) hX dL_law_848 (by decide) ?_
    refine pw_lald (pc := 849) (j := 0) hX dL_law_849 (lt_o hW8) (by decide) (by decide) ?_
    refine pw_iload (pc := 850) hX dL_law_850 0 rfl ?_
    refine pw_if_eq (pc := 852) hX 859 dL_law_852 (by decide) (fun hc_3 => ?_) (fun hc_3 => ?_)
    · refine pw_lconst (pc := 859) (v := 0) hX dL_law_859 (by decide) ?_
      refine pw_lcmp (pc := 860) (z := 0) hX dL_law_860 (lg_0 ((hz8 hc_2).trans (if_pos hc_3))) ?_
      refine pw_if_eq (pc := 861) hX 866 dL_law_861 (by decide) (fun hc_4 => ?_) (fun hc_4 => absurd rfl hc_4)
      refine pw_goto (pc := 866) hX 1210 dL_law_866 (by decide) ?_
      exact pw_lv [2, 3, 4, 5, 6] _ rfl (kk _ _ _ _ _ hW8 (by omega) (by omega))
    · refine pw_lconst (pc := 855) (v := 1) hX dL_law_855 (by decide) ?_
      refine pw_goto (pc := 856) hX 860 dL_law_856 (by decide) ?_
      refine pw_lcmp (pc := 860) (z := 0) hX dL_law_860 (lg_0 ((hz8 hc_2).trans (if_neg hc_3))) ?_
      refine pw_if_eq (pc := 861) hX 866 dL_law_861 (by decide) (fun hc_5 => ?_) (fun hc_5 => absurd rfl hc_5)
      refine pw_goto (pc := 866) hX 1210 dL_law_866 (by decide) ?_
      exact pw_lv [2, 3, 4, 5, 6] _ rfl (kk _ _ _ _ _ hW8 (by omega) (by omega))
set_option maxHeartbeats 4000000 in
set_option maxRecDepth 100000 in
theorem lw_c11 {p : Program} {e : Env} {s : State} {m : MethodId} {args : Array Value} {below : List Frame} {meth : Method} {c : Code} {Q : State → Prop} (l : Launch) (hl : l.stackTraces = false) (G : pw_G) (hX : pw_Cx p l s m args meth c G cL_law 7 RL) (hLn : G.2.2.2.2.1 < 2 ^ 31) (ax ay ao ii : Nat) (hi : ii + 3 < G.2.2.2.2.1) (th : Int32) (oL : Nat → Int64) (M : pw_M) (cn sl : Nat) (hW : LW G ax ay ao th oL M) (hcn : cn + 5 ≤ 601024) (hsl : sl + 36 ≤ 7293000) (kk : ∀ (M9 : pw_M) (th9 : Int32) (oL9 : Nat → Int64) (c9 s9 : Nat), LW G ax ay ao th9 oL9 M9 → c9 ≤ cn + 5 → s9 ≤ sl + 36 → pw_W p l e room_1 s m args below meth c Q G 7 M9 c9 s9 1210 [(4, .int (nI ii)), (3, .ref ao), (2, .ref ay), (1, .ref ax), (0, .ref G.2.2.2.1)] []) : pw_W p l e room_1 s m args below meth c Q G 7 M cn sl 869 [(4, .int (nI ii)), (3, .ref ao), (2, .ref ay), (1, .ref ax), (0, .ref G.2.2.2.1)] [] := by
  obtain ⟨ad, am, n, oc, td, sn, dk, to, er, os, pl, oo, wa, pr, de, la, rfl, rfl, hc, hm, ho, hds, hsn, hI⟩ := hW
  refine pw_aload_n (pc := 869) hX dL_law_869 3 rfl ?_
  refine pw_aload_n (pc := 870) hX dL_law_870 4 rfl ?_
  refine pw_iload (pc := 871) hX dL_law_871 0 rfl ?_
  refine pw_iconst (pc := 873) (v := 1) hX dL_law_873 (by decide) ?_
  refine pw_iadd (pc := 874) (z := nI (ii + 1)) hX dL_law_874 (nI_add ii 1) ?_
  refine pw_sld (pc := 875) (j := ii + 1) hX dL_law_875 (by omega) hLn ?_
  refine pw_aload_n (pc := 876) hX dL_law_876 1 rfl ?_
  refine pw_callSh (pc := 877) (st := []) hX (lc_release l hl G M (ad 0) ao (G.2.2.2.2.2 (ii + 1)) _ hc.1 oL _ _ (cp_release l hl G M ad n oc td (nI sn) dk to er os pl oo wa pr de hc (G.2.2.2.2.2 (ii + 1))) (fun v M1 h => by obtain ⟨-, ⟨_, -, -, ⟨hv, -⟩ | ⟨hv, -⟩⟩, hf⟩ := h <;> exact ⟨_, hv, hf _ _ ho hds.2.1⟩)) ok_L_release lk_RL_129 dL_law_877 rfl ⟨⟨by decide, by decide⟩, Nat.le_of_ble_eq_true rfl, (show _ ≤ 601024 by omega), (show _ ≤ 7293000 by omega)⟩ rfl (fun v9 M9 hp9 => ?_)
  obtain ⟨rfl, hm1⟩ := j1 (PO := (fun v9 M9 => cd_release n oo (G.2.2.2.2.2 (ii + 1)) = 0 ∧ (∃ j, oo (ix (G.2.2.2.2.2 (ii + 1))) = some j ∧ j < oc ∧ (v9 = some (.int 0) ∧ ¬ os j = 2 ∧ M = M9 ∨ v9 = some (.int 1) ∧ os j = 2 ∧ cw G ad n oc td (nI sn) dk to er (va_up os j 3) (va_up pl j (-1)) (va_up oo (ix (G.2.2.2.2.2 (ii + 1))) none) wa pr de M9)) ∧ fm ad (6 + 4 * oc) M M9)) (cv := fun y => if y = 0 then 0 else 1) (cd := (cd_release n oo (G.2.2.2.2.2 (ii + 1)))) hm hds (fun v M1 h => ⟨h.1, h.2.2⟩) hp9
  refine pw_istore (pc := 880) hX [(5, .int ((cd_release n oo (G.2.2.2.2.2 (ii + 1))))), (4, .int (nI ii)), (3, .ref ao), (2, .ref (am 0)), (1, .ref (ad 0)), (0, .ref G.2.2.2.1)] dL_law_880 (by decide) rfl ?_
  refine pw_aload_n (pc := 882) hX dL_law_882 3 rfl ?_
  refine pw_aload_n (pc := 883) hX dL_law_883 5 rfl ?_
  refine pw_iload (pc := 884) hX dL_law_884 1 rfl ?_
  refine pw_iconst (pc := 886) (v := 1) hX dL_law_886 (by decide) ?_
  refine pw_iadd (pc := 887) (z := nI (ii + 1)) hX dL_law_887 (nI_add ii 1) ?_
  refine pw_sld (pc := 888) (j := ii + 1) hX dL_law_888 (by omega) hLn ?_
  refine pw_callV (pc := 889) (st := []) hX (mp_release l hl G M9 am n oc td th (lN sn) dk to er os pl wa pr la hm1 oo hI.1 (G.2.2.2.2.2 (ii + 1))) hm1.1 rfl ok_X2_release lk_RL_131 dL_law_889 rfl ⟨⟨by decide, by decide⟩, Nat.le_of_ble_eq_true rfl, (show _ ≤ 601024 by omega), (show _ ≤ 7293000 by omega)⟩ rfl (fun v8 M8 hp8 => ?_)
  obtain ⟨z, oL8, rfl, hW8, hz8⟩ := j2_release (G.2.2.2.2.2 (ii + 1)) hc hm ho hds hsn hI hp9 hp8
  refine pw_istore (pc := 892) hX [(6, .int z), (5, .int ((cd_release n oo (G.2.2.2.2.2 (ii + 1))))), (4, .int (nI ii)), (3, .ref ao), (2, .ref (am 0)), (1, .ref (ad 0)), (0, .ref G.2.2.2.1)] dL_law_892 (by decide) rfl ?_
  refine pw_aload_n (pc := 894) hX dL_law_894 4 rfl ?_
  refine pw_callV (pc := 895) (st := []) hX (lt_thrown l hl hW8) (lt_m hW8).choose_spec rfl ok_X2_thrown lk_RL_90 dL_law_895 rfl ⟨⟨by decide, by decide⟩, Nat.le_of_ble_eq_true rfl, (show _ ≤ 601024 by omega), (show _ ≤ 7293000 by omega)⟩ rfl (fun v7 M7 hp7 => ?_)
  obtain ⟨rfl, rfl⟩ := hp7
  refine pw_iload (pc := 898) hX dL_law_898 1 rfl ?_
  refine pw_icmp_eq (pc := 900) hX 905 dL_law_900 (by decide) (fun hc_1 => ?_) (fun hc_1 => absurd rfl hc_1)
  refine pw_iload (pc := 905) hX dL_law_905 1 rfl ?_
  refine pw_if_ne (pc := 907) hX 929 dL_law_907 (by decide) (fun hc_2 => ?_) (fun hc_2 => ?_)
  · refine pw_goto (pc := 929) hX 1210 dL_law_929 (by decide) ?_
    exact pw_lv [2, 3, 4, 5, 6] _ rfl (kk _ _ _ _ _ hW8 (by omega) (by omega))
  · refine pw_aload_n (pc := 910) hX dL_law_910 3 rfl ?_
    refine pw_iconst (pc := 911) (v := 0) hX dL_law_911 (by decide) ?_
    refine pw_lald (pc := 912) (j := 0) hX dL_law_912 (lt_o hW8) (by decide) (by decide) ?_
    refine pw_iload (pc := 913) hX dL_law_913 0 rfl ?_
    refine pw_if_eq (pc := 915) hX 922 dL_law_915 (by decide) (fun hc_3 => ?_) (fun hc_3 => ?_)
    · refine pw_lconst (pc := 922) (v := 0) hX dL_law_922 (by decide) ?_
      refine pw_lcmp (pc := 923) (z := 0) hX dL_law_923 (lg_0 ((hz8 hc_2).trans (if_pos hc_3))) ?_
      refine pw_if_eq (pc := 924) hX 929 dL_law_924 (by decide) (fun hc_4 => ?_) (fun hc_4 => absurd rfl hc_4)
      refine pw_goto (pc := 929) hX 1210 dL_law_929 (by decide) ?_
      exact pw_lv [2, 3, 4, 5, 6] _ rfl (kk _ _ _ _ _ hW8 (by omega) (by omega))
    · refine pw_lconst (pc := 918) (v := 1) hX dL_law_918 (by decide) ?_
      refine pw_goto (pc := 919) hX 923 dL_law_919 (by decide) ?_
      refine pw_lcmp (pc := 923) (z := 0) hX dL_law_923 (lg_0 ((hz8 hc_2).trans (if_neg hc_3))) ?_
      refine pw_if_eq (pc := 924) hX 929 dL_law_924 (by decide) (fun hc_5 => ?_) (fun hc_5 => absurd rfl hc_5)
      refine pw_goto (pc := 929) hX 1210 dL_law_929 (by decide) ?_
      exact pw_lv [2, 3, 4, 5, 6] _ rfl (kk _ _ _ _ _ hW8 (by omega) (by omega))
set_option maxHeartbeats 4000000 in
set_option maxRecDepth 100000 in
theorem lw_c12 {p : Program} {e : Env} {s : State} {m : MethodId} {args : Array Value} {below : List Frame} {meth : Method} {c : Code} {Q : State → Prop} (l : Launch) (hl : l.stackTraces = false) (G : pw_G) (hX : pw_Cx p l s m args meth c G cL_law 7 RL) (hLn : G.2.2.2.2.1 < 2 ^ 31) (ax ay ao ii : Nat) (hi : ii + 3 < G.2.2.2.2.1) (th : Int32) (oL : Nat → Int64) (M : pw_M) (cn sl : Nat) (hW : LW G ax ay ao th oL M) (hcn : cn + 5 ≤ 601024) (hsl : sl + 36 ≤ 7293000) (kk : ∀ (M9 : pw_M) (th9 : Int32) (oL9 : Nat → Int64) (c9 s9 : Nat), LW G ax ay ao th9 oL9 M9 → c9 ≤ cn + 5 → s9 ≤ sl + 36 → pw_W p l e room_1 s m args below meth c Q G 7 M9 c9 s9 1210 [(4, .int (nI ii)), (3, .ref ao), (2, .ref ay), (1, .ref ax), (0, .ref G.2.2.2.1)] []) : pw_W p l e room_1 s m args below meth c Q G 7 M cn sl 932 [(4, .int (nI ii)), (3, .ref ao), (2, .ref ay), (1, .ref ax), (0, .ref G.2.2.2.1)] [] := by
  obtain ⟨ad, am, n, oc, td, sn, dk, to, er, os, pl, oo, wa, pr, de, la, rfl, rfl, hc, hm, ho, hds, hsn, hI⟩ := hW
  refine pw_aload_n (pc := 932) hX dL_law_932 3 rfl ?_
  refine pw_callV (pc := 933) (st := []) hX (cp_sample l hl G M ad n oc td sn hsn dk to er os pl oo wa pr de hc) hc.1 rfl ok_X1_sample lk_RL_132 dL_law_933 rfl ⟨⟨by decide, by decide⟩, Nat.le_of_ble_eq_true rfl, (show _ ≤ 601024 by omega), (show _ ≤ 7293000 by omega)⟩ rfl (fun v9 M9 hp9 => ?_)
  obtain ⟨y, hy, hm1⟩ : ∃ y, v9 = some (.int y) ∧ mw G am n oc td th (lN sn) dk to er os pl wa pr la M9 := by
    have hm1 := j1s (v9 := v9) hc hm ho hds hsn hI hp9
    rcases hp9.1 with ⟨-, h, -⟩ | ⟨-, -, _, _, -, -, -, -, h⟩
    · exact ⟨_, h, hm1⟩
    · exact ⟨_, h, hm1⟩
  subst hy
  refine pw_aload_n (pc := 936) hX dL_law_936 2 rfl ?_
  refine pw_callV (pc := 937) (st := [.int y]) hX (mp_sample l hl G M9 am n oc td th sn hsn dk to er os pl wa pr la hm1 oo hI.1) hm1.1 rfl ok_X2_sample lk_RL_135 dL_law_937 rfl ⟨⟨by decide, by decide⟩, Nat.le_of_ble_eq_true rfl, (show _ ≤ 601024 by omega), (show _ ≤ 7293000 by omega)⟩ rfl (fun v8 M8 hp8 => ?_)
  obtain ⟨z, hy, rfl, hW8⟩ := j2_sample  hc hm ho hds hsn hI hp9 hp8
  cases hy
  refine pw_icmp_eq (pc := 940) hX 1210 dL_law_940 (by decide) (fun hc_1 => ?_) (fun hc_1 => absurd rfl hc_1)
  exact pw_lv [0, 1, 2, 3, 4] _ rfl (kk _ _ _ _ _ hW8 (by omega) (by omega))
set_option maxHeartbeats 4000000 in
set_option maxRecDepth 100000 in
theorem lw_c13 {p : Program} {e : Env} {s : State} {m : MethodId} {args : Array Value} {below : List Frame} {meth : Method} {c : Code} {Q : State → Prop} (l : Launch) (hl : l.stackTraces = false) (G : pw_G) (hX : pw_Cx p l s m args meth c G cL_law 7 RL) (hLn : G.2.2.2.2.1 < 2 ^ 31) (ax ay ao ii : Nat) (hi : ii + 3 < G.2.2.2.2.1) (th : Int32) (oL : Nat → Int64) (M : pw_M) (cn sl : Nat) (hW : LW G ax ay ao th oL M) (hcn : cn + 5 ≤ 601024) (hsl : sl + 36 ≤ 7293000) (kk : ∀ (M9 : pw_M) (th9 : Int32) (oL9 : Nat → Int64) (c9 s9 : Nat), LW G ax ay ao th9 oL9 M9 → c9 ≤ cn + 5 → s9 ≤ sl + 36 → pw_W p l e room_1 s m args below meth c Q G 7 M9 c9 s9 1210 [(4, .int (nI ii)), (3, .ref ao), (2, .ref ay), (1, .ref ax), (0, .ref G.2.2.2.1)] []) : pw_W p l e room_1 s m args below meth c Q G 7 M cn sl 945 [(4, .int (nI ii)), (3, .ref ao), (2, .ref ay), (1, .ref ax), (0, .ref G.2.2.2.1)] [] := by
  obtain ⟨ad, am, n, oc, td, sn, dk, to, er, os, pl, oo, wa, pr, de, la, rfl, rfl, hc, hm, ho, hds, hsn, hI⟩ := hW
  refine pw_aload_n (pc := 945) hX dL_law_945 3 rfl ?_
  refine pw_aload_n (pc := 946) hX dL_law_946 4 rfl ?_
  refine pw_iload (pc := 947) hX dL_law_947 0 rfl ?_
  refine pw_iconst (pc := 949) (v := 1) hX dL_law_949 (by decide) ?_
  refine pw_iadd (pc := 950) (z := nI (ii + 1)) hX dL_law_950 (nI_add ii 1) ?_
  refine pw_sld (pc := 951) (j := ii + 1) hX dL_law_951 (by omega) hLn ?_
  refine pw_callSh (pc := 952) (st := []) hX (lc_seed l hl G M (ad 0) (G.2.2.2.2.2 (ii + 1)) _ hc.1 _ _ (cp_seed l hl G M ad n oc td (nI sn) dk to er os pl oo wa pr de hc (G.2.2.2.2.2 (ii + 1))) (fun v M1 h => h.2.1)) ok_L_seed lk_RL_136 dL_law_952 rfl ⟨⟨by decide, by decide⟩, Nat.le_of_ble_eq_true rfl, (show _ ≤ 601024 by omega), (show _ ≤ 7293000 by omega)⟩ rfl (fun v9 M9 hp9 => ?_)
  obtain ⟨rfl, hm1⟩ := j1v (PO := (fun v9 M9 => cd_seed (G.2.2.2.2.2 (ii + 1)) = 0 ∧ v9 = none ∧ cw G ad n oc td (G.2.2.2.2.2 (ii + 1)) dk to er os pl oo wa pr de M9 ∧ fm ad (6 + 4 * oc) M M9)) (cd := (cd_seed (G.2.2.2.2.2 (ii + 1)))) hm hds (fun v M1 h => ⟨h.1, h.2.2.2⟩) hp9
  refine pw_istore (pc := 955) hX [(5, .int ((cd_seed (G.2.2.2.2.2 (ii + 1))))), (4, .int (nI ii)), (3, .ref ao), (2, .ref (am 0)), (1, .ref (ad 0)), (0, .ref G.2.2.2.1)] dL_law_955 (by decide) rfl ?_
  refine pw_aload_n (pc := 957) hX dL_law_957 3 rfl ?_
  refine pw_aload_n (pc := 958) hX dL_law_958 5 rfl ?_
  refine pw_iload (pc := 959) hX dL_law_959 1 rfl ?_
  refine pw_iconst (pc := 961) (v := 1) hX dL_law_961 (by decide) ?_
  refine pw_iadd (pc := 962) (z := nI (ii + 1)) hX dL_law_962 (nI_add ii 1) ?_
  refine pw_sld (pc := 963) (j := ii + 1) hX dL_law_963 (by omega) hLn ?_
  refine pw_callV (pc := 964) (st := []) hX (mp_seed l hl G M9 am n oc td th (lN sn) dk to er os pl wa pr la hm1  (G.2.2.2.2.2 (ii + 1))) hm1.1 rfl ok_X2_seed lk_RL_138 dL_law_964 rfl ⟨⟨by decide, by decide⟩, Nat.le_of_ble_eq_true rfl, (show _ ≤ 601024 by omega), (show _ ≤ 7293000 by omega)⟩ rfl (fun v8 M8 hp8 => ?_)
  obtain ⟨rfl, oL8, hW8⟩ := j2_seed (G.2.2.2.2.2 (ii + 1)) hc hm ho hds hsn hI hp9 hp8
  refine pw_aload_n (pc := 967) hX dL_law_967 3 rfl ?_
  refine pw_callV (pc := 968) (st := []) hX (lt_thrown l hl hW8) (lt_m hW8).choose_spec rfl ok_X2_thrown lk_RL_90 dL_law_968 rfl ⟨⟨by decide, by decide⟩, Nat.le_of_ble_eq_true rfl, (show _ ≤ 601024 by omega), (show _ ≤ 7293000 by omega)⟩ rfl (fun v7 M7 hp7 => ?_)
  obtain ⟨rfl, rfl⟩ := hp7
  refine pw_iload (pc := 971) hX dL_law_971 0 rfl ?_
  refine pw_icmp_eq (pc := 973) hX 978 dL_law_973 (by decide) (fun hc_1 => ?_) (fun hc_1 => absurd rfl hc_1)
  refine pw_goto (pc := 978) hX 1210 dL_law_978 (by decide) ?_
  exact pw_lv [1, 2, 3, 4, 5] _ rfl (kk _ _ _ _ _ hW8 (by omega) (by omega))
set_option maxHeartbeats 4000000 in
set_option maxRecDepth 100000 in
theorem lw_c14 {p : Program} {e : Env} {s : State} {m : MethodId} {args : Array Value} {below : List Frame} {meth : Method} {c : Code} {Q : State → Prop} (l : Launch) (hl : l.stackTraces = false) (G : pw_G) (hX : pw_Cx p l s m args meth c G cL_law 7 RL) (hLn : G.2.2.2.2.1 < 2 ^ 31) (ax ay ao ii : Nat) (hi : ii + 3 < G.2.2.2.2.1) (th : Int32) (oL : Nat → Int64) (M : pw_M) (cn sl : Nat) (hW : LW G ax ay ao th oL M) (hcn : cn + 5 ≤ 601024) (hsl : sl + 36 ≤ 7293000) (kk : ∀ (M9 : pw_M) (th9 : Int32) (oL9 : Nat → Int64) (c9 s9 : Nat), LW G ax ay ao th9 oL9 M9 → c9 ≤ cn + 5 → s9 ≤ sl + 36 → pw_W p l e room_1 s m args below meth c Q G 7 M9 c9 s9 1210 [(4, .int (nI ii)), (3, .ref ao), (2, .ref ay), (1, .ref ax), (0, .ref G.2.2.2.1)] []) : pw_W p l e room_1 s m args below meth c Q G 7 M cn sl 981 [(4, .int (nI ii)), (3, .ref ao), (2, .ref ay), (1, .ref ax), (0, .ref G.2.2.2.1)] [] := by
  obtain ⟨ad, am, n, oc, td, sn, dk, to, er, os, pl, oo, wa, pr, de, la, rfl, rfl, hc, hm, ho, hds, hsn, hI⟩ := hW
  refine pw_aload_n (pc := 981) hX dL_law_981 3 rfl ?_
  refine pw_aload_n (pc := 982) hX dL_law_982 4 rfl ?_
  refine pw_iload (pc := 983) hX dL_law_983 0 rfl ?_
  refine pw_iconst (pc := 985) (v := 1) hX dL_law_985 (by decide) ?_
  refine pw_iadd (pc := 986) (z := nI (ii + 1)) hX dL_law_986 (nI_add ii 1) ?_
  refine pw_sld (pc := 987) (j := ii + 1) hX dL_law_987 (by omega) hLn ?_
  refine pw_aload_n (pc := 988) hX dL_law_988 4 rfl ?_
  refine pw_iload (pc := 989) hX dL_law_989 0 rfl ?_
  refine pw_iconst (pc := 991) (v := 2) hX dL_law_991 (by decide) ?_
  refine pw_iadd (pc := 992) (z := nI (ii + 2)) hX dL_law_992 (nI_add ii 2) ?_
  refine pw_sld (pc := 993) (j := ii + 2) hX dL_law_993 (by omega) hLn ?_
  refine pw_aload_n (pc := 994) hX dL_law_994 1 rfl ?_
  refine pw_callSh (pc := 995) (st := []) hX (lc_told l hl G M (ad 0) ao (G.2.2.2.2.2 (ii + 1)) (G.2.2.2.2.2 (ii + 2)) _ hc.1 oL _ _ (cp_told l hl G M ad n oc td (nI sn) dk to er os pl oo wa pr de hc (G.2.2.2.2.2 (ii + 1)) (G.2.2.2.2.2 (ii + 2))) (fun v M1 h => by obtain ⟨-, hv, rfl⟩ := h; exact ⟨_, hv, ho⟩)) ok_L_told lk_RL_139 dL_law_995 rfl ⟨⟨by decide, by decide⟩, Nat.le_of_ble_eq_true rfl, (show _ ≤ 601024 by omega), (show _ ≤ 7293000 by omega)⟩ rfl (fun v9 M9 hp9 => ?_)
  obtain ⟨rfl, hm1⟩ := j1 (PO := (fun v9 M9 => cd_told oc (G.2.2.2.2.2 (ii + 1)) (G.2.2.2.2.2 (ii + 2)) = 0 ∧ v9 = some (.int (td_r td os pl wa pr de (ix (G.2.2.2.2.2 (ii + 1))) (G.2.2.2.2.2 (ii + 2)))) ∧ M = M9)) (cv := fun y => y.toInt64) (cd := (cd_told oc (G.2.2.2.2.2 (ii + 1)) (G.2.2.2.2.2 (ii + 2)))) hm hds (fun v M1 h => by obtain ⟨h0, -, rfl⟩ := h; exact ⟨h0, fm_rf⟩) hp9
  refine pw_istore (pc := 998) hX [(5, .int ((cd_told oc (G.2.2.2.2.2 (ii + 1)) (G.2.2.2.2.2 (ii + 2))))), (4, .int (nI ii)), (3, .ref ao), (2, .ref (am 0)), (1, .ref (ad 0)), (0, .ref G.2.2.2.1)] dL_law_998 (by decide) rfl ?_
  refine pw_aload_n (pc := 1000) hX dL_law_1000 3 rfl ?_
  refine pw_aload_n (pc := 1001) hX dL_law_1001 5 rfl ?_
  refine pw_iload (pc := 1002) hX dL_law_1002 1 rfl ?_
  refine pw_iconst (pc := 1004) (v := 1) hX dL_law_1004 (by decide) ?_
  refine pw_iadd (pc := 1005) (z := nI (ii + 1)) hX dL_law_1005 (nI_add ii 1) ?_
  refine pw_sld (pc := 1006) (j := ii + 1) hX dL_law_1006 (by omega) hLn ?_
  refine pw_aload_n (pc := 1007) hX dL_law_1007 5 rfl ?_
  refine pw_iload (pc := 1008) hX dL_law_1008 1 rfl ?_
  refine pw_iconst (pc := 1010) (v := 2) hX dL_law_1010 (by decide) ?_
  refine pw_iadd (pc := 1011) (z := nI (ii + 2)) hX dL_law_1011 (nI_add ii 2) ?_
  refine pw_sld (pc := 1012) (j := ii + 2) hX dL_law_1012 (by omega) hLn ?_
  refine pw_callV (pc := 1013) (st := []) hX (mp_told l hl G M9 am n oc td th (lN sn) dk to er os pl wa pr la hm1  (G.2.2.2.2.2 (ii + 1)) (G.2.2.2.2.2 (ii + 2))) hm1.1 rfl ok_X2_told lk_RL_141 dL_law_1013 rfl ⟨⟨by decide, by decide⟩, Nat.le_of_ble_eq_true rfl, (show _ ≤ 601024 by omega), (show _ ≤ 7293000 by omega)⟩ rfl (fun v8 M8 hp8 => ?_)
  obtain ⟨z, oL8, rfl, hW8, hz8⟩ := j2_told (G.2.2.2.2.2 (ii + 1)) (G.2.2.2.2.2 (ii + 2)) hc hm ho hds hsn hI hp9 hp8
  refine pw_istore (pc := 1016) hX [(6, .int z), (5, .int ((cd_told oc (G.2.2.2.2.2 (ii + 1)) (G.2.2.2.2.2 (ii + 2))))), (4, .int (nI ii)), (3, .ref ao), (2, .ref (am 0)), (1, .ref (ad 0)), (0, .ref G.2.2.2.1)] dL_law_1016 (by decide) rfl ?_
  refine pw_aload_n (pc := 1018) hX dL_law_1018 4 rfl ?_
  refine pw_callV (pc := 1019) (st := []) hX (lt_thrown l hl hW8) (lt_m hW8).choose_spec rfl ok_X2_thrown lk_RL_90 dL_law_1019 rfl ⟨⟨by decide, by decide⟩, Nat.le_of_ble_eq_true rfl, (show _ ≤ 601024 by omega), (show _ ≤ 7293000 by omega)⟩ rfl (fun v7 M7 hp7 => ?_)
  obtain ⟨rfl, rfl⟩ := hp7
  refine pw_iload (pc := 1022) hX dL_law_1022 1 rfl ?_
  refine pw_icmp_eq (pc := 1024) hX 1029 dL_law_1024 (by decide) (fun hc_1 => ?_) (fun hc_1 => absurd rfl hc_1)
  refine pw_iload (pc := 1029) hX dL_law_1029 1 rfl ?_
  refine pw_if_ne (pc := 1031) hX 1046 dL_law_1031 (by decide) (fun hc_2 => ?_) (fun hc_2 => ?_)
  · refine pw_goto (pc := 1046) hX 1210 dL_law_1046 (by decide) ?_
    exact pw_lv [2, 3, 4, 5, 6] _ rfl (kk _ _ _ _ _ hW8 (by omega) (by omega))
  · refine pw_aload_n (pc := 1034) hX dL_law_1034 3 rfl ?_
    refine pw_iconst (pc := 1035) (v := 0) hX dL_law_1035 (by decide) ?_
    refine pw_lald (pc := 1036) (j := 0) hX dL_law_1036 (lt_o hW8) (by decide) (by decide) ?_
    refine pw_iload (pc := 1037) hX dL_law_1037 0 rfl ?_
    refine pw_i2l (pc := 1039) (v := z.toInt64) hX dL_law_1039 rfl ?_
    refine pw_lcmp (pc := 1040) (z := 0) hX dL_law_1040 (lg_0 (hz8 hc_2)) ?_
    refine pw_if_eq (pc := 1041) hX 1046 dL_law_1041 (by decide) (fun hc_3 => ?_) (fun hc_3 => absurd rfl hc_3)
    refine pw_goto (pc := 1046) hX 1210 dL_law_1046 (by decide) ?_
    exact pw_lv [2, 3, 4, 5, 6] _ rfl (kk _ _ _ _ _ hW8 (by omega) (by omega))
set_option maxHeartbeats 4000000 in
set_option maxRecDepth 100000 in
theorem lw_c15 {p : Program} {e : Env} {s : State} {m : MethodId} {args : Array Value} {below : List Frame} {meth : Method} {c : Code} {Q : State → Prop} (l : Launch) (hl : l.stackTraces = false) (G : pw_G) (hX : pw_Cx p l s m args meth c G cL_law 7 RL) (hLn : G.2.2.2.2.1 < 2 ^ 31) (ax ay ao ii : Nat) (hi : ii + 3 < G.2.2.2.2.1) (th : Int32) (oL : Nat → Int64) (M : pw_M) (cn sl : Nat) (hW : LW G ax ay ao th oL M) (hcn : cn + 5 ≤ 601024) (hsl : sl + 36 ≤ 7293000) (kk : ∀ (M9 : pw_M) (th9 : Int32) (oL9 : Nat → Int64) (c9 s9 : Nat), LW G ax ay ao th9 oL9 M9 → c9 ≤ cn + 5 → s9 ≤ sl + 36 → pw_W p l e room_1 s m args below meth c Q G 7 M9 c9 s9 1210 [(4, .int (nI ii)), (3, .ref ao), (2, .ref ay), (1, .ref ax), (0, .ref G.2.2.2.1)] []) : pw_W p l e room_1 s m args below meth c Q G 7 M cn sl 1049 [(4, .int (nI ii)), (3, .ref ao), (2, .ref ay), (1, .ref ax), (0, .ref G.2.2.2.1)] [] := by
  obtain ⟨ad, am, n, oc, td, sn, dk, to, er, os, pl, oo, wa, pr, de, la, rfl, rfl, hc, hm, ho, hds, hsn, hI⟩ := hW
  refine pw_aload_n (pc := 1049) hX dL_law_1049 3 rfl ?_
  refine pw_aload_n (pc := 1050) hX dL_law_1050 4 rfl ?_
  refine pw_iload (pc := 1051) hX dL_law_1051 0 rfl ?_
  refine pw_iconst (pc := 1053) (v := 1) hX dL_law_1053 (by decide) ?_
  refine pw_iadd (pc := 1054) (z := nI (ii + 1)) hX dL_law_1054 (nI_add ii 1) ?_
  refine pw_sld (pc := 1055) (j := ii + 1) hX dL_law_1055 (by omega) hLn ?_
  refine pw_aload_n (pc := 1056) hX dL_law_1056 4 rfl ?_
  refine pw_iload (pc := 1057) hX dL_law_1057 0 rfl ?_
  refine pw_iconst (pc := 1059) (v := 2) hX dL_law_1059 (by decide) ?_
  refine pw_iadd (pc := 1060) (z := nI (ii + 2)) hX dL_law_1060 (nI_add ii 2) ?_
  refine pw_sld (pc := 1061) (j := ii + 2) hX dL_law_1061 (by omega) hLn ?_
  refine pw_aload_n (pc := 1062) hX dL_law_1062 4 rfl ?_
  refine pw_iload (pc := 1063) hX dL_law_1063 0 rfl ?_
  refine pw_iconst (pc := 1065) (v := 3) hX dL_law_1065 (by decide) ?_
  refine pw_iadd (pc := 1066) (z := nI (ii + 3)) hX dL_law_1066 (nI_add ii 3) ?_
  refine pw_sld (pc := 1067) (j := ii + 3) hX dL_law_1067 (by omega) hLn ?_
  refine pw_aload_n (pc := 1068) hX dL_law_1068 1 rfl ?_
  refine pw_callSh (pc := 1069) (st := []) hX (lc_piece l hl G M (ad 0) ao (G.2.2.2.2.2 (ii + 1)) (G.2.2.2.2.2 (ii + 2)) (G.2.2.2.2.2 (ii + 3)) _ hc.1 oL _ _ (cp_piece l hl G M ad n oc td (nI sn) dk to er os pl oo wa pr de hc (G.2.2.2.2.2 (ii + 1)) (G.2.2.2.2.2 (ii + 2)) (G.2.2.2.2.2 (ii + 3))) (fun v M1 h => by obtain ⟨-, hv, rfl⟩ := h; exact ⟨_, hv, ho⟩)) ok_L_piece lk_RL_142 dL_law_1069 rfl ⟨⟨by decide, by decide⟩, Nat.le_of_ble_eq_true rfl, (show _ ≤ 601024 by omega), (show _ ≤ 7293000 by omega)⟩ rfl (fun v9 M9 hp9 => ?_)
  obtain ⟨rfl, hm1⟩ := j1 (PO := (fun v9 M9 => cd_piece oc wa (G.2.2.2.2.2 (ii + 1)) (G.2.2.2.2.2 (ii + 2)) (G.2.2.2.2.2 (ii + 3)) = 0 ∧ v9 = some (.int (pi_r wa pr de (ix (G.2.2.2.2.2 (ii + 1))) (ix (G.2.2.2.2.2 (ii + 2))) (G.2.2.2.2.2 (ii + 3)))) ∧ M = M9)) (cv := fun y => y.toInt64) (cd := (cd_piece oc wa (G.2.2.2.2.2 (ii + 1)) (G.2.2.2.2.2 (ii + 2)) (G.2.2.2.2.2 (ii + 3)))) hm hds (fun v M1 h => by obtain ⟨h0, -, rfl⟩ := h; exact ⟨h0, fm_rf⟩) hp9
  refine pw_istore (pc := 1072) hX [(5, .int ((cd_piece oc wa (G.2.2.2.2.2 (ii + 1)) (G.2.2.2.2.2 (ii + 2)) (G.2.2.2.2.2 (ii + 3))))), (4, .int (nI ii)), (3, .ref ao), (2, .ref (am 0)), (1, .ref (ad 0)), (0, .ref G.2.2.2.1)] dL_law_1072 (by decide) rfl ?_
  refine pw_aload_n (pc := 1074) hX dL_law_1074 3 rfl ?_
  refine pw_aload_n (pc := 1075) hX dL_law_1075 5 rfl ?_
  refine pw_iload (pc := 1076) hX dL_law_1076 1 rfl ?_
  refine pw_iconst (pc := 1078) (v := 1) hX dL_law_1078 (by decide) ?_
  refine pw_iadd (pc := 1079) (z := nI (ii + 1)) hX dL_law_1079 (nI_add ii 1) ?_
  refine pw_sld (pc := 1080) (j := ii + 1) hX dL_law_1080 (by omega) hLn ?_
  refine pw_aload_n (pc := 1081) hX dL_law_1081 5 rfl ?_
  refine pw_iload (pc := 1082) hX dL_law_1082 1 rfl ?_
  refine pw_iconst (pc := 1084) (v := 2) hX dL_law_1084 (by decide) ?_
  refine pw_iadd (pc := 1085) (z := nI (ii + 2)) hX dL_law_1085 (nI_add ii 2) ?_
  refine pw_sld (pc := 1086) (j := ii + 2) hX dL_law_1086 (by omega) hLn ?_
  refine pw_aload_n (pc := 1087) hX dL_law_1087 5 rfl ?_
  refine pw_iload (pc := 1088) hX dL_law_1088 1 rfl ?_
  refine pw_iconst (pc := 1090) (v := 3) hX dL_law_1090 (by decide) ?_
  refine pw_iadd (pc := 1091) (z := nI (ii + 3)) hX dL_law_1091 (nI_add ii 3) ?_
  refine pw_sld (pc := 1092) (j := ii + 3) hX dL_law_1092 (by omega) hLn ?_
  refine pw_callV (pc := 1093) (st := []) hX (mp_piece l hl G M9 am n oc td th (lN sn) dk to er os pl wa pr la hm1  (G.2.2.2.2.2 (ii + 1)) (G.2.2.2.2.2 (ii + 2)) (G.2.2.2.2.2 (ii + 3))) hm1.1 rfl ok_X2_piece lk_RL_144 dL_law_1093 rfl ⟨⟨by decide, by decide⟩, Nat.le_of_ble_eq_true rfl, (show _ ≤ 601024 by omega), (show _ ≤ 7293000 by omega)⟩ rfl (fun v8 M8 hp8 => ?_)
  obtain ⟨z, oL8, rfl, hW8, hz8⟩ := j2_piece (G.2.2.2.2.2 (ii + 1)) (G.2.2.2.2.2 (ii + 2)) (G.2.2.2.2.2 (ii + 3)) hc hm ho hds hsn hI hp9 hp8
  refine pw_istore (pc := 1096) hX [(6, .int z), (5, .int ((cd_piece oc wa (G.2.2.2.2.2 (ii + 1)) (G.2.2.2.2.2 (ii + 2)) (G.2.2.2.2.2 (ii + 3))))), (4, .int (nI ii)), (3, .ref ao), (2, .ref (am 0)), (1, .ref (ad 0)), (0, .ref G.2.2.2.1)] dL_law_1096 (by decide) rfl ?_
  refine pw_aload_n (pc := 1098) hX dL_law_1098 4 rfl ?_
  refine pw_callV (pc := 1099) (st := []) hX (lt_thrown l hl hW8) (lt_m hW8).choose_spec rfl ok_X2_thrown lk_RL_90 dL_law_1099 rfl ⟨⟨by decide, by decide⟩, Nat.le_of_ble_eq_true rfl, (show _ ≤ 601024 by omega), (show _ ≤ 7293000 by omega)⟩ rfl (fun v7 M7 hp7 => ?_)
  obtain ⟨rfl, rfl⟩ := hp7
  refine pw_iload (pc := 1102) hX dL_law_1102 1 rfl ?_
  refine pw_icmp_eq (pc := 1104) hX 1109 dL_law_1104 (by decide) (fun hc_1 => ?_) (fun hc_1 => absurd rfl hc_1)
  refine pw_iload (pc := 1109) hX dL_law_1109 1 rfl ?_
  refine pw_if_ne (pc := 1111) hX 1126 dL_law_1111 (by decide) (fun hc_2 => ?_) (fun hc_2 => ?_)
  · refine pw_goto (pc := 1126) hX 1210 dL_law_1126 (by decide) ?_
    exact pw_lv [2, 3, 4, 5, 6] _ rfl (kk _ _ _ _ _ hW8 (by omega) (by omega))
  · refine pw_aload_n (pc := 1114) hX dL_law_1114 3 rfl ?_
    refine pw_iconst (pc := 1115) (v := 0) hX dL_law_1115 (by decide) ?_
    refine pw_lald (pc := 1116) (j := 0) hX dL_law_1116 (lt_o hW8) (by decide) (by decide) ?_
    refine pw_iload (pc := 1117) hX dL_law_1117 0 rfl ?_
    refine pw_i2l (pc := 1119) (v := z.toInt64) hX dL_law_1119 rfl ?_
    refine pw_lcmp (pc := 1120) (z := 0) hX dL_law_1120 (lg_0 (hz8 hc_2)) ?_
    refine pw_if_eq (pc := 1121) hX 1126 dL_law_1121 (by decide) (fun hc_3 => ?_) (fun hc_3 => absurd rfl hc_3)
    refine pw_goto (pc := 1126) hX 1210 dL_law_1126 (by decide) ?_
    exact pw_lv [2, 3, 4, 5, 6] _ rfl (kk _ _ _ _ _ hW8 (by omega) (by omega))
set_option maxHeartbeats 4000000 in
set_option maxRecDepth 100000 in
theorem lw_c16 {p : Program} {e : Env} {s : State} {m : MethodId} {args : Array Value} {below : List Frame} {meth : Method} {c : Code} {Q : State → Prop} (l : Launch) (hl : l.stackTraces = false) (G : pw_G) (hX : pw_Cx p l s m args meth c G cL_law 7 RL) (hLn : G.2.2.2.2.1 < 2 ^ 31) (ax ay ao ii : Nat) (hi : ii + 3 < G.2.2.2.2.1) (th : Int32) (oL : Nat → Int64) (M : pw_M) (cn sl : Nat) (hW : LW G ax ay ao th oL M) (hcn : cn + 5 ≤ 601024) (hsl : sl + 36 ≤ 7293000) (kk : ∀ (M9 : pw_M) (th9 : Int32) (oL9 : Nat → Int64) (c9 s9 : Nat), LW G ax ay ao th9 oL9 M9 → c9 ≤ cn + 5 → s9 ≤ sl + 36 → pw_W p l e room_1 s m args below meth c Q G 7 M9 c9 s9 1210 [(4, .int (nI ii)), (3, .ref ao), (2, .ref ay), (1, .ref ax), (0, .ref G.2.2.2.1)] []) : pw_W p l e room_1 s m args below meth c Q G 7 M cn sl 1129 [(4, .int (nI ii)), (3, .ref ao), (2, .ref ay), (1, .ref ax), (0, .ref G.2.2.2.1)] [] := by
  obtain ⟨ad, am, n, oc, td, sn, dk, to, er, os, pl, oo, wa, pr, de, la, rfl, rfl, hc, hm, ho, hds, hsn, hI⟩ := hW
  refine pw_aload_n (pc := 1129) hX dL_law_1129 3 rfl ?_
  refine pw_aload_n (pc := 1130) hX dL_law_1130 4 rfl ?_
  refine pw_iload (pc := 1131) hX dL_law_1131 0 rfl ?_
  refine pw_iconst (pc := 1133) (v := 1) hX dL_law_1133 (by decide) ?_
  refine pw_iadd (pc := 1134) (z := nI (ii + 1)) hX dL_law_1134 (nI_add ii 1) ?_
  refine pw_sld (pc := 1135) (j := ii + 1) hX dL_law_1135 (by omega) hLn ?_
  refine pw_aload_n (pc := 1136) hX dL_law_1136 1 rfl ?_
  refine pw_callSh (pc := 1137) (st := []) hX (lc_errors l hl G M (ad 0) ao (G.2.2.2.2.2 (ii + 1)) _ hc.1 oL _ _ (cp_errors l hl G M ad n oc td (nI sn) dk to er os pl oo wa pr de hc (G.2.2.2.2.2 (ii + 1))) (fun v M1 h => by obtain ⟨-, hv, rfl⟩ := h; exact ⟨_, hv, ho⟩)) ok_L_errors lk_RL_145 dL_law_1137 rfl ⟨⟨by decide, by decide⟩, Nat.le_of_ble_eq_true rfl, (show _ ≤ 601024 by omega), (show _ ≤ 7293000 by omega)⟩ rfl (fun v9 M9 hp9 => ?_)
  obtain ⟨rfl, hm1⟩ := j1 (PO := (fun v9 M9 => cd_errors (G.2.2.2.2.2 (ii + 1)) = 0 ∧ v9 = some (.int (er (ix (G.2.2.2.2.2 (ii + 1))))) ∧ M = M9)) (cv := fun y => y.toInt64) (cd := (cd_errors (G.2.2.2.2.2 (ii + 1)))) hm hds (fun v M1 h => by obtain ⟨h0, -, rfl⟩ := h; exact ⟨h0, fm_rf⟩) hp9
  refine pw_istore (pc := 1140) hX [(5, .int ((cd_errors (G.2.2.2.2.2 (ii + 1))))), (4, .int (nI ii)), (3, .ref ao), (2, .ref (am 0)), (1, .ref (ad 0)), (0, .ref G.2.2.2.1)] dL_law_1140 (by decide) rfl ?_
  refine pw_aload_n (pc := 1142) hX dL_law_1142 3 rfl ?_
  refine pw_aload_n (pc := 1143) hX dL_law_1143 5 rfl ?_
  refine pw_iload (pc := 1144) hX dL_law_1144 1 rfl ?_
  refine pw_iconst (pc := 1146) (v := 1) hX dL_law_1146 (by decide) ?_
  refine pw_iadd (pc := 1147) (z := nI (ii + 1)) hX dL_law_1147 (nI_add ii 1) ?_
  refine pw_sld (pc := 1148) (j := ii + 1) hX dL_law_1148 (by omega) hLn ?_
  refine pw_callV (pc := 1149) (st := []) hX (mp_errors l hl G M9 am n oc td th (lN sn) dk to er os pl wa pr la hm1  (G.2.2.2.2.2 (ii + 1))) hm1.1 rfl ok_X2_errors lk_RL_147 dL_law_1149 rfl ⟨⟨by decide, by decide⟩, Nat.le_of_ble_eq_true rfl, (show _ ≤ 601024 by omega), (show _ ≤ 7293000 by omega)⟩ rfl (fun v8 M8 hp8 => ?_)
  obtain ⟨z, oL8, rfl, hW8, hz8⟩ := j2_errors (G.2.2.2.2.2 (ii + 1)) hc hm ho hds hsn hI hp9 hp8
  refine pw_istore (pc := 1152) hX [(6, .int z), (5, .int ((cd_errors (G.2.2.2.2.2 (ii + 1))))), (4, .int (nI ii)), (3, .ref ao), (2, .ref (am 0)), (1, .ref (ad 0)), (0, .ref G.2.2.2.1)] dL_law_1152 (by decide) rfl ?_
  refine pw_aload_n (pc := 1154) hX dL_law_1154 4 rfl ?_
  refine pw_callV (pc := 1155) (st := []) hX (lt_thrown l hl hW8) (lt_m hW8).choose_spec rfl ok_X2_thrown lk_RL_90 dL_law_1155 rfl ⟨⟨by decide, by decide⟩, Nat.le_of_ble_eq_true rfl, (show _ ≤ 601024 by omega), (show _ ≤ 7293000 by omega)⟩ rfl (fun v7 M7 hp7 => ?_)
  obtain ⟨rfl, rfl⟩ := hp7
  refine pw_iload (pc := 1158) hX dL_law_1158 1 rfl ?_
  refine pw_icmp_eq (pc := 1160) hX 1165 dL_law_1160 (by decide) (fun hc_1 => ?_) (fun hc_1 => absurd rfl hc_1)
  refine pw_iload (pc := 1165) hX dL_law_1165 1 rfl ?_
  refine pw_if_ne (pc := 1167) hX 1182 dL_law_1167 (by decide) (fun hc_2 => ?_) (fun hc_2 => ?_)
  · refine pw_goto (pc := 1182) hX 1210 dL_law_1182 (by decide) ?_
    exact pw_lv [2, 3, 4, 5, 6] _ rfl (kk _ _ _ _ _ hW8 (by omega) (by omega))
  · refine pw_aload_n (pc := 1170) hX dL_law_1170 3 rfl ?_
    refine pw_iconst (pc := 1171) (v := 0) hX dL_law_1171 (by decide) ?_
    refine pw_lald (pc := 1172) (j := 0) hX dL_law_1172 (lt_o hW8) (by decide) (by decide) ?_
    refine pw_iload (pc := 1173) hX dL_law_1173 0 rfl ?_
    refine pw_i2l (pc := 1175) (v := z.toInt64) hX dL_law_1175 rfl ?_
    refine pw_lcmp (pc := 1176) (z := 0) hX dL_law_1176 (lg_0 (hz8 hc_2)) ?_
    refine pw_if_eq (pc := 1177) hX 1182 dL_law_1177 (by decide) (fun hc_3 => ?_) (fun hc_3 => absurd rfl hc_3)
    refine pw_goto (pc := 1182) hX 1210 dL_law_1182 (by decide) ?_
    exact pw_lv [2, 3, 4, 5, 6] _ rfl (kk _ _ _ _ _ hW8 (by omega) (by omega))
set_option maxHeartbeats 4000000 in
set_option maxRecDepth 100000 in
theorem lw_c17 {p : Program} {e : Env} {s : State} {m : MethodId} {args : Array Value} {below : List Frame} {meth : Method} {c : Code} {Q : State → Prop} (l : Launch) (hl : l.stackTraces = false) (G : pw_G) (hX : pw_Cx p l s m args meth c G cL_law 7 RL) (hLn : G.2.2.2.2.1 < 2 ^ 31) (ax ay ao ii : Nat) (hi : ii + 3 < G.2.2.2.2.1) (th : Int32) (oL : Nat → Int64) (M : pw_M) (cn sl : Nat) (hW : LW G ax ay ao th oL M) (hcn : cn + 5 ≤ 601024) (hsl : sl + 36 ≤ 7293000) (kk : ∀ (M9 : pw_M) (th9 : Int32) (oL9 : Nat → Int64) (c9 s9 : Nat), LW G ax ay ao th9 oL9 M9 → c9 ≤ cn + 5 → s9 ≤ sl + 36 → pw_W p l e room_1 s m args below meth c Q G 7 M9 c9 s9 1210 [(4, .int (nI ii)), (3, .ref ao), (2, .ref ay), (1, .ref ax), (0, .ref G.2.2.2.1)] []) : pw_W p l e room_1 s m args below meth c Q G 7 M cn sl 1185 [(4, .int (nI ii)), (3, .ref ao), (2, .ref ay), (1, .ref ax), (0, .ref G.2.2.2.1)] [] := by
  obtain ⟨ad, am, n, oc, td, sn, dk, to, er, os, pl, oo, wa, pr, de, la, rfl, rfl, hc, hm, ho, hds, hsn, hI⟩ := hW
  refine pw_aload_n (pc := 1185) hX dL_law_1185 3 rfl ?_
  refine pw_aload_n (pc := 1186) hX dL_law_1186 4 rfl ?_
  refine pw_iload (pc := 1187) hX dL_law_1187 0 rfl ?_
  refine pw_iconst (pc := 1189) (v := 1) hX dL_law_1189 (by decide) ?_
  refine pw_iadd (pc := 1190) (z := nI (ii + 1)) hX dL_law_1190 (nI_add ii 1) ?_
  refine pw_sld (pc := 1191) (j := ii + 1) hX dL_law_1191 (by omega) hLn ?_
  refine pw_callV (pc := 1192) (st := []) hX (cp_count l hl G M ad n oc td (nI sn) dk to er os pl oo wa pr de hc (G.2.2.2.2.2 (ii + 1))) hc.1 rfl ok_X1_count lk_RL_148 dL_law_1192 rfl ⟨⟨by decide, by decide⟩, Nat.le_of_ble_eq_true rfl, (show _ ≤ 601024 by omega), (show _ ≤ 7293000 by omega)⟩ rfl (fun v9 M9 hp9 => ?_)
  obtain ⟨y, hy, hm1⟩ : ∃ y, v9 = some (.int y) ∧ mw G am n oc td th (lN sn) dk to er os pl wa pr la M9 := ⟨_, hp9.1, hp9.2 ▸ hm⟩
  subst hy
  refine pw_aload_n (pc := 1195) hX dL_law_1195 2 rfl ?_
  refine pw_aload_n (pc := 1196) hX dL_law_1196 4 rfl ?_
  refine pw_iload (pc := 1197) hX dL_law_1197 0 rfl ?_
  refine pw_iconst (pc := 1199) (v := 1) hX dL_law_1199 (by decide) ?_
  refine pw_iadd (pc := 1200) (z := nI (ii + 1)) hX dL_law_1200 (nI_add ii 1) ?_
  refine pw_sld (pc := 1201) (j := ii + 1) hX dL_law_1201 (by omega) hLn ?_
  refine pw_callV (pc := 1202) (st := [.int y]) hX (mp_count l hl G M9 am n oc td th (lN sn) dk to er os pl wa pr la hm1 oo hI.1 (G.2.2.2.2.2 (ii + 1))) hm1.1 rfl ok_X2_count lk_RL_151 dL_law_1202 rfl ⟨⟨by decide, by decide⟩, Nat.le_of_ble_eq_true rfl, (show _ ≤ 601024 by omega), (show _ ≤ 7293000 by omega)⟩ rfl (fun v8 M8 hp8 => ?_)
  obtain ⟨z, hy, rfl, hW8⟩ := j2_count (G.2.2.2.2.2 (ii + 1)) hc hm ho hds hsn hI hp9 hp8
  cases hy
  refine pw_icmp_eq (pc := 1205) hX 1210 dL_law_1205 (by decide) (fun hc_1 => ?_) (fun hc_1 => absurd rfl hc_1)
  exact pw_lv [0, 1, 2, 3, 4] _ rfl (kk _ _ _ _ _ hW8 (by omega) (by omega))
