/-! ===== wall and model side by side ===== -/
def ds (ad am : Nat → Nat) (ao oc : Nat) : Prop := (∀ x, x < 6 + 4 * oc → ∀ y, y < 9 → ad x ≠ am y) ∧ (∀ x, x < 6 + 4 * oc → ad x ≠ ao) ∧ ∀ y, y < 9 → am y ≠ ao
def LW (G : pw_G) (ax ay ao : Nat) (th : Int32) (oL : Nat → Int64) (M : pw_M) : Prop := ∃ (ad am : Nat → Nat) (n oc : Nat) (td : Int32) (sn : Nat) (dk to er os pl : Nat → Int32) (oo : Nat → Option Nat) (wa pr de la : Nat → Nat → Int32), ad 0 = ax ∧ am 0 = ay ∧ cw G ad n oc td (nI sn) dk to er os pl oo wa pr de M ∧ mw G am n oc td th (lN sn) dk to er os pl wa pr la M ∧ M ao = some (.inl (G.2.2.1 3, 1, .inr (.inl oL))) ∧ ds ad am ao oc ∧ sn < 2 ^ 31 ∧ li n oc os pl oo wa pr de la
def JR (G : pw_G) (ax ay ao : Nat) (cd : Int32) (v8 : Option Value) (M8 : pw_M) : Prop := ∃ (z : Int32) (oL : Nat → Int64), v8 = some (.int z) ∧ LW G ax ay ao cd oL M8 ∧ (cd = 0 → oL 0 = z.toInt64)
def JZ (G : pw_G) (ax ay ao : Nat) (cd : Int32) (v8 : Option Value) (M8 : pw_M) : Prop := ∃ (z : Int32) (oL : Nat → Int64), v8 = some (.int z) ∧ LW G ax ay ao cd oL M8 ∧ (cd = 0 → oL 0 = if z = 0 then 0 else 1)
def JV (G : pw_G) (ax ay ao : Nat) (cd : Int32) (v8 : Option Value) (M8 : pw_M) : Prop := v8 = none ∧ ∃ (oL : Nat → Int64), LW G ax ay ao cd oL M8
abbrev wo (G : pw_G) (ao : Nat) (oL : Nat → Int64) (cv : Int32 → Int64) (PO : Option Value → pw_M → Prop) (cd : Int32) (M : pw_M) (v9 : Option Value) (M9 : pw_M) : Prop := (∃ y M1, PO (some (.int y)) M1 ∧ v9 = some (.int 0) ∧ M9 = pw_up M1 ao (.inl (G.2.2.1 3, 1, .inr (.inl (vp_updL oL 0 (cv y)))))) ∨ (¬ cd = 0 ∧ v9 = some (.int cd) ∧ M = M9)
abbrev wv (PO : Option Value → pw_M → Prop) (cd : Int32) (M : pw_M) (v9 : Option Value) (M9 : pw_M) : Prop := (PO none M9 ∧ v9 = some (.int 0)) ∨ (¬ cd = 0 ∧ v9 = some (.int cd) ∧ M = M9)
theorem pc_v {A : Prop} {k x v : Int32} (hk : ¬ k = v) (h : pc_if A k x = v) : ¬ A ∧ x = v := by
  by_cases hA : A
  · rw [pc_t hA] at h; exact absurd h hk
  · rw [pc_f hA] at h; exact ⟨hA, h⟩
theorem scq_1 {d w p s t : Int32} (h : sc_r d w p s t = 1) : ¬ w - p = 0 := by
  obtain ⟨-, h1⟩ := pc_v (by decide) (show pc_if _ _ _ = _ from h)
  obtain ⟨-, h2⟩ := pc_v (by decide) h1
  obtain ⟨h3, -⟩ := pc_v (by decide) h2
  exact fun h9 => h3 (Or.inl h9)
section JO
variable {G : pw_G} {ad am : Nat → Nat} {ao n oc : Nat} {td th : Int32} {sn : Nat} {dk to er os pl : Nat → Int32} {oo : Nat → Option Nat} {wa pr de la : Nat → Nat → Int32} {M M9 M8 M1 : pw_M} {oL : Nat → Int64} {v9 v8 : Option Value} {cd sd : Int32} {sL : Int64}
theorem cw_fr (h : cw G ad n oc td sd dk to er os pl oo wa pr de M) (k : ∀ (x : Nat) (e : va_E), x < 6 + 4 * oc → M (ad x) = some e → M9 (ad x) = some e) : cw G ad n oc td sd dk to er os pl oo wa pr de M9 :=
  ⟨k 0 _ (by omega) h.1, k 1 _ (by omega) h.2.1, k 2 _ (by omega) h.2.2.1, k 3 _ (by omega) h.2.2.2.1, k 4 _ (by omega) h.2.2.2.2.1, k 5 _ (by omega) h.2.2.2.2.2.1, fun i hi => ⟨k (6 + 4 * i) _ (by omega) (cw_o h i hi).1, k (7 + 4 * i) _ (by omega) (cw_o h i hi).2.1, k (8 + 4 * i) _ (by omega) (cw_o h i hi).2.2.1, k (9 + 4 * i) _ (by omega) (cw_o h i hi).2.2.2⟩, cw_i h, cw_n h, cw_oc h, cw_ooA h⟩
theorem mw_fr (h : mw G am n oc td th sL dk to er os pl wa pr la M) (k : ∀ (y : Nat) (e : va_E), y < 9 → M (am y) = some e → M9 (am y) = some e) : mw G am n oc td th sL dk to er os pl wa pr la M9 :=
  ⟨k 0 _ (by decide) h.1, k 1 _ (by decide) h.2.1, k 2 _ (by decide) h.2.2.1, k 3 _ (by decide) h.2.2.2.1, k 4 _ (by decide) h.2.2.2.2.1, k 5 _ (by decide) h.2.2.2.2.2.1, k 6 _ (by decide) h.2.2.2.2.2.2.1, k 7 _ (by decide) h.2.2.2.2.2.2.2.1, k 8 _ (by decide) h.2.2.2.2.2.2.2.2.1, mw_i h, mw_n h, mw_oc h⟩
theorem mw_has (h : mw G am n oc td th sL dk to er os pl wa pr la M) : ∀ y, y < 9 → ∃ e, M (am y) = some e := fun y hy => by
  rcases (show y = 0 ∨ y = 1 ∨ y = 2 ∨ y = 3 ∨ y = 4 ∨ y = 5 ∨ y = 6 ∨ y = 7 ∨ y = 8 by omega) with rfl | rfl | rfl | rfl | rfl | rfl | rfl | rfl | rfl
  · exact ⟨_, h.1⟩
  · exact ⟨_, h.2.1⟩
  · exact ⟨_, h.2.2.1⟩
  · exact ⟨_, h.2.2.2.1⟩
  · exact ⟨_, h.2.2.2.2.1⟩
  · exact ⟨_, h.2.2.2.2.2.1⟩
  · exact ⟨_, h.2.2.2.2.2.2.1⟩
  · exact ⟨_, h.2.2.2.2.2.2.2.1⟩
  · exact ⟨_, h.2.2.2.2.2.2.2.2.1⟩
theorem cw_ao (h : cw G ad n oc td sd dk to er os pl oo wa pr de M) (hds : ds ad am ao oc) (e : va_E) : cw G ad n oc td sd dk to er os pl oo wa pr de (pw_up M ao e) := cw_fr h (fun x _ hx he => pw_ke he (hds.2.1 x hx))
theorem j1 {PO : Option Value → pw_M → Prop} {cv : Int32 → Int64} (hm : mw G am n oc td th sL dk to er os pl wa pr la M) (hds : ds ad am ao oc) (hPO : ∀ v M1, PO v M1 → cd = 0 ∧ fm ad (6 + 4 * oc) M M1) (hp : wo G ao oL cv PO cd M v9 M9) : v9 = some (.int cd) ∧ mw G am n oc td th sL dk to er os pl wa pr la M9 := by
  rcases hp with ⟨y, M1, h1, h2, rfl⟩ | ⟨-, h2, rfl⟩
  · obtain ⟨h0, hf⟩ := hPO _ _ h1
    exact ⟨by rw [h2, h0], mw_fr hm (fun y e hy he => pw_ke (hf _ _ he (fun x hx h => hds.1 x hx y hy h)) (hds.2.2 y hy))⟩
  · exact ⟨h2, hm⟩
theorem j1v {PO : Option Value → pw_M → Prop} (hm : mw G am n oc td th sL dk to er os pl wa pr la M) (hds : ds ad am ao oc) (hPO : ∀ v M1, PO v M1 → cd = 0 ∧ fm ad (6 + 4 * oc) M M1) (hp : wv PO cd M v9 M9) : v9 = some (.int cd) ∧ mw G am n oc td th sL dk to er os pl wa pr la M9 := by
  rcases hp with ⟨h1, h2⟩ | ⟨-, h2, rfl⟩
  · obtain ⟨h0, hf⟩ := hPO _ _ h1
    exact ⟨by rw [h2, h0], mw_fr hm (fun y e hy he => hf _ _ he (fun x hx h => hds.1 x hx y hy h))⟩
  · exact ⟨h2, hm⟩
theorem lj_end (h0 : cd = th) (hc9 : cw G ad n oc td (nI sn) dk to er os pl oo wa pr de M9) (ho9 : M9 ao = some (.inl (G.2.2.1 3, 1, .inr (.inl oL)))) (hm8 : mw G am n oc td th (lN sn) dk to er os pl wa pr la M8) (hf : fm am 9 M9 M8) (hds : ds ad am ao oc) (hsn : sn < 2 ^ 31) (hI : li n oc os pl oo wa pr de la) : LW G (ad 0) (am 0) ao cd oL M8 := by
  subst h0
  exact ⟨ad, am, n, oc, td, sn, dk, to, er, os, pl, oo, wa, pr, de, la, rfl, rfl, cw_fr hc9 (fun x e hx he => hf _ _ he (fun y hy h => hds.1 x hx y hy h.symm)), hm8, hf ao _ ho9 hds.2.2, hds, hsn, hI⟩
theorem lj_ref {A : Prop} (hc : cw G ad n oc td (nI sn) dk to er os pl oo wa pr de M) (ho : M ao = some (.inl (G.2.2.1 3, 1, .inr (.inl oL)))) (hds : ds ad am ao oc) (hsn : sn < 2 ^ 31) (hI : li n oc os pl oo wa pr de la) (hr : ¬ cd = 0 ∧ v9 = some (.int cd) ∧ M = M9) (hA : A → cd = 0) (hp8 : (A ∨ ¬ cd = 0 ∧ (∃ z, v8 = some (.int z)) ∧ mw G am n oc td cd (lN sn) dk to er os pl wa pr la M8) ∧ fm am 9 M9 M8) : ∃ z, v8 = some (.int z) ∧ LW G (ad 0) (am 0) ao cd oL M8 := by
  obtain ⟨hne, -, rfl⟩ := hr
  obtain ⟨h | ⟨-, ⟨z, hz⟩, hm8⟩, hf8⟩ := hp8
  · exact absurd (hA h) hne
  · exact ⟨z, hz, lj_end rfl hc ho hm8 hf8 hds hsn hI⟩
theorem j2_ref {A : Prop} (hc : cw G ad n oc td (nI sn) dk to er os pl oo wa pr de M) (ho : M ao = some (.inl (G.2.2.1 3, 1, .inr (.inl oL)))) (hds : ds ad am ao oc) (hsn : sn < 2 ^ 31) (hI : li n oc os pl oo wa pr de la) (hr : ¬ cd = 0 ∧ v9 = some (.int cd) ∧ M = M9) (hA : A → cd = 0) (hp8 : (A ∨ ¬ cd = 0 ∧ (∃ z, v8 = some (.int z)) ∧ mw G am n oc td cd (lN sn) dk to er os pl wa pr la M8) ∧ fm am 9 M9 M8) : JR G (ad 0) (am 0) ao cd v8 M8 := by
  obtain ⟨z, hz, hW⟩ := lj_ref hc ho hds hsn hI hr hA hp8
  exact ⟨z, oL, hz, hW, fun h => absurd h hr.1⟩
theorem j2_refz {A : Prop} (hc : cw G ad n oc td (nI sn) dk to er os pl oo wa pr de M) (ho : M ao = some (.inl (G.2.2.1 3, 1, .inr (.inl oL)))) (hds : ds ad am ao oc) (hsn : sn < 2 ^ 31) (hI : li n oc os pl oo wa pr de la) (hr : ¬ cd = 0 ∧ v9 = some (.int cd) ∧ M = M9) (hA : A → cd = 0) (hp8 : (A ∨ ¬ cd = 0 ∧ (∃ z, v8 = some (.int z)) ∧ mw G am n oc td cd (lN sn) dk to er os pl wa pr la M8) ∧ fm am 9 M9 M8) : JZ G (ad 0) (am 0) ao cd v8 M8 := by
  obtain ⟨z, hz, hW⟩ := lj_ref hc ho hds hsn hI hr hA hp8
  exact ⟨z, oL, hz, hW, fun h => absurd h hr.1⟩
theorem j2_refv {A : Prop} (hc : cw G ad n oc td (nI sn) dk to er os pl oo wa pr de M) (ho : M ao = some (.inl (G.2.2.1 3, 1, .inr (.inl oL)))) (hds : ds ad am ao oc) (hsn : sn < 2 ^ 31) (hI : li n oc os pl oo wa pr de la) (hr : ¬ cd = 0 ∧ v9 = some (.int cd) ∧ M = M9) (hA : A → cd = 0) (hp8 : (A ∨ ¬ cd = 0 ∧ v8 = none ∧ mw G am n oc td cd (lN sn) dk to er os pl wa pr la M8) ∧ fm am 9 M9 M8) : JV G (ad 0) (am 0) ao cd v8 M8 := by
  obtain ⟨hne, -, rfl⟩ := hr
  obtain ⟨h | ⟨-, hz, hm8⟩, hf8⟩ := hp8
  · exact absurd (hA h) hne
  · exact ⟨hz, oL, lj_end rfl hc ho hm8 hf8 hds hsn hI⟩

theorem j2_tote (p0 p1 : Int32) (hc : cw G ad n oc td (nI sn) dk to er os pl oo wa pr de M) (hm : mw G am n oc td th (lN sn) dk to er os pl wa pr la M) (ho : M ao = some (.inl (G.2.2.1 3, 1, .inr (.inl oL)))) (hds : ds ad am ao oc) (hsn : sn < 2 ^ 31) (hI : li n oc os pl oo wa pr de la) (hp : wo G ao oL (fun y => y.toInt64) (fun v9 M9 => cd_tote p0 p1 = 0 ∧ v9 = some (.int (to (ix p0) + p1)) ∧ cw G ad n oc td (nI sn) dk (upd to (ix p0) (to (ix p0) + p1)) er os pl oo wa pr de M9 ∧ fm ad (6 + 4 * oc) M M9) (cd_tote p0 p1) M v9 M9) (hp8 : (cd_tote p0 p1 = 0 ∧ v8 = some (.int (to (ix p0) + p1)) ∧ mw G am n oc td 0 (lN sn) dk (upd to (ix p0) (to (ix p0) + p1)) er os pl wa pr la M8 ∨ ¬ cd_tote p0 p1 = 0 ∧ (∃ z, v8 = some (.int z)) ∧ mw G am n oc td (cd_tote p0 p1) (lN sn) dk to er os pl wa pr la M8) ∧ fm am 9 M9 M8) : JR G (ad 0) (am 0) ao (cd_tote p0 p1) v8 M8 := by
  rcases hp with ⟨y, M1, ⟨h0, hv, hc1, hf1⟩, -, rfl⟩ | hr
  · cases hv
    obtain ⟨⟨-, rfl, hm8⟩ | ⟨hne, -⟩, hf8⟩ := hp8
    · exact ⟨_, _, rfl, lj_end h0 (cw_ao hc1 hds _) pw_us hm8 hf8 hds hsn hI, fun _ => pk_uLs⟩
    · exact absurd h0 hne
  · exact j2_ref hc ho hds hsn hI hr (fun h => h.1) hp8
theorem j2_light (p0 p1 : Int32) (hc : cw G ad n oc td (nI sn) dk to er os pl oo wa pr de M) (hm : mw G am n oc td th (lN sn) dk to er os pl wa pr la M) (ho : M ao = some (.inl (G.2.2.1 3, 1, .inr (.inl oL)))) (hds : ds ad am ao oc) (hsn : sn < 2 ^ 31) (hI : li n oc os pl oo wa pr de la) (hp : wo G ao oL (fun y => if y = 0 then 0 else 1) (fun v9 M9 => cd_light n p0 = 0 ∧ v9 = some (.int (if dk (ix p0) = 0 then 1 else 0)) ∧ cw G ad n oc td (nI sn) (upd dk (ix p0) (if p1 = 0 then 1 else 0)) to er os pl oo wa pr de M9 ∧ fm ad (6 + 4 * oc) M M9) (cd_light n p0) M v9 M9) (hp8 : (cd_light n p0 = 0 ∧ v8 = some (.int (if dk (ix p0) = 0 then 1 else 0)) ∧ mw G am n oc td 0 (lN sn) (upd dk (ix p0) (if p1 = 0 then 1 else 0)) to er os pl wa pr la M8 ∨ ¬ cd_light n p0 = 0 ∧ (∃ z, v8 = some (.int z)) ∧ mw G am n oc td (cd_light n p0) (lN sn) dk to er os pl wa pr la M8) ∧ fm am 9 M9 M8) : JZ G (ad 0) (am 0) ao (cd_light n p0) v8 M8 := by
  rcases hp with ⟨y, M1, ⟨h0, hv, hc1, hf1⟩, -, rfl⟩ | hr
  · cases hv
    obtain ⟨⟨-, rfl, hm8⟩ | ⟨hne, -⟩, hf8⟩ := hp8
    · exact ⟨_, _, rfl, lj_end h0 (cw_ao hc1 hds _) pw_us hm8 hf8 hds hsn hI, fun _ => pk_uLs⟩
    · exact absurd h0 hne
  · exact j2_refz hc ho hds hsn hI hr (fun h => h.1) hp8
theorem j2_order (hc : cw G ad n oc td (nI sn) dk to er os pl oo wa pr de M) (hm : mw G am n oc td th (lN sn) dk to er os pl wa pr la M) (ho : M ao = some (.inl (G.2.2.1 3, 1, .inr (.inl oL)))) (hds : ds ad am ao oc) (hsn : sn < 2 ^ 31) (hI : li n oc os pl oo wa pr de la) (hp : wo G ao oL (fun y => y.toInt64) (fun v9 M9 => cd_order oc = 0 ∧ v9 = some (.int (nI oc)) ∧ ∃ (ad9 : Nat → Nat) (f9 : Nat → Int32) (b9 : Nat), (∀ x, x < 6 + 4 * oc → ad9 x = ad x) ∧ ab M b9 ∧ (∀ g, g < 10 → f9 g = -1) ∧ (∀ x, 6 + 4 * oc ≤ x → x < 6 + 4 * (oc + 1) → b9 ≤ ad9 x) ∧ cw G ad9 n (oc + 1) td (nI sn) dk to er (va_up os oc 0) (va_up pl oc (-1)) oo (va_up wa oc (fun _ => 0)) (va_up pr oc (fun _ => 0)) (va_up de oc f9) M9 ∧ fm ad (6 + 4 * oc) M M9) (cd_order oc) M v9 M9) (hp8 : (cd_order oc = 0 ∧ v8 = some (.int (nI oc)) ∧ mw G am n (oc + 1) td 0 (lN sn) dk to er (upd os oc 0) (upd pl oc (-1)) wa pr la M8 ∨ ¬ cd_order oc = 0 ∧ (∃ z, v8 = some (.int z)) ∧ mw G am n oc td (cd_order oc) (lN sn) dk to er os pl wa pr la M8) ∧ fm am 9 M9 M8) : JR G (ad 0) (am 0) ao (cd_order oc) v8 M8 := by
  rcases hp with ⟨y, M1, ⟨h0, hv, ad9, f9, b9, hk, hab, hf9, hnew, hc1, hf1⟩, -, rfl⟩ | hr
  · cases hv
    obtain ⟨⟨-, rfl, hm8⟩ | ⟨hne, -⟩, hf8⟩ := hp8
    · have hO9 := hI.2.2.2.1 oc (Nat.le_refl oc)
      rw [vu_id hO9.1, vu_id hO9.2] at hc1
      have hds9 : ds ad9 am ao (oc + 1) := by
        refine ⟨fun x hx y hy h => ?_, fun x hx h => ?_, hds.2.2⟩
        · by_cases hx9 : x < 6 + 4 * oc
          · exact hds.1 x hx9 y hy ((hk x hx9).symm.trans h)
          · obtain ⟨e, he⟩ := mw_has hm y hy
            have g1 := hab _ _ he
            have g2 := hnew x (by omega) hx
            omega
        · by_cases hx9 : x < 6 + 4 * oc
          · exact hds.2.1 x hx9 ((hk x hx9).symm.trans h)
          · have g1 := hab _ _ ho
            have g2 := hnew x (by omega) hx
            omega
      refine ⟨nI oc, vp_updL oL 0 (nI oc).toInt64, rfl, ?_, fun _ => pk_uLs⟩
      rw [← hk 0 (by omega)]
      exact lj_end h0 (cw_ao hc1 hds9 _) pw_us hm8 hf8 hds9 hsn (li_order hI (cw_n hc) hf9)
    · exact absurd h0 hne
  · exact j2_ref hc ho hds hsn hI hr (fun h => h.1) hp8
theorem j2_line (p0 p1 p2 : Int32) (hc : cw G ad n oc td (nI sn) dk to er os pl oo wa pr de M) (hm : mw G am n oc td th (lN sn) dk to er os pl wa pr la M) (ho : M ao = some (.inl (G.2.2.1 3, 1, .inr (.inl oL)))) (hds : ds ad am ao oc) (hsn : sn < 2 ^ 31) (hI : li n oc os pl oo wa pr de la) (hp : wv (fun v9 M9 => cd_line oc os wa p0 p1 p2 = 0 ∧ v9 = none ∧ cw G ad n oc td (nI sn) dk to er os pl oo (va_up wa (ix p0) (upd (wa (ix p0)) (ix p1) p2)) pr de M9 ∧ fm ad (6 + 4 * oc) M M9) (cd_line oc os wa p0 p1 p2) M v9 M9) (hp8 : (cd_line oc os wa p0 p1 p2 = 0 ∧ v8 = none ∧ mw G am n oc td 0 (lN sn) dk to er os pl (va_up wa (ix p0) (upd (wa (ix p0)) (ix p1) p2)) (va_up pr (ix p0) (upd (pr (ix p0)) (ix p1) 0)) (va_up la (ix p0) (upd (la (ix p0)) (ix p1) (-1))) M8 ∨ ¬ cd_line oc os wa p0 p1 p2 = 0 ∧ v8 = none ∧ mw G am n oc td (cd_line oc os wa p0 p1 p2) (lN sn) dk to er os pl wa pr la M8) ∧ fm am 9 M9 M8) : JV G (ad 0) (am 0) ao (cd_line oc os wa p0 p1 p2) v8 M8 := by
  rcases hp with ⟨⟨h0, -, hc1, hf1⟩, -⟩ | hr
  · obtain ⟨⟨-, hz, hm8⟩ | ⟨hne, -⟩, hf8⟩ := hp8
    · obtain ⟨a1, g1⟩ := pc_v (by decide) (show pc_if _ _ _ = _ from h0)
      obtain ⟨a2, g2⟩ := pc_v (by decide) g1
      obtain ⟨a3, -⟩ := pc_v (by decide) g2
      obtain ⟨j, hj, rfl⟩ := Classical.not_not.mp a1
      obtain ⟨⟨g, hg, rfl⟩, hv1, hv9⟩ := Classical.not_not.mp a2
      obtain ⟨h9, -⟩ := Classical.not_not.mp a3
      rw [ix_nI (by have := cw_oc hc; omega)] at h9
      rw [ix_nI (j := j) (by have := cw_oc hc; omega), ix_nI (j := g) (by omega)] at hc1 hm8
      rw [v2_id (hI.2.2.2.2.1 j g hj h9 hg).1] at hm8
      exact ⟨hz, oL, lj_end h0 hc1 (hf1 _ _ ho hds.2.1) hm8 hf8 hds hsn (li_line hI hj hg h9 (fun h => absurd (Int32.le_trans hv1 (Int32.le_of_lt h)) (by decide)) hv9)⟩
    · exact absurd h0 hne
  · exact j2_refv hc ho hds hsn hI hr (fun h => h.1) hp8
theorem j2_cell (p0 : Int32) (hc : cw G ad n oc td (nI sn) dk to er os pl oo wa pr de M) (hm : mw G am n oc td th (lN sn) dk to er os pl wa pr la M) (ho : M ao = some (.inl (G.2.2.1 3, 1, .inr (.inl oL)))) (hds : ds ad am ao oc) (hsn : sn < 2 ^ 31) (hI : li n oc os pl oo wa pr de la) (hp : wo G ao oL (fun y => y.toInt64) (fun v9 M9 => cd_cell oc os wa p0 = 0 ∧ ((∃ i, i < n ∧ v9 = some (.int (nI i)) ∧ oo i = none ∧ dk i = 0 ∧ (∀ k, k < i → ¬ (oo k = none ∧ dk k = 0)) ∧ cw G ad n oc td (nI sn) dk to er (va_up os (ix p0) 1) (va_up pl (ix p0) (nI i)) (va_up oo i (some (ix p0))) wa pr de M9) ∨ v9 = some (.int (-1)) ∧ (∀ i, i < n → ¬ (oo i = none ∧ dk i = 0)) ∧ M = M9) ∧ fm ad (6 + 4 * oc) M M9) (cd_cell oc os wa p0) M v9 M9) (hp8 : (cd_cell oc os wa p0 = 0 ∧ ((∃ i, i < n ∧ v8 = some (.int (nI i)) ∧ oo i = none ∧ dk i = 0 ∧ (∀ k, k < i → ¬ (oo k = none ∧ dk k = 0)) ∧ mw G am n oc td 0 (lN sn) dk to er (upd os (ix p0) 1) (upd pl (ix p0) (nI i)) wa pr la M8) ∨ v8 = some (.int (-1)) ∧ (∀ i, i < n → ¬ (oo i = none ∧ dk i = 0)) ∧ mw G am n oc td 0 (lN sn) dk to er os pl wa pr la M8) ∨ ¬ cd_cell oc os wa p0 = 0 ∧ (∃ z, v8 = some (.int z)) ∧ mw G am n oc td (cd_cell oc os wa p0) (lN sn) dk to er os pl wa pr la M8) ∧ fm am 9 M9 M8) : JR G (ad 0) (am 0) ao (cd_cell oc os wa p0) v8 M8 := by
  rcases hp with ⟨y, M1, ⟨h0, hcc, hf1⟩, -, rfl⟩ | hr
  · obtain ⟨⟨-, h8⟩ | ⟨hne, -⟩, hf8⟩ := hp8
    · obtain ⟨a1, g1⟩ := pc_v (by decide) (show pc_if _ _ _ = _ from h0)
      obtain ⟨a2, -⟩ := pc_v (by decide) g1
      obtain ⟨j, hj, rfl⟩ := Classical.not_not.mp a1
      obtain ⟨h9, -⟩ := Classical.not_not.mp a2
      rw [ix_nI (by have := cw_oc hc; omega)] at h9
      rcases hcc with ⟨i, hi, hv, hoi, hdi, hlow, hc1⟩ | ⟨hv, hno, rfl⟩
      · cases hv
        rcases h8 with ⟨k, hk, rfl, hok, hdk, hlok, hm8⟩ | ⟨-, hno, -⟩
        · have hik : i = k := by
            rcases Nat.lt_trichotomy i k with h | h | h
            · exact absurd ⟨hoi, hdi⟩ (hlok i h)
            · exact h
            · exact absurd ⟨hok, hdk⟩ (hlow k h)
          subst hik
          rw [ix_nI (j := j) (by have := cw_oc hc; omega)] at hc1 hm8
          exact ⟨_, _, rfl, lj_end h0 (cw_ao hc1 hds _) pw_us hm8 hf8 hds hsn (li_cell hI (cw_n hc) hj h9 hi hoi), fun _ => pk_uLs⟩
        · exact absurd ⟨hoi, hdi⟩ (hno i hi)
      · cases hv
        rcases h8 with ⟨k, hk, -, hok, hdk, -⟩ | ⟨rfl, -, hm8⟩
        · exact absurd ⟨hok, hdk⟩ (hno k hk)
        · exact ⟨_, _, rfl, lj_end h0 (cw_ao hc hds _) pw_us hm8 hf8 hds hsn hI, fun _ => pk_uLs⟩
    · exact absurd h0 hne
  · exact j2_ref hc ho hds hsn hI hr (fun h => h.1) hp8
theorem j2_scan (p0 p1 p2 : Int32) (hc : cw G ad n oc td (nI sn) dk to er os pl oo wa pr de M) (hm : mw G am n oc td th (lN sn) dk to er os pl wa pr la M) (ho : M ao = some (.inl (G.2.2.1 3, 1, .inr (.inl oL)))) (hds : ds ad am ao oc) (hsn : sn < 2 ^ 31) (hI : li n oc os pl oo wa pr de la) (hp : wo G ao oL (fun y => y.toInt64) (fun v9 M9 => cd_scan n p0 p1 p2 = 0 ∧ (oo (ix p0) = none ∧ v9 = some (.int (-1)) ∧ cw G ad n oc td (nI sn) dk to (upd er (ix p2) (er (ix p2) + 1)) os pl oo wa pr de M9 ∨ ∃ j r, oo (ix p0) = some j ∧ j < oc ∧ v9 = some (.int r) ∧ r = sc_r (dk (ix p0)) (wa j (ix p1)) (pr j (ix p1)) (os j) (to (ix p1)) ∧ (r = 1 ∧ cw G ad n oc td (nI sn) dk (upd to (ix p1) (to (ix p1) - 1)) er os pl oo wa (va_up pr j (upd (pr j) (ix p1) (pr j (ix p1) + 1))) de M9 ∨ r < 0 ∧ cw G ad n oc td (nI sn) dk to (upd er (ix p2) (er (ix p2) + 1)) os pl oo wa pr de M9)) ∧ fm ad (6 + 4 * oc) M M9) (cd_scan n p0 p1 p2) M v9 M9) (hp8 : (cd_scan n p0 p1 p2 = 0 ∧ (oo (ix p0) = none ∧ v8 = some (.int (-1)) ∧ mw G am n oc td 0 (lN sn) dk to (upd er (ix p2) (er (ix p2) + 1)) os pl wa pr la M8 ∨ ∃ o, oo (ix p0) = some o ∧ o < oc ∧ (sc_r (dk (ix p0)) (wa o (ix p1)) (pr o (ix p1)) (os o) (to (ix p1)) = 1 ∧ v8 = some (.int 1) ∧ mw G am n oc td 0 (lN sn) dk (upd to (ix p1) (to (ix p1) - 1)) er os pl wa (va_up pr o (upd (pr o) (ix p1) (pr o (ix p1) + 1))) la M8 ∨ ¬ sc_r (dk (ix p0)) (wa o (ix p1)) (pr o (ix p1)) (os o) (to (ix p1)) = 1 ∧ v8 = some (.int (sc_r (dk (ix p0)) (wa o (ix p1)) (pr o (ix p1)) (os o) (to (ix p1)))) ∧ mw G am n oc td 0 (lN sn) dk to (upd er (ix p2) (er (ix p2) + 1)) os pl wa pr la M8)) ∨ ¬ cd_scan n p0 p1 p2 = 0 ∧ (∃ z, v8 = some (.int z)) ∧ mw G am n oc td (cd_scan n p0 p1 p2) (lN sn) dk to er os pl wa pr la M8) ∧ fm am 9 M9 M8) : JR G (ad 0) (am 0) ao (cd_scan n p0 p1 p2) v8 M8 := by
  rcases hp with ⟨y, M1, ⟨h0, hcc, hf1⟩, -, rfl⟩ | hr
  · obtain ⟨⟨-, h8⟩ | ⟨hne, -⟩, hf8⟩ := hp8
    · obtain ⟨a1, -⟩ := pc_v (by decide) (show pc_if _ _ _ = _ from h0)
      obtain ⟨c, hcn, rfl⟩ := Classical.not_not.mp a1
      have hcB : ix (nI c) = c := ix_nI (by have := cw_n hc; omega)
      simp only [hcB] at hcc h8
      rcases hcc with ⟨hoN, hv, hc1⟩ | ⟨j, r, hoj, hj, hv, hr, hcc⟩
      · cases hv
        rcases h8 with ⟨-, rfl, hm8⟩ | ⟨o, hoo, -⟩
        · exact ⟨_, _, rfl, lj_end h0 (cw_ao hc1 hds _) pw_us hm8 hf8 hds hsn hI, fun _ => pk_uLs⟩
        · rw [hoN] at hoo; cases hoo
      · cases hv
        rcases h8 with ⟨hoN, -⟩ | ⟨o, hoo, hol, h8⟩
        · rw [hoN] at hoj; cases hoj
        · rw [hoj] at hoo
          cases hoo
          rcases hcc with ⟨hr1, hc1⟩ | ⟨hr1, hc1⟩
          · rcases h8 with ⟨hs, rfl, hm8⟩ | ⟨hs, -⟩
            · subst hr1
              exact ⟨_, _, rfl, lj_end h0 (cw_ao hc1 hds _) pw_us hm8 hf8 hds hsn (li_scan hI (cw_n hc) hcn hoj (scq_1 hs)), fun _ => pk_uLs⟩
            · exact absurd (hr.symm.trans hr1) hs
          · rcases h8 with ⟨hs, -⟩ | ⟨hs, rfl, hm8⟩
            · rw [hr, hs] at hr1; exact absurd hr1 (by decide)
            · subst hr
              exact ⟨_, _, rfl, lj_end h0 (cw_ao hc1 hds _) pw_us hm8 hf8 hds hsn hI, fun _ => pk_uLs⟩
    · exact absurd h0 hne
  · exact j2_ref hc ho hds hsn hI hr (fun h => h.1) hp8
theorem j2_undo (p0 p1 : Int32) (hc : cw G ad n oc td (nI sn) dk to er os pl oo wa pr de M) (hm : mw G am n oc td th (lN sn) dk to er os pl wa pr la M) (ho : M ao = some (.inl (G.2.2.1 3, 1, .inr (.inl oL)))) (hds : ds ad am ao oc) (hsn : sn < 2 ^ 31) (hI : li n oc os pl oo wa pr de la) (hp : wo G ao oL (fun y => y.toInt64) (fun v9 M9 => cd_undo n oo os pr p0 p1 = 0 ∧ ∃ j, oo (ix p0) = some j ∧ j < oc ∧ v9 = some (.int (pr j (ix p1) - 1)) ∧ cw G ad n oc td (nI sn) dk (upd to (ix p1) (to (ix p1) + 1)) er os pl oo wa (va_up pr j (upd (pr j) (ix p1) (pr j (ix p1) - 1))) de M9 ∧ fm ad (6 + 4 * oc) M M9) (cd_undo n oo os pr p0 p1) M v9 M9) (hp8 : (cd_undo n oo os pr p0 p1 = 0 ∧ (∃ o, oo (ix p0) = some o ∧ o < oc ∧ v8 = some (.int (pr o (ix p1) - 1)) ∧ mw G am n oc td 0 (lN sn) dk (upd to (ix p1) (to (ix p1) + 1)) er os pl wa (va_up pr o (upd (pr o) (ix p1) (pr o (ix p1) - 1))) la M8) ∨ ¬ cd_undo n oo os pr p0 p1 = 0 ∧ (∃ z, v8 = some (.int z)) ∧ mw G am n oc td (cd_undo n oo os pr p0 p1) (lN sn) dk to er os pl wa pr la M8) ∧ fm am 9 M9 M8) : JR G (ad 0) (am 0) ao (cd_undo n oo os pr p0 p1) v8 M8 := by
  rcases hp with ⟨y, M1, ⟨h0, j, hoj, hj, hv, hc1, hf1⟩, -, rfl⟩ | hr
  · cases hv
    obtain ⟨⟨-, o, hoo, hol, rfl, hm8⟩ | ⟨hne, -⟩, hf8⟩ := hp8
    · rw [hoj] at hoo
      cases hoo
      obtain ⟨a1, g1⟩ := pc_v (by decide) (show pc_if _ _ _ = _ from h0)
      obtain ⟨-, g2⟩ := pc_v (by decide) g1
      obtain ⟨a3, -⟩ := pc_v (by decide) g2
      obtain ⟨c, hcn, rfl⟩ := Classical.not_not.mp a1
      have hcB : ix (nI c) = c := ix_nI (by have := cw_n hc; omega)
      rw [hcB] at hoj a3
      exact ⟨_, _, rfl, lj_end h0 (cw_ao hc1 hds _) pw_us hm8 hf8 hds hsn (li_undo hI (cw_n hc) hcn hoj (fun h => a3 (fun k hk => by rw [hoj] at hk; cases hk; exact Or.inr h))), fun _ => pk_uLs⟩
    · exact absurd h0 hne
  · exact j2_ref hc ho hds hsn hI hr (fun h => h.1) hp8
theorem j2_miss (p0 p1 p2 : Int32) (hc : cw G ad n oc td (nI sn) dk to er os pl oo wa pr de M) (hm : mw G am n oc td th (lN sn) dk to er os pl wa pr la M) (ho : M ao = some (.inl (G.2.2.1 3, 1, .inr (.inl oL)))) (hds : ds ad am ao oc) (hsn : sn < 2 ^ 31) (hI : li n oc os pl oo wa pr de la) (hp : wo G ao oL (fun y => y.toInt64) (fun v9 M9 => cd_miss oc os wa pr p0 p1 p2 = 0 ∧ v9 = some (.int (wa (ix p0) (ix p1) - pr (ix p0) (ix p1))) ∧ cw G ad n oc td (nI sn) dk to er os pl oo wa pr (va_up de (ix p0) (upd (de (ix p0)) (ix p1) p2)) M9 ∧ fm ad (6 + 4 * oc) M M9) (cd_miss oc os wa pr p0 p1 p2) M v9 M9) (hp8 : (cd_miss oc os wa pr p0 p1 p2 = 0 ∧ v8 = some (.int (wa (ix p0) (ix p1) - pr (ix p0) (ix p1))) ∧ mw G am n oc td 0 (lN sn) dk to er os pl wa pr (va_up la (ix p0) (upd (la (ix p0)) (ix p1) p2)) M8 ∨ ¬ cd_miss oc os wa pr p0 p1 p2 = 0 ∧ (∃ z, v8 = some (.int z)) ∧ mw G am n oc td (cd_miss oc os wa pr p0 p1 p2) (lN sn) dk to er os pl wa pr la M8) ∧ fm am 9 M9 M8) : JR G (ad 0) (am 0) ao (cd_miss oc os wa pr p0 p1 p2) v8 M8 := by
  rcases hp with ⟨y, M1, ⟨h0, hv, hc1, hf1⟩, -, rfl⟩ | hr
  · cases hv
    obtain ⟨⟨-, rfl, hm8⟩ | ⟨hne, -⟩, hf8⟩ := hp8
    · obtain ⟨-, g1⟩ := pc_v (by decide) (show pc_if _ _ _ = _ from h0)
      obtain ⟨-, g2⟩ := pc_v (by decide) g1
      obtain ⟨-, g3⟩ := pc_v (by decide) g2
      obtain ⟨-, g4⟩ := pc_v (by decide) g3
      obtain ⟨a5, -⟩ := pc_v (by decide) g4
      exact ⟨_, _, rfl, lj_end h0 (cw_ao hc1 hds _) pw_us hm8 hf8 hds hsn (li_miss hI (Classical.not_not.mp a5).1 _), fun _ => pk_uLs⟩
    · exact absurd h0 hne
  · exact j2_ref hc ho hds hsn hI hr (fun h => h.1) hp8
theorem j2_day (p0 : Int32) (hc : cw G ad n oc td (nI sn) dk to er os pl oo wa pr de M) (hm : mw G am n oc td th (lN sn) dk to er os pl wa pr la M) (ho : M ao = some (.inl (G.2.2.1 3, 1, .inr (.inl oL)))) (hds : ds ad am ao oc) (hsn : sn < 2 ^ 31) (hI : li n oc os pl oo wa pr de la) (hp : wv (fun v9 M9 => cd_day td p0 = 0 ∧ v9 = none ∧ cw G ad n oc p0 (nI sn) dk to er os pl oo wa pr de M9 ∧ fm ad (6 + 4 * oc) M M9) (cd_day td p0) M v9 M9) (hp8 : (cd_day td p0 = 0 ∧ v8 = none ∧ mw G am n oc p0 0 (lN sn) dk to er os pl wa pr la M8 ∨ ¬ cd_day td p0 = 0 ∧ v8 = none ∧ mw G am n oc td (cd_day td p0) (lN sn) dk to er os pl wa pr la M8) ∧ fm am 9 M9 M8) : JV G (ad 0) (am 0) ao (cd_day td p0) v8 M8 := by
  rcases hp with ⟨⟨h0, -, hc1, hf1⟩, -⟩ | hr
  · obtain ⟨⟨-, hz, hm8⟩ | ⟨hne, -⟩, hf8⟩ := hp8
    · exact ⟨hz, oL, lj_end h0 hc1 (hf1 _ _ ho hds.2.1) hm8 hf8 hds hsn hI⟩
    · exact absurd h0 hne
  · exact j2_refv hc ho hds hsn hI hr (fun h => h.1) hp8
theorem j2_change (p0 p1 p2 : Int32) (hc : cw G ad n oc td (nI sn) dk to er os pl oo wa pr de M) (hm : mw G am n oc td th (lN sn) dk to er os pl wa pr la M) (ho : M ao = some (.inl (G.2.2.1 3, 1, .inr (.inl oL)))) (hds : ds ad am ao oc) (hsn : sn < 2 ^ 31) (hI : li n oc os pl oo wa pr de la) (hp : wo G ao oL (fun y => if y = 0 then 0 else 1) (fun v9 M9 => cd_change oc os wa p0 p1 p2 = 0 ∧ (v9 = some (.int 0) ∧ p2 < pr (ix p0) (ix p1) ∧ M = M9 ∨ v9 = some (.int 1) ∧ pr (ix p0) (ix p1) ≤ p2 ∧ cw G ad n oc td (nI sn) dk to er os pl oo (va_up wa (ix p0) (upd (wa (ix p0)) (ix p1) p2)) pr de M9) ∧ fm ad (6 + 4 * oc) M M9) (cd_change oc os wa p0 p1 p2) M v9 M9) (hp8 : (cd_change oc os wa p0 p1 p2 = 0 ∧ (v8 = some (.int 0) ∧ p2 < pr (ix p0) (ix p1) ∧ mw G am n oc td 0 (lN sn) dk to er os pl wa pr la M8 ∨ v8 = some (.int 1) ∧ pr (ix p0) (ix p1) ≤ p2 ∧ mw G am n oc td 0 (lN sn) dk to er os pl (va_up wa (ix p0) (upd (wa (ix p0)) (ix p1) p2)) pr la M8) ∨ ¬ cd_change oc os wa p0 p1 p2 = 0 ∧ (∃ z, v8 = some (.int z)) ∧ mw G am n oc td (cd_change oc os wa p0 p1 p2) (lN sn) dk to er os pl wa pr la M8) ∧ fm am 9 M9 M8) : JZ G (ad 0) (am 0) ao (cd_change oc os wa p0 p1 p2) v8 M8 := by
  rcases hp with ⟨y, M1, ⟨h0, hcc, hf1⟩, -, rfl⟩ | hr
  · obtain ⟨⟨-, h8⟩ | ⟨hne, -⟩, hf8⟩ := hp8
    · obtain ⟨a1, g1⟩ := pc_v (by decide) (show pc_if _ _ _ = _ from h0)
      obtain ⟨a2, g2⟩ := pc_v (by decide) g1
      obtain ⟨a3, g3⟩ := pc_v (by decide) g2
      obtain ⟨a4, -⟩ := pc_v (by decide) g3
      obtain ⟨j, hj, rfl⟩ := Classical.not_not.mp a1
      obtain ⟨g, hg, rfl⟩ := Classical.not_not.mp a2
      obtain ⟨hv0, hv9⟩ := Classical.not_not.mp a4
      have h3 := Classical.not_not.mp a3
      have hjB : ix (nI j) = j := ix_nI (by have := cw_oc hc; omega)
      have hgB : ix (nI g) = g := ix_nI (by omega)
      rw [hjB, hgB] at h3
      simp only [hjB, hgB] at hcc h8
      rcases hcc with ⟨hv, hlt, rfl⟩ | ⟨hv, hle, hc1⟩
      · cases hv
        rcases h8 with ⟨rfl, -, hm8⟩ | ⟨-, hle, -⟩
        · exact ⟨_, _, rfl, lj_end h0 (cw_ao hc hds _) pw_us hm8 hf8 hds hsn hI, fun _ => pk_uLs⟩
        · exact absurd hlt (Int32.not_lt.mpr hle)
      · cases hv
        rcases h8 with ⟨-, hlt, -⟩ | ⟨rfl, -, hm8⟩
        · exact absurd hlt (Int32.not_lt.mpr hle)
        · exact ⟨_, _, rfl, lj_end h0 (cw_ao hc1 hds _) pw_us hm8 hf8 hds hsn (li_change hI hj h3 hg (Int32.not_lt.mpr hv0) hv9 hle), fun _ => pk_uLs⟩
    · exact absurd h0 hne
  · exact j2_refz hc ho hds hsn hI hr (fun h => h.1) hp8
theorem j2_complete (p0 : Int32) (hc : cw G ad n oc td (nI sn) dk to er os pl oo wa pr de M) (hm : mw G am n oc td th (lN sn) dk to er os pl wa pr la M) (ho : M ao = some (.inl (G.2.2.1 3, 1, .inr (.inl oL)))) (hds : ds ad am ao oc) (hsn : sn < 2 ^ 31) (hI : li n oc os pl oo wa pr de la) (hp : wo G ao oL (fun y => if y = 0 then 0 else 1) (fun v9 M9 => cd_complete oc os p0 = 0 ∧ (v9 = some (.int 1) ∧ (∀ g, g < 10 → ¬ od_gu td (wa (ix p0)) (pr (ix p0)) (de (ix p0)) g < wa (ix p0) g - pr (ix p0) g) ∧ cw G ad n oc td (nI sn) dk to er (va_up os (ix p0) 2) pl oo wa pr de M9 ∨ v9 = some (.int 0) ∧ (∃ g, g < 10 ∧ od_gu td (wa (ix p0)) (pr (ix p0)) (de (ix p0)) g < wa (ix p0) g - pr (ix p0) g) ∧ M = M9) ∧ fm ad (6 + 4 * oc) M M9) (cd_complete oc os p0) M v9 M9) (hp8 : (cd_complete oc os p0 = 0 ∧ (v8 = some (.int 1) ∧ (∀ g, g < 10 → ¬ (0 < wa (ix p0) g ∧ 0 < wa (ix p0) g - pr (ix p0) g ∧ ¬ (¬ la (ix p0) g = -1 ∧ la (ix p0) g < td))) ∧ mw G am n oc td 0 (lN sn) dk to er (upd os (ix p0) 2) pl wa pr la M8 ∨ v8 = some (.int 0) ∧ (∃ g, g < 10 ∧ (0 < wa (ix p0) g ∧ 0 < wa (ix p0) g - pr (ix p0) g ∧ ¬ (¬ la (ix p0) g = -1 ∧ la (ix p0) g < td))) ∧ mw G am n oc td 0 (lN sn) dk to er os pl wa pr la M8) ∨ ¬ cd_complete oc os p0 = 0 ∧ (∃ z, v8 = some (.int z)) ∧ mw G am n oc td (cd_complete oc os p0) (lN sn) dk to er os pl wa pr la M8) ∧ fm am 9 M9 M8) : JZ G (ad 0) (am 0) ao (cd_complete oc os p0) v8 M8 := by
  rcases hp with ⟨y, M1, ⟨h0, hcc, hf1⟩, -, rfl⟩ | hr
  · obtain ⟨⟨-, h8⟩ | ⟨hne, -⟩, hf8⟩ := hp8
    · obtain ⟨a1, g1⟩ := pc_v (by decide) (show pc_if _ _ _ = _ from h0)
      obtain ⟨a2, -⟩ := pc_v (by decide) g1
      obtain ⟨j, hj, rfl⟩ := Classical.not_not.mp a1
      have h9 := Classical.not_not.mp a2
      have hjB : ix (nI j) = j := ix_nI (by have := cw_oc hc; omega)
      rw [hjB] at h9
      simp only [hjB] at hcc h8
      rcases hcc with ⟨hv, hall, hc1⟩ | ⟨hv, ⟨g, hg, hx⟩, rfl⟩
      · cases hv
        rcases h8 with ⟨rfl, -, hm8⟩ | ⟨-, ⟨g, hg, hx⟩, -⟩
        · exact ⟨_, _, rfl, lj_end h0 (cw_ao hc1 hds _) pw_us hm8 hf8 hds hsn (li_complete hI h9), fun _ => pk_uLs⟩
        · exact absurd ((li_cm hI td hj hg).mpr hx) (hall g hg)
      · cases hv
        rcases h8 with ⟨-, hall, -⟩ | ⟨rfl, -, hm8⟩
        · exact absurd ((li_cm hI td hj hg).mp hx) (hall g hg)
        · exact ⟨_, _, rfl, lj_end h0 (cw_ao hc hds _) pw_us hm8 hf8 hds hsn hI, fun _ => pk_uLs⟩
    · exact absurd h0 hne
  · exact j2_refz hc ho hds hsn hI hr (fun h => h.1) hp8
theorem j2_release (p0 : Int32) (hc : cw G ad n oc td (nI sn) dk to er os pl oo wa pr de M) (hm : mw G am n oc td th (lN sn) dk to er os pl wa pr la M) (ho : M ao = some (.inl (G.2.2.1 3, 1, .inr (.inl oL)))) (hds : ds ad am ao oc) (hsn : sn < 2 ^ 31) (hI : li n oc os pl oo wa pr de la) (hp : wo G ao oL (fun y => if y = 0 then 0 else 1) (fun v9 M9 => cd_release n oo p0 = 0 ∧ (∃ j, oo (ix p0) = some j ∧ j < oc ∧ (v9 = some (.int 0) ∧ ¬ os j = 2 ∧ M = M9 ∨ v9 = some (.int 1) ∧ os j = 2 ∧ cw G ad n oc td (nI sn) dk to er (va_up os j 3) (va_up pl j (-1)) (va_up oo (ix p0) none) wa pr de M9)) ∧ fm ad (6 + 4 * oc) M M9) (cd_release n oo p0) M v9 M9) (hp8 : (cd_release n oo p0 = 0 ∧ (∃ o, oo (ix p0) = some o ∧ o < oc ∧ (v8 = some (.int 0) ∧ ¬ os o = 2 ∧ mw G am n oc td 0 (lN sn) dk to er os pl wa pr la M8 ∨ v8 = some (.int 1) ∧ os o = 2 ∧ mw G am n oc td 0 (lN sn) dk to er (upd os o 3) (upd pl o (-1)) wa pr la M8)) ∨ ¬ cd_release n oo p0 = 0 ∧ (∃ z, v8 = some (.int z)) ∧ mw G am n oc td (cd_release n oo p0) (lN sn) dk to er os pl wa pr la M8) ∧ fm am 9 M9 M8) : JZ G (ad 0) (am 0) ao (cd_release n oo p0) v8 M8 := by
  rcases hp with ⟨y, M1, ⟨h0, ⟨j, hoj, hj, hcc⟩, hf1⟩, -, rfl⟩ | hr
  · obtain ⟨⟨-, o, hoo, hol, h8⟩ | ⟨hne, -⟩, hf8⟩ := hp8
    · rw [hoj] at hoo
      cases hoo
      obtain ⟨a1, -⟩ := pc_v (by decide) (show pc_if _ _ _ = _ from h0)
      obtain ⟨c, hcn, rfl⟩ := Classical.not_not.mp a1
      have hcB : ix (nI c) = c := ix_nI (by have := cw_n hc; omega)
      simp only [hcB] at hoj hcc
      rcases hcc with ⟨hv, hn2, rfl⟩ | ⟨hv, h2, hc1⟩
      · cases hv
        rcases h8 with ⟨rfl, -, hm8⟩ | ⟨-, h2, -⟩
        · exact ⟨_, _, rfl, lj_end h0 (cw_ao hc hds _) pw_us hm8 hf8 hds hsn hI, fun _ => pk_uLs⟩
        · exact absurd h2 hn2
      · cases hv
        rcases h8 with ⟨-, hn2, -⟩ | ⟨rfl, -, hm8⟩
        · exact absurd h2 hn2
        · exact ⟨_, _, rfl, lj_end h0 (cw_ao hc1 hds _) pw_us hm8 hf8 hds hsn (li_release hI (cw_n hc) hcn hoj), fun _ => pk_uLs⟩
    · exact absurd h0 hne
  · exact j2_refz hc ho hds hsn hI hr (fun h => h.1) hp8
theorem j2_seed (p0 : Int32) (hc : cw G ad n oc td (nI sn) dk to er os pl oo wa pr de M) (hm : mw G am n oc td th (lN sn) dk to er os pl wa pr la M) (ho : M ao = some (.inl (G.2.2.1 3, 1, .inr (.inl oL)))) (hds : ds ad am ao oc) (hsn : sn < 2 ^ 31) (hI : li n oc os pl oo wa pr de la) (hp : wv (fun v9 M9 => cd_seed p0 = 0 ∧ v9 = none ∧ cw G ad n oc td p0 dk to er os pl oo wa pr de M9 ∧ fm ad (6 + 4 * oc) M M9) (cd_seed p0) M v9 M9) (hp8 : (cd_seed p0 = 0 ∧ v8 = none ∧ mw G am n oc td 0 p0.toInt64 dk to er os pl wa pr la M8 ∨ ¬ cd_seed p0 = 0 ∧ v8 = none ∧ mw G am n oc td (cd_seed p0) (lN sn) dk to er os pl wa pr la M8) ∧ fm am 9 M9 M8) : JV G (ad 0) (am 0) ao (cd_seed p0) v8 M8 := by
  rcases hp with ⟨⟨h0, -, hc1, hf1⟩, -⟩ | hr
  · obtain ⟨⟨-, hz, hm8⟩ | ⟨hne, -⟩, hf8⟩ := hp8
    · obtain ⟨a1, -⟩ := pc_v (by decide) (show pc_if _ _ _ = _ from h0)
      obtain ⟨k, hk, rfl⟩ := nI_of (Int32.not_lt.mpr (Classical.not_not.mp a1))
      rw [nI_l hk] at hm8
      exact ⟨hz, oL, lj_end h0 hc1 (hf1 _ _ ho hds.2.1) hm8 hf8 hds hk hI⟩
    · exact absurd h0 hne
  · exact j2_refv hc ho hds hsn hI hr (fun h => h.1) hp8
theorem j2_told (p0 p1 : Int32) (hc : cw G ad n oc td (nI sn) dk to er os pl oo wa pr de M) (hm : mw G am n oc td th (lN sn) dk to er os pl wa pr la M) (ho : M ao = some (.inl (G.2.2.1 3, 1, .inr (.inl oL)))) (hds : ds ad am ao oc) (hsn : sn < 2 ^ 31) (hI : li n oc os pl oo wa pr de la) (hp : wo G ao oL (fun y => y.toInt64) (fun v9 M9 => cd_told oc p0 p1 = 0 ∧ v9 = some (.int (td_r td os pl wa pr de (ix p0) p1)) ∧ M = M9) (cd_told oc p0 p1) M v9 M9) (hp8 : (cd_told oc p0 p1 = 0 ∧ v8 = some (.int (tm_r td os pl wa pr la (ix p0) p1)) ∧ mw G am n oc td 0 (lN sn) dk to er os pl wa pr la M8 ∨ ¬ cd_told oc p0 p1 = 0 ∧ (∃ z, v8 = some (.int z)) ∧ mw G am n oc td (cd_told oc p0 p1) (lN sn) dk to er os pl wa pr la M8) ∧ fm am 9 M9 M8) : JR G (ad 0) (am 0) ao (cd_told oc p0 p1) v8 M8 := by
  rcases hp with ⟨y, M1, ⟨h0, hv, rfl⟩, -, rfl⟩ | hr
  · cases hv
    obtain ⟨⟨-, rfl, hm8⟩ | ⟨hne, -⟩, hf8⟩ := hp8
    · obtain ⟨a1, -⟩ := pc_v (by decide) (show pc_if _ _ _ = _ from h0)
      obtain ⟨j, hj, rfl⟩ := Classical.not_not.mp a1
      have hjB : ix (nI j) = j := ix_nI (by have := cw_oc hc; omega)
      exact ⟨_, _, rfl, lj_end h0 (cw_ao hc hds _) pw_us hm8 hf8 hds hsn hI, fun _ => pk_uLs.trans (by rw [hjB, li_told hI td hj])⟩
    · exact absurd h0 hne
  · exact j2_ref hc ho hds hsn hI hr (fun h => h.1) hp8
theorem j2_piece (p0 p1 p2 : Int32) (hc : cw G ad n oc td (nI sn) dk to er os pl oo wa pr de M) (hm : mw G am n oc td th (lN sn) dk to er os pl wa pr la M) (ho : M ao = some (.inl (G.2.2.1 3, 1, .inr (.inl oL)))) (hds : ds ad am ao oc) (hsn : sn < 2 ^ 31) (hI : li n oc os pl oo wa pr de la) (hp : wo G ao oL (fun y => y.toInt64) (fun v9 M9 => cd_piece oc wa p0 p1 p2 = 0 ∧ v9 = some (.int (pi_r wa pr de (ix p0) (ix p1) p2)) ∧ M = M9) (cd_piece oc wa p0 p1 p2) M v9 M9) (hp8 : (cd_piece oc wa p0 p1 p2 = 0 ∧ v8 = some (.int (pi_r wa pr la (ix p0) (ix p1) p2)) ∧ mw G am n oc td 0 (lN sn) dk to er os pl wa pr la M8 ∨ ¬ cd_piece oc wa p0 p1 p2 = 0 ∧ (∃ z, v8 = some (.int z)) ∧ mw G am n oc td (cd_piece oc wa p0 p1 p2) (lN sn) dk to er os pl wa pr la M8) ∧ fm am 9 M9 M8) : JR G (ad 0) (am 0) ao (cd_piece oc wa p0 p1 p2) v8 M8 := by
  rcases hp with ⟨y, M1, ⟨h0, hv, rfl⟩, -, rfl⟩ | hr
  · cases hv
    obtain ⟨⟨-, rfl, hm8⟩ | ⟨hne, -⟩, hf8⟩ := hp8
    · obtain ⟨a1, g1⟩ := pc_v (by decide) (show pc_if _ _ _ = _ from h0)
      obtain ⟨a2, g2⟩ := pc_v (by decide) g1
      obtain ⟨a3, -⟩ := pc_v (by decide) g2
      obtain ⟨j, hj, rfl⟩ := Classical.not_not.mp a1
      obtain ⟨g, hg, rfl⟩ := Classical.not_not.mp a2
      have hjB : ix (nI j) = j := ix_nI (by have := cw_oc hc; omega)
      have hgB : ix (nI g) = g := ix_nI (by omega)
      have h3 := Classical.not_not.mp a3
      rw [hjB, hgB] at h3
      exact ⟨_, _, rfl, lj_end h0 (cw_ao hc hds _) pw_us hm8 hf8 hds hsn hI, fun _ => pk_uLs.trans (by rw [hjB, hgB, li_pc hI hj hg h3])⟩
    · exact absurd h0 hne
  · exact j2_ref hc ho hds hsn hI hr (fun h => h.1) hp8
theorem j2_errors (p0 : Int32) (hc : cw G ad n oc td (nI sn) dk to er os pl oo wa pr de M) (hm : mw G am n oc td th (lN sn) dk to er os pl wa pr la M) (ho : M ao = some (.inl (G.2.2.1 3, 1, .inr (.inl oL)))) (hds : ds ad am ao oc) (hsn : sn < 2 ^ 31) (hI : li n oc os pl oo wa pr de la) (hp : wo G ao oL (fun y => y.toInt64) (fun v9 M9 => cd_errors p0 = 0 ∧ v9 = some (.int (er (ix p0))) ∧ M = M9) (cd_errors p0) M v9 M9) (hp8 : (cd_errors p0 = 0 ∧ v8 = some (.int (er (ix p0))) ∧ mw G am n oc td 0 (lN sn) dk to er os pl wa pr la M8 ∨ ¬ cd_errors p0 = 0 ∧ (∃ z, v8 = some (.int z)) ∧ mw G am n oc td (cd_errors p0) (lN sn) dk to er os pl wa pr la M8) ∧ fm am 9 M9 M8) : JR G (ad 0) (am 0) ao (cd_errors p0) v8 M8 := by
  rcases hp with ⟨y, M1, ⟨h0, hv, rfl⟩, -, rfl⟩ | hr
  · cases hv
    obtain ⟨⟨-, rfl, hm8⟩ | ⟨hne, -⟩, hf8⟩ := hp8
    · exact ⟨_, _, rfl, lj_end h0 (cw_ao hc hds _) pw_us hm8 hf8 hds hsn hI, fun _ => pk_uLs⟩
    · exact absurd h0 hne
  · exact j2_ref hc ho hds hsn hI hr (fun h => h.1) hp8
theorem j1s (hc : cw G ad n oc td (nI sn) dk to er os pl oo wa pr de M) (hm : mw G am n oc td th (lN sn) dk to er os pl wa pr la M) (ho : M ao = some (.inl (G.2.2.1 3, 1, .inr (.inl oL)))) (hds : ds ad am ao oc) (hsn : sn < 2 ^ 31) (hI : li n oc os pl oo wa pr de la) (hp : ((fun v9 M9 => (od_ct (cc_b oo os) n = 0 ∧ v9 = some (.int (-1)) ∧ M = M9 ∨ 0 < od_ct (cc_b oo os) n ∧ cw G ad n oc td (nI (sd_n sn)) dk to er os pl oo wa pr de M9 ∧ ∃ i j, i < n ∧ oo i = some j ∧ os j = 2 ∧ od_ct (cc_b oo os) i = sd_n sn / 65536 % od_ct (cc_b oo os) n ∧ v9 = some (.int (nI j))) ∧ fm ad (6 + 4 * oc) M M9)) v9 M9) : mw G am n oc td th (lN sn) dk to er os pl wa pr la M9 := mw_fr hm (fun y e hy he => hp.2 _ _ he (fun x hx h => hds.1 x hx y hy h))
theorem j2_sample (hc : cw G ad n oc td (nI sn) dk to er os pl oo wa pr de M) (hm : mw G am n oc td th (lN sn) dk to er os pl wa pr la M) (ho : M ao = some (.inl (G.2.2.1 3, 1, .inr (.inl oL)))) (hds : ds ad am ao oc) (hsn : sn < 2 ^ 31) (hI : li n oc os pl oo wa pr de la) (hp : ((fun v9 M9 => (od_ct (cc_b oo os) n = 0 ∧ v9 = some (.int (-1)) ∧ M = M9 ∨ 0 < od_ct (cc_b oo os) n ∧ cw G ad n oc td (nI (sd_n sn)) dk to er os pl oo wa pr de M9 ∧ ∃ i j, i < n ∧ oo i = some j ∧ os j = 2 ∧ od_ct (cc_b oo os) i = sd_n sn / 65536 % od_ct (cc_b oo os) n ∧ v9 = some (.int (nI j))) ∧ fm ad (6 + 4 * oc) M M9)) v9 M9) (hp8 : (od_ct (cb_o os) oc = 0 ∧ v8 = some (.int (-1)) ∧ mw G am n oc td 0 (lN sn) dk to er os pl wa pr la M8 ∨ 0 < od_ct (cb_o os) oc ∧ mw G am n oc td 0 (lN (sd_n sn)) dk to er os pl wa pr la M8 ∧ ((∃ i o, i < n ∧ oo i = some o ∧ os o = 2 ∧ od_ct (cc_b oo os) i = (sd_n sn / 65536 % od_ct (cb_o os) oc) ∧ v8 = some (.int (nI o))) ∨ v8 = some (.int (-1)) ∧ ∀ i, i < n → cc_b oo os i = true → ¬ od_ct (cc_b oo os) i = (sd_n sn / 65536 % od_ct (cb_o os) oc))) ∧ fm am 9 M9 M8) : ∃ z : Int32, v9 = some (.int z) ∧ v8 = some (.int z) ∧ LW G (ad 0) (am 0) ao 0 oL M8 := by
  have hct := li_ct hI (cw_n hc)
  obtain ⟨hcc, hf⟩ := hp
  obtain ⟨h8, hf8⟩ := hp8
  rcases hcc with ⟨h0, hv, rfl⟩ | ⟨h0, hc1, i, j, hi, hoi, hoj, hct9, hv⟩
  · rcases h8 with ⟨-, hv8, hm8⟩ | ⟨h9, -⟩
    · exact ⟨_, hv, hv8, lj_end rfl hc ho hm8 hf8 hds hsn hI⟩
    · omega
  · rcases h8 with ⟨h9, -⟩ | ⟨-, hm8, h8⟩
    · omega
    · rw [← hct] at h8
      have hbi : cc_b oo os i = true := (cc_bs hoi).trans (decide_eq_true hoj)
      have hW : LW G (ad 0) (am 0) ao 0 oL M8 := lj_end rfl hc1 (hf _ _ ho hds.2.1) hm8 hf8 hds (sd_lt sn) hI
      rcases h8 with ⟨k, o, hk, hok, hoo, hctk, hv8⟩ | ⟨-, hno⟩
      · have hbk : cc_b oo os k = true := (cc_bs hok).trans (decide_eq_true hoo)
        have hik := ct_inj hbi hbk (hct9.trans hctk.symm)
        subst hik
        rw [hoi] at hok
        cases hok
        exact ⟨_, hv, hv8, hW⟩
      · exact absurd hct9 (hno i hi hbi)
theorem j2_count (p0 : Int32) (hc : cw G ad n oc td (nI sn) dk to er os pl oo wa pr de M) (hm : mw G am n oc td th (lN sn) dk to er os pl wa pr la M) (ho : M ao = some (.inl (G.2.2.1 3, 1, .inr (.inl oL)))) (hds : ds ad am ao oc) (hsn : sn < 2 ^ 31) (hI : li n oc os pl oo wa pr de la) (hp : ((fun v9 M9 => v9 = some (.int (co_r n oc td to oo pr p0)) ∧ M = M9)) v9 M9) (hp8 : v8 = some (.int (cm_r n oc td to oo pl wa pr p0)) ∧ mw G am n oc td 0 (lN sn) dk to er os pl wa pr la M8 ∧ fm am 9 M9 M8) : ∃ z : Int32, v9 = some (.int z) ∧ v8 = some (.int z) ∧ LW G (ad 0) (am 0) ao 0 oL M8 := by
  obtain ⟨hv, rfl⟩ := hp
  obtain ⟨hv8, hm8, hf8⟩ := hp8
  rw [li_count hI (cw_n hc)] at hv8
  exact ⟨_, hv, hv8, lj_end rfl hc ho hm8 hf8 hds hsn hI⟩
end JO
