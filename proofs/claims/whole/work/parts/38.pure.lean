/-! ===== sums over cells and over orders ===== -/
def gs {α : Type} (z : α) (ad : α → α → α) (f : Nat → α) : Nat → α
  | 0 => z
  | n + 1 => ad (gs z ad f n) (f n)
section GS
variable {α : Type} {z : α} {ad : α → α → α}
theorem gs_cg {f g : Nat → α} : ∀ n, (∀ k, k < n → f k = g k) → gs z ad f n = gs z ad g n
  | 0, _ => rfl
  | n + 1, h => by
    show ad _ _ = ad _ _
    rw [gs_cg n (fun k hk => h k (by omega)), h n (by omega)]
theorem gs_z (hz : ∀ a, ad a z = a) {f : Nat → α} : ∀ n, (∀ k, k < n → f k = z) → gs z ad f n = z
  | 0, _ => rfl
  | n + 1, h => by
    show ad _ _ = _
    rw [h n (by omega), hz, gs_z hz n (fun k hk => h k (by omega))]
theorem gs_1 (hz : ∀ a, ad a z = a) (hy : ∀ a, ad z a = a) {f : Nat → α} (j : Nat) : ∀ n, j < n → (∀ k, k < n → k ≠ j → f k = z) → gs z ad f n = f j
  | 0, h, _ => absurd h (Nat.not_lt_zero j)
  | n + 1, h, hk => by
    show ad (gs z ad f n) (f n) = _
    by_cases hj : j = n
    · subst hj
      rw [gs_z hz j (fun k h9 => hk k (by omega) (by omega)), hy]
    · rw [hk n (by omega) (fun h9 => hj h9.symm), hz]
      exact gs_1 hz hy j n (by omega) (fun k h8 h9 => hk k (by omega) h9)
theorem gs_4 (hc : ∀ a b, ad a b = ad b a) (hA : ∀ a b c, ad (ad a b) c = ad a (ad b c)) (A B a b : α) : ad (ad A a) (ad B b) = ad (ad A B) (ad a b) := by
  rw [hA A a (ad B b), ← hA a B b, hc a B, hA B a b, ← hA A B (ad a b)]
theorem gs_ad (hz : ∀ a, ad a z = a) (hc : ∀ a b, ad a b = ad b a) (hA : ∀ a b c, ad (ad a b) c = ad a (ad b c)) {f g : Nat → α} : ∀ n, ad (gs z ad f n) (gs z ad g n) = gs z ad (fun k => ad (f k) (g k)) n
  | 0 => hz z
  | n + 1 => by
    show ad (ad (gs z ad f n) (f n)) (ad (gs z ad g n) (g n)) = ad (gs z ad (fun k => ad (f k) (g k)) n) (ad (f n) (g n))
    rw [← gs_ad hz hc hA n, gs_4 hc hA]
theorem gs_sw (hz : ∀ a, ad a z = a) (hc : ∀ a b, ad a b = ad b a) (hA : ∀ a b c, ad (ad a b) c = ad a (ad b c)) (f : Nat → Nat → α) (m : Nat) : ∀ n, gs z ad (fun c => gs z ad (fun o => f c o) m) n = gs z ad (fun o => gs z ad (fun c => f c o) n) m
  | 0 => (gs_z hz m (fun _ _ => rfl)).symm
  | n + 1 => by
    show ad (gs z ad (fun c => gs z ad (fun o => f c o) m) n) (gs z ad (fun o => f n o) m) = gs z ad (fun o => ad (gs z ad (fun c => f c o) n) (f n o)) m
    rw [gs_sw hz hc hA f m n, gs_ad hz hc hA]
theorem gs_bij (hz : ∀ a, ad a z = a) (hy : ∀ a, ad z a = a) (hc : ∀ a b, ad a b = ad b a) (hA : ∀ a b c, ad (ad a b) c = ad a (ad b c)) {n oc : Nat} {pl : Nat → Int32} {oo : Nat → Option Nat} (hn : n ≤ 16) (hO : ∀ c, c < n → ∀ j, oo c = some j ↔ j < oc ∧ pl j = nI c) (F fc fo : Nat → α)
    (h1 : ∀ c, c < n → oo c = none → fc c = z) (h2 : ∀ c j, c < n → oo c = some j → fc c = F j) (h3 : ∀ j c, j < oc → c < n → pl j = nI c → fo j = F j) (h4 : ∀ j, j < oc → (∀ c, c < n → ¬ pl j = nI c) → fo j = z) : gs z ad fc n = gs z ad fo oc := by
  have e1 : gs z ad fc n = gs z ad (fun c => gs z ad (fun o => if pl o = nI c then F o else z) oc) n := by
    refine gs_cg n (fun c hc9 => ?_)
    rcases op_two (oo c) with h | ⟨j, h⟩
    · rw [h1 c hc9 h]
      exact (gs_z hz oc (fun o ho => if_neg (fun hp => by have h9 := (hO c hc9 o).mpr ⟨ho, hp⟩; rw [h] at h9; cases h9))).symm
    · obtain ⟨g1, g2⟩ := (hO c hc9 j).mp h
      rw [h2 c j hc9 h, gs_1 hz hy j oc g1 (fun k hk hne => if_neg (fun hp => hne (by have h9 := (hO c hc9 k).mpr ⟨hk, hp⟩; rw [h] at h9; cases h9; rfl)))]
      exact (if_pos g2).symm
  have e2 : gs z ad (fun o => gs z ad (fun c => if pl o = nI c then F o else z) n) oc = gs z ad fo oc := by
    refine gs_cg oc (fun o ho => ?_)
    by_cases hp : ∃ c, c < n ∧ pl o = nI c
    · obtain ⟨c, hc9, hp⟩ := hp
      rw [gs_1 hz hy c n hc9 (fun k hk hne => if_neg (fun h => hne ((nI_eq (by omega) (by omega)).mp (h.symm.trans hp)))), h3 o c ho hc9 hp]
      exact if_pos hp
    · rw [h4 o ho (fun c hc9 h => hp ⟨c, hc9, h⟩)]
      exact gs_z hz n (fun k hk => if_neg (fun h => hp ⟨k, hk, h⟩))
  rw [e1, gs_sw hz hc hA, e2]
end GS
theorem bx_gs (f : Nat → Int32) : ∀ n, bx_sum f n = gs (0 : Int32) (fun a b => a + b) f n
  | 0 => rfl
  | n + 1 => by
    show bx_sum f n + f n = _ + f n
    rw [bx_gs f n]
theorem ct_gs (b : Nat → Bool) : ∀ n, od_ct b n = gs (0 : Nat) (fun a b => a + b) (fun k => if b k = true then 1 else 0) n
  | 0 => rfl
  | n + 1 => by
    show od_ct b n + _ = _ + _
    rw [ct_gs b n]
theorem bx_cg {f g : Nat → Int32} (n : Nat) (h : ∀ k, k < n → f k = g k) : bx_sum f n = bx_sum g n := by
  rw [bx_gs, bx_gs]
  exact gs_cg n h
theorem ct_lt {b : Nat → Bool} {i : Nat} (hb : b i = true) : ∀ k, i < k → od_ct b i < od_ct b k
  | 0, h => absurd h (Nat.not_lt_zero i)
  | k + 1, h => by
    by_cases hi : i = k
    · subst hi
      rw [od_ct_t hb]
      omega
    · have h9 := ct_lt hb k (by omega)
      show _ < od_ct b k + _
      omega
theorem ct_inj {b : Nat → Bool} {i k : Nat} (hi : b i = true) (hk : b k = true) (h : od_ct b i = od_ct b k) : i = k := by
  rcases Nat.lt_trichotomy i k with h1 | h1 | h1
  · have := ct_lt hi k h1; omega
  · exact h1
  · have := ct_lt hk i h1; omega
/-! ===== what holds of the wall and of the model in every run ===== -/
def li (n oc : Nat) (os pl : Nat → Int32) (oo : Nat → Option Nat) (wa pr de la : Nat → Nat → Int32) : Prop :=
  (∀ c, c < n → ∀ j, oo c = some j ↔ j < oc ∧ pl j = nI c) ∧
  (∀ j, j < oc → (os j = 0 ∨ os j = 3) ∧ pl j = -1 ∨ (os j = 1 ∨ os j = 2) ∧ ∃ c, c < n ∧ pl j = nI c) ∧
  (∀ j g, ∃ w p : Nat, p ≤ w ∧ w ≤ 9 ∧ wa j g = nI w ∧ pr j g = nI p) ∧
  (∀ j, oc ≤ j → wa j = (fun _ => 0) ∧ pr j = (fun _ => 0)) ∧
  (∀ j g, j < oc → os j = 0 → g < 10 → pr j g = 0 ∧ de j g = -1) ∧
  (∀ j g, j < oc → g < 10 → 0 < wa j g → la j g = de j g)
theorem uv (f : Nat → Int32) (k : Nat) (v : Int32) : upd f k v = va_up f k v := rfl
theorem vu_s {α : Type} {f : Nat → α} {k : Nat} {v : α} : va_up f k v k = v := if_pos rfl
theorem vu_n {α : Type} {f : Nat → α} {k j : Nat} {v : α} (h : ¬ j = k) : va_up f k v j = f j := if_neg h
theorem vu_id {α : Type} {f : Nat → α} {k : Nat} {v : α} (h : f k = v) : va_up f k v = f := by
  funext j
  by_cases hj : j = k
  · subst hj; rw [vu_s, h]
  · rw [vu_n hj]
/-- the two-deep change at j, g -/
theorem v2_s {f : Nat → Nat → Int32} {j g : Nat} {v : Int32} : va_up f j (upd (f j) g v) j g = v := by rw [vu_s, pk_us]
theorem v2_n {f : Nat → Nat → Int32} {j g : Nat} {v : Int32} {a b : Nat} (h : ¬ (a = j ∧ b = g)) : va_up f j (upd (f j) g v) a b = f a b := by
  by_cases ha : a = j
  · subst ha
    rw [vu_s, pk_un (fun hb => h ⟨rfl, hb⟩)]
  · rw [vu_n ha]
theorem v2_o {f : Nat → Nat → Int32} {j g : Nat} {v : Int32} {a : Nat} (h : ¬ a = j) : va_up f j (upd (f j) g v) a = f a := vu_n h
theorem v2_id {f : Nat → Nat → Int32} {j g : Nat} {v : Int32} (h : f j g = v) : va_up f j (upd (f j) g v) = f := vu_id (by
  funext b
  by_cases hb : b = g
  · subst hb; rw [pk_us, h]
  · rw [pk_un hb])
theorem nJ {c : Nat} (h : c < 16) : ¬ nI c = -1 := nI_m1 (by omega)
section LI
variable {n oc : Nat} {os pl : Nat → Int32} {oo : Nat → Option Nat} {wa pr de la : Nat → Nat → Int32}
theorem li_S (h : li n oc os pl oo wa pr de la) : ∀ j, j < oc → os j = 0 ∨ os j = 1 ∨ os j = 2 ∨ os j = 3 := fun j hj => by
  rcases h.2.1 j hj with ⟨h1 | h1, -⟩ | ⟨h1 | h1, -⟩
  · exact Or.inl h1
  · exact Or.inr (Or.inr (Or.inr h1))
  · exact Or.inr (Or.inl h1)
  · exact Or.inr (Or.inr (Or.inl h1))
theorem li_P (h : li n oc os pl oo wa pr de la) : ∀ j g, j < oc → g < 10 → 0 ≤ wa j g - pr j g := fun j g _ _ => by
  obtain ⟨w, p, h1, h2, h3, h4⟩ := h.2.2.1 j g
  rw [h3, h4, pk_sub h1]
  exact nI_pos' (by omega)
theorem li_0 (n : Nat) (os pl : Nat → Int32) (de la : Nat → Nat → Int32) : li n 0 os pl (fun _ => none) (fun _ _ => 0) (fun _ _ => 0) de la :=
  ⟨fun c _ j => ⟨fun h => (by cases h), fun h => absurd h.1 (Nat.not_lt_zero j)⟩, fun j hj => absurd hj (Nat.not_lt_zero j), fun _ _ => ⟨0, 0, Nat.le_refl 0, by omega, rfl, rfl⟩, fun _ _ => ⟨rfl, rfl⟩, fun j _ hj => absurd hj (Nat.not_lt_zero j), fun j _ hj => absurd hj (Nat.not_lt_zero j)⟩
theorem li_order (h : li n oc os pl oo wa pr de la) (hn : n ≤ 16) {f9 : Nat → Int32} (hf : ∀ g, g < 10 → f9 g = -1) : li n (oc + 1) (va_up os oc 0) (va_up pl oc (-1)) oo wa pr (va_up de oc f9) la := by
  obtain ⟨h1, h2, h3, h4, h5, h6⟩ := h
  refine ⟨fun c hc j => ?_, fun j hj => ?_, h3, fun j hj => h4 j (by omega), fun j g hj h0 hg => ?_, fun j g hj hg hw => ?_⟩
  · by_cases hj : j = oc
    · subst hj
      rw [vu_s]
      exact ⟨fun h => absurd ((h1 c hc j).mp h).1 (Nat.lt_irrefl j), fun h => absurd h.2.symm (nJ (by omega))⟩
    · rw [vu_n hj, h1 c hc j]
      exact ⟨fun h => ⟨by omega, h.2⟩, fun h => ⟨by omega, h.2⟩⟩
  · by_cases hj9 : j = oc
    · subst hj9
      rw [vu_s, vu_s]
      exact Or.inl ⟨Or.inl rfl, rfl⟩
    · rw [vu_n hj9, vu_n hj9]
      exact h2 j (by omega)
  · by_cases hj9 : j = oc
    · subst hj9
      rw [vu_s]
      exact ⟨by rw [(h4 j (Nat.le_refl j)).2], hf g hg⟩
    · rw [vu_n hj9] at h0 ⊢
      exact h5 j g (by omega) h0 hg
  · by_cases hj9 : j = oc
    · subst hj9
      rw [(h4 j (Nat.le_refl j)).1] at hw
      exact absurd (show (0 : Int32) < 0 from hw) (by decide)
    · rw [vu_n hj9]
      exact h6 j g (by omega) hg hw
theorem li_line (h : li n oc os pl oo wa pr de la) {j g : Nat} (hj : j < oc) (hg : g < 10) (h0 : os j = 0) {v : Int32} (hv0 : ¬ v < 0) (hv9 : v ≤ 9) : li n oc os pl oo (va_up wa j (upd (wa j) g v)) pr de (va_up la j (upd (la j) g (-1))) := by
  obtain ⟨h1, h2, h3, h4, h5, h6⟩ := h
  obtain ⟨w9, hw9, rfl⟩ := nI_of2 (n := 9) (by decide) hv0 hv9
  refine ⟨h1, h2, fun a b => ?_, fun a ha => ?_, h5, fun a b ha hb hw => ?_⟩
  · by_cases hab : a = j ∧ b = g
    · obtain ⟨rfl, rfl⟩ := hab
      rw [v2_s, (h5 a b hj h0 hg).1]
      exact ⟨w9, 0, Nat.zero_le _, hw9, rfl, rfl⟩
    · rw [v2_n hab]
      exact h3 a b
  · rw [v2_o (by omega)]
    exact h4 a ha
  · by_cases hab : a = j ∧ b = g
    · obtain ⟨rfl, rfl⟩ := hab
      rw [v2_s, (h5 a b hj h0 hg).2]
    · rw [v2_n hab] at hw ⊢
      exact h6 a b ha hb hw
theorem li_cell (h : li n oc os pl oo wa pr de la) (hn : n ≤ 16) {j i : Nat} (hj : j < oc) (h0 : os j = 0) (hi : i < n) (hoi : oo i = none) : li n oc (va_up os j 1) (va_up pl j (nI i)) (va_up oo i (some j)) wa pr de la := by
  obtain ⟨h1, h2, h3, h4, h5, h6⟩ := h
  have hpj : pl j = -1 := by
    rcases h2 j hj with ⟨-, h⟩ | ⟨h | h, -⟩
    · exact h
    · rw [h0] at h; exact absurd h (by decide)
    · rw [h0] at h; exact absurd h (by decide)
  refine ⟨fun c hc a => ?_, fun a ha => ?_, h3, h4, fun a b ha h9 hb => ?_, h6⟩
  · by_cases hci : c = i
    · subst hci
      rw [vu_s]
      by_cases haj : a = j
      · subst haj
        rw [vu_s]
        exact ⟨fun _ => ⟨hj, rfl⟩, fun _ => rfl⟩
      · rw [vu_n haj]
        refine ⟨fun h => absurd (Option.some.inj h).symm haj, fun h => ?_⟩
        have h9 := (h1 c hc a).mpr h
        rw [hoi] at h9
        cases h9
    · rw [vu_n hci]
      by_cases haj : a = j
      · subst haj
        rw [vu_s]
        refine ⟨fun h => ?_, fun h => absurd ((nI_eq (by omega) (by omega)).mp h.2).symm hci⟩
        have h9 := ((h1 c hc a).mp h).2
        rw [hpj] at h9
        exact absurd h9.symm (nJ (by omega))
      · rw [vu_n haj]
        exact h1 c hc a
  · by_cases haj : a = j
    · subst haj
      rw [vu_s, vu_s]
      exact Or.inr ⟨Or.inl rfl, i, hi, rfl⟩
    · rw [vu_n haj, vu_n haj]
      exact h2 a ha
  · by_cases haj : a = j
    · subst haj
      rw [vu_s] at h9
      exact absurd h9 (by decide)
    · rw [vu_n haj] at h9
      exact h5 a b ha h9 hb
theorem li_nz (h : li n oc os pl oo wa pr de la) (hn : n ≤ 16) {j c : Nat} (hc : c < n) (ho : oo c = some j) : ¬ os j = 0 := fun h0 => by
  obtain ⟨hj, hp⟩ := (h.1 c hc j).mp ho
  rcases h.2.1 j hj with ⟨-, h9⟩ | ⟨h9 | h9, -⟩
  · rw [hp] at h9; exact nJ (by omega) h9
  · rw [h0] at h9; exact absurd h9 (by decide)
  · rw [h0] at h9; exact absurd h9 (by decide)
theorem li_pr (h : li n oc os pl oo wa pr de la) {j g : Nat} (hj : j < oc) (h0 : ¬ os j = 0) {w q : Nat} (hq : q ≤ w) (hw9 : w ≤ 9) (hw : wa j g = nI w) : li n oc os pl oo wa (va_up pr j (upd (pr j) g (nI q))) de la := by
  obtain ⟨h1, h2, h3, h4, h5, h6⟩ := h
  refine ⟨h1, h2, fun a b => ?_, fun a ha => ?_, fun a b ha h9 hb => ?_, h6⟩
  · by_cases hab : a = j ∧ b = g
    · obtain ⟨rfl, rfl⟩ := hab
      rw [v2_s]
      exact ⟨w, q, hq, hw9, hw, rfl⟩
    · rw [v2_n hab]
      exact h3 a b
  · rw [v2_o (by omega)]
    exact h4 a ha
  · rw [v2_n (fun h => h0 (by rw [← h.1]; exact h9))]
    exact h5 a b ha h9 hb
theorem li_scan (h : li n oc os pl oo wa pr de la) (hn : n ≤ 16) {j c g : Nat} (hc : c < n) (ho : oo c = some j) (hne : ¬ wa j g - pr j g = 0) : li n oc os pl oo wa (va_up pr j (upd (pr j) g (pr j g + 1))) de la := by
  obtain ⟨w, p, hp, hw9, hw, hpr⟩ := h.2.2.1 j g
  have hlt : p < w := by
    rcases Nat.lt_or_ge p w with h9 | h9
    · exact h9
    · refine absurd ?_ hne
      rw [hw, hpr, pk_sub hp, show w - p = 0 by omega]
      rfl
  have e : pr j g + 1 = nI (p + 1) := by rw [hpr]; exact nI_1 p
  rw [e]
  exact li_pr h ((h.1 c hc j).mp ho).1 (li_nz h hn hc ho) hlt hw9 hw
theorem li_undo (h : li n oc os pl oo wa pr de la) (hn : n ≤ 16) {j c g : Nat} (hc : c < n) (ho : oo c = some j) (hne : ¬ pr j g = 0) : li n oc os pl oo wa (va_up pr j (upd (pr j) g (pr j g - 1))) de la := by
  obtain ⟨w, p, hp, hw9, hw, hpr⟩ := h.2.2.1 j g
  obtain ⟨k, rfl⟩ : ∃ k, p = k + 1 := ⟨p - 1, by
    rcases Nat.eq_zero_or_pos p with h9 | h9
    · refine absurd ?_ hne
      rw [hpr, h9]
      rfl
    · omega⟩
  have e : pr j g - 1 = nI k := by rw [hpr]; exact nI_pred k
  rw [e]
  exact li_pr h ((h.1 c hc j).mp ho).1 (li_nz h hn hc ho) (by omega) hw9 hw
theorem li_miss (h : li n oc os pl oo wa pr de la) {j g : Nat} (h0 : os j = 1) (v : Int32) : li n oc os pl oo wa pr (va_up de j (upd (de j) g v)) (va_up la j (upd (la j) g v)) := by
  obtain ⟨h1, h2, h3, h4, h5, h6⟩ := h
  refine ⟨h1, h2, h3, h4, fun a b ha h9 hb => ?_, fun a b ha hb hw => ?_⟩
  · rw [v2_n (fun h => by rw [h.1, h0] at h9; exact absurd h9 (by decide))]
    exact h5 a b ha h9 hb
  · by_cases hab : a = j ∧ b = g
    · obtain ⟨rfl, rfl⟩ := hab
      rw [v2_s, v2_s]
    · rw [v2_n hab, v2_n hab]
      exact h6 a b ha hb hw
theorem li_change (h : li n oc os pl oo wa pr de la) {j g : Nat} (hj : j < oc) (h0 : 0 < wa j g) (hg : g < 10) {v : Int32} (hv0 : ¬ v < 0) (hv9 : v ≤ 9) (hpv : pr j g ≤ v) : li n oc os pl oo (va_up wa j (upd (wa j) g v)) pr de la := by
  obtain ⟨h1, h2, h3, h4, h5, h6⟩ := h
  obtain ⟨w9, hw9, rfl⟩ := nI_of2 (n := 9) (by decide) hv0 hv9
  refine ⟨h1, h2, fun a b => ?_, fun a ha => ?_, h5, fun a b ha hb hw => ?_⟩
  · by_cases hab : a = j ∧ b = g
    · obtain ⟨rfl, rfl⟩ := hab
      rw [v2_s]
      obtain ⟨w, p, g1, g2, g3, g4⟩ := h3 a b
      rw [g4] at hpv
      exact ⟨w9, p, (nI_leI (by omega) (by omega)).mp hpv, hw9, rfl, g4⟩
    · rw [v2_n hab]
      exact h3 a b
  · rw [v2_o (by omega)]
    exact h4 a ha
  · by_cases hab : a = j ∧ b = g
    · obtain ⟨rfl, rfl⟩ := hab
      exact h6 a b ha hb h0
    · rw [v2_n hab] at hw
      exact h6 a b ha hb hw
theorem li_complete (h : li n oc os pl oo wa pr de la) {j : Nat} (h0 : os j = 1) : li n oc (va_up os j 2) pl oo wa pr de la := by
  obtain ⟨h1, h2, h3, h4, h5, h6⟩ := h
  refine ⟨h1, fun a ha => ?_, h3, h4, fun a b ha h9 hb => ?_, h6⟩
  · by_cases haj : a = j
    · subst haj
      rw [vu_s]
      rcases h2 a ha with ⟨h | h, -⟩ | ⟨-, h⟩
      · rw [h0] at h; exact absurd h (by decide)
      · rw [h0] at h; exact absurd h (by decide)
      · exact Or.inr ⟨Or.inr rfl, h⟩
    · rw [vu_n haj]
      exact h2 a ha
  · by_cases haj : a = j
    · subst haj
      rw [vu_s] at h9
      exact absurd h9 (by decide)
    · rw [vu_n haj] at h9
      exact h5 a b ha h9 hb
theorem li_release (h : li n oc os pl oo wa pr de la) (hn : n ≤ 16) {j i : Nat} (hi : i < n) (ho : oo i = some j) : li n oc (va_up os j 3) (va_up pl j (-1)) (va_up oo i none) wa pr de la := by
  obtain ⟨h1, h2, h3, h4, h5, h6⟩ := h
  obtain ⟨hj, hpj⟩ := (h1 i hi j).mp ho
  refine ⟨fun c hc a => ?_, fun a ha => ?_, h3, h4, fun a b ha h9 hb => ?_, h6⟩
  · by_cases hci : c = i
    · subst hci
      rw [vu_s]
      refine ⟨fun h => (by cases h), fun h => ?_⟩
      by_cases haj : a = j
      · subst haj
        rw [vu_s] at h
        exact absurd h.2.symm (nJ (by omega))
      · rw [vu_n haj] at h
        have h9 := (h1 c hc a).mpr h
        rw [ho] at h9
        exact absurd (Option.some.inj h9).symm haj
    · rw [vu_n hci]
      by_cases haj : a = j
      · subst haj
        rw [vu_s]
        refine ⟨fun h => ?_, fun h => absurd h.2.symm (nJ (by omega))⟩
        have h9 := ((h1 c hc a).mp h).2
        exact absurd ((nI_eq (by omega) (by omega)).mp (h9.symm.trans hpj)) hci
      · rw [vu_n haj]
        exact h1 c hc a
  · by_cases haj : a = j
    · subst haj
      rw [vu_s, vu_s]
      exact Or.inl ⟨Or.inr rfl, rfl⟩
    · rw [vu_n haj, vu_n haj]
      exact h2 a ha
  · by_cases haj : a = j
    · subst haj
      rw [vu_s] at h9
      exact absurd h9 (by decide)
    · rw [vu_n haj] at h9
      exact h5 a b ha h9 hb
/-! the answers that are reckoned otherwise -/
theorem li_w0 (h : li n oc os pl oo wa pr de la) {j g : Nat} (hw : ¬ 0 < wa j g) : wa j g = 0 ∧ pr j g = 0 := by
  obtain ⟨w, p, h1, h2, h3, h4⟩ := h.2.2.1 j g
  have hw0 : w = 0 := by
    rcases Nat.eq_zero_or_pos w with h9 | h9
    · exact h9
    · refine absurd ?_ hw
      rw [h3]
      exact nI_lt (a := 0) h9 (by omega)
  subst hw0
  rw [h3, h4, show p = 0 by omega]
  exact ⟨rfl, rfl⟩
theorem li_f3 (h : li n oc os pl oo wa pr de la) (j : Nat) : bx_sum (tl_f wa j (pr j)) 10 = bx_sum (pr j) 10 := bx_cg 10 (fun g _ => by
  unfold tl_f
  by_cases hw : 0 < wa j g
  · exact if_pos hw
  · rw [if_neg hw, (li_w0 h hw).2])
theorem li_f4 (h : li n oc os pl oo wa pr de la) (j : Nat) : bx_sum (tl_f wa j (wa j)) 10 = bx_sum (wa j) 10 := bx_cg 10 (fun g _ => by
  unfold tl_f
  by_cases hw : 0 < wa j g
  · exact if_pos hw
  · rw [if_neg hw, (li_w0 h hw).1])
theorem li_gu (h : li n oc os pl oo wa pr de la) (td : Int32) {j g : Nat} (hj : j < oc) (hg : g < 10) (hw : 0 < wa j g) : od_gu td (wa j) (pr j) (la j) g = od_gu td (wa j) (pr j) (de j) g := by
  unfold od_gu
  rw [h.2.2.2.2.2 j g hj hg hw]
theorem li_gu0 (h : li n oc os pl oo wa pr de la) (td : Int32) {j g : Nat} (hw : ¬ 0 < wa j g) (d : Nat → Int32) : od_gu td (wa j) (pr j) d g = 0 := by
  unfold od_gu
  rw [(li_w0 h hw).1, (li_w0 h hw).2]
  split <;> rfl
theorem li_f5 (h : li n oc os pl oo wa pr de la) (td : Int32) {j : Nat} (hj : j < oc) : bx_sum (tl_f wa j (od_gu td (wa j) (pr j) (la j))) 10 = bx_sum (od_gu td (wa j) (pr j) (de j)) 10 := bx_cg 10 (fun g hg => by
  unfold tl_f
  by_cases hw : 0 < wa j g
  · exact (if_pos hw).trans (li_gu h td hj hg hw)
  · rw [if_neg hw, li_gu0 h td hw])
theorem li_told (h : li n oc os pl oo wa pr de la) (td : Int32) {j : Nat} (hj : j < oc) (x : Int32) : tm_r td os pl wa pr la j x = td_r td os pl wa pr de j x := by
  unfold tm_r td_r
  rw [li_f3 h, li_f4 h, li_f5 h td hj]
theorem li_cm (h : li n oc os pl oo wa pr de la) (td : Int32) {j g : Nat} (hj : j < oc) (hg : g < 10) : od_gu td (wa j) (pr j) (de j) g < wa j g - pr j g ↔ (0 < wa j g ∧ 0 < wa j g - pr j g ∧ ¬ (¬ la j g = -1 ∧ la j g < td)) := by
  by_cases hw : 0 < wa j g
  · rw [h.2.2.2.2.2 j g hj hg hw]
    unfold od_gu
    by_cases hd : ¬ de j g = -1 ∧ de j g < td
    · rw [if_pos hd]
      exact ⟨fun h9 => (Int32.lt_irrefl h9).elim, fun h9 => absurd hd h9.2.2⟩
    · rw [if_neg hd]
      exact ⟨fun h9 => ⟨hw, h9, hd⟩, fun h9 => h9.2.1⟩
  · rw [li_gu0 h td hw, (li_w0 h hw).1, (li_w0 h hw).2]
    exact ⟨fun h9 => absurd h9 (by decide), fun h9 => absurd h9.1 (by decide)⟩
theorem li_pc (h : li n oc os pl oo wa pr de la) {j g : Nat} (hj : j < oc) (hg : g < 10) (hw : 0 < wa j g) (x : Int32) : pi_r wa pr la j g x = pi_r wa pr de j g x := by
  unfold pi_r
  rw [h.2.2.2.2.2 j g hj hg hw]
theorem li_cn (h : li n oc os pl oo wa pr de la) (hn : n ≤ 16) : bx_sum (cc_s oo pr) n = bx_sum (cm_f pl wa pr) oc := by
  rw [bx_gs, bx_gs]
  refine gs_bij (fun a => Int32.add_zero a) (fun a => Int32.zero_add a) Int32.add_comm Int32.add_assoc hn h.1 (fun j => bx_sum (pr j) 10) _ _ (fun c _ h9 => cc_sn h9) (fun c j _ h9 => cc_ss h9) (fun j c _ hc hp => ?_) (fun j hj hno => ?_)
  · unfold cm_f
    rw [if_neg (by rw [hp]; exact nJ (by omega)), li_f3 h]
  · unfold cm_f
    refine if_pos ?_
    rcases h.2.1 j hj with ⟨-, h9⟩ | ⟨-, c, hc, h9⟩
    · exact h9
    · exact absurd h9 (hno c hc)
theorem li_count (h : li n oc os pl oo wa pr de la) (hn : n ≤ 16) (td : Int32) (to : Nat → Int32) (x : Int32) : cm_r n oc td to oo pl wa pr x = co_r n oc td to oo pr x := by
  unfold cm_r co_r
  rw [li_cn h hn]
theorem li_ct (h : li n oc os pl oo wa pr de la) (hn : n ≤ 16) : od_ct (cc_b oo os) n = od_ct (cb_o os) oc := by
  rw [ct_gs, ct_gs]
  refine gs_bij (fun a => Nat.add_zero a) (fun a => Nat.zero_add a) Nat.add_comm Nat.add_assoc hn h.1 (fun j => if cb_o os j = true then 1 else 0) _ _ (fun c _ h9 => ?_) (fun c j _ h9 => ?_) (fun j c _ _ _ => rfl) (fun j hj hno => ?_)
  · rw [cc_bn h9]
    rfl
  · rw [cc_bs h9]
    rfl
  · refine if_neg (fun h9 => ?_)
    have h8 : os j = 2 := of_decide_eq_true h9
    rcases h.2.1 j hj with ⟨h7 | h7, -⟩ | ⟨-, c, hc, h7⟩
    · rw [h8] at h7; exact absurd h7 (by decide)
    · rw [h8] at h7; exact absurd h7 (by decide)
    · exact absurd h7 (hno c hc)
end LI
theorem pc_0 {A : Prop} {k x : Int32} (hk : ¬ k = 0) (h : pc_if A k x = 0) : ¬ A ∧ x = 0 := by
  by_cases hA : A
  · rw [pc_t hA] at h; exact absurd h hk
  · rw [pc_f hA] at h; exact ⟨hA, h⟩
