
/-! ===== legal rows under a day ===== -/
theorem rowok_strain {r : Nat → Int32} {j : Nat} {b : Int32} (h : RowOk r) (hj : j < sp_nc r) : RowOk (sp_strain r j b) := by
  have hn := h.2.2.2.2.1
  have hf : rw_fr (14 + 8 * j) := Or.inr (Or.inl ⟨by omega, by omega, by omega⟩)
  unfold sp_strain
  split
  · exact RU_fr h hf
  · exact RU_fr h hf
theorem rowok_limp {r : Nat → Int32} {j : Nat} (h : RowOk r) (hj : j < sp_nc r) : RowOk (sp_limp r j) := by
  have hn := h.2.2.2.2.1
  have hf : rw_fr (14 + 8 * j) := Or.inr (Or.inl ⟨by omega, by omega, by omega⟩)
  have hg : rw_fr (15 + 8 * j) := Or.inr (Or.inl ⟨by omega, by omega, by omega⟩)
  unfold sp_limp
  split
  · exact RU_fr (RU_fr h hg) hf
  · split
    · exact RU_fr h hg
    · exact h
theorem rowok_lay {r : Nat → Int32} {k : Nat} (h : RowOk r) (hk : k < sp_nl r) : RowOk (sp_lay r k) := RU_fr (RU_car h hk (Or.inl rfl)) (Or.inr (Or.inr ⟨by omega, by omega⟩))
theorem rowok_drop {r : Nat → Int32} {j : Nat} (h : RowOk r) : ∀ k : Nat, k ≤ sp_nl r → RowOk (sp_dropTo r j k) := by
  intro k
  induction k with
  | zero => intro _; exact h
  | succ k ih =>
    intro hk
    have h1 := ih (by omega)
    have sc := sc_drop r j k
    by_cases q : sp_dropTo r j k (142 + 4 * k) = nI j
    · rw [sp_dropTo_t q]
      exact rowok_lay h1 (by rw [sc.2.2.2]; omega)
    · have e : sp_dropTo r j (k + 1) = sp_dropTo r j k := if_neg q
      rw [e]; exact h1
theorem rowok_drain {r : Nat → Int32} {j m : Nat} (h : RowOk r) (hj : j < sp_nc r) (ha : r (16 + 8 * j) < nI 3) (hm : m < 2 ^ 31) : RowOk (sp_drain r j (nI m)) := by
  have hn := h.2.2.2.2.1
  obtain ⟨t, x, ht, hx, hxt, ht9⟩ := RK_tk h j hj
  obtain ⟨d, hd, -, hd3⟩ := (RK_c h j hj).2.2.2.1
  have hd2 : d < 3 := by
    rw [hd] at ha
    exact (nI_ltI (by omega) (by decide)).mp ha
  unfold sp_drain
  by_cases q : nI m ≤ r (13 + 8 * j)
  · rw [if_pos q]
    rw [hx] at q ⊢
    have q2 := (nI_leI hm (by omega)).mp q
    rw [pk_sub q2]
    have h1 := RU_water (y := x - m) h hj ht ht9 (by omega)
    exact RU_dry h1 (by rw [sp_nc_upd (by omega)]; exact hj) (by omega) (by rw [upd_ne (by omega)]; exact ha)
  · rw [if_neg q]
    by_cases q3 : r (16 + 8 * j) + nI 1 = nI 3
    · rw [if_pos q3]
      have hdead := RU_dead h hj
      have e : upd (sp_dry r j) (17 + 8 * j) (nI 1) = upd (upd (upd r (13 + 8 * j) (nI 0)) (16 + 8 * j) (nI 3)) (17 + 8 * j) (nI 1) := by
        unfold sp_dry
        rw [q3]
      have sc := sc_dry r j
      unfold sp_die
      rw [e, sc.2.2.2]
      refine rowok_drop hdead _ ?_
      rw [sp_nl_upd (by omega), sp_nl_upd (by omega), sp_nl_upd (by omega)]
      exact Nat.le_refl _
    · rw [if_neg q3]
      unfold sp_dry
      have h1 := RU_water (y := 0) h hj ht ht9 (Nat.zero_le _)
      rw [hd, nI_add]
      have hd1 : d + 1 < 3 := by
        have : d + 1 ≠ 3 := fun z => q3 (by rw [hd, nI_add, z])
        omega
      exact RU_dry h1 (by rw [sp_nc_upd (by omega)]; exact hj) hd1 (by rw [upd_ne (by omega)]; exact ha)
theorem car_nat {r : Nat → Int32} (h : RowOk r) (c : Int32) : ∀ k : Nat, k ≤ sp_nl r → ∃ m : Nat, sp_carTo r c k = nI m ∧ m ≤ 99 * k := by
  intro k
  induction k with
  | zero => intro _; exact ⟨0, rfl, Nat.le_refl _⟩
  | succ k ih =>
    intro hk
    obtain ⟨m, h1, h2⟩ := ih (by omega)
    by_cases q : r (142 + 4 * k) = c
    · obtain ⟨w, hw, -, hw2⟩ := (RK_lo h k (by omega)).1
      exact ⟨m + w, by rw [sp_carTo_t q, h1, hw, nI_add], by omega⟩
    · exact ⟨m, by rw [sp_carTo_f q, h1], by omega⟩
theorem car_b {r : Nat → Int32} (h : RowOk r) (j : Nat) : ∃ m : Nat, sp_car r j = nI m ∧ m ≤ 1980 := by
  have hn := h.2.2.2.2.1
  obtain ⟨m, h1, h2⟩ := car_nat h (nI j) (sp_nl r) (Nat.le_refl _)
  exact ⟨m, h1, by omega⟩
theorem max_nI {a b : Nat} (ha : a < 2 ^ 31) (hb : b < 2 ^ 31) : sp_max (nI a) (nI b) = nI (max a b) := by
  unfold sp_max
  by_cases h : a < b
  · rw [if_pos (nI_lt h hb), Nat.max_eq_right (by omega)]
  · rw [if_neg (nI_nlt (by omega) ha), Nat.max_eq_left (by omega)]
theorem storm_b {r : Nat → Int32} (h : RowOk r) (d : Int32) : ∃ t : Nat, sp_storm r d = nI t ∧ t ≤ 9 := by
  have hs := h.2.2.2.2.2.2.2.2.2.2.2.1
  have key : ∀ k : Nat, k ≤ sp_ns r → ∃ t : Nat, sp_stormTo r d k = nI t ∧ t ≤ 9 := by
    intro k
    induction k with
    | zero => intro _; exact ⟨0, rfl, by omega⟩
    | succ k ih =>
      intro hk
      obtain ⟨t, h1, h2⟩ := ih (by omega)
      by_cases q : r (122 + 3 * k) ≤ d ∧ d ≤ r (123 + 3 * k)
      · obtain ⟨f, hf, -, hf2⟩ := hs k (by omega)
        exact ⟨max t f, by rw [sp_stormTo_t q, h1, hf, max_nI (by omega) (by omega)], by omega⟩
      · exact ⟨t, by rw [sp_stormTo_f q, h1], h2⟩
  exact key _ (Nat.le_refl _)
theorem need_b {r : Nat → Int32} (h : RowOk r) (j : Nat) {t : Nat} (ht : t ≤ 9) : ∃ m : Nat, sp_need r j (nI t) = nI m ∧ 5 ≤ m ∧ m ≤ 100 := by
  obtain ⟨c, hc, hc2⟩ := car_b h j
  refine ⟨5 + c / 25 + t, ?_, by omega, by omega⟩
  unfold sp_need
  rw [hc, pk_div (by omega) (by omega) (by omega), nI_add, nI_add]
theorem rowok_go {r : Nat → Int32} {ls : Int32} {t : Nat} (h : RowOk r) (ht : t ≤ 9) : ∀ k : Nat, k ≤ sp_nc r → RowOk (sp_goTo r ls (nI t) k) := by
  intro k
  induction k with
  | zero => intro _; exact h
  | succ k ih =>
    intro hk
    have h1 := ih (by omega)
    have sc := sc_go r ls (nI t) k
    by_cases q : sp_goTo r ls (nI t) k (16 + 8 * k) < nI 3
    · have e : sp_goTo r ls (nI t) (k + 1) = sp_drain (sp_limp (sp_strain (sp_goTo r ls (nI t) k) k (ls - sp_speed (sp_goTo r ls (nI t) k) k)) k) k (sp_need (sp_limp (sp_strain (sp_goTo r ls (nI t) k) k (ls - sp_speed (sp_goTo r ls (nI t) k) k)) k) k (nI t)) := if_pos q
      rw [e]
      generalize sp_goTo r ls (nI t) k = g at h1 sc q ⊢
      generalize ls - sp_speed g k = b
      have s1 := sc_strain g k b
      have s2 := sc_limp (sp_strain g k b) k
      have hk1 : k < sp_nc g := by rw [sc.1]; omega
      have h2 := rowok_strain (b := b) h1 hk1
      have hk2 : k < sp_nc (sp_strain g k b) := by rw [s1.1]; exact hk1
      have h3 := rowok_limp h2 hk2
      have hk3 : k < sp_nc (sp_limp (sp_strain g k b) k) := by rw [s2.1]; exact hk2
      obtain ⟨m, hm, -, hm2⟩ := need_b h3 k ht
      rw [hm]
      refine rowok_drain h3 hk3 ?_ (by omega)
      have e16 : sp_limp (sp_strain g k b) k (16 + 8 * k) = g (16 + 8 * k) := by
        have a1 : sp_limp (sp_strain g k b) k (16 + 8 * k) = sp_strain g k b (16 + 8 * k) := by
          unfold sp_limp
          split
          · rw [upd_ne (by omega), upd_ne (by omega)]
          · split
            · rw [upd_ne (by omega)]
            · rfl
        rw [a1]
        unfold sp_strain
        split <;> rw [upd_ne (by omega)]
      rw [e16]
      exact q
    · have e : sp_goTo r ls (nI t) (k + 1) = sp_goTo r ls (nI t) k := if_neg q
      rw [e]; exact h1

theorem rowok_rest {r : Nat → Int32} {t : Nat} (h : RowOk r) (ht : t ≤ 9) : ∀ k : Nat, k ≤ sp_nc r → RowOk (sp_restTo r (nI t) k) := by
  intro k
  induction k with
  | zero => intro _; exact h
  | succ k ih =>
    intro hk
    have h1 := ih (by omega)
    have sc := sc_restTo r (nI t) k
    by_cases q : sp_restTo r (nI t) k (16 + 8 * k) < nI 3
    · rw [sp_restTo_t q]
      generalize sp_restTo r (nI t) k = g at h1 sc q ⊢
      generalize nI 0 = b
      have s1 := sc_strain g k b
      have s2 := sc_limp (sp_strain g k b) k
      have hk1 : k < sp_nc g := by rw [sc.1]; omega
      have h2 := rowok_strain (b := b) h1 hk1
      have hk2 : k < sp_nc (sp_strain g k b) := by rw [s1.1]; exact hk1
      have h3 := rowok_limp h2 hk2
      have hk3 : k < sp_nc (sp_limp (sp_strain g k b) k) := by rw [s2.1]; exact hk2
      obtain ⟨m, hm, -, hm2⟩ := need_b h3 k ht
      rw [hm, nI_add, pk_div (by omega) (by omega) (by omega)]
      refine rowok_drain h3 hk3 ?_ (by omega)
      have e16 : sp_limp (sp_strain g k b) k (16 + 8 * k) = g (16 + 8 * k) := by
        have a1 : sp_limp (sp_strain g k b) k (16 + 8 * k) = sp_strain g k b (16 + 8 * k) := by
          unfold sp_limp
          split
          · rw [upd_ne (by omega), upd_ne (by omega)]
          · split
            · rw [upd_ne (by omega)]
            · rfl
        rw [a1]
        unfold sp_strain
        split <;> rw [upd_ne (by omega)]
      rw [e16]
      exact q
    · have e : sp_restTo r (nI t) (k + 1) = sp_restTo r (nI t) k := if_neg q
      rw [e]; exact h1
theorem rowok_lead {r : Nat → Int32} (h : RowOk r) : RowOk (sp_lead r) := by
  unfold sp_lead
  split
  · exact h
  · split
    · exact h
    · rename_i q
      rcases sp_fastTo_or r (sp_nc r) with e | ⟨m, e, hm, -⟩
      · exact absurd (show sp_fast r < 0 by unfold sp_fast; rw [e]; decide) q
      · have e2 : sp_fast r = nI m := e
        rw [e2]; exact RU_lead h hm
theorem rowok_wells {r : Nat → Int32} (h : RowOk r) : ∀ k : Nat, k ≤ sp_nw r → RowOk (sp_wellsTo r k) := by
  intro k
  induction k with
  | zero => intro _; exact h
  | succ k ih =>
    intro hk
    have h1 := ih (by omega)
    have sc := sc_wells r k
    have hk1 : k < sp_nw (sp_wellsTo r k) := by rw [sc.2.1]; omega
    obtain ⟨cap, lev, c1, c2, c3, c4, ⟨f, c5, -, c6⟩⟩ := RK_we h1 k hk1
    show RowOk (upd (sp_wellsTo r k) (93 + 4 * k) (sp_min (sp_wellsTo r k (91 + 4 * k)) (sp_wellsTo r k (93 + 4 * k) + sp_wellsTo r k (92 + 4 * k))))
    have e : sp_min (sp_wellsTo r k (91 + 4 * k)) (sp_wellsTo r k (93 + 4 * k) + sp_wellsTo r k (92 + 4 * k)) = nI (min cap (lev + f)) := by rw [c1, c3, c5, nI_add, sp_min_nI (by omega) (by omega)]
    rw [e]
    exact RU_level h1 hk1 c1 c2 (Nat.min_le_left _ _)
theorem wells_2 (r : Nat → Int32) : ∀ k : Nat, sp_wellsTo r k 2 = r 2 := by
  intro k
  induction k with
  | zero => rfl
  | succ k ih =>
    show upd (sp_wellsTo r k) (93 + 4 * k) _ 2 = _
    rw [upd_ne (by omega)]; exact ih
theorem lead_2 (r : Nat → Int32) : sp_lead r 2 = r 2 := by
  unfold sp_lead
  split
  · rfl
  · split
    · rfl
    · exact upd_ne (by omega)
theorem rowok_endDay {r : Nat → Int32} {d : Nat} (h : RowOk r) (hd : r 2 = nI d) (hd2 : d < 200) : RowOk (sp_endDay r) := by
  have h1 := rowok_lead h
  have s1 := sc_lead r
  have h2 := rowok_wells h1 (sp_nw r) (by rw [s1.2.1]; exact Nat.le_refl _)
  unfold sp_endDay
  rw [wells_2, lead_2, hd, nI_add]
  exact RU_day h2 (by omega)
