/-! ===== the law: days ahead ===== -/
def hsN (r : Nat → Int32) (hs : Nat → Nat → Int32) : Nat → Nat → Nat → Int32
  | 0 => hs
  | m + 1 => sp_push (sp_goN r m) (hsN r hs m)
theorem go1_of {r : Nat → Int32} (h : Leg r) (hc : sp_can r) : ∃ ld : Nat, r 4 = nI ld ∧ ld < sp_nc r ∧ sp_go1 r = sp_travel r ld := by
  have hn := h.1.2.2.2.2.1
  obtain ⟨ld, hld, hlc⟩ := RK_ld h.1
  exact ⟨ld, hld, hlc, by rw [sp_go1_t hc, hld, nI_clamp (by omega)]⟩
theorem Leg_go1 {r : Nat → Int32} (h : Leg r) : Leg (sp_go1 r) := by
  by_cases hc : sp_can r
  · obtain ⟨ld, -, hlc, e⟩ := go1_of h hc
    rw [e]
    exact Leg_travel h hlc hc.2.1
  · rw [sp_go1_f hc]; exact h
theorem Leg_goN {r : Nat → Int32} (h : Leg r) : ∀ m : Nat, Leg (sp_goN r m) := by
  intro m
  induction m with
  | zero => exact h
  | succ m ih => exact Leg_go1 ih
theorem go1_day {r : Nat → Int32} (h : Leg r) (hc : sp_can r) : sp_go1 r 2 = r 2 + nI 1 := by
  obtain ⟨ld, -, hlc, e⟩ := go1_of h hc
  obtain ⟨L, km, hL, hk, hL1, hL9, hkL, hww⟩ := RK_L h.1
  obtain ⟨t, ht, ht9⟩ := storm_b h.1 (r 2)
  obtain ⟨d, hd, hkd⟩ := dist_b h.1 hlc hL hk hkL hL9
  rw [e]
  exact (DF_travel h hlc hL hk hL9 hkd hd ht ht9).1.1
theorem goN_day {r : Nat → Int32} {dy : Nat} (h : Leg r) (hdy : r 2 = nI dy) : ∀ m : Nat, (∀ j : Nat, j < m → sp_can (sp_goN r j)) → sp_goN r m 2 = nI (dy + m) := by
  intro m
  induction m with
  | zero => intro _; exact hdy
  | succ m ih =>
    intro hc
    show sp_go1 (sp_goN r m) 2 = _
    rw [go1_day (Leg_goN h m) (hc m (Nat.lt_succ_self m)), ih (fun j hj => hc j (by omega)), nI_add]
    rfl
theorem goN_stop {r : Nat → Int32} {dy : Nat} (h : Leg r) (hdy : r 2 = nI dy) (hd9 : dy ≤ 200) : ∃ T : Nat, T ≤ 200 ∧ (∀ j : Nat, j < T → sp_can (sp_goN r j)) ∧ ¬ sp_can (sp_goN r T) ∧ sp_goN r 200 = sp_goN r T ∧ sp_goN r T 2 = nI (dy + T) := by
  have key : ∀ n : Nat, (∃ T : Nat, T < n ∧ (∀ j : Nat, j < T → sp_can (sp_goN r j)) ∧ ¬ sp_can (sp_goN r T)) ∨ (∀ j : Nat, j < n → sp_can (sp_goN r j)) := by
    intro n
    induction n with
    | zero => exact Or.inr (fun j hj => absurd hj (Nat.not_lt_zero j))
    | succ n ih =>
      rcases ih with ⟨T, h1, h2, h3⟩ | h1
      · exact Or.inl ⟨T, by omega, h2, h3⟩
      · by_cases hc : sp_can (sp_goN r n)
        · refine Or.inr (fun j hj => ?_)
          by_cases e : j = n
          · subst e; exact hc
          · exact h1 j (by omega)
        · exact Or.inl ⟨n, by omega, h1, hc⟩
  rcases key 201 with ⟨T, h1, h2, h3⟩ | h1
  · have e := sp_goN_fix h3 (200 - T)
    rw [show T + (200 - T) = 200 by omega] at e
    exact ⟨T, by omega, h2, h3, e, goN_day h hdy T h2⟩
  · have e := goN_day h hdy 200 (fun j hj => h1 j (by omega))
    have c := (h1 200 (by omega)).2.1
    rw [e] at c
    exact absurd c (nI_nlt (by omega) (by omega))
theorem stop_uniq {r : Nat → Int32} {T m : Nat} (h1 : ∀ j : Nat, j < T → sp_can (sp_goN r j)) (h2 : ¬ sp_can (sp_goN r T)) (g1 : ∀ j : Nat, j < m → sp_can (sp_goN r j)) : m ≤ T ∧ (¬ sp_can (sp_goN r m) → m = T) := by
  have a : m ≤ T := by
    by_cases e : T < m
    · exact absurd (g1 T e) h2
    · omega
  refine ⟨a, fun z => ?_⟩
  by_cases e : m < T
  · exact absurd (h1 m e) z
  · omega
theorem goN_0 {r : Nat → Int32} : sp_goN r 0 = r := rfl
theorem goN_s {r : Nat → Int32} {m : Nat} : sp_goN r (m + 1) = sp_go1 (sp_goN r m) := rfl
theorem hsN_0 {r : Nat → Int32} {hs : Nat → Nat → Int32} : hsN r hs 0 = hs := rfl
theorem stop_uniq0 {r : Nat → Int32} {T : Nat} (h1 : ∀ j : Nat, j < T → sp_can (sp_goN r j)) (h2 : ¬ sp_can (sp_goN r T)) (h : r 0 ≤ r 1) : 0 = T := (stop_uniq (m := 0) h1 h2 (fun j hj => absurd hj (Nat.not_lt_zero j))).2 (fun c => c.1 h)
