
/-! ===== legal rows stay legal ===== -/
/-- places that no bound speaks of: drunk, strain, lameness, worths, where loads lie -/
def rw_fr (j : Nat) : Prop := j = 5 ∨ (10 ≤ j ∧ j < 90 ∧ (j % 8 = 6 ∨ j % 8 = 7)) ∨ (140 ≤ j ∧ (j % 4 = 1 ∨ j % 4 = 3))
theorem RowOk_congr {r r' : Nat → Int32} (h : RowOk r) (he : ∀ j : Nat, ¬ rw_fr j → r' j = r j) : RowOk r' := by
  unfold rw_fr at he
  have c : sp_nc r' = sp_nc r := by unfold sp_nc; rw [he 6 (by omega)]
  have w : sp_nw r' = sp_nw r := by unfold sp_nw; rw [he 7 (by omega)]
  have s : sp_ns r' = sp_ns r := by unfold sp_ns; rw [he 8 (by omega)]
  have l : sp_nl r' = sp_nl r := by unfold sp_nl; rw [he 9 (by omega)]
  obtain ⟨h1, h2, h3, h4, h5, ⟨L, km, a0, a1, a2, a3, a4, a5⟩, h6, h7, ⟨ld, b1, b2⟩, hc, hw, hs, hl⟩ := h
  unfold RowOk
  rw [c, w, s, l]
  refine ⟨by rw [he 6 (by omega)]; exact h1, by rw [he 7 (by omega)]; exact h2, by rw [he 8 (by omega)]; exact h3, by rw [he 9 (by omega)]; exact h4, h5, ⟨L, km, by rw [he 0 (by omega)]; exact a0, by rw [he 1 (by omega)]; exact a1, a2, a3, a4, fun k hk => by rw [he (90 + 4 * k) (by omega)]; exact a5 k hk⟩, by rw [he 2 (by omega)]; exact h6, by rw [he 3 (by omega)]; exact h7, ⟨ld, by rw [he 4 (by omega)]; exact b1, b2⟩, fun k hk => ?_, fun k hk => ?_, fun k hk => ?_, fun k hk => ?_⟩
  · rw [he (10 + 8 * k) (by omega), he (11 + 8 * k) (by omega), he (12 + 8 * k) (by omega), he (13 + 8 * k) (by omega), he (16 + 8 * k) (by omega), he (17 + 8 * k) (by omega)]
    exact hc k hk
  · rw [he (91 + 4 * k) (by omega), he (93 + 4 * k) (by omega), he (92 + 4 * k) (by omega)]
    exact hw k hk
  · rw [he (124 + 3 * k) (by omega)]
    exact hs k hk
  · rw [he (140 + 4 * k) (by omega), he (142 + 4 * k) (by omega)]
    exact hl k hk
theorem RU_fr {r : Nat → Int32} {i : Nat} {x : Int32} (h : RowOk r) (hi : rw_fr i) : RowOk (upd r i x) := RowOk_congr h (fun j hj => upd_ne (fun e => hj (e ▸ hi)))
/-- one place changed: the same counts, and every other bound as it was -/
theorem RU_km {r : Nat → Int32} {L km : Nat} (h : RowOk r) (hL : r 0 = nI L) (hL9 : L ≤ 999) (hk : km ≤ L) : RowOk (upd r 1 (nI km)) := by
  obtain ⟨h1, h2, h3, h4, h5, ⟨L', km', a0, a1, a2, a3, a4, a5⟩, h6, h7, ⟨ld, b1, b2⟩, hc, hw, hs, hl⟩ := h
  have e : L' = L := nI_inj (by omega) (by omega) (a0.symm.trans hL)
  subst e
  unfold RowOk
  rw [sp_nc_upd (by omega), sp_nw_upd (by omega), sp_ns_upd (by omega), sp_nl_upd (by omega)]
  refine ⟨by rw [upd_ne (by omega)]; exact h1, by rw [upd_ne (by omega)]; exact h2, by rw [upd_ne (by omega)]; exact h3, by rw [upd_ne (by omega)]; exact h4, h5, ⟨L', km, by rw [upd_ne (by omega)]; exact a0, upd_eq, a2, a3, hk, fun k hk => by rw [upd_ne (by omega)]; exact a5 k hk⟩, by rw [upd_ne (by omega)]; exact h6, by rw [upd_ne (by omega)]; exact h7, ⟨ld, by rw [upd_ne (by omega)]; exact b1, b2⟩, fun k hk => ?_, fun k hk => ?_, fun k hk => ?_, fun k hk => ?_⟩
  · rw [upd_ne (by omega), upd_ne (by omega), upd_ne (by omega), upd_ne (by omega), upd_ne (by omega), upd_ne (by omega)]
    exact hc k hk
  · rw [upd_ne (by omega), upd_ne (by omega), upd_ne (by omega)]
    exact hw k hk
  · rw [upd_ne (by omega)]
    exact hs k hk
  · rw [upd_ne (by omega), upd_ne (by omega)]
    exact hl k hk
theorem RU_day {r : Nat → Int32} {d : Nat} (h : RowOk r) (hd : d ≤ 200) : RowOk (upd r 2 (nI d)) := by
  have hn := h.2.2.2.2.1
  obtain ⟨h1, h2, h3, h4, h5, ⟨L, km, a0, a1, a2, a3, a4, a5⟩, h6, h7, ⟨ld, b1, b2⟩, hc, hw, hs, hl⟩ := h
  unfold RowOk
  rw [sp_nc_upd (by omega), sp_nw_upd (by omega), sp_ns_upd (by omega), sp_nl_upd (by omega)]
  refine ⟨by rw [upd_ne (by omega)]; exact h1, by rw [upd_ne (by omega)]; exact h2, by rw [upd_ne (by omega)]; exact h3, by rw [upd_ne (by omega)]; exact h4, h5, ⟨L, km, by rw [upd_ne (by omega)]; exact a0, by rw [upd_ne (by omega)]; exact a1, a2, a3, a4, fun k hk => by rw [upd_ne (by omega)]; exact a5 k hk⟩, ⟨d, upd_eq, Nat.zero_le _, hd⟩, by rw [upd_ne (by omega)]; exact h7, ⟨ld, by rw [upd_ne (by omega)]; exact b1, b2⟩, fun k hk => ?_, fun k hk => ?_, fun k hk => ?_, fun k hk => ?_⟩
  · rw [upd_ne (by omega), upd_ne (by omega), upd_ne (by omega), upd_ne (by omega), upd_ne (by omega), upd_ne (by omega)]
    exact hc k hk
  · rw [upd_ne (by omega), upd_ne (by omega), upd_ne (by omega)]
    exact hw k hk
  · rw [upd_ne (by omega)]
    exact hs k hk
  · rw [upd_ne (by omega), upd_ne (by omega)]
    exact hl k hk
theorem RU_stop {r : Nat → Int32} {b : Int32} (h : RowOk r) (hb : b = 0 ∨ b = 1) : RowOk (upd r 3 b) := by
  have hn := h.2.2.2.2.1
  obtain ⟨h1, h2, h3, h4, h5, ⟨L, km, a0, a1, a2, a3, a4, a5⟩, h6, h7, ⟨ld, b1, b2⟩, hc, hw, hs, hl⟩ := h
  unfold RowOk
  rw [sp_nc_upd (by omega), sp_nw_upd (by omega), sp_ns_upd (by omega), sp_nl_upd (by omega)]
  refine ⟨by rw [upd_ne (by omega)]; exact h1, by rw [upd_ne (by omega)]; exact h2, by rw [upd_ne (by omega)]; exact h3, by rw [upd_ne (by omega)]; exact h4, h5, ⟨L, km, by rw [upd_ne (by omega)]; exact a0, by rw [upd_ne (by omega)]; exact a1, a2, a3, a4, fun k hk => by rw [upd_ne (by omega)]; exact a5 k hk⟩, by rw [upd_ne (by omega)]; exact h6, by rw [upd_eq]; exact hb, ⟨ld, by rw [upd_ne (by omega)]; exact b1, b2⟩, fun k hk => ?_, fun k hk => ?_, fun k hk => ?_, fun k hk => ?_⟩
  · rw [upd_ne (by omega), upd_ne (by omega), upd_ne (by omega), upd_ne (by omega), upd_ne (by omega), upd_ne (by omega)]
    exact hc k hk
  · rw [upd_ne (by omega), upd_ne (by omega), upd_ne (by omega)]
    exact hw k hk
  · rw [upd_ne (by omega)]
    exact hs k hk
  · rw [upd_ne (by omega), upd_ne (by omega)]
    exact hl k hk
theorem RU_lead {r : Nat → Int32} {j : Nat} (h : RowOk r) (hj : j < sp_nc r) : RowOk (upd r 4 (nI j)) := by
  have hn := h.2.2.2.2.1
  obtain ⟨h1, h2, h3, h4, h5, ⟨L, km, a0, a1, a2, a3, a4, a5⟩, h6, h7, ⟨ld, b1, b2⟩, hc, hw, hs, hl⟩ := h
  unfold RowOk
  rw [sp_nc_upd (by omega), sp_nw_upd (by omega), sp_ns_upd (by omega), sp_nl_upd (by omega)]
  refine ⟨by rw [upd_ne (by omega)]; exact h1, by rw [upd_ne (by omega)]; exact h2, by rw [upd_ne (by omega)]; exact h3, by rw [upd_ne (by omega)]; exact h4, h5, ⟨L, km, by rw [upd_ne (by omega)]; exact a0, by rw [upd_ne (by omega)]; exact a1, a2, a3, a4, fun k hk => by rw [upd_ne (by omega)]; exact a5 k hk⟩, by rw [upd_ne (by omega)]; exact h6, by rw [upd_ne (by omega)]; exact h7, ⟨j, upd_eq, hj⟩, fun k hk => ?_, fun k hk => ?_, fun k hk => ?_, fun k hk => ?_⟩
  · rw [upd_ne (by omega), upd_ne (by omega), upd_ne (by omega), upd_ne (by omega), upd_ne (by omega), upd_ne (by omega)]
    exact hc k hk
  · rw [upd_ne (by omega), upd_ne (by omega), upd_ne (by omega)]
    exact hw k hk
  · rw [upd_ne (by omega)]
    exact hs k hk
  · rw [upd_ne (by omega), upd_ne (by omega)]
    exact hl k hk
theorem RU_water {r : Nat → Int32} {j t y : Nat} (h : RowOk r) (hj : j < sp_nc r) (ht : r (12 + 8 * j) = nI t) (ht9 : t ≤ 90) (hy : y ≤ t) : RowOk (upd r (13 + 8 * j) (nI y)) := by
  have hn := h.2.2.2.2.1
  obtain ⟨h1, h2, h3, h4, h5, ⟨L, km, a0, a1, a2, a3, a4, a5⟩, h6, h7, ⟨ld, b1, b2⟩, hc, hw, hs, hl⟩ := h
  unfold RowOk
  rw [sp_nc_upd (by omega), sp_nw_upd (by omega), sp_ns_upd (by omega), sp_nl_upd (by omega)]
  refine ⟨by rw [upd_ne (by omega)]; exact h1, by rw [upd_ne (by omega)]; exact h2, by rw [upd_ne (by omega)]; exact h3, by rw [upd_ne (by omega)]; exact h4, h5, ⟨L, km, by rw [upd_ne (by omega)]; exact a0, by rw [upd_ne (by omega)]; exact a1, a2, a3, a4, fun k hk => by rw [upd_ne (by omega)]; exact a5 k hk⟩, by rw [upd_ne (by omega)]; exact h6, by rw [upd_ne (by omega)]; exact h7, ⟨ld, by rw [upd_ne (by omega)]; exact b1, b2⟩, fun k hk => ?_, fun k hk => ?_, fun k hk => ?_, fun k hk => ?_⟩
  · by_cases e : k = j
    · subst e
      obtain ⟨q1, q2, ⟨t2, x2, q3, q4, q5, q6, q7⟩, q8, q9⟩ := hc k hk
      have et : t2 = t := nI_inj (by omega) (by omega) (q3.symm.trans ht)
      refine ⟨by rw [upd_ne (by omega)]; exact q1, by rw [upd_ne (by omega)]; exact q2, ⟨t2, y, by rw [upd_ne (by omega)]; exact q3, q4, q5, upd_eq, by omega⟩, by rw [upd_ne (by omega)]; exact q8, by rw [upd_ne (by omega), upd_ne (by omega)]; exact q9⟩
    · rw [upd_ne (by omega), upd_ne (by omega), upd_ne (by omega), upd_ne (by omega), upd_ne (by omega), upd_ne (by omega)]
      exact hc k hk
  · rw [upd_ne (by omega), upd_ne (by omega), upd_ne (by omega)]
    exact hw k hk
  · rw [upd_ne (by omega)]
    exact hs k hk
  · rw [upd_ne (by omega), upd_ne (by omega)]
    exact hl k hk
theorem RU_dry {r : Nat → Int32} {j d : Nat} (h : RowOk r) (hj : j < sp_nc r) (hd : d < 3) (ha : r (16 + 8 * j) < nI 3) : RowOk (upd r (16 + 8 * j) (nI d)) := by
  have hn := h.2.2.2.2.1
  obtain ⟨h1, h2, h3, h4, h5, ⟨L, km, a0, a1, a2, a3, a4, a5⟩, h6, h7, ⟨ld, b1, b2⟩, hc, hw, hs, hl⟩ := h
  unfold RowOk
  rw [sp_nc_upd (by omega), sp_nw_upd (by omega), sp_ns_upd (by omega), sp_nl_upd (by omega)]
  refine ⟨by rw [upd_ne (by omega)]; exact h1, by rw [upd_ne (by omega)]; exact h2, by rw [upd_ne (by omega)]; exact h3, by rw [upd_ne (by omega)]; exact h4, h5, ⟨L, km, by rw [upd_ne (by omega)]; exact a0, by rw [upd_ne (by omega)]; exact a1, a2, a3, a4, fun k hk => by rw [upd_ne (by omega)]; exact a5 k hk⟩, by rw [upd_ne (by omega)]; exact h6, by rw [upd_ne (by omega)]; exact h7, ⟨ld, by rw [upd_ne (by omega)]; exact b1, b2⟩, fun k hk => ?_, fun k hk => ?_, fun k hk => ?_, fun k hk => ?_⟩
  · by_cases e : k = j
    · subst e
      obtain ⟨q1, q2, ⟨t2, x2, q3, q4, q5, q6, q7⟩, q8, q9⟩ := hc k hk
      rw [if_pos ha] at q9
      refine ⟨by rw [upd_ne (by omega)]; exact q1, by rw [upd_ne (by omega)]; exact q2, ⟨t2, x2, by rw [upd_ne (by omega)]; exact q3, q4, q5, by rw [upd_ne (by omega)]; exact q6, q7⟩, by rw [upd_eq]; exact ⟨d, rfl, Nat.zero_le _, by omega⟩, by rw [upd_ne (by omega), upd_eq, if_pos (nI_lt hd (by decide))]; exact q9⟩
    · rw [upd_ne (by omega), upd_ne (by omega), upd_ne (by omega), upd_ne (by omega), upd_ne (by omega), upd_ne (by omega)]
      exact hc k hk
  · rw [upd_ne (by omega), upd_ne (by omega), upd_ne (by omega)]
    exact hw k hk
  · rw [upd_ne (by omega)]
    exact hs k hk
  · rw [upd_ne (by omega), upd_ne (by omega)]
    exact hl k hk
theorem RU_dead {r : Nat → Int32} {j : Nat} (h : RowOk r) (hj : j < sp_nc r) : RowOk (upd (upd (upd r (13 + 8 * j) (nI 0)) (16 + 8 * j) (nI 3)) (17 + 8 * j) (nI 1)) := by
  have hn := h.2.2.2.2.1
  obtain ⟨h1, h2, h3, h4, h5, ⟨L, km, a0, a1, a2, a3, a4, a5⟩, h6, h7, ⟨ld, b1, b2⟩, hc, hw, hs, hl⟩ := h
  unfold RowOk
  rw [sp_nc_upd (by omega), sp_nc_upd (by omega), sp_nc_upd (by omega), sp_nw_upd (by omega), sp_nw_upd (by omega), sp_nw_upd (by omega), sp_ns_upd (by omega), sp_ns_upd (by omega), sp_ns_upd (by omega), sp_nl_upd (by omega), sp_nl_upd (by omega), sp_nl_upd (by omega)]
  refine ⟨by rw [upd_ne (by omega), upd_ne (by omega), upd_ne (by omega)]; exact h1, by rw [upd_ne (by omega), upd_ne (by omega), upd_ne (by omega)]; exact h2, by rw [upd_ne (by omega), upd_ne (by omega), upd_ne (by omega)]; exact h3, by rw [upd_ne (by omega), upd_ne (by omega), upd_ne (by omega)]; exact h4, h5, ⟨L, km, by rw [upd_ne (by omega), upd_ne (by omega), upd_ne (by omega)]; exact a0, by rw [upd_ne (by omega), upd_ne (by omega), upd_ne (by omega)]; exact a1, a2, a3, a4, fun k hk => by rw [upd_ne (by omega), upd_ne (by omega), upd_ne (by omega)]; exact a5 k hk⟩, by rw [upd_ne (by omega), upd_ne (by omega), upd_ne (by omega)]; exact h6, by rw [upd_ne (by omega), upd_ne (by omega), upd_ne (by omega)]; exact h7, ⟨ld, by rw [upd_ne (by omega), upd_ne (by omega), upd_ne (by omega)]; exact b1, b2⟩, fun k hk => ?_, fun k hk => ?_, fun k hk => ?_, fun k hk => ?_⟩
  · by_cases e : k = j
    · subst e
      obtain ⟨q1, q2, ⟨t2, x2, q3, q4, q5, q6, q7⟩, q8, q9⟩ := hc k hk
      refine ⟨by rw [upd_ne (by omega), upd_ne (by omega), upd_ne (by omega)]; exact q1, by rw [upd_ne (by omega), upd_ne (by omega), upd_ne (by omega)]; exact q2, ⟨t2, 0, by rw [upd_ne (by omega), upd_ne (by omega), upd_ne (by omega)]; exact q3, q4, q5, by rw [upd_ne (by omega), upd_ne (by omega), upd_eq], Nat.zero_le _⟩, by rw [upd_ne (by omega), upd_eq]; exact ⟨3, rfl, by omega, by omega⟩, by rw [upd_eq, upd_ne (by omega), upd_eq, if_neg (nI_nlt (Nat.le_refl _) (by decide))]⟩
    · rw [upd_ne (by omega), upd_ne (by omega), upd_ne (by omega), upd_ne (by omega), upd_ne (by omega), upd_ne (by omega), upd_ne (by omega), upd_ne (by omega), upd_ne (by omega), upd_ne (by omega), upd_ne (by omega), upd_ne (by omega), upd_ne (by omega), upd_ne (by omega), upd_ne (by omega), upd_ne (by omega), upd_ne (by omega), upd_ne (by omega)]
      exact hc k hk
  · rw [upd_ne (by omega), upd_ne (by omega), upd_ne (by omega), upd_ne (by omega), upd_ne (by omega), upd_ne (by omega), upd_ne (by omega), upd_ne (by omega), upd_ne (by omega)]
    exact hw k hk
  · rw [upd_ne (by omega), upd_ne (by omega), upd_ne (by omega)]
    exact hs k hk
  · rw [upd_ne (by omega), upd_ne (by omega), upd_ne (by omega), upd_ne (by omega), upd_ne (by omega), upd_ne (by omega)]
    exact hl k hk
theorem RU_level {r : Nat → Int32} {j cap y : Nat} (h : RowOk r) (hj : j < sp_nw r) (ht : r (91 + 4 * j) = nI cap) (hcp : cap ≤ 999) (hy : y ≤ cap) : RowOk (upd r (93 + 4 * j) (nI y)) := by
  have hn := h.2.2.2.2.1
  obtain ⟨h1, h2, h3, h4, h5, ⟨L, km, a0, a1, a2, a3, a4, a5⟩, h6, h7, ⟨ld, b1, b2⟩, hc, hw, hs, hl⟩ := h
  unfold RowOk
  rw [sp_nc_upd (by omega), sp_nw_upd (by omega), sp_ns_upd (by omega), sp_nl_upd (by omega)]
  refine ⟨by rw [upd_ne (by omega)]; exact h1, by rw [upd_ne (by omega)]; exact h2, by rw [upd_ne (by omega)]; exact h3, by rw [upd_ne (by omega)]; exact h4, h5, ⟨L, km, by rw [upd_ne (by omega)]; exact a0, by rw [upd_ne (by omega)]; exact a1, a2, a3, a4, fun k hk => by rw [upd_ne (by omega)]; exact a5 k hk⟩, by rw [upd_ne (by omega)]; exact h6, by rw [upd_ne (by omega)]; exact h7, ⟨ld, by rw [upd_ne (by omega)]; exact b1, b2⟩, fun k hk => ?_, fun k hk => ?_, fun k hk => ?_, fun k hk => ?_⟩
  · rw [upd_ne (by omega), upd_ne (by omega), upd_ne (by omega), upd_ne (by omega), upd_ne (by omega), upd_ne (by omega)]
    exact hc k hk
  · by_cases e : k = j
    · subst e
      obtain ⟨c2, l2, q1, q2, q3, q4, q5⟩ := hw k hk
      have et : c2 = cap := nI_inj (by omega) (by omega) (q1.symm.trans ht)
      exact ⟨c2, y, by rw [upd_ne (by omega)]; exact q1, q2, upd_eq, by omega, by rw [upd_ne (by omega)]; exact q5⟩
    · rw [upd_ne (by omega), upd_ne (by omega), upd_ne (by omega)]
      exact hw k hk
  · rw [upd_ne (by omega)]
    exact hs k hk
  · rw [upd_ne (by omega), upd_ne (by omega)]
    exact hl k hk
theorem RU_car {r : Nat → Int32} {j : Nat} {y : Int32} (h : RowOk r) (hj : j < sp_nl r) (hy : y = -1 ∨ ∃ m : Nat, y = nI m ∧ m < sp_nc r) : RowOk (upd r (142 + 4 * j) y) := by
  have hn := h.2.2.2.2.1
  obtain ⟨h1, h2, h3, h4, h5, ⟨L, km, a0, a1, a2, a3, a4, a5⟩, h6, h7, ⟨ld, b1, b2⟩, hc, hw, hs, hl⟩ := h
  unfold RowOk
  rw [sp_nc_upd (by omega), sp_nw_upd (by omega), sp_ns_upd (by omega), sp_nl_upd (by omega)]
  refine ⟨by rw [upd_ne (by omega)]; exact h1, by rw [upd_ne (by omega)]; exact h2, by rw [upd_ne (by omega)]; exact h3, by rw [upd_ne (by omega)]; exact h4, h5, ⟨L, km, by rw [upd_ne (by omega)]; exact a0, by rw [upd_ne (by omega)]; exact a1, a2, a3, a4, fun k hk => by rw [upd_ne (by omega)]; exact a5 k hk⟩, by rw [upd_ne (by omega)]; exact h6, by rw [upd_ne (by omega)]; exact h7, ⟨ld, by rw [upd_ne (by omega)]; exact b1, b2⟩, fun k hk => ?_, fun k hk => ?_, fun k hk => ?_, fun k hk => ?_⟩
  · rw [upd_ne (by omega), upd_ne (by omega), upd_ne (by omega), upd_ne (by omega), upd_ne (by omega), upd_ne (by omega)]
    exact hc k hk
  · rw [upd_ne (by omega), upd_ne (by omega), upd_ne (by omega)]
    exact hw k hk
  · rw [upd_ne (by omega)]
    exact hs k hk
  · by_cases e : k = j
    · subst e
      obtain ⟨q1, q2⟩ := hl k hk
      exact ⟨by rw [upd_ne (by omega)]; exact q1, by rw [upd_eq]; exact hy⟩
    · rw [upd_ne (by omega), upd_ne (by omega)]
      exact hl k hk
