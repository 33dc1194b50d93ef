/-! ===== of legal rows, from the rows of whole ===== -/
def RowB (r : Nat → Int32) : Prop := (r 6 = nI (sp_nc r) ∧ r 7 = nI (sp_nw r) ∧ r 8 = nI (sp_ns r) ∧ r 9 = nI (sp_nl r)) ∧ sp_nc r ≤ 10 ∧ sp_nw r ≤ 8 ∧ sp_ns r ≤ 6 ∧ sp_nl r ≤ 20
theorem RowOk.B {r : Nat → Int32} (h : RowOk r) : RowB r := ⟨⟨h.1, h.2.1, h.2.2.1, h.2.2.2.1⟩, h.2.2.2.2.1.2⟩
theorem RowB.up {r : Nat → Int32} {i : Nat} {x : Int32} (h : RowB r) (hi : i ≠ 6 ∧ i ≠ 7 ∧ i ≠ 8 ∧ i ≠ 9) : RowB (upd r i x) := by
  obtain ⟨⟨h6, h7, h8, h9⟩, hb⟩ := h
  unfold RowB
  rw [sp_nc_upd hi.1, sp_nw_upd hi.2.1, sp_ns_upd hi.2.2.1, sp_nl_upd hi.2.2.2]
  exact ⟨⟨(upd_ne (by omega)).trans h6, (upd_ne (by omega)).trans h7, (upd_ne (by omega)).trans h8, (upd_ne (by omega)).trans h9⟩, hb⟩
theorem RowB.c6 {r : Nat → Int32} {k : Nat} (h : RowB r) (hk : k ≤ 10) : RowB (upd r 6 (nI k)) := by
  obtain ⟨⟨h6, h7, h8, h9⟩, hb⟩ := h
  have e : sp_nc (upd r 6 (nI k)) = k := by unfold sp_nc; rw [upd_eq, nI_clamp (by omega)]
  unfold RowB
  rw [e, sp_nw_upd (by omega), sp_ns_upd (by omega), sp_nl_upd (by omega), upd_eq, upd_ne (by omega), upd_ne (by omega), upd_ne (by omega)]
  exact ⟨⟨rfl, h7, h8, h9⟩, hk, hb.2⟩
theorem RowB.c7 {r : Nat → Int32} {k : Nat} (h : RowB r) (hk : k ≤ 8) : RowB (upd r 7 (nI k)) := by
  obtain ⟨⟨h6, h7, h8, h9⟩, hb⟩ := h
  have e : sp_nw (upd r 7 (nI k)) = k := by unfold sp_nw; rw [upd_eq, nI_clamp (by omega)]
  unfold RowB
  rw [e, sp_nc_upd (by omega), sp_ns_upd (by omega), sp_nl_upd (by omega), upd_eq, upd_ne (by omega), upd_ne (by omega), upd_ne (by omega)]
  exact ⟨⟨h6, rfl, h8, h9⟩, hb.1, hk, hb.2.2⟩
theorem RowB.c8 {r : Nat → Int32} {k : Nat} (h : RowB r) (hk : k ≤ 6) : RowB (upd r 8 (nI k)) := by
  obtain ⟨⟨h6, h7, h8, h9⟩, hb⟩ := h
  have e : sp_ns (upd r 8 (nI k)) = k := by unfold sp_ns; rw [upd_eq, nI_clamp (by omega)]
  unfold RowB
  rw [e, sp_nc_upd (by omega), sp_nw_upd (by omega), sp_nl_upd (by omega), upd_eq, upd_ne (by omega), upd_ne (by omega), upd_ne (by omega)]
  exact ⟨⟨h6, h7, rfl, h9⟩, hb.1, hb.2.1, hk, hb.2.2.2⟩
theorem RowB.c9 {r : Nat → Int32} {k : Nat} (h : RowB r) (hk : k ≤ 20) : RowB (upd r 9 (nI k)) := by
  obtain ⟨⟨h6, h7, h8, h9⟩, hb⟩ := h
  have e : sp_nl (upd r 9 (nI k)) = k := by unfold sp_nl; rw [upd_eq, nI_clamp (by omega)]
  unfold RowB
  rw [e, sp_nc_upd (by omega), sp_nw_upd (by omega), sp_ns_upd (by omega), upd_eq, upd_ne (by omega), upd_ne (by omega), upd_ne (by omega)]
  exact ⟨⟨h6, h7, h8, rfl⟩, hb.1, hb.2.1, hb.2.2.1, hk⟩
theorem RowB.camel {r : Nat → Int32} {x y z : Int32} (h : RowB r) (hn : sp_nc r < 10) : RowB (sp_addCamel r x y z) := by
  unfold sp_addCamel
  exact RowB.c6 ((((h.up (by omega)).up (by omega)).up (by omega)).up (by omega)) (by omega)
theorem RowB.well {r : Nat → Int32} {x y z : Int32} (h : RowB r) (hn : sp_nw r < 8) : RowB (sp_addWell r x y z) := by
  unfold sp_addWell
  exact RowB.c7 ((((h.up (by omega)).up (by omega)).up (by omega)).up (by omega)) (by omega)
theorem RowB.storm {r : Nat → Int32} {x y z : Int32} (h : RowB r) (hn : sp_ns r < 6) : RowB (sp_addStorm r x y z) := by
  unfold sp_addStorm
  exact RowB.c8 (((h.up (by omega)).up (by omega)).up (by omega)) (by omega)
theorem RowB.bring {r : Nat → Int32} {x y : Int32} (h : RowB r) (hn : sp_nl r < 20) : RowB (sp_bring r x y) := by
  unfold sp_bring
  exact RowB.c9 ((((h.up (by omega)).up (by omega)).up (by omega)).up (by omega)) (by omega)
theorem md_sum_upd0 {d : Nat → Int32} {m : Nat} {x : Int32} : ∀ n : Nat, n ≤ m → sp_sumTo (upd d m x) n = sp_sumTo d n := by
  intro n
  induction n with
  | zero => intro _; rfl
  | succ n ih =>
    intro h
    simp only [sp_sumTo, ih (by omega), upd_ne (f := d) (i := m) (j := n) (x := x) (by omega)]
theorem md_sum_upd {d : Nat → Int32} {m : Nat} {x : Int32} (h : d m = -1) (hx : ¬ x = -1) : ∀ n : Nat, m < n → sp_sumTo (upd d m x) n = sp_sumTo d n + x := by
  intro n
  induction n with
  | zero => intro h; omega
  | succ n ih =>
    intro hn
    by_cases e : n = m
    · subst e
      rw [sp_sumTo_f (by rw [upd_eq]; exact hx), sp_sumTo_t h, upd_eq, md_sum_upd0 n (Nat.le_refl _)]
    · have i := ih (by omega)
      by_cases q : d n = -1
      · rw [sp_sumTo_t (by rw [upd_ne e]; exact q), sp_sumTo_t q, i]
      · rw [sp_sumTo_f (by rw [upd_ne e]; exact q), sp_sumTo_f q, i, upd_ne e, Int32.add_assoc, Int32.add_comm x, ← Int32.add_assoc]
theorem md_sum_none {d : Nat → Int32} : ∀ n : Nat, (∀ m : Nat, m < n → d m = -1) → sp_sumTo d n = nI 0 := by
  intro n
  induction n with
  | zero => intro _; rfl
  | succ n ih => intro h; rw [sp_sumTo_t (h n (by omega))]; exact ih (fun m hm => h m (by omega))
theorem md_next_none {r d : Nat → Int32} : ∀ n : Nat, n < 2 ^ 31 → sp_nextTo r d n = -1 → ∀ m : Nat, m < n → r (16 + 8 * m) < nI 3 → ¬ d m < 0 := by
  intro n
  induction n with
  | zero => intro _ _ m hm; omega
  | succ n ih =>
    intro hb h m hm ha hd
    by_cases q : r (16 + 8 * n) < nI 3 ∧ d n < 0 ∧ (sp_nextTo r d n < 0 ∨ r (13 + 8 * n) < r (13 + 8 * (sp_nextTo r d n).toNatClampNeg))
    · rw [sp_nextTo_t q] at h
      exact nI_m1 (by omega) h
    · rw [sp_nextTo_f q] at h
      by_cases e : m = n
      · subst e
        exact q ⟨ha, hd, Or.inl (by rw [h]; decide)⟩
      · exact ih (by omega) h m (by omega) ha hd
