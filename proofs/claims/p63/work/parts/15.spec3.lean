theorem sp_thirstTo_or (r : Nat → Int32) (k : Nat) : sp_thirstTo r k = -1 ∨ ∃ m : Nat, sp_thirstTo r k = nI m ∧ m < k := by
  induction k with
  | zero => exact Or.inl rfl
  | succ k ih =>
    by_cases h : r (16 + 8 * k) < nI 3 ∧ (sp_thirstTo r k < 0 ∨ r (13 + 8 * k) < r (13 + 8 * (sp_thirstTo r k).toNatClampNeg))
    · rw [sp_thirstTo_t h]; exact Or.inr ⟨k, rfl, Nat.lt_succ_self k⟩
    · rw [sp_thirstTo_f h]
      rcases ih with e | ⟨m, e, hm⟩
      · exact Or.inl e
      · exact Or.inr ⟨m, e, Nat.lt_succ_of_lt hm⟩
theorem sp_fastTo_or (r : Nat → Int32) (k : Nat) : sp_fastTo r k = -1 ∨ ∃ m : Nat, sp_fastTo r k = nI m ∧ m < k ∧ r (16 + 8 * m) < nI 3 := by
  induction k with
  | zero => exact Or.inl rfl
  | succ k ih =>
    by_cases h : r (16 + 8 * k) < nI 3 ∧ (sp_fastTo r k < 0 ∨ sp_speed r (sp_fastTo r k).toNatClampNeg < sp_speed r k)
    · rw [sp_fastTo_t h]; exact Or.inr ⟨k, rfl, Nat.lt_succ_self k, h.1⟩
    · rw [sp_fastTo_f h]
      rcases ih with e | ⟨m, e, hm, ha⟩
      · exact Or.inl e
      · exact Or.inr ⟨m, e, Nat.lt_succ_of_lt hm, ha⟩
theorem sp_behindTo_or (r : Nat → Int32) (x : Int32) (k : Nat) : sp_behindTo r x k = -1 ∨ ∃ m : Nat, sp_behindTo r x k = nI m ∧ m < k ∧ x < r (90 + 4 * m) := by
  induction k with
  | zero => exact Or.inl rfl
  | succ k ih =>
    by_cases h : x < r (90 + 4 * k) ∧ (sp_behindTo r x k < 0 ∨ r (90 + 4 * k) < r (90 + 4 * (sp_behindTo r x k).toNatClampNeg))
    · rw [sp_behindTo_t h]; exact Or.inr ⟨k, rfl, Nat.lt_succ_self k, h.1⟩
    · rw [sp_behindTo_f h]
      rcases ih with e | ⟨m, e, hm⟩
      · exact Or.inl e
      · exact Or.inr ⟨m, e, Nat.lt_succ_of_lt hm.1, hm.2⟩
theorem sp_max_le {x y : Int32} : x ≤ sp_max x y := by
  unfold sp_max
  split
  · rename_i h; exact Int32.le_of_lt h
  · exact Int32.le_refl x
theorem sp_speed_pos (r : Nat → Int32) (j : Nat) : 0 < sp_speed r j := Int32.lt_of_lt_of_le (show (0 : Int32) < nI 5 by decide) sp_max_le
def sp_dist (r : Nat → Int32) (ld : Nat) : Int32 := if r 3 = 1 ∧ ¬ sp_behind r (r 1) < 0 then sp_min (sp_min (sp_speed r ld * (nI 10 - sp_storm r (r 2)) / nI 10) (r 0 - r 1)) (r (90 + 4 * (sp_behind r (r 1)).toNatClampNeg) - r 1) else sp_min (sp_speed r ld * (nI 10 - sp_storm r (r 2)) / nI 10) (r 0 - r 1)
theorem sp_cok_of {r r' : Nat → Int32} {k : Nat} (h : sp_cok r k) (h1 : r' (142 + 4 * k) = r (142 + 4 * k)) (h2 : sp_nc r' = sp_nc r) : sp_cok r' k := by
  unfold sp_cok at h ⊢
  rw [h1, h2]
  exact h
theorem cok_lay {r : Nat → Int32} {k m : Nat} (h : sp_cok r m) : sp_cok (sp_lay r k) m := by
  by_cases e : m = k
  · left
    rw [e]
    unfold sp_lay
    rw [upd_ne (by omega), upd_eq]
  · refine sp_cok_of h ?_ (sc_lay r k).1
    unfold sp_lay
    rw [upd_ne (by omega), upd_ne (by omega)]
theorem cok_drop {r : Nat → Int32} {j k m : Nat} (h : sp_cok r m) : sp_cok (sp_dropTo r j k) m := by
  induction k with
  | zero => exact h
  | succ k ih =>
    by_cases e : sp_dropTo r j k (142 + 4 * k) = nI j
    · rw [sp_dropTo_t e]; exact cok_lay ih
    · rw [sp_dropTo_f e]; exact ih
theorem cok_up {r : Nat → Int32} {i m : Nat} {x : Int32} (h : sp_cok r m) (hi : i ≠ 6 ∧ i ≠ 142 + 4 * m) : sp_cok (upd r i x) m := sp_cok_of h (upd_ne (Ne.symm hi.2)) (sp_nc_upd hi.1)
theorem drop_lo {r : Nat → Int32} {j k i : Nat} (hi : i < 142) : sp_dropTo r j k i = r i := by
  induction k with
  | zero => rfl
  | succ k ih =>
    by_cases e : sp_dropTo r j k (142 + 4 * k) = nI j
    · rw [sp_dropTo_t e]
      unfold sp_lay
      rw [upd_ne (by omega), upd_ne (by omega), ih]
    · rw [sp_dropTo_f e, ih]
theorem drain_a {r : Nat → Int32} {j : Nat} {x : Int32} (h : x ≤ r (13 + 8 * j)) : sp_drain r j x = upd (upd r (13 + 8 * j) (r (13 + 8 * j) - x)) (16 + 8 * j) (nI 0) := if_pos h
theorem drain_b {r : Nat → Int32} {j : Nat} {x : Int32} (h : ¬ x ≤ r (13 + 8 * j)) (h2 : r (16 + 8 * j) + nI 1 = nI 3) : sp_drain r j x = sp_die (sp_dry r j) j := by
  unfold sp_drain
  rw [if_neg h, if_pos h2]
theorem drain_c {r : Nat → Int32} {j : Nat} {x : Int32} (h : ¬ x ≤ r (13 + 8 * j)) (h2 : ¬ r (16 + 8 * j) + nI 1 = nI 3) : sp_drain r j x = sp_dry r j := by
  unfold sp_drain
  rw [if_neg h, if_neg h2]
theorem dry_at {r : Nat → Int32} {j : Nat} : sp_dry r j (16 + 8 * j) = r (16 + 8 * j) + nI 1 := upd_eq
def sp_lead (r : Nat → Int32) : Nat → Int32 := if r (16 + 8 * (r 4).toNatClampNeg) < nI 3 then r else if sp_fast r < 0 then r else upd r 4 (sp_fast r)
def sp_wellsTo (r : Nat → Int32) : Nat → Nat → Int32
  | 0 => r
  | k + 1 => upd (sp_wellsTo r k) (93 + 4 * k) (sp_min (sp_wellsTo r k (91 + 4 * k)) (sp_wellsTo r k (93 + 4 * k) + sp_wellsTo r k (92 + 4 * k)))
def sp_endDay (r : Nat → Int32) : Nat → Int32 := upd (sp_wellsTo (sp_lead r) (sp_nw r)) 2 (sp_wellsTo (sp_lead r) (sp_nw r) 2 + nI 1)
def sp_goTo (r : Nat → Int32) (ls st : Int32) : Nat → Nat → Int32
  | 0 => r
  | k + 1 => if sp_goTo r ls st k (16 + 8 * k) < nI 3 then sp_drain (sp_limp (sp_strain (sp_goTo r ls st k) k (ls - sp_speed (sp_goTo r ls st k) k)) k) k (sp_need (sp_limp (sp_strain (sp_goTo r ls st k) k (ls - sp_speed (sp_goTo r ls st k) k)) k) k st) else sp_goTo r ls st k
def sp_travel (r : Nat → Int32) (ld : Nat) : Nat → Int32 := sp_endDay (sp_goTo (upd r 1 (r 1 + sp_dist r ld)) (sp_speed r ld) (sp_storm r (r 2)) (sp_nc r))
def sp_restTo (r : Nat → Int32) (st : Int32) : Nat → Nat → Int32
  | 0 => r
  | k + 1 => if sp_restTo r st k (16 + 8 * k) < nI 3 then sp_drain (sp_limp (sp_strain (sp_restTo r st k) k (nI 0)) k) k ((sp_need (sp_limp (sp_strain (sp_restTo r st k) k (nI 0)) k) k st + nI 1) / nI 2) else sp_restTo r st k
def sp_rest (r : Nat → Int32) : Nat → Int32 := sp_endDay (sp_restTo r (sp_storm r (r 2)) (sp_nc r))
theorem sc_lead (r : Nat → Int32) : sp_sc r (sp_lead r) := by
  unfold sp_lead
  split
  · exact sp_sc.rf
  · split
    · exact sp_sc.rf
    · exact sp_sc.rf.up (by omega)
theorem sc_wells (r : Nat → Int32) (k : Nat) : sp_sc r (sp_wellsTo r k) := by
  induction k with
  | zero => exact sp_sc.rf
  | succ k ih => exact ih.up (by omega)
theorem sc_endDay (r : Nat → Int32) : sp_sc r (sp_endDay r) := ((sc_lead r).tr (sc_wells _ _)).up (by omega)
theorem sc_go (r : Nat → Int32) (ls st : Int32) (k : Nat) : sp_sc r (sp_goTo r ls st k) := by
  induction k with
  | zero => exact sp_sc.rf
  | succ k ih =>
    unfold sp_goTo
    split
    · exact ((ih.tr (sc_strain _ _ _)).tr (sc_limp _ _)).tr (sc_drain _ _ _)
    · exact ih
theorem sc_restTo (r : Nat → Int32) (st : Int32) (k : Nat) : sp_sc r (sp_restTo r st k) := by
  induction k with
  | zero => exact sp_sc.rf
  | succ k ih =>
    unfold sp_restTo
    split
    · exact ((ih.tr (sc_strain _ _ _)).tr (sc_limp _ _)).tr (sc_drain _ _ _)
    · exact ih
/-- what the walk through a day needs of the row at each camel -/
def RowW (r : Nat → Int32) : Prop := (∀ m : Nat, m < sp_nc r → sp_in (r (16 + 8 * m)) 0 3) ∧ ∀ k : Nat, k < sp_nl r → sp_cok r k
theorem RowW.up {r : Nat → Int32} {i : Nat} {x : Int32} (h : RowW r) (hi : i < 140 ∧ i ≠ 6 ∧ i ≠ 9) (hd : ∀ m : Nat, m < sp_nc r → i ≠ 16 + 8 * m) : RowW (upd r i x) := by
  unfold RowW
  rw [sp_nc_upd hi.2.1, sp_nl_upd hi.2.2]
  exact ⟨fun m hm => by rw [upd_ne (Ne.symm (hd m hm))]; exact h.1 m hm, fun k hk => cok_up (h.2 k hk) (by omega)⟩
theorem RowW.dry {r : Nat → Int32} {j d : Nat} (h : RowW r) (hc : sp_nc r ≤ 10) (hj : j < sp_nc r) (hd : d ≤ 3) : RowW (upd r (16 + 8 * j) (nI d)) := by
  unfold RowW
  rw [sp_nc_upd (by omega), sp_nl_upd (by omega)]
  refine ⟨fun m hm => ?_, fun k hk => cok_up (h.2 k hk) (by omega)⟩
  by_cases e : m = j
  · rw [e, upd_eq]; exact ⟨d, rfl, Nat.zero_le _, hd⟩
  · rw [upd_ne (by omega)]; exact h.1 m hm
theorem RowW.strain {r : Nat → Int32} {j : Nat} {b : Int32} (h : RowW r) (hc : sp_nc r ≤ 10) (hj : j < sp_nc r) : RowW (sp_strain r j b) := by
  unfold sp_strain
  split <;> exact h.up (by omega) (fun m _ => by omega)
theorem RowW.limp {r : Nat → Int32} {j : Nat} (h : RowW r) (hc : sp_nc r ≤ 10) (hj : j < sp_nc r) : RowW (sp_limp r j) := by
  unfold sp_limp
  split
  · refine RowW.up (h.up (by omega) (fun m _ => by omega)) (by omega) (fun m _ => by omega)
  · split
    · exact h.up (by omega) (fun m _ => by omega)
    · exact h
theorem RowW.drop {r : Nat → Int32} {j k : Nat} (h : RowW r) (hc : sp_nc r ≤ 10) : RowW (sp_dropTo r j k) := by
  have s := sc_drop r j k
  unfold RowW
  rw [s.1, s.2.2.2]
  exact ⟨fun m hm => by rw [drop_lo (by omega)]; exact h.1 m hm, fun i hi => cok_drop (h.2 i hi)⟩
theorem nI_add1 {d : Nat} : nI d + nI 1 = nI (d + 1) := nI_add d 1
theorem RowW.drain {r : Nat → Int32} {j : Nat} {x : Int32} (h : RowW r) (hc : sp_nc r ≤ 10) (hj : j < sp_nc r) (ha : r (16 + 8 * j) < nI 3) : RowW (sp_drain r j x) := by
  obtain ⟨d, hd, -, hd3⟩ := h.1 j hj
  have hlt : d < 3 := by
    rw [hd] at ha
    exact (nI_ltI (by omega) (by omega)).mp ha
  have hdry : RowW (sp_dry r j) := by
    unfold sp_dry
    rw [hd, nI_add1]
    refine RowW.dry (h.up (by omega) (fun m _ => by omega)) ?_ ?_ (by omega) <;> rw [sp_nc_upd (by omega)] <;> assumption
  have s := sc_dry r j
  unfold sp_drain
  split
  · refine RowW.dry (h.up (by omega) (fun m _ => by omega)) ?_ ?_ (by omega) <;> rw [sp_nc_upd (by omega)] <;> assumption
  · split
    · unfold sp_die
      refine RowW.drop (hdry.up (by omega) (fun m _ => by omega)) ?_
      rw [sp_nc_upd (by omega), s.1]
      exact hc
    · exact hdry
theorem sp_goTo_t {r : Nat → Int32} {ls st : Int32} {k : Nat} (h : sp_goTo r ls st k (16 + 8 * k) < nI 3) : sp_goTo r ls st (k + 1) = sp_drain (sp_limp (sp_strain (sp_goTo r ls st k) k (ls - sp_speed (sp_goTo r ls st k) k)) k) k (sp_need (sp_limp (sp_strain (sp_goTo r ls st k) k (ls - sp_speed (sp_goTo r ls st k) k)) k) k st) := if_pos h
theorem sp_goTo_f {r : Nat → Int32} {ls st : Int32} {k : Nat} (h : ¬ sp_goTo r ls st k (16 + 8 * k) < nI 3) : sp_goTo r ls st (k + 1) = sp_goTo r ls st k := if_neg h
theorem sp_restTo_t {r : Nat → Int32} {st : Int32} {k : Nat} (h : sp_restTo r st k (16 + 8 * k) < nI 3) : sp_restTo r st (k + 1) = sp_drain (sp_limp (sp_strain (sp_restTo r st k) k (nI 0)) k) k ((sp_need (sp_limp (sp_strain (sp_restTo r st k) k (nI 0)) k) k st + nI 1) / nI 2) := if_pos h
theorem sp_restTo_f {r : Nat → Int32} {st : Int32} {k : Nat} (h : ¬ sp_restTo r st k (16 + 8 * k) < nI 3) : sp_restTo r st (k + 1) = sp_restTo r st k := if_neg h
theorem strain_at {r : Nat → Int32} {j i : Nat} {b : Int32} (h : i ≠ 14 + 8 * j) : sp_strain r j b i = r i := by
  unfold sp_strain
  split <;> exact upd_ne h
theorem limp_at {r : Nat → Int32} {j i : Nat} (h : i ≠ 14 + 8 * j ∧ i ≠ 15 + 8 * j) : sp_limp r j i = r i := by
  unfold sp_limp
  split
  · rw [upd_ne h.1, upd_ne h.2]
  · split
    · exact upd_ne h.2
    · rfl
