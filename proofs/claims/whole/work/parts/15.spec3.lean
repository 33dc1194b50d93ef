theorem sp_thirstTo_or (r : Nat → Int32) (k : Nat) : sp_thirstTo r k = -1 ∨ ∃ m : Nat, sp_thirstTo r k = nI m ∧ m < k := by
  induction k with
  | zero => exact Or.inl rfl
  | succ k ih =>
    by_cases h : r (16 + 8 * k) < nI 3 ∧ (sp_thirstTo r k < 0 ∨ r (13 + 8 * k) < r (13 + 8 * (sp_thirstTo r k).toNatClampNeg))
    · rw [sp_thirstTo_t h]; exact Or.inr ⟨k, rfl, Nat.lt_succ_self k⟩
    · rw [sp_thirstTo_f h]
      rcases ih with e | ⟨m, e, hm⟩
      · exact Or.inl e
      · exact Or.inr ⟨m, e, Nat.lt_succ_of_lt hm⟩
theorem sp_fastTo_or (r : Nat → Int32) (k : Nat) : sp_fastTo r k = -1 ∨ ∃ m : Nat, sp_fastTo r k = nI m ∧ m < k ∧ r (16 + 8 * m) < nI 3 := by
  induction k with
  | zero => exact Or.inl rfl
  | succ k ih =>
    by_cases h : r (16 + 8 * k) < nI 3 ∧ (sp_fastTo r k < 0 ∨ sp_speed r (sp_fastTo r k).toNatClampNeg < sp_speed r k)
    · rw [sp_fastTo_t h]; exact Or.inr ⟨k, rfl, Nat.lt_succ_self k, h.1⟩
    · rw [sp_fastTo_f h]
      rcases ih with e | ⟨m, e, hm, ha⟩
      · exact Or.inl e
      · exact Or.inr ⟨m, e, Nat.lt_succ_of_lt hm, ha⟩
theorem sp_behindTo_or (r : Nat → Int32) (x : Int32) (k : Nat) : sp_behindTo r x k = -1 ∨ ∃ m : Nat, sp_behindTo r x k = nI m ∧ m < k ∧ x < r (90 + 4 * m) := by
  induction k with
  | zero => exact Or.inl rfl
  | succ k ih =>
    by_cases h : x < r (90 + 4 * k) ∧ (sp_behindTo r x k < 0 ∨ r (90 + 4 * k) < r (90 + 4 * (sp_behindTo r x k).toNatClampNeg))
    · rw [sp_behindTo_t h]; exact Or.inr ⟨k, rfl, Nat.lt_succ_self k, h.1⟩
    · rw [sp_behindTo_f h]
      rcases ih with e | ⟨m, e, hm⟩
      · exact Or.inl e
      · exact Or.inr ⟨m, e, Nat.lt_succ_of_lt hm.1, hm.2⟩
theorem sp_max_le {x y : Int32} : x ≤ sp_max x y := by
  unfold sp_max
  split
  · rename_i h; exact Int32.le_of_lt h
  · exact Int32.le_refl x
theorem sp_speed_pos (r : Nat → Int32) (j : Nat) : 0 < sp_speed r j := Int32.lt_of_lt_of_le (show (0 : Int32) < nI 5 by decide) sp_max_le
def sp_dist (r : Nat → Int32) (ld : Nat) : Int32 := if r 3 = 1 ∧ ¬ sp_behind r (r 1) < 0 then sp_min (sp_min (sp_speed r ld * (nI 10 - sp_storm r (r 2)) / nI 10) (r 0 - r 1)) (r (90 + 4 * (sp_behind r (r 1)).toNatClampNeg) - r 1) else sp_min (sp_speed r ld * (nI 10 - sp_storm r (r 2)) / nI 10) (r 0 - r 1)
