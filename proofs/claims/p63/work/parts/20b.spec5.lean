theorem sp_min_nI {a b : Nat} (ha : a < 2 ^ 31) (hb : b < 2 ^ 31) : sp_min (nI a) (nI b) = nI (min a b) := by
  unfold sp_min
  by_cases h : b < a
  · rw [if_pos ((nI_ltI hb ha).mpr h), Nat.min_eq_right (by omega)]
  · rw [if_neg (fun e => h ((nI_ltI hb ha).mp e)), Nat.min_eq_left (by omega)]
theorem sp_fillTo_congr {r d d' : Nat → Int32} (k : Nat) (h : ∀ m : Nat, m < k → d m = d' m) : sp_fillTo r d k = sp_fillTo r d' k := by
  induction k with
  | zero => rfl
  | succ k ih => simp only [sp_fillTo, ih (fun m hm => h m (Nat.lt_succ_of_lt hm)), h k (Nat.lt_succ_self k)]
theorem sp_sumTo_congr {d d' : Nat → Int32} (k : Nat) (h : ∀ m : Nat, m < k → d m = d' m) : sp_sumTo d k = sp_sumTo d' k := by
  induction k with
  | zero => rfl
  | succ k ih => simp only [sp_sumTo, ih (fun m hm => h m (Nat.lt_succ_of_lt hm)), h k (Nat.lt_succ_self k)]
theorem sp_drink_congr {r d d' : Nat → Int32} {w : Nat} (h : ∀ m : Nat, m < sp_nc r → d m = d' m) : sp_drink r d w = sp_drink r d' w := by
  unfold sp_drink
  rw [sp_fillTo_congr _ h, sp_sumTo_congr _ h]
