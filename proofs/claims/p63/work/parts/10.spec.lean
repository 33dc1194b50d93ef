/-! ===== what the answers are: numbers read off a row (the reference's own 220 ints); relations of the class's cells to a row ===== -/
def sp_nc (r : Nat → Int32) : Nat := (r 6).toNatClampNeg
def sp_nw (r : Nat → Int32) : Nat := (r 7).toNatClampNeg
def sp_ns (r : Nat → Int32) : Nat := (r 8).toNatClampNeg
def sp_nl (r : Nat → Int32) : Nat := (r 9).toNatClampNeg
def sp_max (x y : Int32) : Int32 := if x < y then y else x
def sp_min (x y : Int32) : Int32 := if y < x then y else x
def sp_stormTo (r : Nat → Int32) (d : Int32) : Nat → Int32
  | 0 => nI 0
  | k + 1 => if r (122 + 3 * k) ≤ d ∧ d ≤ r (123 + 3 * k) then sp_max (sp_stormTo r d k) (r (124 + 3 * k)) else sp_stormTo r d k
def sp_storm (r : Nat → Int32) (d : Int32) : Int32 := sp_stormTo r d (sp_ns r)
/-- the first well at a kilometre, from k on, n still to look at -/
def sp_wellFrom (r : Nat → Int32) (x : Int32) (k : Nat) : Nat → Int32
  | 0 => -1
  | n + 1 => if r (90 + 4 * k) = x then nI k else sp_wellFrom r x (k + 1) n
def sp_wellOn (r : Nat → Int32) (x : Int32) : Int32 := sp_wellFrom r x 0 (sp_nw r)
/-- the nearest well behind a kilometre, of the first k: its number, or -1 -/
def sp_behindTo (r : Nat → Int32) (x : Int32) : Nat → Int32
  | 0 => -1
  | k + 1 => if x < r (90 + 4 * k) ∧ (sp_behindTo r x k < 0 ∨ r (90 + 4 * k) < r (90 + 4 * (sp_behindTo r x k).toNatClampNeg)) then nI k else sp_behindTo r x k
def sp_behind (r : Nat → Int32) (x : Int32) : Int32 := sp_behindTo r x (sp_nw r)
def sp_alive (r : Nat → Int32) (j : Nat) : Prop := r (16 + 8 * j) < nI 3
def sp_livingTo (r : Nat → Int32) : Nat → Nat
  | 0 => 0
  | k + 1 => if r (16 + 8 * k) < nI 3 then sp_livingTo r k + 1 else sp_livingTo r k
def sp_living (r : Nat → Int32) : Nat := sp_livingTo r (sp_nc r)
theorem sp_livingTo_le (r : Nat → Int32) (k : Nat) : sp_livingTo r k ≤ k := by
  induction k with
  | zero => exact Nat.le_refl _
  | succ k ih =>
    simp only [sp_livingTo]
    split <;> omega
def sp_carTo (r : Nat → Int32) (c : Int32) : Nat → Int32
  | 0 => nI 0
  | k + 1 => if r (142 + 4 * k) = c then sp_carTo r c k + r (140 + 4 * k) else sp_carTo r c k
def sp_car (r : Nat → Int32) (j : Nat) : Int32 := sp_carTo r (nI j) (sp_nl r)
def sp_free (r : Nat → Int32) (j : Nat) : Int32 := r (11 + 8 * j) * nI 20 - sp_car r j
def sp_speed (r : Nat → Int32) (j : Nat) : Int32 := sp_max (nI 5) ((if nI 0 < r (15 + 8 * j) then r (10 + 8 * j) / nI 2 else r (10 + 8 * j)) - sp_car r j / nI 10)
def sp_need (r : Nat → Int32) (j : Nat) (storm : Int32) : Int32 := nI 5 + sp_car r j / nI 25 + storm
/-- the living camel with the least water of the first k, or -1 -/
def sp_thirstTo (r : Nat → Int32) : Nat → Int32
  | 0 => -1
  | k + 1 => if r (16 + 8 * k) < nI 3 ∧ (sp_thirstTo r k < 0 ∨ r (13 + 8 * k) < r (13 + 8 * (sp_thirstTo r k).toNatClampNeg)) then nI k else sp_thirstTo r k
def sp_thirst (r : Nat → Int32) : Int32 := sp_thirstTo r (sp_nc r)
def sp_fastTo (r : Nat → Int32) : Nat → Int32
  | 0 => -1
  | k + 1 => if r (16 + 8 * k) < nI 3 ∧ (sp_fastTo r k < 0 ∨ sp_speed r (sp_fastTo r k).toNatClampNeg < sp_speed r k) then nI k else sp_fastTo r k
def sp_fast (r : Nat → Int32) : Int32 := sp_fastTo r (sp_nc r)
theorem sp_stormTo_t {r : Nat → Int32} {d : Int32} {k : Nat} (h : r (122 + 3 * k) ≤ d ∧ d ≤ r (123 + 3 * k)) : sp_stormTo r d (k + 1) = sp_max (sp_stormTo r d k) (r (124 + 3 * k)) := if_pos h
theorem sp_stormTo_f {r : Nat → Int32} {d : Int32} {k : Nat} (h : ¬ (r (122 + 3 * k) ≤ d ∧ d ≤ r (123 + 3 * k))) : sp_stormTo r d (k + 1) = sp_stormTo r d k := if_neg h
theorem sp_wellFrom_t {r : Nat → Int32} {x : Int32} {k n : Nat} (h : r (90 + 4 * k) = x) : sp_wellFrom r x k (n + 1) = nI k := if_pos h
theorem sp_wellFrom_f {r : Nat → Int32} {x : Int32} {k n : Nat} (h : ¬ r (90 + 4 * k) = x) : sp_wellFrom r x k (n + 1) = sp_wellFrom r x (k + 1) n := if_neg h
theorem sp_behindTo_t {r : Nat → Int32} {x : Int32} {k : Nat} (h : x < r (90 + 4 * k) ∧ (sp_behindTo r x k < 0 ∨ r (90 + 4 * k) < r (90 + 4 * (sp_behindTo r x k).toNatClampNeg))) : sp_behindTo r x (k + 1) = nI k := if_pos h
theorem sp_behindTo_f {r : Nat → Int32} {x : Int32} {k : Nat} (h : ¬ (x < r (90 + 4 * k) ∧ (sp_behindTo r x k < 0 ∨ r (90 + 4 * k) < r (90 + 4 * (sp_behindTo r x k).toNatClampNeg)))) : sp_behindTo r x (k + 1) = sp_behindTo r x k := if_neg h
theorem sp_livingTo_t {r : Nat → Int32} {k : Nat} (h : r (16 + 8 * k) < nI 3) : sp_livingTo r (k + 1) = sp_livingTo r k + 1 := if_pos h
theorem sp_livingTo_f {r : Nat → Int32} {k : Nat} (h : ¬ r (16 + 8 * k) < nI 3) : sp_livingTo r (k + 1) = sp_livingTo r k := if_neg h
theorem sp_carTo_t {r : Nat → Int32} {c : Int32} {k : Nat} (h : r (142 + 4 * k) = c) : sp_carTo r c (k + 1) = sp_carTo r c k + r (140 + 4 * k) := if_pos h
theorem sp_carTo_f {r : Nat → Int32} {c : Int32} {k : Nat} (h : ¬ r (142 + 4 * k) = c) : sp_carTo r c (k + 1) = sp_carTo r c k := if_neg h
theorem sp_thirstTo_t {r : Nat → Int32} {k : Nat} (h : r (16 + 8 * k) < nI 3 ∧ (sp_thirstTo r k < 0 ∨ r (13 + 8 * k) < r (13 + 8 * (sp_thirstTo r k).toNatClampNeg))) : sp_thirstTo r (k + 1) = nI k := if_pos h
theorem sp_thirstTo_f {r : Nat → Int32} {k : Nat} (h : ¬ (r (16 + 8 * k) < nI 3 ∧ (sp_thirstTo r k < 0 ∨ r (13 + 8 * k) < r (13 + 8 * (sp_thirstTo r k).toNatClampNeg)))) : sp_thirstTo r (k + 1) = sp_thirstTo r k := if_neg h
theorem sp_fastTo_t {r : Nat → Int32} {k : Nat} (h : r (16 + 8 * k) < nI 3 ∧ (sp_fastTo r k < 0 ∨ sp_speed r (sp_fastTo r k).toNatClampNeg < sp_speed r k)) : sp_fastTo r (k + 1) = nI k := if_pos h
theorem sp_fastTo_f {r : Nat → Int32} {k : Nat} (h : ¬ (r (16 + 8 * k) < nI 3 ∧ (sp_fastTo r k < 0 ∨ sp_speed r (sp_fastTo r k).toNatClampNeg < sp_speed r k))) : sp_fastTo r (k + 1) = sp_fastTo r k := if_neg h
theorem sp_speed_t {r : Nat → Int32} {j : Nat} (h : ¬ r (15 + 8 * j) ≤ 0) : sp_speed r j = sp_max (nI 5) (r (10 + 8 * j) / nI 2 - sp_car r j / nI 10) := by
  unfold sp_speed
  rw [if_pos (show nI 0 < r (15 + 8 * j) from Int32.not_le.mp h)]
theorem sp_speed_f {r : Nat → Int32} {j : Nat} (h : r (15 + 8 * j) ≤ 0) : sp_speed r j = sp_max (nI 5) (r (10 + 8 * j) - sp_car r j / nI 10) := by
  unfold sp_speed
  rw [if_neg (show ¬ nI 0 < r (15 + 8 * j) from Int32.not_lt.mpr h)]
theorem upd_ne {f : Nat → Int32} {i j : Nat} {x : Int32} (h : j ≠ i) : upd f i x j = f j := by simp [upd, h]
theorem upd_eq {f : Nat → Int32} {i : Nat} {x : Int32} : upd f i x i = x := by simp [upd]
theorem upd_id {f : Nat → Int32} {i : Nat} : upd f i (f i) = f := by
  funext j
  by_cases h : j = i
  · subst h; exact upd_eq
  · exact upd_ne h
theorem am_up_eq {I : am_I} {a k : Nat} {x : Int32} : am_up I a k x a k = x := by simp [am_up]
theorem am_up_n2 {I : am_I} {a k b j : Nat} {x : Int32} (h : ¬ (b = a ∧ j = k)) : am_up I a k x b j = I b j := by simp [am_up, h]
theorem sp_carTo_upd {r : Nat → Int32} {i : Nat} {x c : Int32} (n : Nat) (h : ∀ m : Nat, m < n → i ≠ 142 + 4 * m ∧ i ≠ 140 + 4 * m) : sp_carTo (upd r i x) c n = sp_carTo r c n := by
  induction n with
  | zero => rfl
  | succ n ih =>
    have h1 := h n (Nat.lt_succ_self n)
    simp only [sp_carTo, ih (fun m hm => h m (Nat.lt_succ_of_lt hm)), upd_ne (Ne.symm h1.1), upd_ne (Ne.symm h1.2)]
theorem sp_nc_upd {r : Nat → Int32} {i : Nat} {x : Int32} (h : i ≠ 6) : sp_nc (upd r i x) = sp_nc r := by unfold sp_nc; rw [upd_ne (Ne.symm h)]
theorem sp_nw_upd {r : Nat → Int32} {i : Nat} {x : Int32} (h : i ≠ 7) : sp_nw (upd r i x) = sp_nw r := by unfold sp_nw; rw [upd_ne (Ne.symm h)]
theorem sp_ns_upd {r : Nat → Int32} {i : Nat} {x : Int32} (h : i ≠ 8) : sp_ns (upd r i x) = sp_ns r := by unfold sp_ns; rw [upd_ne (Ne.symm h)]
theorem sp_nl_upd {r : Nat → Int32} {i : Nat} {x : Int32} (h : i ≠ 9) : sp_nl (upd r i x) = sp_nl r := by unfold sp_nl; rw [upd_ne (Ne.symm h)]
theorem sp_car_upd {r : Nat → Int32} {i j : Nat} {x : Int32} (h : i < 140) (h9 : i ≠ 9) : sp_car (upd r i x) j = sp_car r j := by
  unfold sp_car
  rw [sp_nl_upd h9]
  exact sp_carTo_upd _ (fun m _ => ⟨by omega, by omega⟩)
/-- the class cells that hold a number of the row, the text part and the rest -/
def pm (p nc nw ns A K i : Nat) : Prop := (A = p ∧ K = 0 ∧ i = 0) ∨ (A = p + 1 ∧ K < nc ∧ i = 10 + 8 * K) ∨ (A = p + 2 ∧ K < nc ∧ i = 11 + 8 * K) ∨ (A = p + 3 ∧ K < nc ∧ i = 12 + 8 * K) ∨ (A = p + 4 ∧ K < nw ∧ i = 90 + 4 * K) ∨ (A = p + 5 ∧ K < nw ∧ i = 91 + 4 * K) ∨ (A = p + 6 ∧ K < nw ∧ i = 92 + 4 * K) ∨ (A = p + 7 ∧ K < ns ∧ i = 122 + 3 * K) ∨ (A = p + 8 ∧ K < ns ∧ i = 123 + 3 * K) ∨ (A = p + 9 ∧ K < ns ∧ i = 124 + 3 * K)
def km (c q nc nw nl A K i : Nat) : Prop := (A = c ∧ K = 1 ∧ i = 1) ∨ (A = c ∧ K = 2 ∧ i = 2) ∨ (A = c ∧ K = 3 ∧ i = 3) ∨ (A = c ∧ K = 4 ∧ i = 4) ∨ (A = c ∧ K = 5 ∧ i = 5) ∨ (A = q ∧ K < nc ∧ i = 13 + 8 * K) ∨ (A = q + 1 ∧ K < nc ∧ i = 14 + 8 * K) ∨ (A = q + 2 ∧ K < nc ∧ i = 15 + 8 * K) ∨ (A = q + 3 ∧ K < nc ∧ i = 16 + 8 * K) ∨ (A = q + 5 ∧ K < nw ∧ i = 93 + 4 * K) ∨ (A = q + 6 ∧ K < nl ∧ i = 140 + 4 * K) ∨ (A = q + 7 ∧ K < nl ∧ i = 141 + 4 * K) ∨ (A = q + 8 ∧ K < nl ∧ i = 142 + 4 * K)
/-- what a text fixes, in the class -/
def PlanRel (I : am_I) (p : Nat) (r : Nat → Int32) : Prop := (I p 1 = nI (sp_nc r) ∧ I p 5 = nI (sp_nw r) ∧ I p 9 = nI (sp_ns r) ∧ sp_nc r ≤ 10 ∧ sp_nw r ≤ 8 ∧ sp_ns r ≤ 6) ∧ ∀ A K i : Nat, pm p (sp_nc r) (sp_nw r) (sp_ns r) A K i → I A K = r i
theorem PR_1 {I : am_I} {p : Nat} {r : Nat → Int32} (h : PlanRel I p r) : I p 1 = nI (sp_nc r) := h.1.1
theorem PR_5 {I : am_I} {p : Nat} {r : Nat → Int32} (h : PlanRel I p r) : I p 5 = nI (sp_nw r) := h.1.2.1
theorem PR_9 {I : am_I} {p : Nat} {r : Nat → Int32} (h : PlanRel I p r) : I p 9 = nI (sp_ns r) := h.1.2.2.1
theorem PR_c {I : am_I} {p : Nat} {r : Nat → Int32} (h : PlanRel I p r) : sp_nc r ≤ 10 := h.1.2.2.2.1
theorem PR_w {I : am_I} {p : Nat} {r : Nat → Int32} (h : PlanRel I p r) : sp_nw r ≤ 8 := h.1.2.2.2.2.1
theorem PR_t {I : am_I} {p : Nat} {r : Nat → Int32} (h : PlanRel I p r) : sp_ns r ≤ 6 := h.1.2.2.2.2.2
theorem PR_0 {I : am_I} {p : Nat} {r : Nat → Int32} (h : PlanRel I p r) : I p 0 = r 0 := h.2 _ _ _ (Or.inl ⟨rfl, rfl, rfl⟩)
theorem PRa_2 {I : am_I} {p k : Nat} {r : Nat → Int32} (h : PlanRel I p r) (hk : k < sp_nc r) : I (p + 1) k = r (10 + 8 * k) := h.2 _ _ _ (Or.inr (Or.inl ⟨rfl, hk, rfl⟩))
theorem PRa_3 {I : am_I} {p k : Nat} {r : Nat → Int32} (h : PlanRel I p r) (hk : k < sp_nc r) : I (p + 2) k = r (11 + 8 * k) := h.2 _ _ _ (Or.inr (Or.inr (Or.inl ⟨rfl, hk, rfl⟩)))
theorem PRa_4 {I : am_I} {p k : Nat} {r : Nat → Int32} (h : PlanRel I p r) (hk : k < sp_nc r) : I (p + 3) k = r (12 + 8 * k) := h.2 _ _ _ (Or.inr (Or.inr (Or.inr (Or.inl ⟨rfl, hk, rfl⟩))))
theorem PRa_6 {I : am_I} {p k : Nat} {r : Nat → Int32} (h : PlanRel I p r) (hk : k < sp_nw r) : I (p + 4) k = r (90 + 4 * k) := h.2 _ _ _ (Or.inr (Or.inr (Or.inr (Or.inr (Or.inl ⟨rfl, hk, rfl⟩)))))
theorem PRa_7 {I : am_I} {p k : Nat} {r : Nat → Int32} (h : PlanRel I p r) (hk : k < sp_nw r) : I (p + 5) k = r (91 + 4 * k) := h.2 _ _ _ (Or.inr (Or.inr (Or.inr (Or.inr (Or.inr (Or.inl ⟨rfl, hk, rfl⟩))))))
theorem PRa_8 {I : am_I} {p k : Nat} {r : Nat → Int32} (h : PlanRel I p r) (hk : k < sp_nw r) : I (p + 6) k = r (92 + 4 * k) := h.2 _ _ _ (Or.inr (Or.inr (Or.inr (Or.inr (Or.inr (Or.inr (Or.inl ⟨rfl, hk, rfl⟩)))))))
theorem PRa_10 {I : am_I} {p k : Nat} {r : Nat → Int32} (h : PlanRel I p r) (hk : k < sp_ns r) : I (p + 7) k = r (122 + 3 * k) := h.2 _ _ _ (Or.inr (Or.inr (Or.inr (Or.inr (Or.inr (Or.inr (Or.inr (Or.inl ⟨rfl, hk, rfl⟩))))))))
theorem PRa_11 {I : am_I} {p k : Nat} {r : Nat → Int32} (h : PlanRel I p r) (hk : k < sp_ns r) : I (p + 8) k = r (123 + 3 * k) := h.2 _ _ _ (Or.inr (Or.inr (Or.inr (Or.inr (Or.inr (Or.inr (Or.inr (Or.inr (Or.inl ⟨rfl, hk, rfl⟩)))))))))
theorem PRa_12 {I : am_I} {p k : Nat} {r : Nat → Int32} (h : PlanRel I p r) (hk : k < sp_ns r) : I (p + 9) k = r (124 + 3 * k) := h.2 _ _ _ (Or.inr (Or.inr (Or.inr (Or.inr (Or.inr (Or.inr (Or.inr (Or.inr (Or.inr (⟨rfl, hk, rfl⟩))))))))))
/-- a caravan of the class is a row of the reference -/
def CarRel (I : am_I) (c q p : Nat) (r : Nat → Int32) : Prop := PlanRel I p r ∧ I c 12 = nI (sp_nl r) ∧ sp_nl r ≤ 20 ∧ (∀ A K i : Nat, km c q (sp_nc r) (sp_nw r) (sp_nl r) A K i → I A K = r i) ∧ (∀ k : Nat, k < sp_nc r → I (q + 4) k = sp_car r k) ∧ (∀ k : Nat, k < sp_nl r → r (142 + 4 * k) < 0 → I (q + 9) k = r (143 + 4 * k))
theorem CR_p {I : am_I} {c q p : Nat} {r : Nat → Int32} (h : CarRel I c q p r) : PlanRel I p r := h.1
theorem CR_12 {I : am_I} {c q p : Nat} {r : Nat → Int32} (h : CarRel I c q p r) : I c 12 = nI (sp_nl r) := h.2.1
theorem CR_l {I : am_I} {c q p : Nat} {r : Nat → Int32} (h : CarRel I c q p r) : sp_nl r ≤ 20 := h.2.2.1
theorem CR_1 {I : am_I} {c q p : Nat} {r : Nat → Int32} (h : CarRel I c q p r) : I c 1 = r 1 := h.2.2.2.1 _ _ _ (Or.inl ⟨rfl, rfl, rfl⟩)
theorem CR_2 {I : am_I} {c q p : Nat} {r : Nat → Int32} (h : CarRel I c q p r) : I c 2 = r 2 := h.2.2.2.1 _ _ _ (Or.inr (Or.inl ⟨rfl, rfl, rfl⟩))
theorem CR_3 {I : am_I} {c q p : Nat} {r : Nat → Int32} (h : CarRel I c q p r) : I c 3 = r 3 := h.2.2.2.1 _ _ _ (Or.inr (Or.inr (Or.inl ⟨rfl, rfl, rfl⟩)))
theorem CR_4 {I : am_I} {c q p : Nat} {r : Nat → Int32} (h : CarRel I c q p r) : I c 4 = r 4 := h.2.2.2.1 _ _ _ (Or.inr (Or.inr (Or.inr (Or.inl ⟨rfl, rfl, rfl⟩))))
theorem CR_5 {I : am_I} {c q p : Nat} {r : Nat → Int32} (h : CarRel I c q p r) : I c 5 = r 5 := h.2.2.2.1 _ _ _ (Or.inr (Or.inr (Or.inr (Or.inr (Or.inl ⟨rfl, rfl, rfl⟩)))))
theorem CRa_6 {I : am_I} {c q p k : Nat} {r : Nat → Int32} (h : CarRel I c q p r) (hk : k < sp_nc r) : I (q) k = r (13 + 8 * k) := h.2.2.2.1 _ _ _ (Or.inr (Or.inr (Or.inr (Or.inr (Or.inr (Or.inl ⟨rfl, hk, rfl⟩))))))
theorem CRa_7 {I : am_I} {c q p k : Nat} {r : Nat → Int32} (h : CarRel I c q p r) (hk : k < sp_nc r) : I (q + 1) k = r (14 + 8 * k) := h.2.2.2.1 _ _ _ (Or.inr (Or.inr (Or.inr (Or.inr (Or.inr (Or.inr (Or.inl ⟨rfl, hk, rfl⟩)))))))
theorem CRa_8 {I : am_I} {c q p k : Nat} {r : Nat → Int32} (h : CarRel I c q p r) (hk : k < sp_nc r) : I (q + 2) k = r (15 + 8 * k) := h.2.2.2.1 _ _ _ (Or.inr (Or.inr (Or.inr (Or.inr (Or.inr (Or.inr (Or.inr (Or.inl ⟨rfl, hk, rfl⟩))))))))
theorem CRa_9 {I : am_I} {c q p k : Nat} {r : Nat → Int32} (h : CarRel I c q p r) (hk : k < sp_nc r) : I (q + 3) k = r (16 + 8 * k) := h.2.2.2.1 _ _ _ (Or.inr (Or.inr (Or.inr (Or.inr (Or.inr (Or.inr (Or.inr (Or.inr (Or.inl ⟨rfl, hk, rfl⟩)))))))))
theorem CRa_11 {I : am_I} {c q p k : Nat} {r : Nat → Int32} (h : CarRel I c q p r) (hk : k < sp_nw r) : I (q + 5) k = r (93 + 4 * k) := h.2.2.2.1 _ _ _ (Or.inr (Or.inr (Or.inr (Or.inr (Or.inr (Or.inr (Or.inr (Or.inr (Or.inr (Or.inl ⟨rfl, hk, rfl⟩))))))))))
theorem CRa_13 {I : am_I} {c q p k : Nat} {r : Nat → Int32} (h : CarRel I c q p r) (hk : k < sp_nl r) : I (q + 6) k = r (140 + 4 * k) := h.2.2.2.1 _ _ _ (Or.inr (Or.inr (Or.inr (Or.inr (Or.inr (Or.inr (Or.inr (Or.inr (Or.inr (Or.inr (Or.inl ⟨rfl, hk, rfl⟩)))))))))))
theorem CRa_14 {I : am_I} {c q p k : Nat} {r : Nat → Int32} (h : CarRel I c q p r) (hk : k < sp_nl r) : I (q + 7) k = r (141 + 4 * k) := h.2.2.2.1 _ _ _ (Or.inr (Or.inr (Or.inr (Or.inr (Or.inr (Or.inr (Or.inr (Or.inr (Or.inr (Or.inr (Or.inr (Or.inl ⟨rfl, hk, rfl⟩))))))))))))
theorem CRa_15 {I : am_I} {c q p k : Nat} {r : Nat → Int32} (h : CarRel I c q p r) (hk : k < sp_nl r) : I (q + 8) k = r (142 + 4 * k) := h.2.2.2.1 _ _ _ (Or.inr (Or.inr (Or.inr (Or.inr (Or.inr (Or.inr (Or.inr (Or.inr (Or.inr (Or.inr (Or.inr (Or.inr (⟨rfl, hk, rfl⟩)))))))))))))
theorem CRa_10 {I : am_I} {c q p k : Nat} {r : Nat → Int32} (h : CarRel I c q p r) (hk : k < sp_nc r) : I (q + 4) k = sp_car r k := h.2.2.2.2.1 k hk
theorem CRa_16 {I : am_I} {c q p k : Nat} {r : Nat → Int32} (h : CarRel I c q p r) (hk : k < sp_nl r) (hc : r (142 + 4 * k) < 0) : I (q + 9) k = r (143 + 4 * k) := h.2.2.2.2.2 k hk hc
theorem km_inj {c q p nc nw nl A K i a k i0 : Nat} (hn : nc ≤ 10 ∧ nw ≤ 8 ∧ nl ≤ 20) (d1 : c < q ∨ q + 10 ≤ c) (h : km c q nc nw nl A K i) (h0 : km c q nc nw nl a k i0) : (A = a ∧ K = k) ↔ i = i0 := by
  unfold km at h h0
  rcases h with h | h | h | h | h | h | h | h | h | h | h | h | h <;> rcases h0 with h0 | h0 | h0 | h0 | h0 | h0 | h0 | h0 | h0 | h0 | h0 | h0 | h0 <;> omega
theorem pm_km {c q p nc nw ns nl A K i a k i0 : Nat} (hn : nc ≤ 10 ∧ nw ≤ 8 ∧ ns ≤ 6 ∧ nl ≤ 20) (d2 : c < p ∨ p + 10 ≤ c) (d3 : q + 10 ≤ p ∨ p + 10 ≤ q) (h : pm p nc nw ns A K i) (h0 : km c q nc nw nl a k i0) : A ≠ a ∧ i ≠ i0 := by
  unfold pm at h
  unfold km at h0
  rcases h with h | h | h | h | h | h | h | h | h | h <;> rcases h0 with h0 | h0 | h0 | h0 | h0 | h0 | h0 | h0 | h0 | h0 | h0 | h0 | h0 <;> omega
theorem km_far {c q nc nw nl a k i0 : Nat} (hn : nc ≤ 10 ∧ nw ≤ 8 ∧ nl ≤ 20) (d1 : c < q ∨ q + 10 ≤ c) (h0 : km c q nc nw nl a k i0) : a ≠ q + 4 ∧ a ≠ q + 9 ∧ ¬ (a = c ∧ k = 12) ∧ i0 ≠ 6 ∧ i0 ≠ 7 ∧ i0 ≠ 8 ∧ i0 ≠ 9 ∧ i0 ≠ 0 ∧ (∀ m : Nat, i0 ≠ 143 + 4 * m) := by
  unfold km at h0
  refine ⟨?_, ?_, ?_, ?_, ?_, ?_, ?_, ?_, fun m => ?_⟩ <;> rcases h0 with h0 | h0 | h0 | h0 | h0 | h0 | h0 | h0 | h0 | h0 | h0 | h0 | h0 <;> omega
theorem PlanRel_up {I : am_I} {p a k i0 : Nat} {r : Nat → Int32} {x : Int32} (h : PlanRel I p r) (ha : a < p ∨ p + 10 ≤ a) (hi : ∀ A K i : Nat, pm p (sp_nc r) (sp_nw r) (sp_ns r) A K i → i ≠ i0) (h6 : i0 ≠ 6 ∧ i0 ≠ 7 ∧ i0 ≠ 8) : PlanRel (am_up I a k x) p (upd r i0 x) := by
  unfold PlanRel
  rw [sp_nc_upd h6.1, sp_nw_upd h6.2.1, sp_ns_upd h6.2.2]
  refine ⟨⟨?_, ?_, ?_, h.1.2.2.2⟩, fun A K i hm => ?_⟩
  · rw [am_up_n2 (by omega)]; exact h.1.1
  · rw [am_up_n2 (by omega)]; exact h.1.2.1
  · rw [am_up_n2 (by omega)]; exact h.1.2.2.1
  · have hA : p ≤ A ∧ A < p + 10 := by
      unfold pm at hm
      rcases hm with h | h | h | h | h | h | h | h | h | h <;> omega
    rw [am_up_n2 (by omega), upd_ne (hi A K i hm)]
    exact h.2 A K i hm
/-- one number of a caravan is changed, below the loads -/
theorem CR_up {Λ : am_L} {I : am_I} {c q p a k i0 : Nat} {r : Nat → Int32} {x : Int32} (hl : CarLay Λ c q p) (h : CarRel I c q p r) (hm : km c q (sp_nc r) (sp_nw r) (sp_nl r) a k i0) (hi : i0 < 140) : CarRel (am_up I a k x) c q p (upd r i0 x) := by
  have d1 := L0_d1 hl
  have d2 := L0_d2 hl
  have d3 := L0_d3 hl
  have hn : sp_nc r ≤ 10 ∧ sp_nw r ≤ 8 ∧ sp_nl r ≤ 20 := ⟨PR_c h.1, PR_w h.1, CR_l h⟩
  obtain ⟨f1, f2, f3, f6, f7, f8, f9, f0, f143⟩ := km_far hn d1 hm
  have hpa : a < p ∨ p + 10 ≤ a := by
    unfold km at hm
    rcases hm with h | h | h | h | h | h | h | h | h | h | h | h | h <;> omega
  unfold CarRel
  rw [sp_nc_upd f6, sp_nw_upd f7, sp_nl_upd f9]
  refine ⟨PlanRel_up h.1 hpa (fun A K i hp => (pm_km ⟨hn.1, hn.2.1, PR_t h.1, hn.2.2⟩ d2 d3 hp hm).2) ⟨f6, f7, f8⟩, ?_, hn.2.2, fun A K i hk => ?_, fun j hj => ?_, fun j hj hc => ?_⟩
  · rw [am_up_n2 (fun e => f3 ⟨e.1.symm, e.2.symm⟩)]
    exact h.2.1
  · have e := km_inj (p := p) hn d1 hk hm
    by_cases g : i = i0
    · obtain ⟨g1, g2⟩ := e.mpr g
      subst g1; subst g2; subst g
      rw [am_up_eq, upd_eq]
    · rw [am_up_n2 (fun z => g (e.mp z)), upd_ne g]
      exact h.2.2.2.1 A K i hk
  · rw [am_up_n2 (fun e => f1 e.1.symm), sp_car_upd hi f9]
    exact h.2.2.2.2.1 j hj
  · rw [upd_ne (by omega)] at hc
    rw [am_up_n2 (fun e => f2 e.1.symm), upd_ne (Ne.symm (f143 j))]
    exact h.2.2.2.2.2 j hj hc
theorem CU_km {Λ : am_L} {I : am_I} {c q p : Nat} {r : Nat → Int32} {x : Int32} (hl : CarLay Λ c q p) (h : CarRel I c q p r) : CarRel (am_up I c 1 x) c q p (upd r 1 x) := CR_up hl h (Or.inl ⟨rfl, rfl, rfl⟩) (by decide)
theorem CU_day {Λ : am_L} {I : am_I} {c q p : Nat} {r : Nat → Int32} {x : Int32} (hl : CarLay Λ c q p) (h : CarRel I c q p r) : CarRel (am_up I c 2 x) c q p (upd r 2 x) := CR_up hl h (Or.inr (Or.inl ⟨rfl, rfl, rfl⟩)) (by decide)
theorem CU_stop {Λ : am_L} {I : am_I} {c q p : Nat} {r : Nat → Int32} {x : Int32} (hl : CarLay Λ c q p) (h : CarRel I c q p r) : CarRel (am_up I c 3 x) c q p (upd r 3 x) := CR_up hl h (Or.inr (Or.inr (Or.inl ⟨rfl, rfl, rfl⟩))) (by decide)
theorem CU_lead {Λ : am_L} {I : am_I} {c q p : Nat} {r : Nat → Int32} {x : Int32} (hl : CarLay Λ c q p) (h : CarRel I c q p r) : CarRel (am_up I c 4 x) c q p (upd r 4 x) := CR_up hl h (Or.inr (Or.inr (Or.inr (Or.inl ⟨rfl, rfl, rfl⟩)))) (by decide)
theorem CU_drunk {Λ : am_L} {I : am_I} {c q p : Nat} {r : Nat → Int32} {x : Int32} (hl : CarLay Λ c q p) (h : CarRel I c q p r) : CarRel (am_up I c 5 x) c q p (upd r 5 x) := CR_up hl h (Or.inr (Or.inr (Or.inr (Or.inr (Or.inl ⟨rfl, rfl, rfl⟩))))) (by decide)
theorem CU_water {Λ : am_L} {I : am_I} {c q p k : Nat} {r : Nat → Int32} {x : Int32} (hl : CarLay Λ c q p) (h : CarRel I c q p r) (hk : k < sp_nc r) : CarRel (am_up I (q) k x) c q p (upd r (13 + 8 * k) x) := CR_up hl h (Or.inr (Or.inr (Or.inr (Or.inr (Or.inr (Or.inl ⟨rfl, hk, rfl⟩)))))) (by have h1 := PR_c h.1; have h2 := PR_w h.1; omega)
theorem CU_strain {Λ : am_L} {I : am_I} {c q p k : Nat} {r : Nat → Int32} {x : Int32} (hl : CarLay Λ c q p) (h : CarRel I c q p r) (hk : k < sp_nc r) : CarRel (am_up I (q + 1) k x) c q p (upd r (14 + 8 * k) x) := CR_up hl h (Or.inr (Or.inr (Or.inr (Or.inr (Or.inr (Or.inr (Or.inl ⟨rfl, hk, rfl⟩))))))) (by have h1 := PR_c h.1; have h2 := PR_w h.1; omega)
theorem CU_lame {Λ : am_L} {I : am_I} {c q p k : Nat} {r : Nat → Int32} {x : Int32} (hl : CarLay Λ c q p) (h : CarRel I c q p r) (hk : k < sp_nc r) : CarRel (am_up I (q + 2) k x) c q p (upd r (15 + 8 * k) x) := CR_up hl h (Or.inr (Or.inr (Or.inr (Or.inr (Or.inr (Or.inr (Or.inr (Or.inl ⟨rfl, hk, rfl⟩)))))))) (by have h1 := PR_c h.1; have h2 := PR_w h.1; omega)
theorem CU_dry {Λ : am_L} {I : am_I} {c q p k : Nat} {r : Nat → Int32} {x : Int32} (hl : CarLay Λ c q p) (h : CarRel I c q p r) (hk : k < sp_nc r) : CarRel (am_up I (q + 3) k x) c q p (upd r (16 + 8 * k) x) := CR_up hl h (Or.inr (Or.inr (Or.inr (Or.inr (Or.inr (Or.inr (Or.inr (Or.inr (Or.inl ⟨rfl, hk, rfl⟩))))))))) (by have h1 := PR_c h.1; have h2 := PR_w h.1; omega)
theorem CU_level {Λ : am_L} {I : am_I} {c q p k : Nat} {r : Nat → Int32} {x : Int32} (hl : CarLay Λ c q p) (h : CarRel I c q p r) (hk : k < sp_nw r) : CarRel (am_up I (q + 5) k x) c q p (upd r (93 + 4 * k) x) := CR_up hl h (Or.inr (Or.inr (Or.inr (Or.inr (Or.inr (Or.inr (Or.inr (Or.inr (Or.inr (Or.inl ⟨rfl, hk, rfl⟩)))))))))) (by have h1 := PR_c h.1; have h2 := PR_w h.1; omega)
/-- a number of a row within bounds -/
def sp_in (x : Int32) (lo hi : Nat) : Prop := ∃ n : Nat, x = nI n ∧ lo ≤ n ∧ n ≤ hi
/-- the bounds of a legal row -/
def RowOk (r : Nat → Int32) : Prop := r 6 = nI (sp_nc r) ∧ r 7 = nI (sp_nw r) ∧ r 8 = nI (sp_ns r) ∧ r 9 = nI (sp_nl r) ∧ (1 ≤ sp_nc r ∧ sp_nc r ≤ 10 ∧ sp_nw r ≤ 8 ∧ sp_ns r ≤ 6 ∧ sp_nl r ≤ 20) ∧
  (∃ L km : Nat, r 0 = nI L ∧ r 1 = nI km ∧ 10 ≤ L ∧ L ≤ 999 ∧ km ≤ L ∧ (∀ k : Nat, k < sp_nw r → sp_in (r (90 + 4 * k)) 0 L)) ∧ sp_in (r 2) 0 200 ∧ (r 3 = 0 ∨ r 3 = 1) ∧ (∃ j : Nat, r 4 = nI j ∧ j < sp_nc r) ∧
  (∀ k : Nat, k < sp_nc r → sp_in (r (10 + 8 * k)) 10 60 ∧ sp_in (r (11 + 8 * k)) 1 9 ∧ (∃ t x : Nat, r (12 + 8 * k) = nI t ∧ 10 ≤ t ∧ t ≤ 90 ∧ r (13 + 8 * k) = nI x ∧ x ≤ t) ∧ sp_in (r (16 + 8 * k)) 0 3 ∧ (r (17 + 8 * k) = if r (16 + 8 * k) < nI 3 then nI 0 else nI 1)) ∧
  (∀ k : Nat, k < sp_nw r → ∃ cap lev : Nat, r (91 + 4 * k) = nI cap ∧ cap ≤ 999 ∧ r (93 + 4 * k) = nI lev ∧ lev ≤ cap ∧ sp_in (r (92 + 4 * k)) 0 99) ∧
  (∀ k : Nat, k < sp_ns r → sp_in (r (124 + 3 * k)) 1 9) ∧
  (∀ k : Nat, k < sp_nl r → sp_in (r (140 + 4 * k)) 1 99 ∧ (r (142 + 4 * k) = -1 ∨ ∃ j : Nat, r (142 + 4 * k) = nI j ∧ j < sp_nc r))
