/-! ===== what the changes are: rows into rows ===== -/
/-- a method of a caravan at c changes nothing but c's own cells -/
def am_fr (c q : Nat) (I I' : am_I) : Prop := ∀ b : Nat, b ≠ c → (b < q ∨ q + 10 ≤ b) → I' b = I b
theorem am_fr.rf {c q : Nat} {I : am_I} : am_fr c q I I := fun _ _ _ => rfl
theorem am_fr.tr {c q : Nat} {I I1 I2 : am_I} (h : am_fr c q I I1) (h2 : am_fr c q I1 I2) : am_fr c q I I2 := fun b h1 h3 => (h2 b h1 h3).trans (h b h1 h3)
theorem am_fr.up {c q a k : Nat} {I I1 : am_I} {x : Int32} (h : am_fr c q I I1) (ha : a = c ∨ (q ≤ a ∧ a < q + 10)) : am_fr c q I (am_up I1 a k x) := fun b h1 h3 => by
  rw [am_up_ne (by omega)]
  exact h b h1 h3
def sp_strain (r : Nat → Int32) (j : Nat) (b : Int32) : Nat → Int32 := if 0 < b then upd r (14 + 8 * j) (r (14 + 8 * j) + b) else upd r (14 + 8 * j) (sp_max (nI 0) (r (14 + 8 * j) - nI 10))
def sp_limp (r : Nat → Int32) (j : Nat) : Nat → Int32 := if nI 60 < r (14 + 8 * j) then upd (upd r (15 + 8 * j) (r (15 + 8 * j) + nI 3)) (14 + 8 * j) (nI 0) else if 0 < r (15 + 8 * j) then upd r (15 + 8 * j) (r (15 + 8 * j) - nI 1) else r
def sp_lay (r : Nat → Int32) (k : Nat) : Nat → Int32 := upd (upd r (142 + 4 * k) (-1)) (143 + 4 * k) (r 1)
def sp_hang (r : Nat → Int32) (k j : Nat) : Nat → Int32 := upd r (142 + 4 * k) (nI j)
def sp_dropTo (r : Nat → Int32) (j : Nat) : Nat → Nat → Int32
  | 0 => r
  | k + 1 => if sp_dropTo r j k (142 + 4 * k) = nI j then sp_lay (sp_dropTo r j k) k else sp_dropTo r j k
theorem sp_dropTo_t {r : Nat → Int32} {j k : Nat} (h : sp_dropTo r j k (142 + 4 * k) = nI j) : sp_dropTo r j (k + 1) = sp_lay (sp_dropTo r j k) k := if_pos h
theorem sp_dropTo_f {r : Nat → Int32} {j k : Nat} (h : ¬ sp_dropTo r j k (142 + 4 * k) = nI j) : sp_dropTo r j (k + 1) = sp_dropTo r j k := if_neg h
def sp_die (r : Nat → Int32) (j : Nat) : Nat → Int32 := sp_dropTo (upd r (17 + 8 * j) (nI 1)) j (sp_nl r)
def sp_dry (r : Nat → Int32) (j : Nat) : Nat → Int32 := upd (upd r (13 + 8 * j) (nI 0)) (16 + 8 * j) (r (16 + 8 * j) + nI 1)
def sp_drain (r : Nat → Int32) (j : Nat) (need : Int32) : Nat → Int32 := if need ≤ r (13 + 8 * j) then upd (upd r (13 + 8 * j) (r (13 + 8 * j) - need)) (16 + 8 * j) (nI 0) else if r (16 + 8 * j) + nI 1 = nI 3 then sp_die (sp_dry r j) j else sp_dry r j
/-- a load's carrier, legal -/
def sp_cok (r : Nat → Int32) (k : Nat) : Prop := r (142 + 4 * k) = -1 ∨ ∃ m : Nat, r (142 + 4 * k) = nI m ∧ m < sp_nc r
theorem sp_carTo_set {r : Nat → Int32} {v c : Int32} {k : Nat} (n : Nat) (hk : k < n) : sp_carTo (upd r (142 + 4 * k) v) c n + (if r (142 + 4 * k) = c then r (140 + 4 * k) else 0) = sp_carTo r c n + (if v = c then r (140 + 4 * k) else 0) := by
  induction n with
  | zero => omega
  | succ n ih =>
    by_cases e : k = n
    · subst e
      have h1 : sp_carTo (upd r (142 + 4 * k) v) c k = sp_carTo r c k := sp_carTo_upd k (fun m hm => ⟨by omega, by omega⟩)
      simp only [sp_carTo, h1, upd_eq, upd_ne (show 140 + 4 * k ≠ 142 + 4 * k by omega)]
      by_cases g1 : v = c <;> by_cases g2 : r (142 + 4 * k) = c <;> simp [g1, g2]
    · have ih := ih (by omega)
      simp only [sp_carTo, upd_ne (show 142 + 4 * n ≠ 142 + 4 * k by omega), upd_ne (show 140 + 4 * n ≠ 142 + 4 * k by omega)]
      by_cases g : r (142 + 4 * n) = c
      · simp only [g, if_true]
        rw [Int32.add_assoc, Int32.add_comm (r (140 + 4 * n)), ← Int32.add_assoc, ih, Int32.add_assoc, Int32.add_assoc, Int32.add_comm (r (140 + 4 * n))]
      · simp only [g, if_false]
        exact ih
theorem sp_carTo_set2 {r : Nat → Int32} {v c : Int32} {i : Nat} (n : Nat) (hi : ∀ m : Nat, m < n → i ≠ 142 + 4 * m ∧ i ≠ 140 + 4 * m) : sp_carTo (upd r i v) c n = sp_carTo r c n := sp_carTo_upd n hi
theorem nI_inj {a b : Nat} (ha : a < 2 ^ 31) (hb : b < 2 ^ 31) (h : nI a = nI b) : a = b := (nI_eq ha hb).mp h
theorem sp_car_lay {r : Nat → Int32} {k m : Nat} (hk : k < sp_nl r) (hm : m < 2 ^ 31) : sp_car (sp_lay r k) m = if r (142 + 4 * k) = nI m then sp_car r m - r (140 + 4 * k) else sp_car r m := by
  unfold sp_car sp_lay
  rw [sp_nl_upd (by omega), sp_nl_upd (by omega), sp_carTo_upd _ (fun z _ => ⟨by omega, by omega⟩)]
  have h := sp_carTo_set (r := r) (v := -1) (c := nI m) (sp_nl r) hk
  rw [if_neg (show ¬ (-1 : Int32) = nI m from fun e => nI_m1 hm e.symm)] at h
  by_cases g : r (142 + 4 * k) = nI m
  · rw [if_pos g] at h ⊢
    rw [Int32.add_zero] at h
    rw [← h, Int32.add_sub_cancel]
  · rw [if_neg g] at h ⊢
    rw [Int32.add_zero, Int32.add_zero] at h
    exact h
theorem sp_car_hang {r : Nat → Int32} {k j m : Nat} (hk : k < sp_nl r) (hj : j < 2 ^ 31) (hm : m < 2 ^ 31) (hc : r (142 + 4 * k) = -1) : sp_car (sp_hang r k j) m = if j = m then sp_car r m + r (140 + 4 * k) else sp_car r m := by
  unfold sp_car sp_hang
  rw [sp_nl_upd (by omega)]
  have h := sp_carTo_set (r := r) (v := nI j) (c := nI m) (sp_nl r) hk
  rw [if_neg (show ¬ r (142 + 4 * k) = nI m from fun e => nI_m1 hm (e.symm.trans hc)), Int32.add_zero] at h
  rw [h]
  by_cases g : j = m
  · rw [if_pos g, g, if_pos rfl]
  · rw [if_neg g, if_neg (fun e => g (nI_inj hj hm e)), Int32.add_zero]
/-- one load is laid down, its old carrier's sum set: the class's own three cells -/
theorem CR_load {Λ : am_L} {I I' : am_I} {c q p k : Nat} {r r' : Nat → Int32} (hl : CarLay Λ c q p) (h : CarRel I c q p r) (hk : k < sp_nl r)
    (hr : ∀ i : Nat, i ≠ 142 + 4 * k → i ≠ 143 + 4 * k → r' i = r i) (hI : ∀ A K : Nat, A ≠ q + 4 → A ≠ q + 9 → ¬ (A = q + 8 ∧ K = k) → I' A K = I A K) (h8 : I' (q + 8) k = r' (142 + 4 * k)) (h9 : r' (142 + 4 * k) < 0 → I' (q + 9) k = r' (143 + 4 * k)) (h9o : ∀ K : Nat, K ≠ k → I' (q + 9) K = I (q + 9) K) (h4 : ∀ m : Nat, m < sp_nc r → I' (q + 4) m = sp_car r' m) : CarRel I' c q p r' := by
  have d1 := L0_d1 hl
  have d2 := L0_d2 hl
  have d3 := L0_d3 hl
  have hn : sp_nc r ≤ 10 ∧ sp_nw r ≤ 8 ∧ sp_nl r ≤ 20 := ⟨PR_c h.1, PR_w h.1, CR_l h⟩
  have hs := PR_t h.1
  have n6 : sp_nc r' = sp_nc r := by unfold sp_nc; rw [hr 6 (by omega) (by omega)]
  have n7 : sp_nw r' = sp_nw r := by unfold sp_nw; rw [hr 7 (by omega) (by omega)]
  have n8 : sp_ns r' = sp_ns r := by unfold sp_ns; rw [hr 8 (by omega) (by omega)]
  have n9 : sp_nl r' = sp_nl r := by unfold sp_nl; rw [hr 9 (by omega) (by omega)]
  unfold CarRel PlanRel
  rw [n6, n7, n8, n9]
  refine ⟨⟨⟨?_, ?_, ?_, h.1.1.2.2.2⟩, fun A K i hm => ?_⟩, ?_, hn.2.2, fun A K i hm => ?_, h4, fun K hK hc => ?_⟩
  · rw [hI _ _ (by omega) (by omega) (by omega)]; exact h.1.1.1
  · rw [hI _ _ (by omega) (by omega) (by omega)]; exact h.1.1.2.1
  · rw [hI _ _ (by omega) (by omega) (by omega)]; exact h.1.1.2.2.1
  · have hA : p ≤ A ∧ A < p + 10 ∧ i < 140 := by
      unfold pm at hm
      rcases hm with h | h | h | h | h | h | h | h | h | h <;> omega
    rw [hI _ _ (by omega) (by omega) (by omega), hr _ (by omega) (by omega)]
    exact h.1.2 A K i hm
  · rw [hI _ _ (by omega) (by omega) (by omega)]; exact h.2.1
  · by_cases g : i = 142 + 4 * k
    · have e := (km_inj (p := p) hn d1 hm (show km c q (sp_nc r) (sp_nw r) (sp_nl r) (q + 8) k (142 + 4 * k) from Or.inr (Or.inr (Or.inr (Or.inr (Or.inr (Or.inr (Or.inr (Or.inr (Or.inr (Or.inr (Or.inr (Or.inr ⟨rfl, hk, rfl⟩))))))))))))).mpr g
      rw [g, e.1, e.2]
      exact h8
    · have e : A ≠ q + 4 ∧ A ≠ q + 9 ∧ ¬ (A = q + 8 ∧ K = k) ∧ i ≠ 143 + 4 * k := by
        have hm2 := hm
        unfold km at hm2
        rcases hm2 with h | h | h | h | h | h | h | h | h | h | h | h | h <;> omega
      rw [hI _ _ e.1 e.2.1 e.2.2.1, hr _ g e.2.2.2]
      exact h.2.2.2.1 A K i hm
  · by_cases g : K = k
    · subst g
      exact h9 hc
    · rw [hr _ (by omega) (by omega)] at hc
      rw [h9o K g, hr _ (by omega) (by omega)]
      exact h.2.2.2.2.2 K hK hc
/-- a row's number that no cell of the class holds -/
theorem CR_dead {I : am_I} {c q p j : Nat} {r : Nat → Int32} {x : Int32} (h : CarRel I c q p r) (hj : j < sp_nc r) : CarRel I c q p (upd r (17 + 8 * j) x) := by
  have hn : sp_nc r ≤ 10 ∧ sp_nw r ≤ 8 ∧ sp_nl r ≤ 20 := ⟨PR_c h.1, PR_w h.1, CR_l h⟩
  have hs := PR_t h.1
  unfold CarRel PlanRel
  rw [sp_nc_upd (by omega), sp_nw_upd (by omega), sp_ns_upd (by omega), sp_nl_upd (by omega)]
  refine ⟨⟨h.1.1, fun A K i hm => ?_⟩, h.2.1, h.2.2.1, fun A K i hm => ?_, fun m hm => ?_, fun K hK hc => ?_⟩
  · rw [upd_ne (by
      unfold pm at hm
      rcases hm with h | h | h | h | h | h | h | h | h | h <;> omega)]
    exact h.1.2 A K i hm
  · rw [upd_ne (by
      unfold km at hm
      rcases hm with h | h | h | h | h | h | h | h | h | h | h | h | h <;> omega)]
    exact h.2.2.2.1 A K i hm
  · rw [sp_car_upd (by omega) (by omega)]
    exact h.2.2.2.2.1 m hm
  · rw [upd_ne (by omega)] at hc ⊢
    exact h.2.2.2.2.2 K hK hc
def sp_sc (r r' : Nat → Int32) : Prop := sp_nc r' = sp_nc r ∧ sp_nw r' = sp_nw r ∧ sp_ns r' = sp_ns r ∧ sp_nl r' = sp_nl r
theorem sp_sc.rf {r : Nat → Int32} : sp_sc r r := ⟨rfl, rfl, rfl, rfl⟩
theorem sp_sc.tr {r r1 r2 : Nat → Int32} (h : sp_sc r r1) (h2 : sp_sc r1 r2) : sp_sc r r2 := ⟨h2.1.trans h.1, h2.2.1.trans h.2.1, h2.2.2.1.trans h.2.2.1, h2.2.2.2.trans h.2.2.2⟩
theorem sp_sc.up {r r1 : Nat → Int32} {i : Nat} {x : Int32} (h : sp_sc r r1) (hi : i ≠ 6 ∧ i ≠ 7 ∧ i ≠ 8 ∧ i ≠ 9) : sp_sc r (upd r1 i x) := ⟨(sp_nc_upd hi.1).trans h.1, (sp_nw_upd hi.2.1).trans h.2.1, (sp_ns_upd hi.2.2.1).trans h.2.2.1, (sp_nl_upd hi.2.2.2).trans h.2.2.2⟩
theorem sc_strain (r : Nat → Int32) (j : Nat) (b : Int32) : sp_sc r (sp_strain r j b) := by
  unfold sp_strain
  split <;> exact sp_sc.rf.up (by omega)
theorem sc_limp (r : Nat → Int32) (j : Nat) : sp_sc r (sp_limp r j) := by
  unfold sp_limp
  split
  · exact (sp_sc.rf.up (by omega)).up (by omega)
  · split
    · exact sp_sc.rf.up (by omega)
    · exact sp_sc.rf
theorem sc_lay (r : Nat → Int32) (k : Nat) : sp_sc r (sp_lay r k) := (sp_sc.rf.up (by omega)).up (by omega)
theorem sc_hang (r : Nat → Int32) (k j : Nat) : sp_sc r (sp_hang r k j) := sp_sc.rf.up (by omega)
theorem sc_drop (r : Nat → Int32) (j k : Nat) : sp_sc r (sp_dropTo r j k) := by
  induction k with
  | zero => exact sp_sc.rf
  | succ k ih =>
    by_cases h : sp_dropTo r j k (142 + 4 * k) = nI j
    · rw [sp_dropTo_t h]; exact ih.tr (sc_lay _ _)
    · rw [sp_dropTo_f h]; exact ih
theorem sc_die (r : Nat → Int32) (j : Nat) : sp_sc r (sp_die r j) := (sp_sc.rf.up (by omega)).tr (sc_drop _ _ _)
theorem sc_dry (r : Nat → Int32) (j : Nat) : sp_sc r (sp_dry r j) := (sp_sc.rf.up (by omega)).up (by omega)
theorem sc_drain (r : Nat → Int32) (j : Nat) (need : Int32) : sp_sc r (sp_drain r j need) := by
  unfold sp_drain
  split
  · exact (sp_sc.rf.up (by omega)).up (by omega)
  · split
    · exact (sc_dry r j).tr (sc_die _ _)
    · exact sc_dry r j
