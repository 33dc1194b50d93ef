/-! ===== the object stays where it is, whatever else is made ===== -/
theorem Plan_nz {Λ : am_L} {p b : Nat} (h : PlanLay Λ p) (h1 : p ≤ b) (h2 : b < p + 10) : (Λ.1 b).1 ≠ 0 := by
  rcases (show b = p ∨ b = p + 1 ∨ b = p + 2 ∨ b = p + 3 ∨ b = p + 4 ∨ b = p + 5 ∨ b = p + 6 ∨ b = p + 7 ∨ b = p + 8 ∨ b = p + 9 by omega) with rfl | rfl | rfl | rfl | rfl | rfl | rfl | rfl | rfl | rfl
  · rw [L3_s h]; decide
  · rw [A3_2 h]; decide
  · rw [A3_3 h]; decide
  · rw [A3_4 h]; decide
  · rw [A3_6 h]; decide
  · rw [A3_7 h]; decide
  · rw [A3_8 h]; decide
  · rw [A3_10 h]; decide
  · rw [A3_11 h]; decide
  · rw [A3_12 h]; decide
theorem Car_nz {Λ : am_L} {c q p b : Nat} (h : CarLay Λ c q p) (hb : b = c ∨ (q ≤ b ∧ b < q + 10)) : (Λ.1 b).1 ≠ 0 := by
  rcases hb with rfl | ⟨h1, h2⟩
  · rw [L0_s h]; decide
  rcases (show b = q ∨ b = q + 1 ∨ b = q + 2 ∨ b = q + 3 ∨ b = q + 4 ∨ b = q + 5 ∨ b = q + 6 ∨ b = q + 7 ∨ b = q + 8 ∨ b = q + 9 by omega) with rfl | rfl | rfl | rfl | rfl | rfl | rfl | rfl | rfl | rfl
  · rw [A0_6 h]; decide
  · rw [A0_7 h]; decide
  · rw [A0_8 h]; decide
  · rw [A0_9 h]; decide
  · rw [A0_10 h]; decide
  · rw [A0_11 h]; decide
  · rw [A0_13 h]; decide
  · rw [A0_14 h]; decide
  · rw [A0_15 h]; decide
  · rw [A0_16 h]; decide
theorem Rou_nz {Λ : am_L} {x b : Nat} (h : RouLay Λ x) (h1 : x ≤ b) (h2 : b < x + 173) : (Λ.1 b).1 ≠ 0 := by
  by_cases e0 : b = x
  · subst e0; rw [L5_s h]; decide
  by_cases e1 : b < x + 24
  · have hi := L5_i h
    by_cases g0 : b = x + 1
    · subst g0; rw [L2_s hi]; decide
    by_cases g1 : b = x + 1 + 1
    · subst g1; rw [A2_0 hi]; decide
    by_cases g2 : b < x + 1 + 3 ∨ x + 1 + 13 ≤ b
    · exact Car_nz (L2_c hi) (by omega)
    · exact Plan_nz (L0_p (L2_c hi)) (by omega) (by omega)
  by_cases e2 : b < x + 34
  · exact Plan_nz (L5_p h) (by omega) (by omega)
  by_cases e3 : b < x + 45
  · exact Car_nz (L5_n h) (by omega)
  by_cases e4 : b < x + 56
  · exact Car_nz (L5_t h) (by omega)
  by_cases e5 : b < x + 146
  · have hh := L5_h h
    by_cases g0 : b = x + 56
    · subst g0; rw [L1_s hh]; decide
    by_cases g1 : b = x + 56 + 1
    · subst g1; rw [A1_0 hh]; decide
    have hj : (b - (x + 58)) / 11 < 8 := by omega
    exact Car_nz (L1_r hh _ hj).2 (by omega)
  by_cases e6 : b = x + 146
  · subst e6; rw [A5_5 h]; decide
  by_cases e7 : b < x + 169
  · have hj : (b - (x + 147)) / 11 < 2 := by omega
    exact Car_nz (L5_k h _ hj).2 (by omega)
  by_cases e8 : b = x + 169
  · subst e8; rw [A5_6 h]; decide
  by_cases e9 : b = x + 170
  · subst e9; rw [A5_7 h]; decide
  have hw := L5_w h
  by_cases e10 : b = x + 171
  · subst e10; rw [L4_s hw]; decide
  have e11 : b = x + 171 + 1 := by omega
  subst e11
  rw [A4_0 hw]; decide
theorem RouLay_agree {Λ Λ' : am_L} {x : Nat} (h : RouLay Λ x) (ha : ∀ b : Nat, x ≤ b → b < x + 173 → Λ'.1 b = Λ.1 b ∧ Λ'.2 b = Λ.2 b) : RouLay Λ' x := by
  have s : ∀ b : Nat, x ≤ b → b < x + 173 → Λ'.1 b = Λ.1 b := fun b h1 h2 => (ha b h1 h2).1
  have hx : Λ'.2 x = Λ.2 x := (ha x (by omega) (by omega)).2
  have h146 : Λ'.2 (x + 146) = Λ.2 (x + 146) := (ha _ (by omega) (by omega)).2
  refine ⟨(s x (by omega) (by omega)).trans (L5_s h), by rw [hx]; exact L5_0 h, by rw [hx]; exact L5_2 h, by rw [hx]; exact L5_3 h, by rw [hx]; exact L5_4 h, by rw [hx]; exact L5_5 h, (s _ (by omega) (by omega)).trans (A5_5 h), by rw [hx]; exact L5_6 h, (s _ (by omega) (by omega)).trans (A5_6 h), by rw [hx]; exact L5_7 h, (s _ (by omega) (by omega)).trans (A5_7 h), by rw [hx]; exact L5_8 h,
    InLay_agree (L5_i h) (fun b h1 h2 => ha b (by omega) (by omega)), PlanLay_agree (L5_p h) (fun b h1 h2 => s b (by omega) (by omega)) (ha _ (by omega) (by omega)).2, CarLay_agree (L5_n h) (fun b hb => ha b (by omega) (by omega)), CarLay_agree (L5_t h) (fun b hb => ha b (by omega) (by omega)), HistLay_agree (L5_h h) (fun b hb => ha b (by omega) (by omega)), fun j hj => ⟨by rw [h146]; exact (L5_k h j hj).1, CarLay_agree (L5_k h j hj).2 (fun b hb => ha b (by omega) (by omega))⟩, WriLay_agree (L5_w h) (fun b h1 h2 => ha b (by omega) (by omega))⟩
theorem RouRel_agree {I I' : am_I} {x n ct : Nat} {tb : Nat → Nat} {err : Int32} {r : Nat → Int32} {hs : Nat → Nat → Int32} {kp : Nat → Bool} {sn : Nat → Nat → Int32} {w : Nat × (Nat → Int32)} (h : RouRel I x tb n err r ct hs kp sn w) (ha : ∀ b : Nat, x ≤ b → b < x + 173 → I' b = I b) : RouRel I' x tb n err r ct hs kp sn w := by
  obtain ⟨a1, a2, a3, ⟨nx, a4⟩, a5, a6, a7⟩ := h
  exact ⟨a1.row (ha _ (by omega) (by omega)) (ha _ (by omega) (by omega)), by rw [ha x (by omega) (by omega)]; exact a2, CR_agree a3 (ha _ (by omega) (by omega)) (fun b g1 g2 => ha b (by omega) (by omega)) (fun b g1 g2 => ha b (by omega) (by omega)), ⟨nx, HistRel_agree a4 (ha _ (by omega) (by omega)) (fun b g1 g2 => ha b (by omega) (by omega)) (fun b g1 g2 => ha b (by omega) (by omega))⟩, SnRel_agree a5 (fun b g1 g2 => ha b (by omega) (by omega)) (fun b g1 g2 => ha b (by omega) (by omega)), a6.row (ha _ (by omega) (by omega)) (ha _ (by omega) (by omega)), a7⟩
/-- all that was there before is where it was; the object's own cells alone may hold other numbers -/
def LK (x : Nat) (Λ : am_L) (I : am_I) (Λ' : am_L) (I' : am_I) : Prop := ∀ a : Nat, (Λ.1 a).1 ≠ 0 → Λ'.1 a = Λ.1 a ∧ Λ'.2 a = Λ.2 a ∧ ((a < x ∨ x + 173 ≤ a) → I' a = I a)
theorem LK.rf {x : Nat} {Λ : am_L} {I : am_I} : LK x Λ I Λ I := fun _ _ => ⟨rfl, rfl, fun _ => rfl⟩
theorem LK.tr {x : Nat} {Λ Λ1 Λ2 : am_L} {I I1 I2 : am_I} (h : LK x Λ I Λ1 I1) (h2 : LK x Λ1 I1 Λ2 I2) : LK x Λ I Λ2 I2 := fun a ha => by
  obtain ⟨a1, a2, a3⟩ := h a ha
  obtain ⟨b1, b2, b3⟩ := h2 a (by rw [a1]; exact ha)
  exact ⟨b1.trans a1, b2.trans a2, fun z => (b3 z).trans (a3 z)⟩
theorem LK.fr {x : Nat} {Λ : am_L} {I I' : am_I} (h : RFr x I I') : LK x Λ I Λ I' := fun a _ => ⟨rfl, rfl, fun z => h a z⟩
theorem LK.new {x h : Nat} {s : Nat × Nat} {Λ : am_L} {I : am_I} (hh : ∀ a : Nat, (Λ.1 a).1 ≠ 0 → a < h) : LK x Λ I (am_nS Λ h s) (am_nI I h) := fun a ha => by
  have q : a ≠ h := by have := hh a ha; omega
  exact ⟨nS_ne q, nR_ne q, fun _ => nI_old q⟩
theorem LK.lay {x : Nat} {Λ Λ' : am_L} {I I' : am_I} (h : LK x Λ I Λ' I') (hx : RouLay Λ x) : RouLay Λ' x := RouLay_agree hx (fun b h1 h2 => ⟨(h b (Rou_nz hx h1 h2)).1, (h b (Rou_nz hx h1 h2)).2.1⟩)
/-- a cell outside the object is written -/
theorem LK.up {x a j : Nat} {v : Int32} {Λ Λ1 : am_L} {I I1 : am_I} (h : LK x Λ I Λ1 I1) (ha : (Λ.1 a).1 = 0) : LK x Λ I Λ1 (am_up I1 a j v) := fun b hb => by
  obtain ⟨a1, a2, a3⟩ := h b hb
  exact ⟨a1, a2, fun z => by rw [am_up_ne (fun e => hb (by rw [e]; exact ha))]; exact a3 z⟩
theorem Rou_new {Λ : am_L} {x h : Nat} (hx : RouLay Λ x) (hh : ∀ a : Nat, (Λ.1 a).1 ≠ 0 → a < h) : x + 173 ≤ h := by
  have := hh (x + 172) (Rou_nz hx (by omega) (by omega))
  omega
