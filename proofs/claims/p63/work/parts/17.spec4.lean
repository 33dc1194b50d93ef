theorem drain_lo {r : Nat → Int32} {j i : Nat} {x : Int32} (hi : i < 13) : sp_drain r j x i = r i := by
  have h1 : sp_dry r j i = r i := by
    unfold sp_dry
    rw [upd_ne (by omega), upd_ne (by omega)]
  unfold sp_drain
  split
  · rw [upd_ne (by omega), upd_ne (by omega)]
  · split
    · unfold sp_die
      rw [drop_lo (by omega), upd_ne (by omega), h1]
    · exact h1
theorem go_lo {r : Nat → Int32} {ls st : Int32} {k i : Nat} (hi : i < 13) : sp_goTo r ls st k i = r i := by
  induction k with
  | zero => rfl
  | succ k ih =>
    by_cases h : sp_goTo r ls st k (16 + 8 * k) < nI 3
    · rw [sp_goTo_t h, drain_lo hi, limp_at (by omega), strain_at (by omega), ih]
    · rw [sp_goTo_f h, ih]
theorem restTo_lo {r : Nat → Int32} {st : Int32} {k i : Nat} (hi : i < 13) : sp_restTo r st k i = r i := by
  induction k with
  | zero => rfl
  | succ k ih =>
    by_cases h : sp_restTo r st k (16 + 8 * k) < nI 3
    · rw [sp_restTo_t h, drain_lo hi, limp_at (by omega), strain_at (by omega), ih]
    · rw [sp_restTo_f h, ih]
theorem RowW.go {r : Nat → Int32} {ls st : Int32} {k : Nat} (h : RowW r) (hc : sp_nc r ≤ 10) (hk : k ≤ sp_nc r) : RowW (sp_goTo r ls st k) := by
  induction k with
  | zero => exact h
  | succ k ih =>
    have ih := ih (by omega)
    have s := (sc_go r ls st k).1
    by_cases e : sp_goTo r ls st k (16 + 8 * k) < nI 3
    · rw [sp_goTo_t e]
      have s2 := (sc_strain (sp_goTo r ls st k) k (ls - sp_speed (sp_goTo r ls st k) k)).1
      have s3 := (sc_limp (sp_strain (sp_goTo r ls st k) k (ls - sp_speed (sp_goTo r ls st k) k)) k).1
      refine RowW.drain (RowW.limp (RowW.strain ih (by omega) (by omega)) (by omega) (by omega)) (by omega) (by omega) ?_
      rw [limp_at (by omega), strain_at (by omega)]
      exact e
    · rw [sp_goTo_f e]; exact ih
theorem RowW.restTo {r : Nat → Int32} {st : Int32} {k : Nat} (h : RowW r) (hc : sp_nc r ≤ 10) (hk : k ≤ sp_nc r) : RowW (sp_restTo r st k) := by
  induction k with
  | zero => exact h
  | succ k ih =>
    have ih := ih (by omega)
    have s := (sc_restTo r st k).1
    by_cases e : sp_restTo r st k (16 + 8 * k) < nI 3
    · rw [sp_restTo_t e]
      have s2 := (sc_strain (sp_restTo r st k) k (nI 0)).1
      have s3 := (sc_limp (sp_strain (sp_restTo r st k) k (nI 0)) k).1
      refine RowW.drain (RowW.limp (RowW.strain ih (by omega) (by omega)) (by omega) (by omega)) (by omega) (by omega) ?_
      rw [limp_at (by omega), strain_at (by omega)]
      exact e
    · rw [sp_restTo_f e]; exact ih
theorem RowW.low {r : Nat → Int32} {j : Nat} (h : RowW r) (hj : j < sp_nc r) (ha : r (16 + 8 * j) < nI 3) : ∃ d : Nat, r (16 + 8 * j) = nI d ∧ d ≤ 2 := by
  obtain ⟨d, hd, -, hd3⟩ := h.1 j hj
  rw [hd] at ha
  have := (nI_ltI (by omega) (by omega)).mp ha
  exact ⟨d, hd, by omega⟩
theorem lead_a {r : Nat → Int32} {ld : Nat} (hld : r 4 = nI ld) (hl : ld < 2 ^ 31) (h : r (16 + 8 * ld) < nI 3) : sp_lead r = r := by
  unfold sp_lead
  rw [hld, nI_clamp hl, if_pos h]
theorem lead_b {r : Nat → Int32} {ld : Nat} (hld : r 4 = nI ld) (hl : ld < 2 ^ 31) (h : ¬ r (16 + 8 * ld) < nI 3) (h2 : sp_fast r < 0) : sp_lead r = r := by
  unfold sp_lead
  rw [hld, nI_clamp hl, if_neg h, if_pos h2]
theorem lead_c {r : Nat → Int32} {ld : Nat} (hld : r 4 = nI ld) (hl : ld < 2 ^ 31) (h : ¬ r (16 + 8 * ld) < nI 3) (h2 : ¬ sp_fast r < 0) : sp_lead r = upd r 4 (sp_fast r) := by
  unfold sp_lead
  rw [hld, nI_clamp hl, if_neg h, if_neg h2]
def sp_bring (r : Nat → Int32) (x y : Int32) : Nat → Int32 := upd (upd (upd (upd (upd r (140 + 4 * sp_nl r) x) (141 + 4 * sp_nl r) y) (142 + 4 * sp_nl r) (-1)) (143 + 4 * sp_nl r) (r 1)) 9 (nI (sp_nl r + 1))
theorem bring_at {r : Nat → Int32} {x y : Int32} {i : Nat} (h : i ≠ 9 ∧ i ≠ 140 + 4 * sp_nl r ∧ i ≠ 141 + 4 * sp_nl r ∧ i ≠ 142 + 4 * sp_nl r ∧ i ≠ 143 + 4 * sp_nl r) : sp_bring r x y i = r i := by
  unfold sp_bring
  rw [upd_ne h.1, upd_ne h.2.2.2.2, upd_ne h.2.2.2.1, upd_ne h.2.2.1, upd_ne h.2.1]
theorem bring_nl {r : Nat → Int32} {x y : Int32} (h : sp_nl r < 2 ^ 30) : sp_nl (sp_bring r x y) = sp_nl r + 1 := by
  show (sp_bring r x y 9).toNatClampNeg = _
  unfold sp_bring
  rw [upd_eq, nI_clamp (by omega)]
theorem bring_ws {r : Nat → Int32} {x y : Int32} : sp_bring r x y (140 + 4 * sp_nl r) = x ∧ sp_bring r x y (141 + 4 * sp_nl r) = y ∧ sp_bring r x y (142 + 4 * sp_nl r) = -1 ∧ sp_bring r x y (143 + 4 * sp_nl r) = r 1 := by
  unfold sp_bring
  refine ⟨?_, ?_, ?_, ?_⟩
  · rw [upd_ne (by omega), upd_ne (by omega), upd_ne (by omega), upd_ne (by omega), upd_eq]
  · rw [upd_ne (by omega), upd_ne (by omega), upd_ne (by omega), upd_eq]
  · rw [upd_ne (by omega), upd_ne (by omega), upd_eq]
  · rw [upd_ne (by omega), upd_eq]
theorem bring_car {r : Nat → Int32} {x y : Int32} {j : Nat} (h : sp_nl r < 2 ^ 30) (hj : j < 2 ^ 31) : sp_car (sp_bring r x y) j = sp_car r j := by
  unfold sp_car
  rw [bring_nl h]
  have h2 : ∀ n : Nat, n ≤ sp_nl r → sp_carTo (sp_bring r x y) (nI j) n = sp_carTo r (nI j) n := by
    intro n
    induction n with
    | zero => intro _; rfl
    | succ n ih =>
      intro hn
      simp only [sp_carTo, ih (by omega), bring_at (r := r) (x := x) (y := y) (i := 142 + 4 * n) (by omega), bring_at (r := r) (x := x) (y := y) (i := 140 + 4 * n) (by omega)]
  rw [sp_carTo_f (by rw [bring_ws.2.2.1]; exact fun e => nI_m1 hj e.symm)]
  exact h2 _ (Nat.le_refl _)
theorem km_more {c q nc nw nl A K i : Nat} (h : km c q nc nw (nl + 1) A K i) : (A = q + 6 ∧ K = nl ∧ i = 140 + 4 * nl) ∨ (A = q + 7 ∧ K = nl ∧ i = 141 + 4 * nl) ∨ (A = q + 8 ∧ K = nl ∧ i = 142 + 4 * nl) ∨ km c q nc nw nl A K i := by
  unfold km at h ⊢
  rcases h with h | h | h | h | h | h | h | h | h | h | ⟨e1, e2, e3⟩ | ⟨e1, e2, e3⟩ | ⟨e1, e2, e3⟩
  · exact Or.inr (Or.inr (Or.inr (Or.inl h)))
  · exact Or.inr (Or.inr (Or.inr (Or.inr (Or.inl h))))
  · exact Or.inr (Or.inr (Or.inr (Or.inr (Or.inr (Or.inl h)))))
  · exact Or.inr (Or.inr (Or.inr (Or.inr (Or.inr (Or.inr (Or.inl h))))))
  · exact Or.inr (Or.inr (Or.inr (Or.inr (Or.inr (Or.inr (Or.inr (Or.inl h)))))))
  · exact Or.inr (Or.inr (Or.inr (Or.inr (Or.inr (Or.inr (Or.inr (Or.inr (Or.inl h))))))))
  · exact Or.inr (Or.inr (Or.inr (Or.inr (Or.inr (Or.inr (Or.inr (Or.inr (Or.inr (Or.inl h)))))))))
  · exact Or.inr (Or.inr (Or.inr (Or.inr (Or.inr (Or.inr (Or.inr (Or.inr (Or.inr (Or.inr (Or.inl h))))))))))
  · exact Or.inr (Or.inr (Or.inr (Or.inr (Or.inr (Or.inr (Or.inr (Or.inr (Or.inr (Or.inr (Or.inr (Or.inl h)))))))))))
  · exact Or.inr (Or.inr (Or.inr (Or.inr (Or.inr (Or.inr (Or.inr (Or.inr (Or.inr (Or.inr (Or.inr (Or.inr (Or.inl h))))))))))))
  · rcases Nat.lt_or_ge K nl with g | g
    · exact Or.inr (Or.inr (Or.inr (Or.inr (Or.inr (Or.inr (Or.inr (Or.inr (Or.inr (Or.inr (Or.inr (Or.inr (Or.inr (Or.inl ⟨e1, g, e3⟩)))))))))))))
    · exact Or.inl ⟨e1, by omega, by omega⟩
  · rcases Nat.lt_or_ge K nl with g | g
    · exact Or.inr (Or.inr (Or.inr (Or.inr (Or.inr (Or.inr (Or.inr (Or.inr (Or.inr (Or.inr (Or.inr (Or.inr (Or.inr (Or.inr (Or.inl ⟨e1, g, e3⟩))))))))))))))
    · exact Or.inr (Or.inl ⟨e1, by omega, by omega⟩)
  · rcases Nat.lt_or_ge K nl with g | g
    · exact Or.inr (Or.inr (Or.inr (Or.inr (Or.inr (Or.inr (Or.inr (Or.inr (Or.inr (Or.inr (Or.inr (Or.inr (Or.inr (Or.inr (Or.inr ⟨e1, g, e3⟩))))))))))))))
    · exact Or.inr (Or.inr (Or.inl ⟨e1, by omega, by omega⟩))
/-- one load more, at the class's next place -/
theorem CR_bring {Λ : am_L} {I I' : am_I} {c q p : Nat} {r : Nat → Int32} {x y : Int32} (hl : CarLay Λ c q p) (h : CarRel I c q p r) (hn : sp_nl r < 20)
    (hI : ∀ A K : Nat, ¬ (A = c ∧ K = 12) → ¬ (K = sp_nl r ∧ q + 6 ≤ A ∧ A ≤ q + 9) → I' A K = I A K) (h12 : I' c 12 = nI (sp_nl r + 1)) (h6 : I' (q + 6) (sp_nl r) = x) (h7 : I' (q + 7) (sp_nl r) = y) (h8 : I' (q + 8) (sp_nl r) = -1) (h9 : I' (q + 9) (sp_nl r) = r 1) : CarRel I' c q p (sp_bring r x y) := by
  have d1 := L0_d1 hl
  have d2 := L0_d2 hl
  have d3 := L0_d3 hl
  have hs := PR_t h.1
  have hc := PR_c h.1
  have hw := PR_w h.1
  have n6 : sp_nc (sp_bring r x y) = sp_nc r := by unfold sp_nc; rw [bring_at (by omega)]
  have n7 : sp_nw (sp_bring r x y) = sp_nw r := by unfold sp_nw; rw [bring_at (by omega)]
  have n8 : sp_ns (sp_bring r x y) = sp_ns r := by unfold sp_ns; rw [bring_at (by omega)]
  have n9 := bring_nl (r := r) (x := x) (y := y) (by omega)
  obtain ⟨w1, w2, w3, w4⟩ := bring_ws (r := r) (x := x) (y := y)
  unfold CarRel PlanRel
  rw [n6, n7, n8, n9]
  refine ⟨⟨⟨?_, ?_, ?_, h.1.1.2.2.2⟩, fun A K i hm => ?_⟩, h12, by omega, fun A K i hm => ?_, fun m hm => ?_, fun K hK hk => ?_⟩
  · rw [hI _ _ (by omega) (by omega)]; exact h.1.1.1
  · rw [hI _ _ (by omega) (by omega)]; exact h.1.1.2.1
  · rw [hI _ _ (by omega) (by omega)]; exact h.1.1.2.2.1
  · have hA : p ≤ A ∧ A < p + 10 ∧ i < 140 ∧ i ≠ 9 := by
      unfold pm at hm
      rcases hm with h | h | h | h | h | h | h | h | h | h <;> omega
    rw [hI _ _ (by omega) (by omega), bring_at (by omega)]
    exact h.1.2 A K i hm
  · rcases km_more hm with ⟨e1, e2, e3⟩ | ⟨e1, e2, e3⟩ | ⟨e1, e2, e3⟩ | hk2
    · rw [e1, e2, e3, h6, w1]
    · rw [e1, e2, e3, h7, w2]
    · rw [e1, e2, e3, h8, w3]
    · have hf : ¬ (A = c ∧ K = 12) ∧ ¬ (K = sp_nl r ∧ q + 6 ≤ A ∧ A ≤ q + 9) ∧ i ≠ 9 ∧ i ≠ 140 + 4 * sp_nl r ∧ i ≠ 141 + 4 * sp_nl r ∧ i ≠ 142 + 4 * sp_nl r ∧ i ≠ 143 + 4 * sp_nl r := by
        have hk3 := hk2
        unfold km at hk3
        rcases hk3 with h | h | h | h | h | h | h | h | h | h | h | h | h <;> (refine ⟨?_, ?_, ?_, ?_, ?_, ?_, ?_⟩ <;> omega)
      rw [hI _ _ hf.1 hf.2.1, bring_at hf.2.2]
      exact h.2.2.2.1 A K i hk2
  · rw [hI _ _ (by omega) (by omega), bring_car (by omega) (by omega)]
    exact h.2.2.2.2.1 m hm
  · by_cases g : K = sp_nl r
    · rw [g, h9, w4]
    · rw [bring_at (by omega)] at hk ⊢
      rw [hI _ _ (by omega) (by omega)]
      exact h.2.2.2.2.2 K (by omega) hk
theorem PlanRel_agree {I I' : am_I} {p : Nat} {r : Nat → Int32} (h : PlanRel I p r) (hI : ∀ b : Nat, p ≤ b → b < p + 10 → I' b = I b) : PlanRel I' p r := by
  refine ⟨⟨?_, ?_, ?_, h.1.2.2.2⟩, fun A K i hm => ?_⟩
  · rw [hI p (by omega) (by omega)]; exact h.1.1
  · rw [hI p (by omega) (by omega)]; exact h.1.2.1
  · rw [hI p (by omega) (by omega)]; exact h.1.2.2.1
  · have hA : p ≤ A ∧ A < p + 10 := by
      unfold pm at hm
      rcases hm with h | h | h | h | h | h | h | h | h | h <;> omega
    rw [hI A hA.1 hA.2]
    exact h.2 A K i hm
theorem CR_agree {I I' : am_I} {c q p : Nat} {r : Nat → Int32} (h : CarRel I c q p r) (hc : I' c = I c) (hq : ∀ b : Nat, q ≤ b → b < q + 10 → I' b = I b) (hp : ∀ b : Nat, p ≤ b → b < p + 10 → I' b = I b) : CarRel I' c q p r := by
  refine ⟨PlanRel_agree h.1 hp, by rw [hc]; exact h.2.1, h.2.2.1, fun A K i hm => ?_, fun m hm => by rw [hq _ (by omega) (by omega)]; exact h.2.2.2.2.1 m hm, fun K hK hk => by rw [hq _ (by omega) (by omega)]; exact h.2.2.2.2.2 K hK hk⟩
  have hA : A = c ∨ (q ≤ A ∧ A < q + 10) := by
    unfold km at hm
    rcases hm with h | h | h | h | h | h | h | h | h | h | h | h | h <;> omega
  have : I' A = I A := hA.elim (fun e => by rw [e]; exact hc) (fun e => hq A e.1 e.2)
  rw [this]
  exact h.2.2.2.1 A K i hm
/-- a caravan copied: cell by cell -/
theorem CR_copy {I I' : am_I} {c q p co qo po : Nat} {r : Nat → Int32} (h : CarRel I co qo po r) (hp : PlanRel I' p r) (h1 : I' c 1 = I co 1 ∧ I' c 2 = I co 2 ∧ I' c 3 = I co 3 ∧ I' c 4 = I co 4 ∧ I' c 5 = I co 5 ∧ I' c 12 = I co 12)
    (ha : ∀ t j : Nat, (t < 5 ∧ j < 10) ∨ (t = 5 ∧ j < 8) ∨ (6 ≤ t ∧ t < 10 ∧ j < 20) → I' (q + t) j = I (qo + t) j) : CarRel I' c q p r := by
  have hn : sp_nc r ≤ 10 ∧ sp_nw r ≤ 8 ∧ sp_nl r ≤ 20 := ⟨PR_c h.1, PR_w h.1, CR_l h⟩
  refine ⟨hp, by rw [h1.2.2.2.2.2]; exact h.2.1, h.2.2.1, fun A K i hm => ?_, fun m hm => by rw [ha 4 m (by omega)]; exact h.2.2.2.2.1 m hm, fun K hK hk => by rw [ha 9 K (by omega)]; exact h.2.2.2.2.2 K hK hk⟩
  unfold km at hm
  rcases hm with ⟨e, e2, e3⟩ | ⟨e, e2, e3⟩ | ⟨e, e2, e3⟩ | ⟨e, e2, e3⟩ | ⟨e, e2, e3⟩ | ⟨e, e2, e3⟩ | ⟨e, e2, e3⟩ | ⟨e, e2, e3⟩ | ⟨e, e2, e3⟩ | ⟨e, e2, e3⟩ | ⟨e, e2, e3⟩ | ⟨e, e2, e3⟩ | ⟨e, e2, e3⟩
  · rw [e, e2, e3, h1.1]; exact CR_1 h
  · rw [e, e2, e3, h1.2.1]; exact CR_2 h
  · rw [e, e2, e3, h1.2.2.1]; exact CR_3 h
  · rw [e, e2, e3, h1.2.2.2.1]; exact CR_4 h
  · rw [e, e2, e3, h1.2.2.2.2.1]; exact CR_5 h
  · rw [e, e3]; exact (ha 0 K (by omega)).trans (CRa_6 h e2)
  · rw [e, e3]; exact (ha 1 K (by omega)).trans (CRa_7 h e2)
  · rw [e, e3]; exact (ha 2 K (by omega)).trans (CRa_8 h e2)
  · rw [e, e3]; exact (ha 3 K (by omega)).trans (CRa_9 h e2)
  · rw [e, e3]; exact (ha 5 K (by omega)).trans (CRa_11 h e2)
  · rw [e, e3]; exact (ha 6 K (by omega)).trans (CRa_13 h e2)
  · rw [e, e3]; exact (ha 7 K (by omega)).trans (CRa_14 h e2)
  · rw [e, e3]; exact (ha 8 K (by omega)).trans (CRa_15 h e2)
theorem am_cp_at {I : am_I} {a a0 N j : Nat} (h : j < N) : am_cp I a a0 N a j = I a0 j := by simp [am_cp, h]
