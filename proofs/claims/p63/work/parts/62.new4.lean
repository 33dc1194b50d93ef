/-! ===== the constructor of the class itself ===== -/
def am_keep (x top : Nat) (Λ Λ' : am_L) : Prop := ∀ b : Nat, b < top → Λ'.1 b = Λ.1 b ∧ (b ≠ x → Λ'.2 b = Λ.2 b)
theorem am_keep.tr {x t1 t2 : Nat} {Λ Λ1 Λ2 : am_L} (h : am_keep x t1 Λ Λ1) (h2 : am_keep x t2 Λ1 Λ2) (ht : t1 ≤ t2) : am_keep x t1 Λ Λ2 := fun b hb => ⟨(h2 b (by omega)).1.trans (h b hb).1, fun q => ((h2 b (by omega)).2 q).trans ((h b hb).2 q)⟩
theorem InLay_agree {Λ Λ' : am_L} {i : Nat} (h : InLay Λ i) (ha : ∀ b : Nat, i ≤ b → b < i + 23 → Λ'.1 b = Λ.1 b ∧ Λ'.2 b = Λ.2 b) : InLay Λ' i := by
  obtain ⟨h1, h2, h3, h4, h5⟩ := h
  exact ⟨(ha i (by omega) (by omega)).1.trans h1, (congrFun (ha i (by omega) (by omega)).2 0).trans h2, (ha (i + 1) (by omega) (by omega)).1.trans h3, (congrFun (ha i (by omega) (by omega)).2 2).trans h4, CarLay_agree h5 (fun b hb => ha b (by omega) (by omega))⟩
theorem HistLay_agree {Λ Λ' : am_L} {h p : Nat} (hl : HistLay Λ h p) (ha : ∀ b : Nat, (h ≤ b ∧ b < h + 90) ∨ (p ≤ b ∧ b < p + 10) → Λ'.1 b = Λ.1 b ∧ Λ'.2 b = Λ.2 b) : HistLay Λ' h p := by
  obtain ⟨h1, h2, h3, h4⟩ := hl
  refine ⟨(ha h (by omega)).1.trans h1, (congrFun (ha h (by omega)).2 0).trans h2, (ha (h + 1) (by omega)).1.trans h3, fun j hj => ?_⟩
  obtain ⟨c1, c2⟩ := h4 j hj
  exact ⟨(congrFun (ha (h + 1) (by omega)).2 j).trans c1, CarLay_agree c2 (fun b hb => ha b (by omega))⟩
theorem WriLay_agree {Λ Λ' : am_L} {w : Nat} (h : WriLay Λ w) (ha : ∀ b : Nat, w ≤ b → b < w + 2 → Λ'.1 b = Λ.1 b ∧ Λ'.2 b = Λ.2 b) : WriLay Λ' w := ⟨(ha w (by omega) (by omega)).1.trans h.1, (congrFun (ha w (by omega) (by omega)).2 0).trans h.2.1, (ha (w + 1) (by omega) (by omega)).1.trans h.2.2⟩
/-- a part made and put into a field of the object at x -/
theorem am_grp {x o M m kf : Nat} {s : Nat × Nat} {Λ0 Λ Λ2 Λ3 : am_L} {I0 I I2 : am_I} {J0 J J2 : am_J} (hx : x < o) (E : am_ext x (x + 1) M Λ0 I0 J0 Λ I J) (ho : o = x + 1 + M) (e2 : am_ext o (o + 1) m (am_nS Λ o s) (am_nI I o) (am_nJ J o) Λ2 I2 J2) (h3 : Λ3 = (Λ2.1, am_ur Λ2.2 x kf (some o))) :
    am_ext x (x + 1) (M + 1 + m) Λ0 I0 J0 Λ3 I2 J2 ∧ am_keep x o Λ Λ3 ∧ (∀ b : Nat, b < o → I2 b = I b) ∧ (∀ b : Nat, o ≤ b → b < o + 1 + m → I2 b = fun _ => 0) ∧ Λ3.2 x kf = some o ∧ (∀ kf' : Nat, kf' ≠ kf → Λ3.2 x kf' = Λ.2 x kf') ∧ ∀ b : Nat, b ≠ x → Λ3.1 b = Λ2.1 b ∧ Λ3.2 b = Λ2.2 b := by
  have E1 := am_ext.new (s := s) (h := o) E ho
  have E2 := am_ext.call E1 e2 (by omega) (by omega) (by omega)
  have k2 : ∀ b : Nat, b < o → Λ2.1 b = Λ.1 b ∧ Λ2.2 b = Λ.2 b ∧ I2 b = I b := fun b hb => by
    have g1 := e2.1 b (Or.inl (by omega))
    have g2 := e2.2.1 b (Or.inl (by omega)) (by omega)
    exact ⟨g1.1.trans (nS_ne (by omega)), g2.trans (nR_ne (by omega)), g1.2.1.trans (nI_old (by omega))⟩
  subst h3
  refine ⟨am_ext.put E2 (Or.inl rfl), fun b hb => ⟨(k2 b hb).1, fun q => (am_ur_ne q).trans (k2 b hb).2.1⟩, fun b hb => (k2 b hb).2.2, fun b h1 h2 => ?_, by simp [am_ur], fun kf' hk => ?_, fun b hb => ⟨rfl, am_ur_ne hb⟩⟩
  · rcases Nat.lt_or_ge b (o + 1) with q | q
    · have e : b = o := by omega
      rw [e, (e2.1 o (Or.inl (by omega))).2.1]
      exact nI_new
    · exact e2.2.2 b q (by omega)
  · have g : am_ur Λ2.2 x kf (some o) x kf' = Λ2.2 x kf' := by simp [am_ur, hk]
    exact g.trans (congrFun (k2 x hx).2.1 kf')
def fr_tb : Nat → Nat := fun j => if j < 134 then am_cn 0 j else 0
theorem fr_tbt : ∀ k : Nat, sp_tbt (fun _ => 0) 0 0 k = fun j => if j < k then am_cn 0 j else 0 := by
  intro k
  induction k with
  | zero => funext j; exact (if_neg (Nat.not_lt_zero j)).symm
  | succ k ih =>
    funext j
    show sp_tbp (sp_tbt (fun _ => 0) 0 0 k) (0 + k) (am_cn 0 k) j = _
    rw [ih, Nat.zero_add]
    by_cases e : j = k
    · rw [e, sp_tbp_eq, if_pos (by omega)]
    · rw [sp_tbp_ne e]
      by_cases q : j < k
      · rw [if_pos q, if_pos (by omega)]
      · rw [if_neg q, if_neg (by omega)]
set_option maxRecDepth 100000 in
theorem fr_ok : sp_ok (sp_parse fr_tb 134) = true := by decide +kernel
theorem fr_ex : ∃ r : Nat → Int32, sp_parse fr_tb 134 = .ok r := sp_ok_iff.mp fr_ok
theorem am_nest_X5_11 : Cond.methodLinkNest RX5 11 yX2_init RX5 ∈ lw_tbl := List.mem_of_getElem? (i := 62) (by decide +kernel)
theorem am_nest_X5_32 : Cond.methodLinkNest RX5 32 yX3_init RX5 ∈ lw_tbl := List.mem_of_getElem? (i := 405) (by decide +kernel)
theorem am_nest_X5_79 : Cond.methodLinkNest RX5 79 yX4_init RX5 ∈ lw_tbl := List.mem_of_getElem? (i := 442) (by decide +kernel)
theorem am_im_X2 : Cond.instanceMethod yX2_init ∈ am_tbl := am_wd 63 (by decide +kernel) rfl
theorem am_im_X4 : Cond.instanceMethod yX4_init ∈ am_tbl := am_wd 443 (by decide +kernel) rfl
