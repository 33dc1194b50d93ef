theorem CarLay_agree {Λ Λ' : am_L} {c q p : Nat} (h : CarLay Λ c q p) (ha : ∀ b : Nat, (b = c ∨ (q ≤ b ∧ b < q + 10) ∨ (p ≤ b ∧ b < p + 10)) → Λ'.1 b = Λ.1 b ∧ Λ'.2 b = Λ.2 b) : CarLay Λ' c q p := by
  have hp := PlanLay_agree (Λ' := Λ') (L0_p h) (fun b h1 h2 => (ha b (Or.inr (Or.inr ⟨h1, h2⟩))).1) (ha p (Or.inr (Or.inr ⟨Nat.le_refl _, by omega⟩))).2
  unfold CarLay at h ⊢
  rw [(ha c (Or.inl rfl)).2, (ha c (Or.inl rfl)).1, (ha q (by omega)).1, (ha (q + 1) (by omega)).1, (ha (q + 2) (by omega)).1, (ha (q + 3) (by omega)).1, (ha (q + 4) (by omega)).1, (ha (q + 5) (by omega)).1, (ha (q + 6) (by omega)).1, (ha (q + 7) (by omega)).1, (ha (q + 8) (by omega)).1, (ha (q + 9) (by omega)).1]
  obtain ⟨h1, h2, h3, h4, h5, h6, h7, h8, h9, h10, h11, h12, h13, h14, h15, h16, h17, h18, h19, h20, h21, h22, -, d⟩ := h
  exact ⟨h1, h2, h3, h4, h5, h6, h7, h8, h9, h10, h11, h12, h13, h14, h15, h16, h17, h18, h19, h20, h21, h22, hp, d⟩
theorem am_ext.w {o z m m' : Nat} {Λ Λ' : am_L} {I I' : am_I} {J J' : am_J} (e : am_ext o z m Λ I J Λ' I' J') (h : m = m') : am_ext o z m' Λ I J Λ' I' J' := h ▸ e
set_option maxHeartbeats 4000000 in
set_option maxRecDepth 100000 in
theorem ct_X1_init {G : am_G} {Λ : am_L} {I : am_I} {J : am_J} {h p : Nat} (hs : Λ.1 h = (1, 1)) (hp : PlanLay Λ p) (hhp : p + 10 ≤ h ∨ h + 90 ≤ p) : am_CtN G yX1_init cX1_init 3 { frames := 2, cells := 89, slots := 1248, locals := 41 } [.ref h, .ref p] Λ I J (h + 1) (fun v Λ' I' J' => v = none ∧ HistLay Λ' h p ∧ am_ext h (h + 1) 89 Λ I J Λ' I' J') am_never := by
  refine am_ctN_of (own := RX1) rfl (by decide) (Nat.le_of_ble_eq_true rfl) (fun X C hz hin hO => ?_)
  change am_K G X { frames := 2, cells := 89, slots := 1248, locals := 41 } 3 Λ I J 0 0 0 [(0, .ref h), (1, .ref p)] []
  refine k_aload_n C (f := 0) (i := 0) (p := 0) rfl rfl dX1_init_0 ?_
  refine k_objInit C m_X1_3 ⟨Nat.le_of_ble_eq_true rfl, Nat.le_of_ble_eq_true rfl⟩ dX1_init_1 ?_
  refine k_aload_n C (f := 0) (i := 0) (p := 0) rfl rfl dX1_init_4 ?_
  refine k_bipush C bc_8 dX1_init_5 ?_
  refine k_newQ C (h := h + 1) (N := 8) hz (Or.inl rfl) (by omega) am_cl_RX1_9 hO rfl (by decide) ⟨Nat.le_of_ble_eq_true rfl, Nat.le_of_ble_eq_true rfl⟩ dX1_init_7 ?_
  refine k_putF C (b := h + 1) hin f_X1_11 (by rw [nS_ne (by omega)]; exact hs) rfl rfl (Or.inr (Or.inr (Or.inr (Or.inl rfl)))) dX1_init_10 ?_
  refine k_iconst C ic_0 dX1_init_13 ?_
  refine k_istore_n C (f := 2) (i := 2) (lv := [(2, _), (0, _), (1, _)]) rfl (Nat.le_of_ble_eq_true rfl) rfl dX1_init_14 ?_
  have loop15 : ∀ (f j : Nat) (Λ' : am_L) (I' : am_I) (J' : am_J), j ≤ 8 → Λ'.1 h = (1, 1) → Λ'.2 h 0 = some (h + 1) → Λ'.1 (h + 1) = (6, 8) → PlanLay Λ' p → (∀ t : Nat, t < j → Λ'.2 (h + 1) t = some (h + 2 + 11 * t) ∧ CarLay Λ' (h + 2 + 11 * t) (h + 3 + 11 * t) p) → am_ext h (h + 1) (1 + 11 * j) Λ I J Λ' I' J' → (j = 0 → (Λ'.1 (h + 1)).1 ≠ 0) → 8 - j < f →
      am_K G X { frames := 2, cells := 89, slots := 1248, locals := 41 } 3 Λ' I' J' (1 + 11 * j) (8 + 155 * j) 15 [(0, .ref h), (1, .ref p), (2, .int (nI j))] [] := by
    intro f
    induction f with
    | zero => intro j Λ' I' J' h1 h2 h3 h4 h5 h6 h7 h8 hf; exact absurd hf (Nat.not_lt_zero _)
    | succ f ih =>
      intro j Λ' I' J' hj q1 q2 q3 q4 q5 q6 q7 hf
      have hlow : am_low Λ' (h + 1) (1 + 11 * j) := by
        by_cases e : j = 0
        · exact Or.inr ⟨h + 1, q7 e, by omega⟩
        · obtain ⟨c1, c2⟩ := q5 (j - 1) (by omega)
          exact Or.inr ⟨h + 3 + 11 * (j - 1) + 9, by rw [c2.2.2.2.2.2.2.2.2.2.2.2.2.2.2.2.2.2.2.2.2.2.1]; decide, by omega⟩
      refine k_iload_n C (f := 2) (i := 2) (p := 2) rfl rfl dX1_init_15 ?_
      refine k_bipush C bc_8 dX1_init_16 ?_
      refine k_icmpN_ge C (tgt := 41) (by omega) (by omega) (by decide) dX1_init_18 (fun hc18 => ?_) (fun hc18 => ?_)
      · obtain rfl : j = 8 := by omega
        exact k_vret C (by decide) (by decide) (⟨rfl, ⟨q1, q2, q3, q5⟩, q6⟩) dX1_init_41
      · refine k_aload_n C (f := 0) (i := 0) (p := 0) rfl rfl dX1_init_21 ?_
        refine k_getR C f_X1_11 q1 (fun _ _ _ => rfl) q2 dX1_init_22 ?_
        refine k_iload_n C (f := 2) (i := 2) (p := 2) rfl rfl dX1_init_25 ?_
        refine k_newC C (h := h + 2 + 11 * j) hz hlow (by omega) (ci := 0) (q := (RX0, TX0, 17)) rfl am_cl_RX1_9 am_in_0 am_it_0 ⟨(show _ ≤ 89 by omega), (show 8 + 155 * j + 17 ≤ 1248 by omega)⟩ dX1_init_26 ?_
        obtain ⟨Λ3, I3, J3, hΛ3, hI3, hJ3⟩ : ∃ (a : am_L) (b : am_I) (c : am_J), a = am_nS Λ' (h + 2 + 11 * j) (1, 0) ∧ b = am_nI I' (h + 2 + 11 * j) ∧ c = am_nJ J' (h + 2 + 11 * j) := ⟨_, _, _, rfl, rfl, rfl⟩
        rw [← hΛ3, ← hI3, ← hJ3]
        have E3 : am_ext h (h + 1) (1 + 11 * j + 1) Λ I J Λ3 I3 J3 := by rw [hΛ3, hI3, hJ3]; exact am_ext.new q6 (by omega)
        have n3 : ∀ b : Nat, b ≠ h + 2 + 11 * j → Λ3.1 b = Λ'.1 b ∧ Λ3.2 b = Λ'.2 b := fun b hb => by rw [hΛ3]; exact ⟨nS_ne hb, nR_ne hb⟩
        have s3 : Λ3.1 (h + 2 + 11 * j) = (1, 0) := by rw [hΛ3]; exact nS_eq
        have hp3 : PlanLay Λ3 p := PlanLay_agree q4 (fun b h1 h2 => (n3 b (by omega)).1) (n3 p (by omega)).2
        refine k_dup C rfl dX1_init_29 ?_
        refine k_aload_n C (f := 1) (i := 1) (p := 1) rfl rfl dX1_init_30 ?_
        refine k_callIz C (h := h + 3 + 11 * j) hz (Or.inr ⟨h + 2 + 11 * j, by rw [s3]; decide, by omega⟩) (by omega) hO s_X1_17 h_X0_init (ct_X0_init (c := h + 2 + 11 * j) (p := p) (z := h + 3 + 11 * j) s3 hp3 (by omega) (by omega) (by omega)) rfl rfl (Nat.le_of_ble_eq_true rfl) ⟨Nat.le_of_ble_eq_true rfl, Nat.le_of_ble_eq_true rfl⟩ ⟨(show 1 + 11 * j + 1 + 10 ≤ 89 by omega), (show 8 + 155 * j + 17 + 138 ≤ 1248 by omega)⟩ dX1_init_31 ?_
        rintro Λ4 I4 J4 ⟨hL4, E4⟩
        have e4 : ∀ b : Nat, (b < h + 3 + 11 * j ∨ h + 3 + 11 * j + 10 ≤ b) → b ≠ h + 2 + 11 * j → Λ4.1 b = Λ3.1 b ∧ Λ4.2 b = Λ3.2 b := fun b hb hbo => ⟨(E4.1 b hb).1, E4.2.1 b hb hbo⟩
        have E4' : am_ext h (h + 1) (1 + 11 * j + 1 + 10) Λ I J Λ4 I4 J4 := am_ext.call E3 E4 (by omega) (by omega) (by omega)
        have a4 : ∀ b : Nat, (b < h + 2 + 11 * j ∨ h + 13 + 11 * j ≤ b) → Λ4.1 b = Λ'.1 b ∧ Λ4.2 b = Λ'.2 b := fun b hb => by
          have g1 := e4 b (by omega) (by omega)
          have g2 := n3 b (by omega)
          exact ⟨g1.1.trans g2.1, g1.2.trans g2.2⟩
        refine k_aast C (a := h + 1) (b := h + 2 + 11 * j) ((a4 _ (by omega)).1.trans q3) hL4.1 rfl (by omega) (by decide) dX1_init_34 ?_
        refine k_iinc C (i := 2) (p := 2) (lv := [(2, _), (0, _), (1, _)]) (Nat.le_of_ble_eq_true rfl) rfl (am_inc1 _) rfl dX1_init_35 ?_
        refine k_goto C (tgt := 15) (by decide) dX1_init_38 ?_
        refine k_sub [1, 2, 0] rfl ?_
        have fin := ih (j + 1) (Λ4.1, am_ur Λ4.2 (h + 1) j (some (h + 2 + 11 * j))) I4 J4 (by omega) ((a4 h (by omega)).1.trans q1) ((congrFun (am_ur_ne (show h ≠ h + 1 by omega)) 0).trans ((congrFun (a4 h (by omega)).2 0).trans q2)) ((a4 _ (by omega)).1.trans q3) (PlanLay_agree q4 (fun b h1 h2 => (a4 b (by omega)).1) ((am_ur_ne (by omega)).trans (a4 p (by omega)).2)) (fun t ht => by
          by_cases e : t = j
          · subst e
            refine ⟨by simp [am_ur], CarLay_agree hL4 (fun b hb => ⟨rfl, am_ur_ne (by omega)⟩)⟩
          · obtain ⟨c1, c2⟩ := q5 t (by omega)
            refine ⟨?_, CarLay_agree c2 (fun b hb => ⟨(a4 b (by omega)).1, (am_ur_ne (by omega)).trans (a4 b (by omega)).2⟩)⟩
            show am_ur Λ4.2 (h + 1) j _ (h + 1) t = _
            have g : am_ur Λ4.2 (h + 1) j (some (h + 2 + 11 * j)) (h + 1) t = Λ4.2 (h + 1) t := by simp [am_ur, e]
            rw [g, (a4 (h + 1) (by omega)).2]
            exact c1) ((am_ext.put (kf := j) (x := some (h + 2 + 11 * j)) E4' (Or.inr (by omega) : h + 1 = h ∨ _)).w (by omega)) (fun e => absurd e (Nat.succ_ne_zero _)) (by omega)
        have k1 : 1 + 11 * j + 1 + 10 = 1 + 11 * (j + 1) := by omega
        have k2 : 8 + 155 * j + 17 + 138 = 8 + 155 * (j + 1) := by omega
        rw [← k1, ← k2] at fin
        exact fin
  refine k_sub [1, 2, 0] rfl ?_
  have E1 : am_ext h (h + 1) 1 Λ I J (am_nS Λ (h + 1) (6, 8)) (am_nI I (h + 1)) (am_nJ J (h + 1)) := am_ext.new am_ext.rf (by omega)
  exact loop15 9 0 _ _ _ (Nat.zero_le _) (by show (am_nS Λ (h + 1) (6, 8)).1 h = _; rw [nS_ne (by omega)]; exact hs) (by simp [am_ur]) nS_eq (PlanLay_agree hp (fun b h1 h2 => nS_ne (by omega)) ((am_ur_ne (by omega)).trans (nR_ne (by omega)))) (fun t ht => absurd ht (Nat.not_lt_zero t)) (am_ext.put E1 (Or.inl rfl)) (fun _ => by show ((am_nS Λ (h + 1) (6, 8)).1 (h + 1)).1 ≠ 0; rw [nS_eq]; decide) (by omega)
theorem am_nest_X2_19 : Cond.methodLinkNest RX2 19 yX3_init RX5 ∈ lw_tbl := List.mem_of_getElem? (i := 70) (by decide +kernel)
theorem am_im_X3 : Cond.instanceMethod yX3_init ∈ am_tbl := am_wd 71 (by decide +kernel) rfl
set_option maxHeartbeats 4000000 in
set_option maxRecDepth 100000 in
theorem ct_X2_init {G : am_G} {Λ : am_L} {I : am_I} {J : am_J} {i : Nat} (hs : Λ.1 i = (1, 2)) : am_CtN G yX2_init cX2_init 1 { frames := 2, cells := 22, slots := 940, locals := 41 } [.ref i] Λ I J (i + 1) (fun v Λ' I' J' => v = none ∧ InLay Λ' i ∧ am_ext i (i + 1) 22 Λ I J Λ' I' J') am_never := by
  refine am_ctN_of (own := RX2) rfl (by decide) (Nat.le_of_ble_eq_true rfl) (fun X C hz hin hO => ?_)
  change am_K G X { frames := 2, cells := 22, slots := 940, locals := 41 } 1 Λ I J 0 0 0 [(0, .ref i)] []
  refine k_aload_n C (f := 0) (i := 0) (p := 0) rfl rfl dX2_init_0 ?_
  refine k_objInit C m_X2_3 ⟨Nat.le_of_ble_eq_true rfl, Nat.le_of_ble_eq_true rfl⟩ dX2_init_1 ?_
  refine k_aload_n C (f := 0) (i := 0) (p := 0) rfl rfl dX2_init_4 ?_
  refine k_sipush C sc_700 dX2_init_5 ?_
  refine k_newA C (h := i + 1) (N := 700) (kd := 3) hz (Or.inl rfl) (by omega) am_ar_b rfl (by decide) (Or.inr (Or.inl ⟨rfl, rfl⟩)) ⟨Nat.le_of_ble_eq_true rfl, Nat.le_of_ble_eq_true rfl⟩ dX2_init_8 ?_
  have E1 : am_ext i (i + 1) 1 Λ I J (am_nS Λ (i + 1) (3, 700)) (am_nI I (i + 1)) (am_nJ J (i + 1)) := am_ext.new am_ext.rf (by omega)
  refine k_putF C (b := i + 1) hin f_X2_9 (by rw [nS_ne (by omega)]; exact hs) rfl rfl (Or.inr (Or.inl rfl)) dX2_init_10 ?_
  obtain ⟨Λ1, hΛ1⟩ : ∃ a : am_L, a = ((am_nS Λ (i + 1) (3, 700)).1, am_ur (am_nS Λ (i + 1) (3, 700)).2 i 0 (some (i + 1))) := ⟨_, rfl⟩
  rw [← hΛ1]
  have E2 : am_ext i (i + 1) 1 Λ I J Λ1 (am_nI I (i + 1)) (am_nJ J (i + 1)) := by rw [hΛ1]; exact am_ext.put E1 (Or.inl rfl)
  have a1 : Λ1.1 i = (1, 2) ∧ Λ1.1 (i + 1) = (3, 700) ∧ Λ1.2 i 0 = some (i + 1) := by rw [hΛ1]; exact ⟨(nS_ne (by omega)).trans hs, nS_eq, by simp [am_ur]⟩
  clear hΛ1
  refine k_aload_n C (f := 0) (i := 0) (p := 0) rfl rfl dX2_init_13 ?_
  refine k_newC C (h := i + 2) hz (Or.inr ⟨i + 1, by rw [a1.2.1]; decide, by omega⟩) (by omega) (ci := 0) (q := (RX0, TX0, 17)) rfl am_cl_RX2_15 am_in_0 am_it_0 ⟨Nat.le_of_ble_eq_true rfl, Nat.le_of_ble_eq_true rfl⟩ dX2_init_14 ?_
  have E3 := am_ext.new (s := (1, 0)) (h := i + 2) E2 (by omega)
  refine k_dup C rfl dX2_init_17 ?_
  refine k_newC C (h := i + 3) hz (Or.inr ⟨i + 2, by rw [nS_eq]; decide, by omega⟩) (by omega) (ci := 3) (q := (RX3, TX3, 13)) rfl am_cl_RX2_17 am_in_3 am_it_3 ⟨Nat.le_of_ble_eq_true rfl, Nat.le_of_ble_eq_true rfl⟩ dX2_init_18 ?_
  have E4 := am_ext.new (s := (1, 3)) (h := i + 3) E3 (by omega)
  refine k_dup C rfl dX2_init_21 ?_
  refine k_callNz C (h := i + 3 + 1) hz (Or.inr ⟨i + 3, by rw [nS_eq]; decide, by omega⟩) (by omega) hO am_nest_X2_19 am_im_X3 am_it_3 rfl ⟨by decide, by decide, by decide +kernel⟩ h_X3_init (ct_X3_init (p := i + 3) nS_eq) rfl rfl (Nat.le_of_ble_eq_true rfl) ⟨Nat.le_of_ble_eq_true rfl, Nat.le_of_ble_eq_true rfl⟩ ⟨Nat.le_of_ble_eq_true rfl, Nat.le_of_ble_eq_true rfl⟩ dX2_init_22 ?_
  rintro Λ5 I5 J5 ⟨hL5, E5⟩
  have E6 := am_ext.call E4 E5 (by omega) (by omega) (by omega)
  have a5 : ∀ b : Nat, b < i + 3 → Λ5.1 b = (am_nS (am_nS Λ1 (i + 2) (1, 0)) (i + 3) (1, 3)).1 b ∧ Λ5.2 b = (am_nS (am_nS Λ1 (i + 2) (1, 0)) (i + 3) (1, 3)).2 b := fun b hb => ⟨(E5.1 b (Or.inl (by omega))).1, E5.2.1 b (Or.inl (by omega)) (by omega)⟩
  have b5 : Λ5.1 i = (1, 2) ∧ Λ5.1 (i + 1) = (3, 700) ∧ Λ5.2 i 0 = some (i + 1) ∧ Λ5.1 (i + 2) = (1, 0) := by
    rw [(a5 i (by omega)).1, (a5 (i + 1) (by omega)).1, (a5 i (by omega)).2, (a5 (i + 2) (by omega)).1, nS_ne (by omega), nS_ne (by omega), nS_ne (by omega), nS_ne (by omega), nS_ne (by omega), nS_eq, nR_ne (by omega), nR_ne (by omega)]
    exact ⟨a1.1, a1.2.1, a1.2.2, rfl⟩
  refine k_callIz C (h := i + 13) hz (show am_low Λ5 (i + 1) 12 from Or.inr ⟨i + 12, by rw [show i + 12 = i + 3 + 9 by omega, A3_12 hL5]; decide, by omega⟩) (show i + 13 = i + 1 + 12 by omega) hO s_X2_20 h_X0_init (ct_X0_init (c := i + 2) (p := i + 3) (z := i + 13) b5.2.2.2 hL5 (by omega) (by omega) (by omega)) rfl rfl (Nat.le_of_ble_eq_true rfl) ⟨Nat.le_of_ble_eq_true rfl, Nat.le_of_ble_eq_true rfl⟩ ⟨Nat.le_of_ble_eq_true rfl, Nat.le_of_ble_eq_true rfl⟩ dX2_init_25 ?_
  rintro Λ7 I7 J7 ⟨hL7, E7⟩
  have E8 := am_ext.call E6 E7 (by omega) (by omega) (by omega)
  have a7 : ∀ b : Nat, b < i + 2 → Λ7.1 b = Λ5.1 b ∧ Λ7.2 b = Λ5.2 b := fun b hb => ⟨(E7.1 b (Or.inl (by omega))).1, E7.2.1 b (Or.inl (by omega)) (by omega)⟩
  refine k_putF C (b := i + 2) hin f_X2_23 ((a7 i (by omega)).1.trans b5.1) rfl rfl (Or.inr (Or.inr (Or.inr (Or.inr ⟨_, rfl⟩)))) dX2_init_28 ?_
  refine k_vret C (Nat.le_of_ble_eq_true rfl) (Nat.le_of_ble_eq_true rfl) (⟨rfl, ⟨(a7 i (by omega)).1.trans b5.1, ?_, (a7 _ (by omega)).1.trans b5.2.1, by simp [am_ur], CarLay_agree hL7 (fun b hb => ⟨rfl, am_ur_ne (by omega)⟩)⟩, am_ext.put (E8.w (by omega)) (Or.inl rfl)⟩) dX2_init_31
  have g : am_ur Λ7.2 i 2 (some (i + 2)) i 0 = Λ7.2 i 0 := by simp [am_ur]
  exact g.trans ((congrFun (a7 i (by omega)).2 0).trans b5.2.2.1)
