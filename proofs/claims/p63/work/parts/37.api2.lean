def sp_cvalTo (r : Nat → Int32) : Nat → Int32
  | 0 => nI 0
  | k + 1 => if r (142 + 4 * k) = -1 then sp_cvalTo r k else sp_cvalTo r k + r (141 + 4 * k)
theorem sp_cvalTo_t {r : Nat → Int32} {k : Nat} (h : r (142 + 4 * k) = -1) : sp_cvalTo r (k + 1) = sp_cvalTo r k := if_pos h
theorem sp_cvalTo_f {r : Nat → Int32} {k : Nat} (h : ¬ r (142 + 4 * k) = -1) : sp_cvalTo r (k + 1) = sp_cvalTo r k + r (141 + 4 * k) := if_neg h
set_option maxHeartbeats 4000000 in
set_option maxRecDepth 100000 in
theorem ct_X5_length {G : am_G} {Λ : am_L} {I : am_I} {J : am_J} {x : Nat} {r : Nat → Int32}  (hx : RouLay Λ x) (hr : CarRel I (x + 34) (x + 35) (x + 24) r) : am_Ct G yX5_length cX5_length 1 (some .int) { frames := 0, cells := 0, slots := 0, locals := 0 } [.ref x] Λ I J (am_pure (.int (r 0)) Λ I J) am_never := by
  refine am_ct_of (own := RX5) rfl (by decide) (Nat.le_of_ble_eq_true rfl) (fun X C => ?_)
  change am_K G X { frames := 0, cells := 0, slots := 0, locals := 0 } 1 Λ I J 0 0 0 [(0, .ref x)] []
  have hl := L5_n hx
  have hp := L5_p hx
  have hpr := CR_p hr
  have hnc := PR_c hpr
  have hnw := PR_w hpr
  have hnl := CR_l hr
  refine k_aload_n C (f := 0) (i := 0) (p := 0) rfl rfl dX5_length_0 ?_
  refine k_getR C f_X5_49 (L5_s (by assumption)) (fun _ _ _ => rfl) (L5_2 (by assumption)) dX5_length_1 ?_
  refine k_getR C f_X5_37 (L0_s (by assumption)) (fun _ _ _ => rfl) (L0_0 (by assumption)) dX5_length_4 ?_
  refine k_getI C f_X5_115 (L3_s (by assumption)) (fun _ _ _ => rfl) (by first | exact PR_0 (by assumption) | assumption | rfl) dX5_length_7 ?_
  exact k_iret C (Nat.le_of_ble_eq_true rfl) (Nat.le_of_ble_eq_true rfl) (⟨rfl, rfl, rfl, rfl⟩) dX5_length_10
set_option maxHeartbeats 4000000 in
set_option maxRecDepth 100000 in
theorem ct_X5_kilometre {G : am_G} {Λ : am_L} {I : am_I} {J : am_J} {x : Nat} {r : Nat → Int32}  (hx : RouLay Λ x) (hr : CarRel I (x + 34) (x + 35) (x + 24) r) : am_Ct G yX5_kilometre cX5_kilometre 1 (some .int) { frames := 0, cells := 0, slots := 0, locals := 0 } [.ref x] Λ I J (am_pure (.int (r 1)) Λ I J) am_never := by
  refine am_ct_of (own := RX5) rfl (by decide) (Nat.le_of_ble_eq_true rfl) (fun X C => ?_)
  change am_K G X { frames := 0, cells := 0, slots := 0, locals := 0 } 1 Λ I J 0 0 0 [(0, .ref x)] []
  have hl := L5_n hx
  have hp := L5_p hx
  have hpr := CR_p hr
  have hnc := PR_c hpr
  have hnw := PR_w hpr
  have hnl := CR_l hr
  refine k_aload_n C (f := 0) (i := 0) (p := 0) rfl rfl dX5_kilometre_0 ?_
  refine k_getR C f_X5_49 (L5_s (by assumption)) (fun _ _ _ => rfl) (L5_2 (by assumption)) dX5_kilometre_1 ?_
  refine k_getI C f_X5_116 (L0_s (by assumption)) (fun _ _ _ => rfl) (by first | exact CR_1 (by assumption) | assumption | rfl) dX5_kilometre_4 ?_
  exact k_iret C (Nat.le_of_ble_eq_true rfl) (Nat.le_of_ble_eq_true rfl) (⟨rfl, rfl, rfl, rfl⟩) dX5_kilometre_7
set_option maxHeartbeats 4000000 in
set_option maxRecDepth 100000 in
theorem ct_X5_day {G : am_G} {Λ : am_L} {I : am_I} {J : am_J} {x : Nat} {r : Nat → Int32}  (hx : RouLay Λ x) (hr : CarRel I (x + 34) (x + 35) (x + 24) r) : am_Ct G yX5_day cX5_day 1 (some .int) { frames := 0, cells := 0, slots := 0, locals := 0 } [.ref x] Λ I J (am_pure (.int (r 2)) Λ I J) am_never := by
  refine am_ct_of (own := RX5) rfl (by decide) (Nat.le_of_ble_eq_true rfl) (fun X C => ?_)
  change am_K G X { frames := 0, cells := 0, slots := 0, locals := 0 } 1 Λ I J 0 0 0 [(0, .ref x)] []
  have hl := L5_n hx
  have hp := L5_p hx
  have hpr := CR_p hr
  have hnc := PR_c hpr
  have hnw := PR_w hpr
  have hnl := CR_l hr
  refine k_aload_n C (f := 0) (i := 0) (p := 0) rfl rfl dX5_day_0 ?_
  refine k_getR C f_X5_49 (L5_s (by assumption)) (fun _ _ _ => rfl) (L5_2 (by assumption)) dX5_day_1 ?_
  refine k_getI C f_X5_123 (L0_s (by assumption)) (fun _ _ _ => rfl) (by first | exact CR_2 (by assumption) | assumption | rfl) dX5_day_4 ?_
  exact k_iret C (Nat.le_of_ble_eq_true rfl) (Nat.le_of_ble_eq_true rfl) (⟨rfl, rfl, rfl, rfl⟩) dX5_day_7
set_option maxHeartbeats 4000000 in
set_option maxRecDepth 100000 in
theorem ct_X5_drunk {G : am_G} {Λ : am_L} {I : am_I} {J : am_J} {x : Nat} {r : Nat → Int32}  (hx : RouLay Λ x) (hr : CarRel I (x + 34) (x + 35) (x + 24) r) : am_Ct G yX5_drunk cX5_drunk 1 (some .int) { frames := 0, cells := 0, slots := 0, locals := 0 } [.ref x] Λ I J (am_pure (.int (r 5)) Λ I J) am_never := by
  refine am_ct_of (own := RX5) rfl (by decide) (Nat.le_of_ble_eq_true rfl) (fun X C => ?_)
  change am_K G X { frames := 0, cells := 0, slots := 0, locals := 0 } 1 Λ I J 0 0 0 [(0, .ref x)] []
  have hl := L5_n hx
  have hp := L5_p hx
  have hpr := CR_p hr
  have hnc := PR_c hpr
  have hnw := PR_w hpr
  have hnl := CR_l hr
  refine k_aload_n C (f := 0) (i := 0) (p := 0) rfl rfl dX5_drunk_0 ?_
  refine k_getR C f_X5_49 (L5_s (by assumption)) (fun _ _ _ => rfl) (L5_2 (by assumption)) dX5_drunk_1 ?_
  refine k_getI C f_X5_166 (L0_s (by assumption)) (fun _ _ _ => rfl) (by first | exact CR_5 (by assumption) | assumption | rfl) dX5_drunk_4 ?_
  exact k_iret C (Nat.le_of_ble_eq_true rfl) (Nat.le_of_ble_eq_true rfl) (⟨rfl, rfl, rfl, rfl⟩) dX5_drunk_7
set_option maxHeartbeats 4000000 in
set_option maxRecDepth 100000 in
theorem ct_X5_leader {G : am_G} {Λ : am_L} {I : am_I} {J : am_J} {x : Nat} {r : Nat → Int32}  (hx : RouLay Λ x) (hr : CarRel I (x + 34) (x + 35) (x + 24) r) : am_Ct G yX5_leader cX5_leader 1 (some .int) { frames := 0, cells := 0, slots := 0, locals := 0 } [.ref x] Λ I J (am_pure (.int (r 4)) Λ I J) am_never := by
  refine am_ct_of (own := RX5) rfl (by decide) (Nat.le_of_ble_eq_true rfl) (fun X C => ?_)
  change am_K G X { frames := 0, cells := 0, slots := 0, locals := 0 } 1 Λ I J 0 0 0 [(0, .ref x)] []
  have hl := L5_n hx
  have hp := L5_p hx
  have hpr := CR_p hr
  have hnc := PR_c hpr
  have hnw := PR_w hpr
  have hnl := CR_l hr
  refine k_aload_n C (f := 0) (i := 0) (p := 0) rfl rfl dX5_leader_0 ?_
  refine k_getR C f_X5_49 (L5_s (by assumption)) (fun _ _ _ => rfl) (L5_2 (by assumption)) dX5_leader_1 ?_
  refine k_getI C f_X5_172 (L0_s (by assumption)) (fun _ _ _ => rfl) (by first | exact CR_4 (by assumption) | assumption | rfl) dX5_leader_4 ?_
  exact k_iret C (Nat.le_of_ble_eq_true rfl) (Nat.le_of_ble_eq_true rfl) (⟨rfl, rfl, rfl, rfl⟩) dX5_leader_7
set_option maxHeartbeats 4000000 in
set_option maxRecDepth 100000 in
theorem ct_X5_wellCount {G : am_G} {Λ : am_L} {I : am_I} {J : am_J} {x : Nat} {r : Nat → Int32}  (hx : RouLay Λ x) (hr : CarRel I (x + 34) (x + 35) (x + 24) r) : am_Ct G yX5_wellCount cX5_wellCount 1 (some .int) { frames := 0, cells := 0, slots := 0, locals := 0 } [.ref x] Λ I J (am_pure (.int (nI (sp_nw r))) Λ I J) am_never := by
  refine am_ct_of (own := RX5) rfl (by decide) (Nat.le_of_ble_eq_true rfl) (fun X C => ?_)
  change am_K G X { frames := 0, cells := 0, slots := 0, locals := 0 } 1 Λ I J 0 0 0 [(0, .ref x)] []
  have hl := L5_n hx
  have hp := L5_p hx
  have hpr := CR_p hr
  have hnc := PR_c hpr
  have hnw := PR_w hpr
  have hnl := CR_l hr
  refine k_aload_n C (f := 0) (i := 0) (p := 0) rfl rfl dX5_wellCount_0 ?_
  refine k_getR C f_X5_49 (L5_s (by assumption)) (fun _ _ _ => rfl) (L5_2 (by assumption)) dX5_wellCount_1 ?_
  refine k_getR C f_X5_37 (L0_s (by assumption)) (fun _ _ _ => rfl) (L0_0 (by assumption)) dX5_wellCount_4 ?_
  refine k_getI C f_X5_136 (L3_s (by assumption)) (fun _ _ _ => rfl) (by first | exact PR_5 (by assumption) | assumption | rfl) dX5_wellCount_7 ?_
  exact k_iret C (Nat.le_of_ble_eq_true rfl) (Nat.le_of_ble_eq_true rfl) (⟨rfl, rfl, rfl, rfl⟩) dX5_wellCount_10
set_option maxHeartbeats 4000000 in
set_option maxRecDepth 100000 in
theorem ct_X5_camelCount {G : am_G} {Λ : am_L} {I : am_I} {J : am_J} {x : Nat} {r : Nat → Int32}  (hx : RouLay Λ x) (hr : CarRel I (x + 34) (x + 35) (x + 24) r) : am_Ct G yX5_camelCount cX5_camelCount 1 (some .int) { frames := 0, cells := 0, slots := 0, locals := 0 } [.ref x] Λ I J (am_pure (.int (nI (sp_nc r))) Λ I J) am_never := by
  refine am_ct_of (own := RX5) rfl (by decide) (Nat.le_of_ble_eq_true rfl) (fun X C => ?_)
  change am_K G X { frames := 0, cells := 0, slots := 0, locals := 0 } 1 Λ I J 0 0 0 [(0, .ref x)] []
  have hl := L5_n hx
  have hp := L5_p hx
  have hpr := CR_p hr
  have hnc := PR_c hpr
  have hnw := PR_w hpr
  have hnl := CR_l hr
  refine k_aload_n C (f := 0) (i := 0) (p := 0) rfl rfl dX5_camelCount_0 ?_
  refine k_getR C f_X5_49 (L5_s (by assumption)) (fun _ _ _ => rfl) (L5_2 (by assumption)) dX5_camelCount_1 ?_
  refine k_getR C f_X5_37 (L0_s (by assumption)) (fun _ _ _ => rfl) (L0_0 (by assumption)) dX5_camelCount_4 ?_
  refine k_getI C f_X5_107 (L3_s (by assumption)) (fun _ _ _ => rfl) (by first | exact PR_1 (by assumption) | assumption | rfl) dX5_camelCount_7 ?_
  exact k_iret C (Nat.le_of_ble_eq_true rfl) (Nat.le_of_ble_eq_true rfl) (⟨rfl, rfl, rfl, rfl⟩) dX5_camelCount_10
set_option maxHeartbeats 4000000 in
set_option maxRecDepth 100000 in
theorem ct_X5_loadCount {G : am_G} {Λ : am_L} {I : am_I} {J : am_J} {x : Nat} {r : Nat → Int32}  (hx : RouLay Λ x) (hr : CarRel I (x + 34) (x + 35) (x + 24) r) : am_Ct G yX5_loadCount cX5_loadCount 1 (some .int) { frames := 0, cells := 0, slots := 0, locals := 0 } [.ref x] Λ I J (am_pure (.int (nI (sp_nl r))) Λ I J) am_never := by
  refine am_ct_of (own := RX5) rfl (by decide) (Nat.le_of_ble_eq_true rfl) (fun X C => ?_)
  change am_K G X { frames := 0, cells := 0, slots := 0, locals := 0 } 1 Λ I J 0 0 0 [(0, .ref x)] []
  have hl := L5_n hx
  have hp := L5_p hx
  have hpr := CR_p hr
  have hnc := PR_c hpr
  have hnw := PR_w hpr
  have hnl := CR_l hr
  refine k_aload_n C (f := 0) (i := 0) (p := 0) rfl rfl dX5_loadCount_0 ?_
  refine k_getR C f_X5_49 (L5_s (by assumption)) (fun _ _ _ => rfl) (L5_2 (by assumption)) dX5_loadCount_1 ?_
  refine k_getI C f_X5_222 (L0_s (by assumption)) (fun _ _ _ => rfl) (by first | exact CR_12 (by assumption) | assumption | rfl) dX5_loadCount_4 ?_
  exact k_iret C (Nat.le_of_ble_eq_true rfl) (Nat.le_of_ble_eq_true rfl) (⟨rfl, rfl, rfl, rfl⟩) dX5_loadCount_7
set_option maxHeartbeats 4000000 in
set_option maxRecDepth 100000 in
theorem ct_X5_hasArrived {G : am_G} {Λ : am_L} {I : am_I} {J : am_J} {x : Nat} {r : Nat → Int32}  (hx : RouLay Λ x) (hr : CarRel I (x + 34) (x + 35) (x + 24) r) : am_Ct G yX5_hasArrived cX5_hasArrived 1 (some .boolean) { frames := 1, cells := 0, slots := 0, locals := 20 } [.ref x] Λ I J (am_pure (.int (am_b (r 0 ≤ r 1))) Λ I J) am_never := by
  refine am_ct_of (own := RX5) rfl (by decide) (Nat.le_of_ble_eq_true rfl) (fun X C => ?_)
  change am_K G X { frames := 1, cells := 0, slots := 0, locals := 20 } 1 Λ I J 0 0 0 [(0, .ref x)] []
  have hl := L5_n hx
  have hp := L5_p hx
  have hpr := CR_p hr
  have hnc := PR_c hpr
  have hnw := PR_w hpr
  have hnl := CR_l hr
  refine k_aload_n C (f := 0) (i := 0) (p := 0) rfl rfl dX5_hasArrived_0 ?_
  refine k_getR C f_X5_49 (L5_s (by assumption)) (fun _ _ _ => rfl) (L5_2 (by assumption)) dX5_hasArrived_1 ?_
  refine k_callVp C s_X5_119 h_X0_isAtEnd (L0_s (by assumption)) rfl (ct_X0_isAtEnd (by first | assumption | omega) (by first | assumption | omega)) rfl rfl (Nat.le_of_ble_eq_true rfl) ⟨Nat.le_of_ble_eq_true rfl, Nat.le_of_ble_eq_true rfl⟩ ⟨Nat.le_of_ble_eq_true rfl, Nat.le_of_ble_eq_true rfl⟩ ⟨rfl, rfl⟩ dX5_hasArrived_4 ?_
  exact k_zret C (by first | rfl | exact am_bz) (Nat.le_of_ble_eq_true rfl) (Nat.le_of_ble_eq_true rfl) (⟨rfl, rfl, rfl, rfl⟩) dX5_hasArrived_7
set_option maxHeartbeats 4000000 in
set_option maxRecDepth 100000 in
theorem ct_X5_livingCamels {G : am_G} {Λ : am_L} {I : am_I} {J : am_J} {x : Nat} {r : Nat → Int32}  (hx : RouLay Λ x) (hr : CarRel I (x + 34) (x + 35) (x + 24) r) : am_Ct G yX5_livingCamels cX5_livingCamels 1 (some .int) { frames := 3, cells := 0, slots := 0, locals := 64 } [.ref x] Λ I J (am_pure (.int (nI (sp_living r))) Λ I J) am_never := by
  refine am_ct_of (own := RX5) rfl (by decide) (Nat.le_of_ble_eq_true rfl) (fun X C => ?_)
  change am_K G X { frames := 3, cells := 0, slots := 0, locals := 64 } 1 Λ I J 0 0 0 [(0, .ref x)] []
  have hl := L5_n hx
  have hp := L5_p hx
  have hpr := CR_p hr
  have hnc := PR_c hpr
  have hnw := PR_w hpr
  have hnl := CR_l hr
  refine k_aload_n C (f := 0) (i := 0) (p := 0) rfl rfl dX5_livingCamels_0 ?_
  refine k_getR C f_X5_49 (L5_s (by assumption)) (fun _ _ _ => rfl) (L5_2 (by assumption)) dX5_livingCamels_1 ?_
  refine k_callVp C s_X5_169 h_X0_countLiving (L0_s (by assumption)) rfl (ct_X0_countLiving (by first | assumption | omega) (by first | assumption | omega)) rfl rfl (Nat.le_of_ble_eq_true rfl) ⟨Nat.le_of_ble_eq_true rfl, Nat.le_of_ble_eq_true rfl⟩ ⟨Nat.le_of_ble_eq_true rfl, Nat.le_of_ble_eq_true rfl⟩ ⟨rfl, rfl⟩ dX5_livingCamels_4 ?_
  exact k_iret C (Nat.le_of_ble_eq_true rfl) (Nat.le_of_ble_eq_true rfl) (⟨rfl, rfl, rfl, rfl⟩) dX5_livingCamels_7
set_option maxHeartbeats 4000000 in
set_option maxRecDepth 100000 in
theorem ct_X5_isStopping {G : am_G} {Λ : am_L} {I : am_I} {J : am_J} {x : Nat} {r : Nat → Int32}  (hx : RouLay Λ x) (hr : CarRel I (x + 34) (x + 35) (x + 24) r) (h3 : r 3 = 0 ∨ r 3 = 1) : am_Ct G yX5_isStopping cX5_isStopping 1 (some .boolean) { frames := 0, cells := 0, slots := 0, locals := 0 } [.ref x] Λ I J (am_pure (.int (am_b (r 3 = nI 1))) Λ I J) am_never := by
  refine am_ct_of (own := RX5) rfl (by decide) (Nat.le_of_ble_eq_true rfl) (fun X C => ?_)
  change am_K G X { frames := 0, cells := 0, slots := 0, locals := 0 } 1 Λ I J 0 0 0 [(0, .ref x)] []
  have hl := L5_n hx
  have hp := L5_p hx
  have hpr := CR_p hr
  have hnc := PR_c hpr
  have hnw := PR_w hpr
  have hnl := CR_l hr
  refine k_aload_n C (f := 0) (i := 0) (p := 0) rfl rfl dX5_isStopping_0 ?_
  refine k_getR C f_X5_49 (L5_s (by assumption)) (fun _ _ _ => rfl) (L5_2 (by assumption)) dX5_isStopping_1 ?_
  refine k_getI C f_X5_132 (L0_s (by assumption)) (fun _ _ _ => rfl) (by first | exact CR_3 (by assumption) | assumption | rfl) dX5_isStopping_4 ?_
  exact k_zret C (by rcases h3 with h | h <;> rw [h] <;> rfl) (Nat.le_of_ble_eq_true rfl) (Nat.le_of_ble_eq_true rfl) (⟨by rcases h3 with h | h <;> rw [h] <;> rfl, rfl, rfl, rfl⟩) dX5_isStopping_7
set_option maxHeartbeats 4000000 in
set_option maxRecDepth 100000 in
theorem ct_X5_distanceToday {G : am_G} {Λ : am_L} {I : am_I} {J : am_J} {x : Nat} {r : Nat → Int32} {ld : Nat} (hx : RouLay Λ x) (hr : CarRel I (x + 34) (x + 35) (x + 24) r) (hld : r 4 = nI ld) (hlc : ld < sp_nc r) (h3 : r 3 = 0 ∨ r 3 = 1) (hw : ∀ k : Nat, k < sp_nw r → r (90 + 4 * k) < nI 1000) : am_Ct G yX5_distanceToday cX5_distanceToday 1 (some .int) { frames := 4, cells := 0, slots := 0, locals := 86 } [.ref x] Λ I J (am_pure (.int (if sp_living r = 0 then nI 0 else sp_dist r ld)) Λ I J) am_never := by
  refine am_ct_of (own := RX5) rfl (by decide) (Nat.le_of_ble_eq_true rfl) (fun X C => ?_)
  change am_K G X { frames := 4, cells := 0, slots := 0, locals := 86 } 1 Λ I J 0 0 0 [(0, .ref x)] []
  have hl := L5_n hx
  have hp := L5_p hx
  have hpr := CR_p hr
  have hnc := PR_c hpr
  have hnw := PR_w hpr
  have hnl := CR_l hr
  refine k_aload_n C (f := 0) (i := 0) (p := 0) rfl rfl dX5_distanceToday_0 ?_
  refine k_getR C f_X5_49 (L5_s (by assumption)) (fun _ _ _ => rfl) (L5_2 (by assumption)) dX5_distanceToday_1 ?_
  refine k_callVp C s_X5_247 h_X0_distanceNow (L0_s (by assumption)) rfl (ct_X0_distanceNow hl hr hld hlc h3 hw) rfl rfl (Nat.le_of_ble_eq_true rfl) ⟨Nat.le_of_ble_eq_true rfl, Nat.le_of_ble_eq_true rfl⟩ ⟨Nat.le_of_ble_eq_true rfl, Nat.le_of_ble_eq_true rfl⟩ ⟨rfl, rfl⟩ dX5_distanceToday_4 ?_
  exact k_iret C (Nat.le_of_ble_eq_true rfl) (Nat.le_of_ble_eq_true rfl) (⟨rfl, rfl, rfl, rfl⟩) dX5_distanceToday_7
set_option maxHeartbeats 4000000 in
set_option maxRecDepth 100000 in
theorem ct_X5_carriedValue {G : am_G} {Λ : am_L} {I : am_I} {J : am_J} {x : Nat} {r : Nat → Int32}  (hx : RouLay Λ x) (hr : CarRel I (x + 34) (x + 35) (x + 24) r) : am_Ct G yX5_carriedValue cX5_carriedValue 3 (some .int) { frames := 0, cells := 0, slots := 0, locals := 0 } [.ref x] Λ I J (am_pure (.int (sp_cvalTo r (sp_nl r))) Λ I J) am_never := by
  refine am_ct_of (own := RX5) rfl (by decide) (Nat.le_of_ble_eq_true rfl) (fun X C => ?_)
  change am_K G X { frames := 0, cells := 0, slots := 0, locals := 0 } 3 Λ I J 0 0 0 [(0, .ref x)] []
  have hl := L5_n hx
  have hp := L5_p hx
  have hpr := CR_p hr
  have hnc := PR_c hpr
  have hnw := PR_w hpr
  have hnl := CR_l hr
  refine k_iconst C ic_0 dX5_carriedValue_0 ?_
  refine k_istore_n C (f := 1) (i := 1) (lv := [(1, _), (0, _)]) rfl (Nat.le_of_ble_eq_true rfl) rfl dX5_carriedValue_1 ?_
  refine k_iconst C ic_0 dX5_carriedValue_2 ?_
  refine k_istore_n C (f := 2) (i := 2) (lv := [(2, _), (1, _), (0, _)]) rfl (Nat.le_of_ble_eq_true rfl) rfl dX5_carriedValue_3 ?_
  have loop4 : ∀ (f : Nat) (k : Nat) (su : Int32), (k ≤ sp_nl r) → (su = sp_cvalTo r k) → (sp_nl r - k) < f → am_K G X { frames := 0, cells := 0, slots := 0, locals := 0 } 3 Λ I J 0 0 4 [(0, .ref x), (1, .int su), (2, .int (nI k))] [] := by
    intro f
    induction f with
    | zero => intro k su hk hs hf; exact absurd hf (Nat.not_lt_zero _)
    | succ f ih4 =>
      intro k su hk hs hf
      refine k_iload_n C (f := 2) (i := 2) (p := 2) rfl rfl dX5_carriedValue_4 ?_
      refine k_aload_n C (f := 0) (i := 0) (p := 0) rfl rfl dX5_carriedValue_5 ?_
      refine k_getR C f_X5_49 (L5_s (by assumption)) (fun _ _ _ => rfl) (L5_2 (by assumption)) dX5_carriedValue_6 ?_
      refine k_getI C f_X5_222 (L0_s (by assumption)) (fun _ _ _ => rfl) (by first | exact CR_12 (by assumption) | assumption | rfl) dX5_carriedValue_9 ?_
      first
      | refine k_icmpN_ge C (tgt := 46) (by omega) (by omega) (by decide) dX5_carriedValue_12 (fun hc12 => ?_) (fun hc12 => ?_)
      | refine k_icmp_ge C (tgt := 46) (by decide) dX5_carriedValue_12 (fun hc12 => ?_) (fun hc12 => ?_)
      · skip
        refine k_iload_n C (f := 1) (i := 1) (p := 1) rfl rfl dX5_carriedValue_46 ?_
        exact k_iret C (Nat.le_of_ble_eq_true rfl) (Nat.le_of_ble_eq_true rfl) (⟨by rw [hs, show k = sp_nl r by omega], rfl, rfl, rfl⟩) dX5_carriedValue_47
      · skip
        refine k_aload_n C (f := 0) (i := 0) (p := 0) rfl rfl dX5_carriedValue_15 ?_
        refine k_getR C f_X5_49 (L5_s (by assumption)) (fun _ _ _ => rfl) (L5_2 (by assumption)) dX5_carriedValue_16 ?_
        refine k_getR C f_X5_239 (L0_s (by assumption)) (fun _ _ _ => rfl) (L0_15 (by assumption)) dX5_carriedValue_19 ?_
        refine k_iload_n C (f := 2) (i := 2) (p := 2) rfl rfl dX5_carriedValue_22 ?_
        refine k_iald C (A0_15 (by assumption)) (by first | rfl | assumption) (by omega) (by decide) (by first | exact CRa_15 (by assumption) (by omega) | assumption | rfl) dX5_carriedValue_23 ?_
        refine k_iconst C ic_m1 dX5_carriedValue_24 ?_
        refine k_icmp_eq C (tgt := 40) (by decide) dX5_carriedValue_25 (fun hc25 => ?_) (fun hc25 => ?_)
        · skip
          refine k_iinc C (i := 2) (p := 2) (lv := [(2, _), (0, _), (1, _)]) (Nat.le_of_ble_eq_true rfl) rfl (by first | exact am_inc1 _ | rfl) rfl dX5_carriedValue_40 ?_
          refine k_goto C (tgt := 4) (by decide) dX5_carriedValue_43 ?_
          refine k_sub [1, 2, 0] rfl ?_
          first
          | exact ih4 (k + 1) _ (by omega) (by rw [sp_cvalTo_t hc25]; exact hs) (by omega)
          | exact ih4 (k + 1) _ (by omega) (by rw [sp_cvalTo_f hc25, hs]) (by omega)
        · skip
          refine k_iload_n C (f := 1) (i := 1) (p := 1) rfl rfl dX5_carriedValue_28 ?_
          refine k_aload_n C (f := 0) (i := 0) (p := 0) rfl rfl dX5_carriedValue_29 ?_
          refine k_getR C f_X5_49 (L5_s (by assumption)) (fun _ _ _ => rfl) (L5_2 (by assumption)) dX5_carriedValue_30 ?_
          refine k_getR C f_X5_236 (L0_s (by assumption)) (fun _ _ _ => rfl) (L0_14 (by assumption)) dX5_carriedValue_33 ?_
          refine k_iload_n C (f := 2) (i := 2) (p := 2) rfl rfl dX5_carriedValue_36 ?_
          refine k_iald C (A0_14 (by assumption)) (by first | rfl | assumption) (by omega) (by decide) (by first | exact CRa_14 (by assumption) (by omega) | assumption | rfl) dX5_carriedValue_37 ?_
          refine k_iadd C dX5_carriedValue_38 ?_
          refine k_istore_n C (f := 1) (i := 1) (lv := [(1, _), (0, _), (2, _)]) rfl (Nat.le_of_ble_eq_true rfl) rfl dX5_carriedValue_39 ?_
          refine k_iinc C (i := 2) (p := 2) (lv := [(2, _), (1, _), (0, _)]) (Nat.le_of_ble_eq_true rfl) rfl (by first | exact am_inc1 _ | rfl) rfl dX5_carriedValue_40 ?_
          refine k_goto C (tgt := 4) (by decide) dX5_carriedValue_43 ?_
          refine k_sub [2, 1, 0] rfl ?_
          first
          | exact ih4 (k + 1) _ (by omega) (by rw [sp_cvalTo_t hc25]; exact hs) (by omega)
          | exact ih4 (k + 1) _ (by omega) (by rw [sp_cvalTo_f hc25, hs]) (by omega)
  refine k_sub [2, 1, 0] rfl ?_
  exact loop4 (sp_nl r + 1) 0 (nI 0) (Nat.zero_le _) rfl (by omega)
set_option maxHeartbeats 4000000 in
set_option maxRecDepth 100000 in
theorem ct_X5_hasError {G : am_G} {Λ : am_L} {I : am_I} {J : am_J} {x : Nat} {e : Int32} (hx : RouLay Λ x) (he : I x 1 = e) : am_Ct G yX5_hasError cX5_hasError 1 (some .boolean) { frames := 0, cells := 0, slots := 0, locals := 0 } [.ref x] Λ I J (am_pure (.int (am_b (¬ e = -1))) Λ I J) am_never := by
  refine am_ct_of (own := RX5) rfl (by decide) (Nat.le_of_ble_eq_true rfl) (fun X C => ?_)
  change am_K G X { frames := 0, cells := 0, slots := 0, locals := 0 } 1 Λ I J 0 0 0 [(0, .ref x)] []
  refine k_aload_n C (f := 0) (i := 0) (p := 0) rfl rfl dX5_hasError_0 ?_
  refine k_getI C f_X5_26 (L5_s (by assumption)) (fun _ _ _ => rfl) (by first | assumption | rfl) dX5_hasError_1 ?_
  refine k_iconst C ic_m1 dX5_hasError_4 ?_
  refine k_icmp_eq C (tgt := 12) (by decide) dX5_hasError_5 (fun hc5 => ?_) (fun hc5 => ?_)
  · skip
    refine k_iconst C ic_0 dX5_hasError_12 ?_
    exact k_zret C (by first | rfl | exact am_bz) (Nat.le_of_ble_eq_true rfl) (Nat.le_of_ble_eq_true rfl) (⟨congrArg (fun z => some (Value.int z)) (am_bf (by first | assumption | (refine ⟨?_, ?_⟩ <;> assumption) | omega | (simp_all; done))), rfl, rfl, rfl⟩) dX5_hasError_13
  · skip
    refine k_iconst C ic_1 dX5_hasError_8 ?_
    refine k_goto C (tgt := 13) (by decide) dX5_hasError_9 ?_
    exact k_zret C (by first | rfl | exact am_bz) (Nat.le_of_ble_eq_true rfl) (Nat.le_of_ble_eq_true rfl) (⟨congrArg (fun z => some (Value.int z)) (am_bt (by first | assumption | (refine ⟨?_, ?_⟩ <;> assumption) | omega | (simp_all; done))), rfl, rfl, rfl⟩) dX5_hasError_13
set_option maxHeartbeats 4000000 in
set_option maxRecDepth 100000 in
theorem ct_X5_errorOffset {G : am_G} {Λ : am_L} {I : am_I} {J : am_J} {x : Nat} {e : Int32} (hx : RouLay Λ x) (he : I x 1 = e) : am_Ct G yX5_errorOffset cX5_errorOffset 1 (some .int) { frames := 6, cells := 1, slots := 6, locals := 90 } [.ref x] Λ I J (am_pok (some (.int e)) (if e = -1 then 1 else 0) Λ I J) (am_px1 "java/util/NoSuchElementException" (if e = -1 then 1 else 0) Λ I J) := by
  refine am_ct_of (own := RX5) rfl (by decide) (Nat.le_of_ble_eq_true rfl) (fun X C => ?_)
  change am_K G X { frames := 6, cells := 1, slots := 6, locals := 90 } 1 Λ I J 0 0 0 [(0, .ref x)] []
  refine k_aload_n C (f := 0) (i := 0) (p := 0) rfl rfl dX5_errorOffset_0 ?_
  refine k_getI C f_X5_26 (L5_s (by assumption)) (fun _ _ _ => rfl) (by first | assumption | rfl) dX5_errorOffset_1 ?_
  refine k_iconst C ic_m1 dX5_errorOffset_4 ?_
  refine k_icmp_ne C (tgt := 18) (by decide) dX5_errorOffset_5 (fun hc5 => ?_) (fun hc5 => ?_)
  · skip
    refine k_aload_n C (f := 0) (i := 0) (p := 0) rfl rfl dX5_errorOffset_18 ?_
    refine k_getI C f_X5_26 (L5_s (by assumption)) (fun _ _ _ => rfl) (by first | assumption | rfl) dX5_errorOffset_19 ?_
    exact k_iret C (Nat.le_of_ble_eq_true rfl) (Nat.le_of_ble_eq_true rfl) (⟨rfl, if_neg hc5, rfl, rfl, rfl⟩) dX5_errorOffset_22
  · skip
    exact k_throwN C tw_X5_110 (si := 10) rfl (Nat.le_of_ble_eq_true rfl) (Nat.le_of_ble_eq_true rfl) (⟨rfl, if_pos hc5, rfl, rfl, rfl⟩) ⟨Nat.le_of_ble_eq_true rfl, Nat.le_of_ble_eq_true rfl⟩ ⟨Nat.le_of_ble_eq_true rfl, Nat.le_of_ble_eq_true rfl⟩ dX5_errorOffset_8 dX5_errorOffset_11 dX5_errorOffset_12 dX5_errorOffset_14 dX5_errorOffset_17
set_option maxHeartbeats 4000000 in
set_option maxRecDepth 100000 in
theorem ct_X5_wellHere {G : am_G} {Λ : am_L} {I : am_I} {J : am_J} {x : Nat} {r : Nat → Int32}  (hx : RouLay Λ x) (hr : CarRel I (x + 34) (x + 35) (x + 24) r) : am_Ct G yX5_wellHere cX5_wellHere 2 (some .int) { frames := 6, cells := 1, slots := 6, locals := 90 } [.ref x] Λ I J (am_pok (some (.int (sp_wellOn r (r 1)))) (if sp_wellOn r (r 1) = -1 then 1 else 0) Λ I J) (am_px1 "java/util/NoSuchElementException" (if sp_wellOn r (r 1) = -1 then 1 else 0) Λ I J) := by
  refine am_ct_of (own := RX5) rfl (by decide) (Nat.le_of_ble_eq_true rfl) (fun X C => ?_)
  change am_K G X { frames := 6, cells := 1, slots := 6, locals := 90 } 2 Λ I J 0 0 0 [(0, .ref x)] []
  have hl := L5_n hx
  have hp := L5_p hx
  have hpr := CR_p hr
  have hnc := PR_c hpr
  have hnw := PR_w hpr
  have hnl := CR_l hr
  refine k_aload_n C (f := 0) (i := 0) (p := 0) rfl rfl dX5_wellHere_0 ?_
  refine k_getR C f_X5_49 (L5_s (by assumption)) (fun _ _ _ => rfl) (L5_2 (by assumption)) dX5_wellHere_1 ?_
  refine k_getR C f_X5_37 (L0_s (by assumption)) (fun _ _ _ => rfl) (L0_0 (by assumption)) dX5_wellHere_4 ?_
  refine k_aload_n C (f := 0) (i := 0) (p := 0) rfl rfl dX5_wellHere_7 ?_
  refine k_getR C f_X5_49 (L5_s (by assumption)) (fun _ _ _ => rfl) (L5_2 (by assumption)) dX5_wellHere_8 ?_
  refine k_getI C f_X5_116 (L0_s (by assumption)) (fun _ _ _ => rfl) (by first | exact CR_1 (by assumption) | assumption | rfl) dX5_wellHere_11 ?_
  refine k_callVp C s_X5_156 h_X3_wellAt (L3_s (by assumption)) rfl (ct_X3_wellAt hp hpr) rfl rfl (Nat.le_of_ble_eq_true rfl) ⟨Nat.le_of_ble_eq_true rfl, Nat.le_of_ble_eq_true rfl⟩ ⟨Nat.le_of_ble_eq_true rfl, Nat.le_of_ble_eq_true rfl⟩ ⟨rfl, rfl⟩ dX5_wellHere_14 ?_
  refine k_istore_n C (f := 1) (i := 1) (lv := [(1, _), (0, _)]) rfl (Nat.le_of_ble_eq_true rfl) rfl dX5_wellHere_17 ?_
  refine k_iload_n C (f := 1) (i := 1) (p := 0) rfl rfl dX5_wellHere_18 ?_
  refine k_iconst C ic_m1 dX5_wellHere_19 ?_
  refine k_icmp_ne C (tgt := 33) (by decide) dX5_wellHere_20 (fun hc20 => ?_) (fun hc20 => ?_)
  · skip
    refine k_iload_n C (f := 1) (i := 1) (p := 0) rfl rfl dX5_wellHere_33 ?_
    exact k_iret C (Nat.le_of_ble_eq_true rfl) (Nat.le_of_ble_eq_true rfl) (⟨rfl, if_neg hc20, rfl, rfl, rfl⟩) dX5_wellHere_34
  · skip
    exact k_throwN C tw_X5_110 (si := 13) rfl (Nat.le_of_ble_eq_true rfl) (Nat.le_of_ble_eq_true rfl) (⟨rfl, if_pos hc20, rfl, rfl, rfl⟩) ⟨Nat.le_of_ble_eq_true rfl, Nat.le_of_ble_eq_true rfl⟩ ⟨Nat.le_of_ble_eq_true rfl, Nat.le_of_ble_eq_true rfl⟩ dX5_wellHere_23 dX5_wellHere_26 dX5_wellHere_27 dX5_wellHere_29 dX5_wellHere_32
set_option maxHeartbeats 4000000 in
set_option maxRecDepth 100000 in
theorem ct_X5_nextWell {G : am_G} {Λ : am_L} {I : am_I} {J : am_J} {x : Nat} {r : Nat → Int32}  (hx : RouLay Λ x) (hr : CarRel I (x + 34) (x + 35) (x + 24) r) (hw : ∀ k : Nat, k < sp_nw r → r (90 + 4 * k) < nI 1000) : am_Ct G yX5_nextWell cX5_nextWell 2 (some .int) { frames := 6, cells := 1, slots := 6, locals := 90 } [.ref x] Λ I J (am_pok (some (.int (sp_behind r (r 1)))) (if sp_behind r (r 1) = -1 then 1 else 0) Λ I J) (am_px1 "java/util/NoSuchElementException" (if sp_behind r (r 1) = -1 then 1 else 0) Λ I J) := by
  refine am_ct_of (own := RX5) rfl (by decide) (Nat.le_of_ble_eq_true rfl) (fun X C => ?_)
  change am_K G X { frames := 6, cells := 1, slots := 6, locals := 90 } 2 Λ I J 0 0 0 [(0, .ref x)] []
  have hl := L5_n hx
  have hp := L5_p hx
  have hpr := CR_p hr
  have hnc := PR_c hpr
  have hnw := PR_w hpr
  have hnl := CR_l hr
  refine k_aload_n C (f := 0) (i := 0) (p := 0) rfl rfl dX5_nextWell_0 ?_
  refine k_getR C f_X5_49 (L5_s (by assumption)) (fun _ _ _ => rfl) (L5_2 (by assumption)) dX5_nextWell_1 ?_
  refine k_getR C f_X5_37 (L0_s (by assumption)) (fun _ _ _ => rfl) (L0_0 (by assumption)) dX5_nextWell_4 ?_
  refine k_aload_n C (f := 0) (i := 0) (p := 0) rfl rfl dX5_nextWell_7 ?_
  refine k_getR C f_X5_49 (L5_s (by assumption)) (fun _ _ _ => rfl) (L5_2 (by assumption)) dX5_nextWell_8 ?_
  refine k_getI C f_X5_116 (L0_s (by assumption)) (fun _ _ _ => rfl) (by first | exact CR_1 (by assumption) | assumption | rfl) dX5_nextWell_11 ?_
  refine k_callVp C s_X5_161 h_X3_firstWellBehind (L3_s (by assumption)) rfl (ct_X3_firstWellBehind hp hpr hw) rfl rfl (Nat.le_of_ble_eq_true rfl) ⟨Nat.le_of_ble_eq_true rfl, Nat.le_of_ble_eq_true rfl⟩ ⟨Nat.le_of_ble_eq_true rfl, Nat.le_of_ble_eq_true rfl⟩ ⟨rfl, rfl⟩ dX5_nextWell_14 ?_
  refine k_istore_n C (f := 1) (i := 1) (lv := [(1, _), (0, _)]) rfl (Nat.le_of_ble_eq_true rfl) rfl dX5_nextWell_17 ?_
  refine k_iload_n C (f := 1) (i := 1) (p := 0) rfl rfl dX5_nextWell_18 ?_
  refine k_iconst C ic_m1 dX5_nextWell_19 ?_
  refine k_icmp_ne C (tgt := 33) (by decide) dX5_nextWell_20 (fun hc20 => ?_) (fun hc20 => ?_)
  · skip
    refine k_iload_n C (f := 1) (i := 1) (p := 0) rfl rfl dX5_nextWell_33 ?_
    exact k_iret C (Nat.le_of_ble_eq_true rfl) (Nat.le_of_ble_eq_true rfl) (⟨rfl, if_neg hc20, rfl, rfl, rfl⟩) dX5_nextWell_34
  · skip
    exact k_throwN C tw_X5_110 (si := 14) rfl (Nat.le_of_ble_eq_true rfl) (Nat.le_of_ble_eq_true rfl) (⟨rfl, if_pos hc20, rfl, rfl, rfl⟩) ⟨Nat.le_of_ble_eq_true rfl, Nat.le_of_ble_eq_true rfl⟩ ⟨Nat.le_of_ble_eq_true rfl, Nat.le_of_ble_eq_true rfl⟩ dX5_nextWell_23 dX5_nextWell_26 dX5_nextWell_27 dX5_nextWell_29 dX5_nextWell_32
set_option maxHeartbeats 4000000 in
set_option maxRecDepth 100000 in
theorem ct_X5_thirstiest {G : am_G} {Λ : am_L} {I : am_I} {J : am_J} {x : Nat} {r : Nat → Int32}  (hx : RouLay Λ x) (hr : CarRel I (x + 34) (x + 35) (x + 24) r) : am_Ct G yX5_thirstiest cX5_thirstiest 2 (some .int) { frames := 6, cells := 1, slots := 6, locals := 90 } [.ref x] Λ I J (am_pok (some (.int (sp_thirst r))) (if sp_thirst r = -1 then 1 else 0) Λ I J) (am_px1 "java/util/NoSuchElementException" (if sp_thirst r = -1 then 1 else 0) Λ I J) := by
  refine am_ct_of (own := RX5) rfl (by decide) (Nat.le_of_ble_eq_true rfl) (fun X C => ?_)
  change am_K G X { frames := 6, cells := 1, slots := 6, locals := 90 } 2 Λ I J 0 0 0 [(0, .ref x)] []
  have hl := L5_n hx
  have hp := L5_p hx
  have hpr := CR_p hr
  have hnc := PR_c hpr
  have hnw := PR_w hpr
  have hnl := CR_l hr
  refine k_aload_n C (f := 0) (i := 0) (p := 0) rfl rfl dX5_thirstiest_0 ?_
  refine k_getR C f_X5_49 (L5_s (by assumption)) (fun _ _ _ => rfl) (L5_2 (by assumption)) dX5_thirstiest_1 ?_
  refine k_callVp C s_X5_214 h_X0_leastWatered (L0_s (by assumption)) rfl (ct_X0_leastWatered hl hr) rfl rfl (Nat.le_of_ble_eq_true rfl) ⟨Nat.le_of_ble_eq_true rfl, Nat.le_of_ble_eq_true rfl⟩ ⟨Nat.le_of_ble_eq_true rfl, Nat.le_of_ble_eq_true rfl⟩ ⟨rfl, rfl⟩ dX5_thirstiest_4 ?_
  refine k_istore_n C (f := 1) (i := 1) (lv := [(1, _), (0, _)]) rfl (Nat.le_of_ble_eq_true rfl) rfl dX5_thirstiest_7 ?_
  refine k_iload_n C (f := 1) (i := 1) (p := 0) rfl rfl dX5_thirstiest_8 ?_
  refine k_iconst C ic_m1 dX5_thirstiest_9 ?_
  refine k_icmp_ne C (tgt := 23) (by decide) dX5_thirstiest_10 (fun hc10 => ?_) (fun hc10 => ?_)
  · skip
    refine k_iload_n C (f := 1) (i := 1) (p := 0) rfl rfl dX5_thirstiest_23 ?_
    exact k_iret C (Nat.le_of_ble_eq_true rfl) (Nat.le_of_ble_eq_true rfl) (⟨rfl, if_neg hc10, rfl, rfl, rfl⟩) dX5_thirstiest_24
  · skip
    exact k_throwN C tw_X5_110 (si := 16) rfl (Nat.le_of_ble_eq_true rfl) (Nat.le_of_ble_eq_true rfl) (⟨rfl, if_pos hc10, rfl, rfl, rfl⟩) ⟨Nat.le_of_ble_eq_true rfl, Nat.le_of_ble_eq_true rfl⟩ ⟨Nat.le_of_ble_eq_true rfl, Nat.le_of_ble_eq_true rfl⟩ dX5_thirstiest_13 dX5_thirstiest_16 dX5_thirstiest_17 dX5_thirstiest_19 dX5_thirstiest_22
set_option maxHeartbeats 4000000 in
set_option maxRecDepth 100000 in
theorem ct_X5_fastest {G : am_G} {Λ : am_L} {I : am_I} {J : am_J} {x : Nat} {r : Nat → Int32}  (hx : RouLay Λ x) (hr : CarRel I (x + 34) (x + 35) (x + 24) r) : am_Ct G yX5_fastest cX5_fastest 2 (some .int) { frames := 6, cells := 1, slots := 6, locals := 90 } [.ref x] Λ I J (am_pok (some (.int (sp_fast r))) (if sp_fast r = -1 then 1 else 0) Λ I J) (am_px1 "java/util/NoSuchElementException" (if sp_fast r = -1 then 1 else 0) Λ I J) := by
  refine am_ct_of (own := RX5) rfl (by decide) (Nat.le_of_ble_eq_true rfl) (fun X C => ?_)
  change am_K G X { frames := 6, cells := 1, slots := 6, locals := 90 } 2 Λ I J 0 0 0 [(0, .ref x)] []
  have hl := L5_n hx
  have hp := L5_p hx
  have hpr := CR_p hr
  have hnc := PR_c hpr
  have hnw := PR_w hpr
  have hnl := CR_l hr
  refine k_aload_n C (f := 0) (i := 0) (p := 0) rfl rfl dX5_fastest_0 ?_
  refine k_getR C f_X5_49 (L5_s (by assumption)) (fun _ _ _ => rfl) (L5_2 (by assumption)) dX5_fastest_1 ?_
  refine k_callVp C s_X5_219 h_X0_quickest (L0_s (by assumption)) rfl (ct_X0_quickest hl hr) rfl rfl (Nat.le_of_ble_eq_true rfl) ⟨Nat.le_of_ble_eq_true rfl, Nat.le_of_ble_eq_true rfl⟩ ⟨Nat.le_of_ble_eq_true rfl, Nat.le_of_ble_eq_true rfl⟩ ⟨rfl, rfl⟩ dX5_fastest_4 ?_
  refine k_istore_n C (f := 1) (i := 1) (lv := [(1, _), (0, _)]) rfl (Nat.le_of_ble_eq_true rfl) rfl dX5_fastest_7 ?_
  refine k_iload_n C (f := 1) (i := 1) (p := 0) rfl rfl dX5_fastest_8 ?_
  refine k_iconst C ic_m1 dX5_fastest_9 ?_
  refine k_icmp_ne C (tgt := 23) (by decide) dX5_fastest_10 (fun hc10 => ?_) (fun hc10 => ?_)
  · skip
    refine k_iload_n C (f := 1) (i := 1) (p := 0) rfl rfl dX5_fastest_23 ?_
    exact k_iret C (Nat.le_of_ble_eq_true rfl) (Nat.le_of_ble_eq_true rfl) (⟨rfl, if_neg hc10, rfl, rfl, rfl⟩) dX5_fastest_24
  · skip
    exact k_throwN C tw_X5_110 (si := 16) rfl (Nat.le_of_ble_eq_true rfl) (Nat.le_of_ble_eq_true rfl) (⟨rfl, if_pos hc10, rfl, rfl, rfl⟩) ⟨Nat.le_of_ble_eq_true rfl, Nat.le_of_ble_eq_true rfl⟩ ⟨Nat.le_of_ble_eq_true rfl, Nat.le_of_ble_eq_true rfl⟩ dX5_fastest_13 dX5_fastest_16 dX5_fastest_17 dX5_fastest_19 dX5_fastest_22
set_option maxHeartbeats 4000000 in
set_option maxRecDepth 100000 in
theorem ct_X5_stormOn {G : am_G} {Λ : am_L} {I : am_I} {J : am_J} {x : Nat} {r : Nat → Int32} {d : Int32} (hx : RouLay Λ x) (hr : CarRel I (x + 34) (x + 35) (x + 24) r) : am_Ct G yX5_stormOn cX5_stormOn 2 (some .int) { frames := 6, cells := 1, slots := 6, locals := 90 } [.ref x, .int d] Λ I J (am_pok (some (.int (sp_storm r d))) (if d < 0 ∨ nI 999 < d then 1 else 0) Λ I J) (am_px1 "java/lang/IllegalArgumentException" (if d < 0 ∨ nI 999 < d then 1 else 0) Λ I J) := by
  refine am_ct_of (own := RX5) rfl (by decide) (Nat.le_of_ble_eq_true rfl) (fun X C => ?_)
  change am_K G X { frames := 6, cells := 1, slots := 6, locals := 90 } 2 Λ I J 0 0 0 [(0, .ref x), (1, .int d)] []
  have hl := L5_n hx
  have hp := L5_p hx
  have hpr := CR_p hr
  have hnc := PR_c hpr
  have hnw := PR_w hpr
  have hnl := CR_l hr
  refine k_iload_n C (f := 1) (i := 1) (p := 1) rfl rfl dX5_stormOn_0 ?_
  refine k_if_lt C (tgt := 11) (by decide) dX5_stormOn_1 (fun hc1 => ?_) (fun hc1 => ?_)
  · skip
    exact k_throwS C tw_X5_97 (si := 11) rfl (Nat.le_of_ble_eq_true rfl) (Nat.le_of_ble_eq_true rfl) (⟨rfl, if_pos (by first | exact Or.inl hc1 | exact Or.inr (Int32.not_le.mp hc8)), rfl, rfl, rfl⟩) ⟨Nat.le_of_ble_eq_true rfl, Nat.le_of_ble_eq_true rfl⟩ ⟨Nat.le_of_ble_eq_true rfl, Nat.le_of_ble_eq_true rfl⟩ dX5_stormOn_11 dX5_stormOn_14 dX5_stormOn_15 dX5_stormOn_17 dX5_stormOn_20
  · skip
    refine k_iload_n C (f := 1) (i := 1) (p := 1) rfl rfl dX5_stormOn_4 ?_
    refine k_sipush C sc_999 dX5_stormOn_5 ?_
    refine k_icmp_le C (tgt := 21) (by decide) dX5_stormOn_8 (fun hc8 => ?_) (fun hc8 => ?_)
    · skip
      refine k_aload_n C (f := 0) (i := 0) (p := 0) rfl rfl dX5_stormOn_21 ?_
      refine k_getR C f_X5_49 (L5_s (by assumption)) (fun _ _ _ => rfl) (L5_2 (by assumption)) dX5_stormOn_22 ?_
      refine k_getR C f_X5_37 (L0_s (by assumption)) (fun _ _ _ => rfl) (L0_0 (by assumption)) dX5_stormOn_25 ?_
      refine k_iload_n C (f := 1) (i := 1) (p := 1) rfl rfl dX5_stormOn_28 ?_
      refine k_callVp C s_X5_128 h_X3_greatestStorm (L3_s (by assumption)) rfl (ct_X3_greatestStorm hp hpr) rfl rfl (Nat.le_of_ble_eq_true rfl) ⟨Nat.le_of_ble_eq_true rfl, Nat.le_of_ble_eq_true rfl⟩ ⟨Nat.le_of_ble_eq_true rfl, Nat.le_of_ble_eq_true rfl⟩ ⟨rfl, rfl⟩ dX5_stormOn_29 ?_
      exact k_iret C (Nat.le_of_ble_eq_true rfl) (Nat.le_of_ble_eq_true rfl) (⟨rfl, if_neg (fun z => z.elim hc1 (fun z2 => absurd hc8 (Int32.not_le.mpr z2))), rfl, rfl, rfl⟩) dX5_stormOn_32
    · skip
      exact k_throwS C tw_X5_97 (si := 11) rfl (Nat.le_of_ble_eq_true rfl) (Nat.le_of_ble_eq_true rfl) (⟨rfl, if_pos (by first | exact Or.inl hc1 | exact Or.inr (Int32.not_le.mp hc8)), rfl, rfl, rfl⟩) ⟨Nat.le_of_ble_eq_true rfl, Nat.le_of_ble_eq_true rfl⟩ ⟨Nat.le_of_ble_eq_true rfl, Nat.le_of_ble_eq_true rfl⟩ dX5_stormOn_11 dX5_stormOn_14 dX5_stormOn_15 dX5_stormOn_17 dX5_stormOn_20
set_option maxHeartbeats 4000000 in
set_option maxRecDepth 100000 in
theorem ct_X5_writtenByte {G : am_G} {Λ : am_L} {I : am_I} {J : am_J} {x : Nat} {i : Int32} {t : Nat × (Nat → Int32)} (hx : RouLay Λ x) (ht : WriRel I (x + 171) t) (hn : t.1 ≤ 140) : am_Ct G yX5_writtenByte cX5_writtenByte 2 (some .int) { frames := 6, cells := 1, slots := 6, locals := 90 } [.ref x, .int i] Λ I J (am_pok (some (.int (t.2 i.toNatClampNeg))) (if i < 0 ∨ ¬ i < nI t.1 then 1 else 0) Λ I J) (am_px1 "java/lang/IndexOutOfBoundsException" (if i < 0 ∨ ¬ i < nI t.1 then 1 else 0) Λ I J) := by
  refine am_ct_of (own := RX5) rfl (by decide) (Nat.le_of_ble_eq_true rfl) (fun X C => ?_)
  change am_K G X { frames := 6, cells := 1, slots := 6, locals := 90 } 2 Λ I J 0 0 0 [(0, .ref x), (1, .int i)] []
  have hw := L5_w hx
  refine k_iload_n C (f := 1) (i := 1) (p := 1) rfl rfl dX5_writtenByte_0 ?_
  refine k_if_lt C (tgt := 15) (by decide) dX5_writtenByte_1 (fun hc1 => ?_) (fun hc1 => ?_)
  · skip
    exact k_throwSW C tw_X5_151 (si := 34) rfl (Nat.le_of_ble_eq_true rfl) (Nat.le_of_ble_eq_true rfl) (⟨rfl, if_pos (by first | exact Or.inl hc1 | exact Or.inr hc12), rfl, rfl, rfl⟩) ⟨Nat.le_of_ble_eq_true rfl, Nat.le_of_ble_eq_true rfl⟩ ⟨Nat.le_of_ble_eq_true rfl, Nat.le_of_ble_eq_true rfl⟩ dX5_writtenByte_15 dX5_writtenByte_18 dX5_writtenByte_19 dX5_writtenByte_22 dX5_writtenByte_25
  · skip
    refine k_iload_n C (f := 1) (i := 1) (p := 1) rfl rfl dX5_writtenByte_4 ?_
    refine k_aload_n C (f := 0) (i := 0) (p := 0) rfl rfl dX5_writtenByte_5 ?_
    refine k_getR C f_X5_80 (L5_s (by assumption)) (fun _ _ _ => rfl) (L5_8 (by assumption)) dX5_writtenByte_6 ?_
    refine k_getI C f_X5_329 (L4_s (by assumption)) (fun _ _ _ => rfl) (ht.1) dX5_writtenByte_9 ?_
    refine k_icmp_lt C (tgt := 26) (by decide) dX5_writtenByte_12 (fun hc12 => ?_) (fun hc12 => ?_)
    · skip
      obtain ⟨j, hj, rfl⟩ := nI_of hc1
      have hjn : j < t.1 := (nI_ltI hj (by omega)).mp hc12
      refine k_aload_n C (f := 0) (i := 0) (p := 0) rfl rfl dX5_writtenByte_26 ?_
      refine k_getR C f_X5_80 (L5_s (by assumption)) (fun _ _ _ => rfl) (L5_8 (by assumption)) dX5_writtenByte_27 ?_
      refine k_getR C f_X5_332 (L4_s (by assumption)) (fun _ _ _ => rfl) (L4_0 (by assumption)) dX5_writtenByte_30 ?_
      refine k_iload_n C (f := 1) (i := 1) (p := 1) rfl rfl dX5_writtenByte_33 ?_
      refine k_bald C (A4_0 (by assumption)) (by first | rfl | assumption) (by omega) (by decide) (ht.2 j hjn) dX5_writtenByte_34 ?_
      exact k_iret C (Nat.le_of_ble_eq_true rfl) (Nat.le_of_ble_eq_true rfl) (⟨by rw [nI_clamp hj], if_neg (fun z => z.elim hc1 (fun z2 => z2 hc12)), rfl, rfl, rfl⟩) dX5_writtenByte_35
    · skip
      exact k_throwSW C tw_X5_151 (si := 34) rfl (Nat.le_of_ble_eq_true rfl) (Nat.le_of_ble_eq_true rfl) (⟨rfl, if_pos (by first | exact Or.inl hc1 | exact Or.inr hc12), rfl, rfl, rfl⟩) ⟨Nat.le_of_ble_eq_true rfl, Nat.le_of_ble_eq_true rfl⟩ ⟨Nat.le_of_ble_eq_true rfl, Nat.le_of_ble_eq_true rfl⟩ dX5_writtenByte_15 dX5_writtenByte_18 dX5_writtenByte_19 dX5_writtenByte_22 dX5_writtenByte_25
