theorem wellFrom_or (r : Nat → Int32) (x : Int32) : ∀ (m k : Nat), sp_wellFrom r x k m = -1 ∨ ∃ j : Nat, sp_wellFrom r x k m = nI j ∧ k ≤ j ∧ j < k + m := by
  intro m
  induction m with
  | zero => intro k; exact Or.inl rfl
  | succ m ih =>
    intro k
    by_cases h : r (90 + 4 * k) = x
    · exact Or.inr ⟨k, sp_wellFrom_t h, Nat.le_refl _, by omega⟩
    · rw [sp_wellFrom_f h]
      rcases ih (k + 1) with h1 | ⟨j, h1, h2, h3⟩
      · exact Or.inl h1
      · exact Or.inr ⟨j, h1, by omega, by omega⟩
theorem wellOn_or (r : Nat → Int32) (x : Int32) : sp_wellOn r x = -1 ∨ ∃ j : Nat, sp_wellOn r x = nI j ∧ j < sp_nw r := by
  rcases wellFrom_or r x (sp_nw r) 0 with h | ⟨j, h1, -, h3⟩
  · exact Or.inl h
  · exact Or.inr ⟨j, h1, by omega⟩
theorem sumTo_congr {d d' : Nat → Int32} : ∀ n : Nat, (∀ m : Nat, m < n → d m = d' m) → sp_sumTo d n = sp_sumTo d' n := by
  intro n
  induction n with
  | zero => intro _; rfl
  | succ n ih => intro h; simp only [sp_sumTo, ih (fun m hm => h m (by omega)), h n (by omega)]
theorem fillTo_congr {r d d' : Nat → Int32} : ∀ n : Nat, (∀ m : Nat, m < n → d m = d' m) → sp_fillTo r d n = sp_fillTo r d' n := by
  intro n
  induction n with
  | zero => intro _; rfl
  | succ n ih => intro h; simp only [sp_fillTo, ih (fun m hm => h m (by omega)), h n (by omega)]
theorem drink_congr {r d d' : Nat → Int32} {w : Nat} (h : ∀ m : Nat, m < sp_nc r → d m = d' m) : sp_drink r d w = sp_drink r d' w := by
  unfold sp_drink
  rw [fillTo_congr (sp_nc r) h, sumTo_congr (sp_nc r) h]
set_option maxHeartbeats 4000000 in
set_option maxRecDepth 100000 in
theorem ct_X5_travel {G : am_G} {Λ : am_L} {I : am_I} {J : am_J} {x n ct : Nat} {tb : Nat → Nat} {err : Int32} {r : Nat → Int32} {hs : Nat → Nat → Int32} {kp : Nat → Bool} {sn : Nat → Nat → Int32} {w : Nat × (Nat → Int32)} {ld : Nat}  (hx : RouLay Λ x) (hR : RouRel I x tb n err r ct hs kp sn w) (hok : RowOk r) (hld : r 4 = nI ld) (hlc : ld < sp_nc r) : am_Ct G yX5_travel cX5_travel 1 (some .int) { frames := 6, cells := 1, slots := 6, locals := 111 } [.ref x] Λ I J (am_pch (some (.int (sp_dist r ld))) (if ¬ r 0 ≤ r 1 ∧ (r 2 < nI 200 ∧ 0 < sp_living r) then 0 else 1) Λ J (fun I' => RouRel I' x (tb) (n) (err) (sp_travel r ld) ((min 8 (ct + 1))) ((sp_push r hs)) (kp) (sn) (w) ∧ RFr x I I')) (am_px1 "java/lang/IllegalStateException" (if ¬ r 0 ≤ r 1 ∧ (r 2 < nI 200 ∧ 0 < sp_living r) then 0 else 1) Λ I J) := by
  refine am_ct_of (own := RX5) rfl (by decide) (Nat.le_of_ble_eq_true rfl) (fun X C => ?_)
  change am_K G X { frames := 6, cells := 1, slots := 6, locals := 111 } 1 Λ I J 0 0 0 [(0, .ref x)] []
  have hr := RR_r hR
  have hl := L5_n hx
  have hp := L5_p hx
  have hpr := CR_p hr
  have hnc := PR_c hpr
  have hnw := PR_w hpr
  have hnl := CR_l hr
  have hhl := L5_h hx
  obtain ⟨nx, hh⟩ := RR_h hR
  have h3 := RK_3 hok
  refine k_aload_n C (f := 0) (i := 0) (p := 0) rfl rfl dX5_travel_0 ?_
  refine k_getR C f_X5_49 (L5_s (by assumption)) (fun _ _ _ => rfl) (L5_2 (by assumption)) dX5_travel_1 ?_
  refine k_callVp C s_X5_256 h_X0_canTravel (L0_s (by assumption)) rfl (ct_X0_canTravel hl hr) rfl rfl (Nat.le_of_ble_eq_true rfl) ⟨Nat.le_of_ble_eq_true rfl, Nat.le_of_ble_eq_true rfl⟩ ⟨Nat.le_of_ble_eq_true rfl, Nat.le_of_ble_eq_true rfl⟩ ⟨rfl, rfl⟩ dX5_travel_4 ?_
  refine k_ifb_ne C (tgt := 21) (by decide) dX5_travel_7 (fun hc7 => ?_) (fun hc7 => ?_)
  · skip
    refine k_aload_n C (f := 0) (i := 0) (p := 0) rfl rfl dX5_travel_21 ?_
    refine k_getR C f_X5_61 (L5_s (by assumption)) (fun _ _ _ => rfl) (L5_4 (by assumption)) dX5_travel_22 ?_
    refine k_aload_n C (f := 0) (i := 0) (p := 0) rfl rfl dX5_travel_25 ?_
    refine k_getR C f_X5_49 (L5_s (by assumption)) (fun _ _ _ => rfl) (L5_2 (by assumption)) dX5_travel_26 ?_
    refine k_callVg C s_X5_272 h_X1_remember (L1_s hhl) rfl (ct_X1_remember hhl hh hl hr h3 ⟨by omega, by omega, by omega⟩) rfl rfl (Nat.le_of_ble_eq_true rfl) ⟨Nat.le_of_ble_eq_true rfl, Nat.le_of_ble_eq_true rfl⟩ ⟨Nat.le_of_ble_eq_true rfl, Nat.le_of_ble_eq_true rfl⟩ ⟨rfl, rfl⟩ dX5_travel_29 ?_
    intro v29 I1 hv
    obtain ⟨rfl, hh1, g1⟩ := hv
    obtain ⟨hR1, F1⟩ := RR_his hR ⟨_, hh1⟩ g1
    have hr1 := RR_r hR1
    have hpr1 := CR_p hr1
    refine k_aload_n C (f := 0) (i := 0) (p := 0) rfl rfl dX5_travel_32 ?_
    refine k_getR C f_X5_49 (L5_s (by assumption)) (fun _ _ _ => rfl) (L5_2 (by assumption)) dX5_travel_33 ?_
    refine k_callVg C s_X5_259 h_X0_passTravelDay (L0_s (by assumption)) rfl (ct_X0_passTravelDay hl hr1 hld hlc h3 (RK_w hok) (RK_W hok) hc7.2.2) rfl rfl (Nat.le_of_ble_eq_true rfl) ⟨Nat.le_of_ble_eq_true rfl, Nat.le_of_ble_eq_true rfl⟩ ⟨Nat.le_of_ble_eq_true rfl, Nat.le_of_ble_eq_true rfl⟩ ⟨rfl, rfl⟩ dX5_travel_36 ?_
    intro v36 I2 hv
    obtain ⟨rfl, hr2, g2⟩ := hv
    obtain ⟨hR2, F2⟩ := RR_car hR1 hr2 g2
    exact k_iret C (Nat.le_of_ble_eq_true rfl) (Nat.le_of_ble_eq_true rfl) (⟨rfl, if_pos hc7, rfl, rfl, hR2, F1.tr F2⟩) dX5_travel_39
  · skip
    exact k_throwSW C tw_X5_87 (si := 22) rfl (Nat.le_of_ble_eq_true rfl) (Nat.le_of_ble_eq_true rfl) (⟨rfl, if_neg hc7, rfl, rfl, rfl⟩) ⟨Nat.le_of_ble_eq_true rfl, Nat.le_of_ble_eq_true rfl⟩ ⟨Nat.le_of_ble_eq_true rfl, Nat.le_of_ble_eq_true rfl⟩ dX5_travel_10 dX5_travel_13 dX5_travel_14 dX5_travel_17 dX5_travel_20
set_option maxHeartbeats 4000000 in
set_option maxRecDepth 100000 in
theorem ct_X5_rest {G : am_G} {Λ : am_L} {I : am_I} {J : am_J} {x n ct : Nat} {tb : Nat → Nat} {err : Int32} {r : Nat → Int32} {hs : Nat → Nat → Int32} {kp : Nat → Bool} {sn : Nat → Nat → Int32} {w : Nat × (Nat → Int32)} {ld : Nat}  (hx : RouLay Λ x) (hR : RouRel I x tb n err r ct hs kp sn w) (hok : RowOk r) (hld : r 4 = nI ld) (hlc : ld < sp_nc r) : am_Ct G yX5_rest cX5_rest 1 (some .int) { frames := 6, cells := 1, slots := 6, locals := 109 } [.ref x] Λ I J (am_pch (some (.int (nI (sp_living (sp_rest r))))) (if r 2 < nI 200 ∧ 0 < sp_living r then 0 else 1) Λ J (fun I' => RouRel I' x (tb) (n) (err) (sp_rest r) ((min 8 (ct + 1))) ((sp_push r hs)) (kp) (sn) (w) ∧ RFr x I I')) (am_px1 "java/lang/IllegalStateException" (if r 2 < nI 200 ∧ 0 < sp_living r then 0 else 1) Λ I J) := by
  refine am_ct_of (own := RX5) rfl (by decide) (Nat.le_of_ble_eq_true rfl) (fun X C => ?_)
  change am_K G X { frames := 6, cells := 1, slots := 6, locals := 109 } 1 Λ I J 0 0 0 [(0, .ref x)] []
  have hr := RR_r hR
  have hl := L5_n hx
  have hp := L5_p hx
  have hpr := CR_p hr
  have hnc := PR_c hpr
  have hnw := PR_w hpr
  have hnl := CR_l hr
  have hhl := L5_h hx
  obtain ⟨nx, hh⟩ := RR_h hR
  have h3 := RK_3 hok
  refine k_aload_n C (f := 0) (i := 0) (p := 0) rfl rfl dX5_rest_0 ?_
  refine k_getR C f_X5_49 (L5_s (by assumption)) (fun _ _ _ => rfl) (L5_2 (by assumption)) dX5_rest_1 ?_
  refine k_callVp C s_X5_275 h_X0_canRest (L0_s (by assumption)) rfl (ct_X0_canRest hl hr) rfl rfl (Nat.le_of_ble_eq_true rfl) ⟨Nat.le_of_ble_eq_true rfl, Nat.le_of_ble_eq_true rfl⟩ ⟨Nat.le_of_ble_eq_true rfl, Nat.le_of_ble_eq_true rfl⟩ ⟨rfl, rfl⟩ dX5_rest_4 ?_
  refine k_ifb_ne C (tgt := 21) (by decide) dX5_rest_7 (fun hc7 => ?_) (fun hc7 => ?_)
  · skip
    refine k_aload_n C (f := 0) (i := 0) (p := 0) rfl rfl dX5_rest_21 ?_
    refine k_getR C f_X5_61 (L5_s (by assumption)) (fun _ _ _ => rfl) (L5_4 (by assumption)) dX5_rest_22 ?_
    refine k_aload_n C (f := 0) (i := 0) (p := 0) rfl rfl dX5_rest_25 ?_
    refine k_getR C f_X5_49 (L5_s (by assumption)) (fun _ _ _ => rfl) (L5_2 (by assumption)) dX5_rest_26 ?_
    refine k_callVg C s_X5_272 h_X1_remember (L1_s hhl) rfl (ct_X1_remember hhl hh hl hr h3 ⟨by omega, by omega, by omega⟩) rfl rfl (Nat.le_of_ble_eq_true rfl) ⟨Nat.le_of_ble_eq_true rfl, Nat.le_of_ble_eq_true rfl⟩ ⟨Nat.le_of_ble_eq_true rfl, Nat.le_of_ble_eq_true rfl⟩ ⟨rfl, rfl⟩ dX5_rest_29 ?_
    intro v29 I1 hv
    obtain ⟨rfl, hh1, g1⟩ := hv
    obtain ⟨hR1, F1⟩ := RR_his hR ⟨_, hh1⟩ g1
    have hr1 := RR_r hR1
    have hpr1 := CR_p hr1
    refine k_aload_n C (f := 0) (i := 0) (p := 0) rfl rfl dX5_rest_32 ?_
    refine k_getR C f_X5_49 (L5_s (by assumption)) (fun _ _ _ => rfl) (L5_2 (by assumption)) dX5_rest_33 ?_
    refine k_callVg C s_X5_280 h_X0_passRestDay (L0_s (by assumption)) rfl (ct_X0_passRestDay hl hr1 hld hlc (RK_W hok)) rfl rfl (Nat.le_of_ble_eq_true rfl) ⟨Nat.le_of_ble_eq_true rfl, Nat.le_of_ble_eq_true rfl⟩ ⟨Nat.le_of_ble_eq_true rfl, Nat.le_of_ble_eq_true rfl⟩ ⟨rfl, rfl⟩ dX5_rest_36 ?_
    intro v36 I2 hv
    obtain ⟨rfl, hr2, g2⟩ := hv
    obtain ⟨hR2, F2⟩ := RR_car hR1 hr2 g2
    refine k_aload_n C (f := 0) (i := 0) (p := 0) rfl rfl dX5_rest_39 ?_
    refine k_getR C f_X5_49 (L5_s (by assumption)) (fun _ _ _ => rfl) (L5_2 (by assumption)) dX5_rest_40 ?_
    refine k_callVp C s_X5_169 h_X0_countLiving (L0_s (by assumption)) rfl (ct_X0_countLiving hl hr2) rfl rfl (Nat.le_of_ble_eq_true rfl) ⟨Nat.le_of_ble_eq_true rfl, Nat.le_of_ble_eq_true rfl⟩ ⟨Nat.le_of_ble_eq_true rfl, Nat.le_of_ble_eq_true rfl⟩ ⟨rfl, rfl⟩ dX5_rest_43 ?_
    exact k_iret C (Nat.le_of_ble_eq_true rfl) (Nat.le_of_ble_eq_true rfl) (⟨rfl, if_pos hc7, rfl, rfl, hR2, F1.tr F2⟩) dX5_rest_46
  · skip
    exact k_throwSW C tw_X5_87 (si := 23) rfl (Nat.le_of_ble_eq_true rfl) (Nat.le_of_ble_eq_true rfl) (⟨rfl, if_neg hc7, rfl, rfl, rfl⟩) ⟨Nat.le_of_ble_eq_true rfl, Nat.le_of_ble_eq_true rfl⟩ ⟨Nat.le_of_ble_eq_true rfl, Nat.le_of_ble_eq_true rfl⟩ dX5_rest_10 dX5_rest_13 dX5_rest_14 dX5_rest_17 dX5_rest_20
set_option maxHeartbeats 4000000 in
set_option maxRecDepth 100000 in
theorem ct_X5_setLeader {G : am_G} {Λ : am_L} {I : am_I} {J : am_J} {x n ct : Nat} {tb : Nat → Nat} {err : Int32} {r : Nat → Int32} {hs : Nat → Nat → Int32} {kp : Nat → Bool} {sn : Nat → Nat → Int32} {w : Nat × (Nat → Int32)} {c : Int32} (hx : RouLay Λ x) (hR : RouRel I x tb n err r ct hs kp sn w) (hok : RowOk r) : am_Ct G yX5_setLeader cX5_setLeader 3 (some .int) { frames := 7, cells := 2, slots := 12, locals := 111 } [.ref x, .int c] Λ I J (am_pch (some (.int (r 4))) (if cdI (sp_nc r) c = 0 then (if r (16 + 8 * c.toNatClampNeg) < nI 3 then 0 else 2) else 1) Λ J (fun I' => RouRel I' x (tb) (n) (err) (upd r 4 c) ((min 8 (ct + 1))) ((sp_push r hs)) (kp) (sn) (w) ∧ RFr x I I')) (am_px2 "java/lang/IndexOutOfBoundsException" "java/lang/IllegalStateException" (if cdI (sp_nc r) c = 0 then (if r (16 + 8 * c.toNatClampNeg) < nI 3 then 0 else 2) else 1) Λ I J) := by
  refine am_ct_of (own := RX5) rfl (by decide) (Nat.le_of_ble_eq_true rfl) (fun X C => ?_)
  change am_K G X { frames := 7, cells := 2, slots := 12, locals := 111 } 3 Λ I J 0 0 0 [(0, .ref x), (1, .int c)] []
  have hr := RR_r hR
  have hl := L5_n hx
  have hp := L5_p hx
  have hpr := CR_p hr
  have hnc := PR_c hpr
  have hnw := PR_w hpr
  have hnl := CR_l hr
  have hhl := L5_h hx
  obtain ⟨nx, hh⟩ := RR_h hR
  have h3 := RK_3 hok
  refine k_aload_n C (f := 0) (i := 0) (p := 0) rfl rfl dX5_setLeader_0 ?_
  refine k_iload_n C (f := 1) (i := 1) (p := 1) rfl rfl dX5_setLeader_1 ?_
  refine k_callV C s_X5_181 h_X5_requireCamel (L5_s hx) rfl (ct_X5_requireCamel hx hr) rfl rfl (Nat.le_of_ble_eq_true rfl) ⟨Nat.le_of_ble_eq_true rfl, Nat.le_of_ble_eq_true rfl⟩ ⟨Nat.le_of_ble_eq_true rfl, Nat.le_of_ble_eq_true rfl⟩ dX5_setLeader_2 ?_ ?_
  · skip
    intro v2 Λ1 I1 J1 hv
    obtain ⟨rfl, hcd, rfl, rfl, rfl⟩ := hv
    obtain ⟨j, hj, rfl⟩ := cdI_0 hcd (by omega)
    refine k_aload_n C (f := 0) (i := 0) (p := 0) rfl rfl dX5_setLeader_5 ?_
    refine k_getR C f_X5_49 (L5_s (by assumption)) (fun _ _ _ => rfl) (L5_2 (by assumption)) dX5_setLeader_6 ?_
    refine k_iload_n C (f := 1) (i := 1) (p := 1) rfl rfl dX5_setLeader_9 ?_
    refine k_callVp C s_X5_184 h_X0_isLiving (L0_s (by assumption)) rfl (ct_X0_isLiving hl hr (by omega)) rfl rfl (Nat.le_of_ble_eq_true rfl) ⟨Nat.le_of_ble_eq_true rfl, Nat.le_of_ble_eq_true rfl⟩ ⟨Nat.le_of_ble_eq_true rfl, Nat.le_of_ble_eq_true rfl⟩ ⟨rfl, rfl⟩ dX5_setLeader_10 ?_
    refine k_ifb_ne C (tgt := 27) (by decide) dX5_setLeader_13 (fun hc13 => ?_) (fun hc13 => ?_)
    · skip
      refine k_aload_n C (f := 0) (i := 0) (p := 0) rfl rfl dX5_setLeader_27 ?_
      refine k_getR C f_X5_61 (L5_s (by assumption)) (fun _ _ _ => rfl) (L5_4 (by assumption)) dX5_setLeader_28 ?_
      refine k_aload_n C (f := 0) (i := 0) (p := 0) rfl rfl dX5_setLeader_31 ?_
      refine k_getR C f_X5_49 (L5_s (by assumption)) (fun _ _ _ => rfl) (L5_2 (by assumption)) dX5_setLeader_32 ?_
      refine k_callVg C s_X5_272 h_X1_remember (L1_s hhl) rfl (ct_X1_remember hhl hh hl hr h3 ⟨by omega, by omega, by omega⟩) rfl rfl (Nat.le_of_ble_eq_true rfl) ⟨Nat.le_of_ble_eq_true rfl, Nat.le_of_ble_eq_true rfl⟩ ⟨Nat.le_of_ble_eq_true rfl, Nat.le_of_ble_eq_true rfl⟩ ⟨rfl, rfl⟩ dX5_setLeader_35 ?_
      intro v35 I1 hv
      obtain ⟨rfl, hh1, g1⟩ := hv
      obtain ⟨hR1, F1⟩ := RR_his hR ⟨_, hh1⟩ g1
      have hr1 := RR_r hR1
      have hpr1 := CR_p hr1
      refine k_aload_n C (f := 0) (i := 0) (p := 0) rfl rfl dX5_setLeader_38 ?_
      refine k_getR C f_X5_49 (L5_s (by assumption)) (fun _ _ _ => rfl) (L5_2 (by assumption)) dX5_setLeader_39 ?_
      refine k_getI C f_X5_172 (L0_s (by assumption)) (fun _ _ _ => rfl) (rfl) dX5_setLeader_42 ?_
      refine k_istore_n C (f := 2) (i := 2) (lv := [(2, _), (0, _), (1, _)]) rfl (Nat.le_of_ble_eq_true rfl) rfl dX5_setLeader_45 ?_
      refine k_aload_n C (f := 0) (i := 0) (p := 1) rfl rfl dX5_setLeader_46 ?_
      refine k_getR C f_X5_49 (L5_s (by assumption)) (fun _ _ _ => rfl) (L5_2 (by assumption)) dX5_setLeader_47 ?_
      refine k_iload_n C (f := 1) (i := 1) (p := 2) rfl rfl dX5_setLeader_50 ?_
      refine k_putI C f_X5_172 (L0_s (by assumption)) rfl rfl dX5_setLeader_51 ?_
      refine k_iload_n C (f := 2) (i := 2) (p := 0) rfl rfl dX5_setLeader_54 ?_
      exact k_iret C (Nat.le_of_ble_eq_true rfl) (Nat.le_of_ble_eq_true rfl) (by
          have hr2 := CU_lead (x := nI j) hl hr1
          obtain ⟨hR2, F2⟩ := RR_car hR1 hr2 (am_fr.rf.up (Or.inl rfl))
          exact ⟨congrArg (fun z => some (Value.int z)) (CR_4 hr1), by rw [if_pos hcd, nI_clamp (by omega), if_pos hc13.2], rfl, rfl, hR2, F1.tr F2⟩) dX5_setLeader_55
    · skip
      exact k_throwSW C tw_X5_87 (si := 24) rfl (Nat.le_of_ble_eq_true rfl) (Nat.le_of_ble_eq_true rfl) (⟨Or.inr ⟨rfl, by rw [if_pos hcd, nI_clamp (by omega), if_neg (fun z => hc13 ⟨hj, z⟩)]⟩, rfl, rfl, rfl⟩) ⟨Nat.le_of_ble_eq_true rfl, Nat.le_of_ble_eq_true rfl⟩ ⟨Nat.le_of_ble_eq_true rfl, Nat.le_of_ble_eq_true rfl⟩ dX5_setLeader_16 dX5_setLeader_19 dX5_setLeader_20 dX5_setLeader_23 dX5_setLeader_26
  · skip
    intro E Λ1 I1 J1 hv
    obtain ⟨rfl, hcd, rfl, rfl, rfl⟩ := hv
    exact k_out C rfl (Nat.le_of_ble_eq_true rfl) (Nat.le_of_ble_eq_true rfl) (⟨Or.inl ⟨rfl, by rw [hcd]; rfl⟩, rfl, rfl, rfl⟩)
set_option maxHeartbeats 4000000 in
set_option maxRecDepth 100000 in
theorem ct_X5_setStopping {G : am_G} {Λ : am_L} {I : am_I} {J : am_J} {x n ct : Nat} {tb : Nat → Nat} {err : Int32} {r : Nat → Int32} {hs : Nat → Nat → Int32} {kp : Nat → Bool} {sn : Nat → Nat → Int32} {w : Nat × (Nat → Int32)} {b : Int32} (hx : RouLay Λ x) (hR : RouRel I x tb n err r ct hs kp sn w) (hok : RowOk r) (hb : b = 0 ∨ b = 1) : am_Ct G yX5_setStopping cX5_setStopping 3 (some .boolean) { frames := 3, cells := 0, slots := 0, locals := 82 } [.ref x, .int b] Λ I J (am_pch (some (.int (am_b (r 3 = nI 1)))) (0) Λ J (fun I' => RouRel I' x (tb) (n) (err) (upd r 3 b) ((min 8 (ct + 1))) ((sp_push r hs)) (kp) (sn) (w) ∧ RFr x I I')) am_never := by
  refine am_ct_of (own := RX5) rfl (by decide) (Nat.le_of_ble_eq_true rfl) (fun X C => ?_)
  change am_K G X { frames := 3, cells := 0, slots := 0, locals := 82 } 3 Λ I J 0 0 0 [(0, .ref x), (1, .int b)] []
  have hr := RR_r hR
  have hl := L5_n hx
  have hp := L5_p hx
  have hpr := CR_p hr
  have hnc := PR_c hpr
  have hnw := PR_w hpr
  have hnl := CR_l hr
  have hhl := L5_h hx
  obtain ⟨nx, hh⟩ := RR_h hR
  have h3 := RK_3 hok
  refine k_aload_n C (f := 0) (i := 0) (p := 0) rfl rfl dX5_setStopping_0 ?_
  refine k_getR C f_X5_61 (L5_s (by assumption)) (fun _ _ _ => rfl) (L5_4 (by assumption)) dX5_setStopping_1 ?_
  refine k_aload_n C (f := 0) (i := 0) (p := 0) rfl rfl dX5_setStopping_4 ?_
  refine k_getR C f_X5_49 (L5_s (by assumption)) (fun _ _ _ => rfl) (L5_2 (by assumption)) dX5_setStopping_5 ?_
  refine k_callVg C s_X5_272 h_X1_remember (L1_s hhl) rfl (ct_X1_remember hhl hh hl hr h3 ⟨by omega, by omega, by omega⟩) rfl rfl (Nat.le_of_ble_eq_true rfl) ⟨Nat.le_of_ble_eq_true rfl, Nat.le_of_ble_eq_true rfl⟩ ⟨Nat.le_of_ble_eq_true rfl, Nat.le_of_ble_eq_true rfl⟩ ⟨rfl, rfl⟩ dX5_setStopping_8 ?_
  intro v8 I1 hv
  obtain ⟨rfl, hh1, g1⟩ := hv
  obtain ⟨hR1, F1⟩ := RR_his hR ⟨_, hh1⟩ g1
  have hr1 := RR_r hR1
  have hpr1 := CR_p hr1
  refine k_aload_n C (f := 0) (i := 0) (p := 0) rfl rfl dX5_setStopping_11 ?_
  refine k_getR C f_X5_49 (L5_s (by assumption)) (fun _ _ _ => rfl) (L5_2 (by assumption)) dX5_setStopping_12 ?_
  refine k_getI C f_X5_132 (L0_s (by assumption)) (fun _ _ _ => rfl) (CR_3 hr1) dX5_setStopping_15 ?_
  refine k_istore_n C (f := 2) (i := 2) (lv := [(2, _), (0, _), (1, _)]) rfl (Nat.le_of_ble_eq_true rfl) rfl dX5_setStopping_18 ?_
  refine k_aload_n C (f := 0) (i := 0) (p := 1) rfl rfl dX5_setStopping_19 ?_
  refine k_getR C f_X5_49 (L5_s (by assumption)) (fun _ _ _ => rfl) (L5_2 (by assumption)) dX5_setStopping_20 ?_
  refine k_iload_n C (f := 1) (i := 1) (p := 2) rfl rfl dX5_setStopping_23 ?_
  refine k_putZ C f_X5_132 (L0_s (by assumption)) rfl rfl (hb) dX5_setStopping_24 ?_
  refine k_iload_n C (f := 2) (i := 2) (p := 0) rfl rfl dX5_setStopping_27 ?_
  exact k_zret C (by rcases h3 with h | h <;> rw [h] <;> rfl) (Nat.le_of_ble_eq_true rfl) (Nat.le_of_ble_eq_true rfl) (by
      have hr2 := CU_stop (x := b) hl hr1
      obtain ⟨hR2, F2⟩ := RR_car hR1 hr2 (am_fr.rf.up (Or.inl rfl))
      exact ⟨by rcases h3 with h | h <;> rw [h] <;> rfl, rfl, rfl, rfl, hR2, F1.tr F2⟩) dX5_setStopping_28
set_option maxHeartbeats 4000000 in
set_option maxRecDepth 100000 in
theorem ct_X5_takeOff {G : am_G} {Λ : am_L} {I : am_I} {J : am_J} {x n ct : Nat} {tb : Nat → Nat} {err : Int32} {r : Nat → Int32} {hs : Nat → Nat → Int32} {kp : Nat → Bool} {sn : Nat → Nat → Int32} {w : Nat × (Nat → Int32)} {c : Int32} (hx : RouLay Λ x) (hR : RouRel I x tb n err r ct hs kp sn w) (hok : RowOk r) : am_Ct G yX5_takeOff cX5_takeOff 3 (some .int) { frames := 7, cells := 2, slots := 12, locals := 111 } [.ref x, .int c] Λ I J (am_pch (some (.int (r (142 + 4 * c.toNatClampNeg)))) (if cdI (sp_nl r) c = 0 then (if r (142 + 4 * c.toNatClampNeg) = -1 then 2 else 0) else 1) Λ J (fun I' => RouRel I' x (tb) (n) (err) (sp_lay r c.toNatClampNeg) ((min 8 (ct + 1))) ((sp_push r hs)) (kp) (sn) (w) ∧ RFr x I I')) (am_px2 "java/lang/IndexOutOfBoundsException" "java/lang/IllegalStateException" (if cdI (sp_nl r) c = 0 then (if r (142 + 4 * c.toNatClampNeg) = -1 then 2 else 0) else 1) Λ I J) := by
  refine am_ct_of (own := RX5) rfl (by decide) (Nat.le_of_ble_eq_true rfl) (fun X C => ?_)
  change am_K G X { frames := 7, cells := 2, slots := 12, locals := 111 } 3 Λ I J 0 0 0 [(0, .ref x), (1, .int c)] []
  have hr := RR_r hR
  have hl := L5_n hx
  have hp := L5_p hx
  have hpr := CR_p hr
  have hnc := PR_c hpr
  have hnw := PR_w hpr
  have hnl := CR_l hr
  have hhl := L5_h hx
  obtain ⟨nx, hh⟩ := RR_h hR
  have h3 := RK_3 hok
  refine k_aload_n C (f := 0) (i := 0) (p := 0) rfl rfl dX5_takeOff_0 ?_
  refine k_iload_n C (f := 1) (i := 1) (p := 1) rfl rfl dX5_takeOff_1 ?_
  refine k_callV C s_X5_230 h_X5_requireLoad (L5_s hx) rfl (ct_X5_requireLoad hx hr) rfl rfl (Nat.le_of_ble_eq_true rfl) ⟨Nat.le_of_ble_eq_true rfl, Nat.le_of_ble_eq_true rfl⟩ ⟨Nat.le_of_ble_eq_true rfl, Nat.le_of_ble_eq_true rfl⟩ dX5_takeOff_2 ?_ ?_
  · skip
    intro v2 Λ1 I1 J1 hv
    obtain ⟨rfl, hcd, rfl, rfl, rfl⟩ := hv
    obtain ⟨j, hj, rfl⟩ := cdI_0 hcd (by omega)
    refine k_aload_n C (f := 0) (i := 0) (p := 0) rfl rfl dX5_takeOff_5 ?_
    refine k_getR C f_X5_49 (L5_s (by assumption)) (fun _ _ _ => rfl) (L5_2 (by assumption)) dX5_takeOff_6 ?_
    refine k_getR C f_X5_239 (L0_s (by assumption)) (fun _ _ _ => rfl) (L0_15 (by assumption)) dX5_takeOff_9 ?_
    refine k_iload_n C (f := 1) (i := 1) (p := 1) rfl rfl dX5_takeOff_12 ?_
    refine k_iald C (A0_15 (by assumption)) (by first | rfl | assumption) (by omega) (by decide) (by first | exact CRa_15 (by assumption) (by omega) | assumption | rfl) dX5_takeOff_13 ?_
    refine k_istore_n C (f := 2) (i := 2) (lv := [(2, _), (0, _), (1, _)]) rfl (Nat.le_of_ble_eq_true rfl) rfl dX5_takeOff_14 ?_
    refine k_iload_n C (f := 2) (i := 2) (p := 0) rfl rfl dX5_takeOff_15 ?_
    refine k_iconst C ic_m1 dX5_takeOff_16 ?_
    refine k_icmp_ne C (tgt := 31) (by decide) dX5_takeOff_17 (fun hc17 => ?_) (fun hc17 => ?_)
    · skip
      refine k_aload_n C (f := 0) (i := 0) (p := 1) rfl rfl dX5_takeOff_31 ?_
      refine k_getR C f_X5_61 (L5_s (by assumption)) (fun _ _ _ => rfl) (L5_4 (by assumption)) dX5_takeOff_32 ?_
      refine k_aload_n C (f := 0) (i := 0) (p := 1) rfl rfl dX5_takeOff_35 ?_
      refine k_getR C f_X5_49 (L5_s (by assumption)) (fun _ _ _ => rfl) (L5_2 (by assumption)) dX5_takeOff_36 ?_
      refine k_callVg C s_X5_272 h_X1_remember (L1_s hhl) rfl (ct_X1_remember hhl hh hl hr h3 ⟨by omega, by omega, by omega⟩) rfl rfl (Nat.le_of_ble_eq_true rfl) ⟨Nat.le_of_ble_eq_true rfl, Nat.le_of_ble_eq_true rfl⟩ ⟨Nat.le_of_ble_eq_true rfl, Nat.le_of_ble_eq_true rfl⟩ ⟨rfl, rfl⟩ dX5_takeOff_39 ?_
      intro v39 I1 hv
      obtain ⟨rfl, hh1, g1⟩ := hv
      obtain ⟨hR1, F1⟩ := RR_his hR ⟨_, hh1⟩ g1
      have hr1 := RR_r hR1
      have hpr1 := CR_p hr1
      refine k_aload_n C (f := 0) (i := 0) (p := 1) rfl rfl dX5_takeOff_42 ?_
      refine k_getR C f_X5_49 (L5_s (by assumption)) (fun _ _ _ => rfl) (L5_2 (by assumption)) dX5_takeOff_43 ?_
      refine k_iload_n C (f := 1) (i := 1) (p := 2) rfl rfl dX5_takeOff_46 ?_
      refine k_callVg C s_X5_295 h_X0_layDown (L0_s (by assumption)) rfl (ct_X0_layDown hl hr1 hj ((RK_W hok).2 j hj)) rfl rfl (Nat.le_of_ble_eq_true rfl) ⟨Nat.le_of_ble_eq_true rfl, Nat.le_of_ble_eq_true rfl⟩ ⟨Nat.le_of_ble_eq_true rfl, Nat.le_of_ble_eq_true rfl⟩ ⟨rfl, rfl⟩ dX5_takeOff_47 ?_
      intro v47 I2 hv
      obtain ⟨rfl, hr2, g2⟩ := hv
      obtain ⟨hR2, F2⟩ := RR_car hR1 hr2 g2
      refine k_iload_n C (f := 2) (i := 2) (p := 0) rfl rfl dX5_takeOff_50 ?_
      exact k_iret C (Nat.le_of_ble_eq_true rfl) (Nat.le_of_ble_eq_true rfl) (⟨by rw [nI_clamp (by omega)], by rw [if_pos hcd, nI_clamp (by omega), if_neg hc17], rfl, rfl, by rw [nI_clamp (by omega)]; exact hR2, F1.tr F2⟩) dX5_takeOff_51
    · skip
      exact k_throwSW C tw_X5_87 (si := 28) rfl (Nat.le_of_ble_eq_true rfl) (Nat.le_of_ble_eq_true rfl) (⟨Or.inr ⟨rfl, by rw [if_pos hcd, nI_clamp (by omega), if_pos hc17]⟩, rfl, rfl, rfl⟩) ⟨Nat.le_of_ble_eq_true rfl, Nat.le_of_ble_eq_true rfl⟩ ⟨Nat.le_of_ble_eq_true rfl, Nat.le_of_ble_eq_true rfl⟩ dX5_takeOff_20 dX5_takeOff_23 dX5_takeOff_24 dX5_takeOff_27 dX5_takeOff_30
  · skip
    intro E Λ1 I1 J1 hv
    obtain ⟨rfl, hcd, rfl, rfl, rfl⟩ := hv
    exact k_out C rfl (Nat.le_of_ble_eq_true rfl) (Nat.le_of_ble_eq_true rfl) (⟨Or.inl ⟨rfl, by rw [hcd]; rfl⟩, rfl, rfl, rfl⟩)
set_option maxHeartbeats 4000000 in
set_option maxRecDepth 100000 in
theorem ct_X5_addLoad {G : am_G} {Λ : am_L} {I : am_I} {J : am_J} {x n ct : Nat} {tb : Nat → Nat} {err : Int32} {r : Nat → Int32} {hs : Nat → Nat → Int32} {kp : Nat → Bool} {sn : Nat → Nat → Int32} {w : Nat × (Nat → Int32)} {a b : Int32} (hx : RouLay Λ x) (hR : RouRel I x tb n err r ct hs kp sn w) (hok : RowOk r) : am_Ct G yX5_addLoad cX5_addLoad 3 (some .int) { frames := 6, cells := 2, slots := 12, locals := 90 } [.ref x, .int a, .int b] Λ I J (am_pch (some (.int (nI (sp_nl r)))) (if (a < nI 1 ∨ nI 99 < a ∨ b < nI 1 ∨ nI 99 < b) then 1 else if 20 ≤ sp_nl r then 2 else 0) Λ J (fun I' => RouRel I' x (tb) (n) (err) (sp_bring r a b) ((min 8 (ct + 1))) ((sp_push r hs)) (kp) (sn) (w) ∧ RFr x I I')) (am_px2 "java/lang/IllegalArgumentException" "java/lang/IllegalStateException" (if (a < nI 1 ∨ nI 99 < a ∨ b < nI 1 ∨ nI 99 < b) then 1 else if 20 ≤ sp_nl r then 2 else 0) Λ I J) := by
  refine am_ct_of (own := RX5) rfl (by decide) (Nat.le_of_ble_eq_true rfl) (fun X C => ?_)
  change am_K G X { frames := 6, cells := 2, slots := 12, locals := 90 } 3 Λ I J 0 0 0 [(0, .ref x), (1, .int a), (2, .int b)] []
  have hr := RR_r hR
  have hl := L5_n hx
  have hp := L5_p hx
  have hpr := CR_p hr
  have hnc := PR_c hpr
  have hnw := PR_w hpr
  have hnl := CR_l hr
  have hhl := L5_h hx
  obtain ⟨nx, hh⟩ := RR_h hR
  have h3 := RK_3 hok
  refine k_iload_n C (f := 1) (i := 1) (p := 1) rfl rfl dX5_addLoad_0 ?_
  refine k_iconst C ic_1 dX5_addLoad_1 ?_
  refine k_icmp_lt C (tgt := 22) (by decide) dX5_addLoad_2 (fun hc2 => ?_) (fun hc2 => ?_)
  · skip
    exact k_throwSW C tw_X5_97 (si := 29) rfl (Nat.le_of_ble_eq_true rfl) (Nat.le_of_ble_eq_true rfl) (⟨Or.inl ⟨rfl, if_pos (by first | exact Or.inl hc2 | exact Or.inr (Or.inl hc8) | exact Or.inr (Or.inr (Or.inl hc13)) | exact Or.inr (Or.inr (Or.inr (Int32.not_le.mp hc19))))⟩, rfl, rfl, rfl⟩) ⟨Nat.le_of_ble_eq_true rfl, Nat.le_of_ble_eq_true rfl⟩ ⟨Nat.le_of_ble_eq_true rfl, Nat.le_of_ble_eq_true rfl⟩ dX5_addLoad_22 dX5_addLoad_25 dX5_addLoad_26 dX5_addLoad_29 dX5_addLoad_32
  · skip
    refine k_iload_n C (f := 1) (i := 1) (p := 1) rfl rfl dX5_addLoad_5 ?_
    refine k_bipush C bc_99 dX5_addLoad_6 ?_
    refine k_icmp_gt C (tgt := 22) (by decide) dX5_addLoad_8 (fun hc8 => ?_) (fun hc8 => ?_)
    · skip
      exact k_throwSW C tw_X5_97 (si := 29) rfl (Nat.le_of_ble_eq_true rfl) (Nat.le_of_ble_eq_true rfl) (⟨Or.inl ⟨rfl, if_pos (by first | exact Or.inl hc2 | exact Or.inr (Or.inl hc8) | exact Or.inr (Or.inr (Or.inl hc13)) | exact Or.inr (Or.inr (Or.inr (Int32.not_le.mp hc19))))⟩, rfl, rfl, rfl⟩) ⟨Nat.le_of_ble_eq_true rfl, Nat.le_of_ble_eq_true rfl⟩ ⟨Nat.le_of_ble_eq_true rfl, Nat.le_of_ble_eq_true rfl⟩ dX5_addLoad_22 dX5_addLoad_25 dX5_addLoad_26 dX5_addLoad_29 dX5_addLoad_32
    · skip
      refine k_iload_n C (f := 2) (i := 2) (p := 2) rfl rfl dX5_addLoad_11 ?_
      refine k_iconst C ic_1 dX5_addLoad_12 ?_
      refine k_icmp_lt C (tgt := 22) (by decide) dX5_addLoad_13 (fun hc13 => ?_) (fun hc13 => ?_)
      · skip
        exact k_throwSW C tw_X5_97 (si := 29) rfl (Nat.le_of_ble_eq_true rfl) (Nat.le_of_ble_eq_true rfl) (⟨Or.inl ⟨rfl, if_pos (by first | exact Or.inl hc2 | exact Or.inr (Or.inl hc8) | exact Or.inr (Or.inr (Or.inl hc13)) | exact Or.inr (Or.inr (Or.inr (Int32.not_le.mp hc19))))⟩, rfl, rfl, rfl⟩) ⟨Nat.le_of_ble_eq_true rfl, Nat.le_of_ble_eq_true rfl⟩ ⟨Nat.le_of_ble_eq_true rfl, Nat.le_of_ble_eq_true rfl⟩ dX5_addLoad_22 dX5_addLoad_25 dX5_addLoad_26 dX5_addLoad_29 dX5_addLoad_32
      · skip
        refine k_iload_n C (f := 2) (i := 2) (p := 2) rfl rfl dX5_addLoad_16 ?_
        refine k_bipush C bc_99 dX5_addLoad_17 ?_
        refine k_icmp_le C (tgt := 33) (by decide) dX5_addLoad_19 (fun hc19 => ?_) (fun hc19 => ?_)
        · skip
          refine k_aload_n C (f := 0) (i := 0) (p := 0) rfl rfl dX5_addLoad_33 ?_
          refine k_getR C f_X5_49 (L5_s (by assumption)) (fun _ _ _ => rfl) (L5_2 (by assumption)) dX5_addLoad_34 ?_
          refine k_getI C f_X5_222 (L0_s (by assumption)) (fun _ _ _ => rfl) (by first | exact CR_12 (by assumption) | assumption | rfl) dX5_addLoad_37 ?_
          refine k_bipush C bc_20 dX5_addLoad_40 ?_
          first
          | refine k_icmpN_lt C (tgt := 56) (by omega) (by omega) (by decide) dX5_addLoad_42 (fun hc42 => ?_) (fun hc42 => ?_)
          | refine k_icmp_lt C (tgt := 56) (by decide) dX5_addLoad_42 (fun hc42 => ?_) (fun hc42 => ?_)
          · skip
            refine k_aload_n C (f := 0) (i := 0) (p := 0) rfl rfl dX5_addLoad_56 ?_
            refine k_getR C f_X5_61 (L5_s (by assumption)) (fun _ _ _ => rfl) (L5_4 (by assumption)) dX5_addLoad_57 ?_
            refine k_aload_n C (f := 0) (i := 0) (p := 0) rfl rfl dX5_addLoad_60 ?_
            refine k_getR C f_X5_49 (L5_s (by assumption)) (fun _ _ _ => rfl) (L5_2 (by assumption)) dX5_addLoad_61 ?_
            refine k_callVg C s_X5_272 h_X1_remember (L1_s hhl) rfl (ct_X1_remember hhl hh hl hr h3 ⟨by omega, by omega, by omega⟩) rfl rfl (Nat.le_of_ble_eq_true rfl) ⟨Nat.le_of_ble_eq_true rfl, Nat.le_of_ble_eq_true rfl⟩ ⟨Nat.le_of_ble_eq_true rfl, Nat.le_of_ble_eq_true rfl⟩ ⟨rfl, rfl⟩ dX5_addLoad_64 ?_
            intro v64 I1 hv
            obtain ⟨rfl, hh1, g1⟩ := hv
            obtain ⟨hR1, F1⟩ := RR_his hR ⟨_, hh1⟩ g1
            have hr1 := RR_r hR1
            have hpr1 := CR_p hr1
            refine k_aload_n C (f := 0) (i := 0) (p := 0) rfl rfl dX5_addLoad_67 ?_
            refine k_getR C f_X5_49 (L5_s (by assumption)) (fun _ _ _ => rfl) (L5_2 (by assumption)) dX5_addLoad_68 ?_
            refine k_iload_n C (f := 1) (i := 1) (p := 1) rfl rfl dX5_addLoad_71 ?_
            refine k_iload_n C (f := 2) (i := 2) (p := 2) rfl rfl dX5_addLoad_72 ?_
            refine k_callVg C s_X5_308 h_X0_bringLoad (L0_s (by assumption)) rfl (ct_X0_bringLoad hl hr1 (by omega)) rfl rfl (Nat.le_of_ble_eq_true rfl) ⟨Nat.le_of_ble_eq_true rfl, Nat.le_of_ble_eq_true rfl⟩ ⟨Nat.le_of_ble_eq_true rfl, Nat.le_of_ble_eq_true rfl⟩ ⟨rfl, rfl⟩ dX5_addLoad_73 ?_
            intro v73 I2 hv
            obtain ⟨rfl, hr2, g2⟩ := hv
            obtain ⟨hR2, F2⟩ := RR_car hR1 hr2 g2
            exact k_iret C (Nat.le_of_ble_eq_true rfl) (Nat.le_of_ble_eq_true rfl) (⟨rfl, by rw [if_neg (fun z => by rcases z with z | z | z | z <;> first | exact hc2 z | exact absurd z (Int32.not_lt.mpr (Int32.not_lt.mp hc8)) | exact hc13 z | exact absurd z (Int32.not_lt.mpr hc19)), if_neg (by omega)], rfl, rfl, hR2, F1.tr F2⟩) dX5_addLoad_76
          · skip
            exact k_throwSW C tw_X5_87 (si := 30) rfl (Nat.le_of_ble_eq_true rfl) (Nat.le_of_ble_eq_true rfl) (⟨Or.inr ⟨rfl, by rw [if_neg (fun z => by rcases z with z | z | z | z <;> first | exact hc2 z | exact absurd z (Int32.not_lt.mpr (Int32.not_lt.mp hc8)) | exact hc13 z | exact absurd z (Int32.not_lt.mpr hc19)), if_pos (by omega)]⟩, rfl, rfl, rfl⟩) ⟨Nat.le_of_ble_eq_true rfl, Nat.le_of_ble_eq_true rfl⟩ ⟨Nat.le_of_ble_eq_true rfl, Nat.le_of_ble_eq_true rfl⟩ dX5_addLoad_45 dX5_addLoad_48 dX5_addLoad_49 dX5_addLoad_52 dX5_addLoad_55
        · skip
          exact k_throwSW C tw_X5_97 (si := 29) rfl (Nat.le_of_ble_eq_true rfl) (Nat.le_of_ble_eq_true rfl) (⟨Or.inl ⟨rfl, if_pos (by first | exact Or.inl hc2 | exact Or.inr (Or.inl hc8) | exact Or.inr (Or.inr (Or.inl hc13)) | exact Or.inr (Or.inr (Or.inr (Int32.not_le.mp hc19))))⟩, rfl, rfl, rfl⟩) ⟨Nat.le_of_ble_eq_true rfl, Nat.le_of_ble_eq_true rfl⟩ ⟨Nat.le_of_ble_eq_true rfl, Nat.le_of_ble_eq_true rfl⟩ dX5_addLoad_22 dX5_addLoad_25 dX5_addLoad_26 dX5_addLoad_29 dX5_addLoad_32
set_option maxHeartbeats 4000000 in
set_option maxRecDepth 100000 in
theorem ct_X5_undo {G : am_G} {Λ : am_L} {I : am_I} {J : am_J} {x n ct : Nat} {tb : Nat → Nat} {err : Int32} {r : Nat → Int32} {hs : Nat → Nat → Int32} {kp : Nat → Bool} {sn : Nat → Nat → Int32} {w : Nat × (Nat → Int32)}  (hx : RouLay Λ x) (hR : RouRel I x tb n err r ct hs kp sn w) (hok : RowOk r) : am_Ct G yX5_undo cX5_undo 1 (some .int) { frames := 6, cells := 1, slots := 6, locals := 90 } [.ref x] Λ I J (am_pch (some (.int (nI (ct - 1)))) (if ct = 0 then 1 else 0) Λ J (fun I' => RouRel I' x (tb) (n) (err) (hs 0) (ct - 1) (fun s => hs (s + 1)) (kp) (sn) (w) ∧ RFr x I I')) (am_px1 "java/lang/IllegalStateException" (if ct = 0 then 1 else 0) Λ I J) := by
  refine am_ct_of (own := RX5) rfl (by decide) (Nat.le_of_ble_eq_true rfl) (fun X C => ?_)
  change am_K G X { frames := 6, cells := 1, slots := 6, locals := 90 } 1 Λ I J 0 0 0 [(0, .ref x)] []
  have hr := RR_r hR
  have hl := L5_n hx
  have hp := L5_p hx
  have hpr := CR_p hr
  have hnc := PR_c hpr
  have hnw := PR_w hpr
  have hnl := CR_l hr
  have hhl := L5_h hx
  obtain ⟨nx, hh⟩ := RR_h hR
  have h3 := RK_3 hok
  have hct8 : ct ≤ 8 := hh.2.2.2.1
  refine k_aload_n C (f := 0) (i := 0) (p := 0) rfl rfl dX5_undo_0 ?_
  refine k_getR C f_X5_61 (L5_s (by assumption)) (fun _ _ _ => rfl) (L5_4 (by assumption)) dX5_undo_1 ?_
  refine k_getI C f_X5_311 (L1_s (by assumption)) (fun _ _ _ => rfl) (hh.2.1) dX5_undo_4 ?_
  refine k_if_ne C (tgt := 21) (by decide) dX5_undo_7 (fun hc7 => ?_) (fun hc7 => ?_)
  · skip
    have hct : 0 < ct := Nat.pos_of_ne_zero (fun z => hc7 (by rw [z]; rfl))
    refine k_aload_n C (f := 0) (i := 0) (p := 0) rfl rfl dX5_undo_21 ?_
    refine k_getR C f_X5_61 (L5_s (by assumption)) (fun _ _ _ => rfl) (L5_4 (by assumption)) dX5_undo_22 ?_
    refine k_aload_n C (f := 0) (i := 0) (p := 0) rfl rfl dX5_undo_25 ?_
    refine k_getR C f_X5_49 (L5_s (by assumption)) (fun _ _ _ => rfl) (L5_2 (by assumption)) dX5_undo_26 ?_
    refine k_callVg C s_X5_316 h_X1_takeBack (L1_s hhl) rfl (ct_X1_takeBack hhl hh hl (hh.2.2.2.2 0 (by omega)).1.1 (by omega) ⟨by omega, by omega, by omega⟩) rfl rfl (Nat.le_of_ble_eq_true rfl) ⟨Nat.le_of_ble_eq_true rfl, Nat.le_of_ble_eq_true rfl⟩ ⟨Nat.le_of_ble_eq_true rfl, Nat.le_of_ble_eq_true rfl⟩ ⟨rfl, rfl⟩ dX5_undo_29 ?_
    intro v29 I1 hv
    obtain ⟨rfl, hh1, hc1, g1⟩ := hv
    refine k_aload_n C (f := 0) (i := 0) (p := 0) rfl rfl dX5_undo_32 ?_
    refine k_getR C f_X5_61 (L5_s (by assumption)) (fun _ _ _ => rfl) (L5_4 (by assumption)) dX5_undo_33 ?_
    refine k_getI C f_X5_311 (L1_s (by assumption)) (fun _ _ _ => rfl) (hh1.2.1) dX5_undo_36 ?_
    exact k_iret C (Nat.le_of_ble_eq_true rfl) (Nat.le_of_ble_eq_true rfl) (by
        have q1 : RouRel I1 x tb n err (hs 0) (ct - 1) (fun s => hs (s + 1)) kp sn w ∧ RFr x I I1 := by
          obtain ⟨a1, a2, a3, a4, a5, a6, a7⟩ := hR
          have hf : ∀ b : Nat, b ≠ x + 56 → b ≠ x + 34 → (b < x + 35 ∨ x + 35 + 10 ≤ b) → I1 b = I b := g1
          exact ⟨⟨a1.row (hf _ (by omega) (by omega) (by omega)) (hf _ (by omega) (by omega) (by omega)), by rw [hf x (by omega) (by omega) (by omega)]; exact a2, hc1, ⟨_, hh1⟩, SnRel_agree a5 (fun b h1 h2 => hf b (by omega) (by omega) (by omega)) (fun b h1 h2 => hf b (by omega) (by omega) (by omega)), a6.row (hf _ (by omega) (by omega) (by omega)) (hf _ (by omega) (by omega) (by omega)), a7⟩, fun b hb => hf b (by omega) (by omega) (by omega)⟩
        exact ⟨rfl, if_neg (by omega), rfl, rfl, q1⟩) dX5_undo_39
  · skip
    have hct : ct = 0 := (nI_eq (b := 0) (by omega) (by decide)).mp hc7
    exact k_throwSW C tw_X5_87 (si := 31) rfl (Nat.le_of_ble_eq_true rfl) (Nat.le_of_ble_eq_true rfl) (⟨rfl, if_pos hct, rfl, rfl, rfl⟩) ⟨Nat.le_of_ble_eq_true rfl, Nat.le_of_ble_eq_true rfl⟩ ⟨Nat.le_of_ble_eq_true rfl, Nat.le_of_ble_eq_true rfl⟩ dX5_undo_10 dX5_undo_13 dX5_undo_14 dX5_undo_17 dX5_undo_20
