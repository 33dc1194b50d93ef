set_option maxHeartbeats 4000000 in
set_option maxRecDepth 100000 in
theorem ct_L_day_r {G : am_G} {Λ : am_L} {I : am_I} {J : am_J} {x n ct : Nat} {tb : Nat → Nat} {err : Int32} {r : Nat → Int32} {hs : Nat → Nat → Int32} {kp : Nat → Bool} {sn : Nat → Nat → Int32} {w : Nat × (Nat → Int32)} (hx : RouLay Λ x) (hR : RouRel I x tb n err r ct hs kp sn w) (hleg : Leg r) : am_Ct G yL_day cL_day 22 (some .boolean) { frames := 13, cells := 6400, slots := 39000, locals := 400 } [.ref x, .int (nI 1)] Λ I J (am_lk x Λ I (fun v I' => v = some (.int (nI 1)) ∧ ∃ ct' : Nat, ct' ≤ ct ∧ RouRel I' x tb n err r ct' hs kp sn w)) am_never := by
  refine am_ct_of (own := RL) rfl (by decide) (Nat.le_of_ble_eq_true rfl) (fun X C => ?_)
  change am_K G X { frames := 13, cells := 6400, slots := 39000, locals := 400 } 22 Λ I J 0 0 0 [(0, .ref x), (1, .int (nI 1))] []
  have hok := hleg.1
  obtain ⟨L, km, hL, hk, hL1, hL9, hkL, hww⟩ := RK_L hok
  obtain ⟨dy, hdy, hdy2, hLd⟩ := LX_d hleg.2
  obtain ⟨t, ht, ht9⟩ := storm_b hok (r 2)
  obtain ⟨ld, hld, hlc⟩ := RK_ld hok
  obtain ⟨d, hd, hkd⟩ := dist_b hok hlc hL hk hkL hL9
  obtain ⟨hv29l, hvl5, hvl9⟩ := zv_of hok hlc
  have hnc := hok.2.2.2.2.1
  have hwk := RK_w hok
  have hr := RR_r hR
  have h3 := RK_3 hok
  have hlv : sp_living r ≤ 10 := Nat.le_trans (sp_livingTo_le r _) hnc.2.1
  have hN : NewOk x Λ I Λ I := ⟨LK.rf, hx, fun _ _ _ => rfl⟩
  refine k_aload_n C (f := 0) (i := 0) (p := 0) rfl rfl dL_day_0 ?_
  refine k_callSq C s_L_257 h_L_state (ct_L_state (by first | assumption | omega) (by first | assumption | omega) (by first | assumption | omega)) rfl rfl (Nat.le_of_ble_eq_true rfl) ⟨Nat.le_of_ble_eq_true rfl, Nat.le_of_ble_eq_true rfl⟩ ⟨rfl, rfl⟩ ⟨by show _ ≤ 6400; (try dsimp only); omega, by show _ ≤ 39000; (try dsimp only); omega⟩ dL_day_1 ?_
  refine k_lstore_n C (f := 2) (i := 2) (lv := [(2, _), (0, _), (1, _)]) rfl (Nat.le_of_ble_eq_true rfl) rfl dL_day_4 ?_
  refine k_aload_n C (f := 0) (i := 0) (p := 1) rfl rfl dL_day_5 ?_
  refine k_callVp C s_L_222 h_X5_camelCount (L5_s (by assumption)) rfl (ct_X5_camelCount (by first | assumption | omega) (by first | assumption | omega)) rfl rfl (Nat.le_of_ble_eq_true rfl) ⟨Nat.le_of_ble_eq_true rfl, Nat.le_of_ble_eq_true rfl⟩ ⟨by show _ ≤ 6400; (try dsimp only); omega, by show _ ≤ 39000; (try dsimp only); omega⟩ ⟨rfl, rfl⟩ dL_day_6 ?_
  refine k_istore C (i := 4) (lv := [(4, _), (2, _), (0, _), (1, _)]) (Nat.le_of_ble_eq_true rfl) rfl dL_day_9 ?_
  refine k_aload_n C (f := 0) (i := 0) (p := 2) rfl rfl dL_day_11 ?_
  refine k_callVp C s_L_205 h_X5_day (L5_s (by assumption)) rfl (ct_X5_day (by first | assumption | omega) (by first | assumption | omega)) rfl rfl (Nat.le_of_ble_eq_true rfl) ⟨Nat.le_of_ble_eq_true rfl, Nat.le_of_ble_eq_true rfl⟩ ⟨by show _ ≤ 6400; (try dsimp only); omega, by show _ ≤ 39000; (try dsimp only); omega⟩ ⟨rfl, rfl⟩ dL_day_12 ?_
  rw [hdy]
  refine k_istore C (i := 5) (lv := [(5, _), (4, _), (2, _), (0, _), (1, _)]) (Nat.le_of_ble_eq_true rfl) rfl dL_day_15 ?_
  refine k_aload_n C (f := 0) (i := 0) (p := 3) rfl rfl dL_day_17 ?_
  refine k_callVp C s_L_202 h_X5_kilometre (L5_s (by assumption)) rfl (ct_X5_kilometre (by first | assumption | omega) (by first | assumption | omega)) rfl rfl (Nat.le_of_ble_eq_true rfl) ⟨Nat.le_of_ble_eq_true rfl, Nat.le_of_ble_eq_true rfl⟩ ⟨by show _ ≤ 6400; (try dsimp only); omega, by show _ ≤ 39000; (try dsimp only); omega⟩ ⟨rfl, rfl⟩ dL_day_18 ?_
  rw [hk]
  refine k_istore C (i := 6) (lv := [(6, _), (5, _), (4, _), (2, _), (0, _), (1, _)]) (Nat.le_of_ble_eq_true rfl) rfl dL_day_21 ?_
  refine k_aload_n C (f := 0) (i := 0) (p := 4) rfl rfl dL_day_23 ?_
  refine k_callSq C s_L_261 h_L_distance (ct_L_distance (by first | assumption | omega) (by first | assumption | omega) (by first | assumption | omega) (by first | assumption | omega) (by first | assumption | omega)) rfl rfl (Nat.le_of_ble_eq_true rfl) ⟨Nat.le_of_ble_eq_true rfl, Nat.le_of_ble_eq_true rfl⟩ ⟨rfl, rfl⟩ ⟨by show _ ≤ 6400; (try dsimp only); omega, by show _ ≤ 39000; (try dsimp only); omega⟩ dL_day_24 ?_
  refine k_istore C (i := 7) (lv := [(7, _), (6, _), (5, _), (4, _), (2, _), (0, _), (1, _)]) (Nat.le_of_ble_eq_true rfl) rfl dL_day_27 ?_
  refine k_aload_n C (f := 0) (i := 0) (p := 5) rfl rfl dL_day_29 ?_
  refine k_bipush C bc_29 dL_day_30 ?_
  refine k_aload_n C (f := 0) (i := 0) (p := 5) rfl rfl dL_day_32 ?_
  refine k_callVp C s_L_210 h_X5_leader (L5_s (by assumption)) rfl (ct_X5_leader (by first | assumption | omega) (by first | assumption | omega)) rfl rfl (Nat.le_of_ble_eq_true rfl) ⟨Nat.le_of_ble_eq_true rfl, Nat.le_of_ble_eq_true rfl⟩ ⟨by show _ ≤ 6400; (try dsimp only); omega, by show _ ≤ 39000; (try dsimp only); omega⟩ ⟨rfl, rfl⟩ dL_day_33 ?_
  rw [hld]
  refine k_callSq C s_L_163 h_L_call__ (ct_k29 hx hr hlc hv29l) rfl rfl (Nat.le_of_ble_eq_true rfl) ⟨Nat.le_of_ble_eq_true rfl, Nat.le_of_ble_eq_true rfl⟩ ⟨rfl, rfl⟩ ⟨by show _ ≤ 6400; (try dsimp only); omega, by show _ ≤ 39000; (try dsimp only); omega⟩ dL_day_36 ?_
  refine k_istore C (i := 8) (lv := [(8, _), (7, _), (6, _), (5, _), (4, _), (2, _), (0, _), (1, _)]) (Nat.le_of_ble_eq_true rfl) rfl dL_day_39 ?_
  refine k_bipush C bc_10 dL_day_41 ?_
  refine k_newA2 C am_ar_i (rfl) (Nat.le_of_ble_eq_true rfl) (Or.inl ⟨rfl, rfl⟩) ⟨by show _ ≤ 6400; (try dsimp only); omega, by show _ ≤ 39000; (try dsimp only); omega⟩ dL_day_43 (fun h9 hh43 => ?_)
  obtain ⟨hN, hsh9, hxh9, hzh9, hp⟩ := new_step (s := (2, 10)) hN hh43
  clear hp
  generalize am_nS Λ h9 (2, 10) = Λ1 at hN hsh9  ⊢
  generalize am_nI I h9 = I1 at hN ⊢
  generalize am_nJ _ h9 = J1
  refine k_astore C (i := 9) (lv := [(9, _), (8, _), (7, _), (6, _), (5, _), (4, _), (2, _), (0, _), (1, _)]) (Nat.le_of_ble_eq_true rfl) rfl dL_day_45 ?_
  refine k_bipush C bc_10 dL_day_47 ?_
  refine k_newA2 C am_ar_i (rfl) (Nat.le_of_ble_eq_true rfl) (Or.inl ⟨rfl, rfl⟩) ⟨by show _ ≤ 6400; (try dsimp only); omega, by show _ ≤ 39000; (try dsimp only); omega⟩ dL_day_49 (fun h10 hh49 => ?_)
  obtain ⟨hN, hsh10, hxh10, hzh10, hp⟩ := new_step (s := (2, 10)) hN hh49
  obtain ⟨lth9_h10, e0⟩ := hp h9 (by rw [hsh9]; exact Nat.succ_ne_zero _)
  replace hsh9 := e0.trans hsh9
  clear e0
  clear hp
  generalize am_nS Λ1 h10 (2, 10) = Λ2 at hN hsh10 hsh9 ⊢
  generalize am_nI I1 h10 = I2 at hN ⊢
  generalize am_nJ _ h10 = J2
  refine k_astore C (i := 10) (lv := [(10, _), (9, _), (8, _), (7, _), (6, _), (5, _), (4, _), (2, _), (0, _), (1, _)]) (Nat.le_of_ble_eq_true rfl) rfl dL_day_51 ?_
  refine k_bipush C bc_10 dL_day_53 ?_
  refine k_newA2 C am_ar_i (rfl) (Nat.le_of_ble_eq_true rfl) (Or.inl ⟨rfl, rfl⟩) ⟨by show _ ≤ 6400; (try dsimp only); omega, by show _ ≤ 39000; (try dsimp only); omega⟩ dL_day_55 (fun h11 hh55 => ?_)
  obtain ⟨hN, hsh11, hxh11, hzh11, hp⟩ := new_step (s := (2, 10)) hN hh55
  obtain ⟨lth9_h11, e0⟩ := hp h9 (by rw [hsh9]; exact Nat.succ_ne_zero _)
  replace hsh9 := e0.trans hsh9
  clear e0
  obtain ⟨lth10_h11, e0⟩ := hp h10 (by rw [hsh10]; exact Nat.succ_ne_zero _)
  replace hsh10 := e0.trans hsh10
  clear e0
  clear hp
  generalize am_nS Λ2 h11 (2, 10) = Λ3 at hN hsh11 hsh9 hsh10 ⊢
  generalize am_nI I2 h11 = I3 at hN ⊢
  generalize am_nJ _ h11 = J3
  refine k_astore C (i := 11) (lv := [(11, _), (10, _), (9, _), (8, _), (7, _), (6, _), (5, _), (4, _), (2, _), (0, _), (1, _)]) (Nat.le_of_ble_eq_true rfl) rfl dL_day_57 ?_
  refine k_bipush C bc_10 dL_day_59 ?_
  refine k_newA2 C am_ar_i (rfl) (Nat.le_of_ble_eq_true rfl) (Or.inl ⟨rfl, rfl⟩) ⟨by show _ ≤ 6400; (try dsimp only); omega, by show _ ≤ 39000; (try dsimp only); omega⟩ dL_day_61 (fun h12 hh61 => ?_)
  obtain ⟨hN, hsh12, hxh12, hzh12, hp⟩ := new_step (s := (2, 10)) hN hh61
  obtain ⟨lth9_h12, e0⟩ := hp h9 (by rw [hsh9]; exact Nat.succ_ne_zero _)
  replace hsh9 := e0.trans hsh9
  clear e0
  obtain ⟨lth10_h12, e0⟩ := hp h10 (by rw [hsh10]; exact Nat.succ_ne_zero _)
  replace hsh10 := e0.trans hsh10
  clear e0
  obtain ⟨lth11_h12, e0⟩ := hp h11 (by rw [hsh11]; exact Nat.succ_ne_zero _)
  replace hsh11 := e0.trans hsh11
  clear e0
  clear hp
  generalize am_nS Λ3 h12 (2, 10) = Λ4 at hN hsh12 hsh9 hsh10 hsh11 ⊢
  generalize am_nI I3 h12 = I4 at hN ⊢
  generalize am_nJ _ h12 = J4
  refine k_astore C (i := 12) (lv := [(12, _), (11, _), (10, _), (9, _), (8, _), (7, _), (6, _), (5, _), (4, _), (2, _), (0, _), (1, _)]) (Nat.le_of_ble_eq_true rfl) rfl dL_day_63 ?_
  refine k_bipush C bc_10 dL_day_65 ?_
  refine k_newA2 C am_ar_i (rfl) (Nat.le_of_ble_eq_true rfl) (Or.inl ⟨rfl, rfl⟩) ⟨by show _ ≤ 6400; (try dsimp only); omega, by show _ ≤ 39000; (try dsimp only); omega⟩ dL_day_67 (fun h13 hh67 => ?_)
  obtain ⟨hN, hsh13, hxh13, hzh13, hp⟩ := new_step (s := (2, 10)) hN hh67
  obtain ⟨lth9_h13, e0⟩ := hp h9 (by rw [hsh9]; exact Nat.succ_ne_zero _)
  replace hsh9 := e0.trans hsh9
  clear e0
  obtain ⟨lth10_h13, e0⟩ := hp h10 (by rw [hsh10]; exact Nat.succ_ne_zero _)
  replace hsh10 := e0.trans hsh10
  clear e0
  obtain ⟨lth11_h13, e0⟩ := hp h11 (by rw [hsh11]; exact Nat.succ_ne_zero _)
  replace hsh11 := e0.trans hsh11
  clear e0
  obtain ⟨lth12_h13, e0⟩ := hp h12 (by rw [hsh12]; exact Nat.succ_ne_zero _)
  replace hsh12 := e0.trans hsh12
  clear e0
  clear hp
  generalize am_nS Λ4 h13 (2, 10) = Λ5 at hN hsh13 hsh9 hsh10 hsh11 hsh12 ⊢
  generalize am_nI I4 h13 = I5 at hN ⊢
  generalize am_nJ _ h13 = J5
  refine k_astore C (i := 13) (lv := [(13, _), (12, _), (11, _), (10, _), (9, _), (8, _), (7, _), (6, _), (5, _), (4, _), (2, _), (0, _), (1, _)]) (Nat.le_of_ble_eq_true rfl) rfl dL_day_69 ?_
  refine k_bipush C bc_10 dL_day_71 ?_
  refine k_newA2 C am_ar_i (rfl) (Nat.le_of_ble_eq_true rfl) (Or.inl ⟨rfl, rfl⟩) ⟨by show _ ≤ 6400; (try dsimp only); omega, by show _ ≤ 39000; (try dsimp only); omega⟩ dL_day_73 (fun h14 hh73 => ?_)
  obtain ⟨hN, hsh14, hxh14, hzh14, hp⟩ := new_step (s := (2, 10)) hN hh73
  obtain ⟨lth9_h14, e0⟩ := hp h9 (by rw [hsh9]; exact Nat.succ_ne_zero _)
  replace hsh9 := e0.trans hsh9
  clear e0
  obtain ⟨lth10_h14, e0⟩ := hp h10 (by rw [hsh10]; exact Nat.succ_ne_zero _)
  replace hsh10 := e0.trans hsh10
  clear e0
  obtain ⟨lth11_h14, e0⟩ := hp h11 (by rw [hsh11]; exact Nat.succ_ne_zero _)
  replace hsh11 := e0.trans hsh11
  clear e0
  obtain ⟨lth12_h14, e0⟩ := hp h12 (by rw [hsh12]; exact Nat.succ_ne_zero _)
  replace hsh12 := e0.trans hsh12
  clear e0
  obtain ⟨lth13_h14, e0⟩ := hp h13 (by rw [hsh13]; exact Nat.succ_ne_zero _)
  replace hsh13 := e0.trans hsh13
  clear e0
  clear hp
  generalize am_nS Λ5 h14 (2, 10) = Λ6 at hN hsh14 hsh9 hsh10 hsh11 hsh12 hsh13 ⊢
  generalize am_nI I5 h14 = I6 at hN ⊢
  generalize am_nJ _ h14 = J6
  refine k_astore C (i := 14) (lv := [(14, _), (13, _), (12, _), (11, _), (10, _), (9, _), (8, _), (7, _), (6, _), (5, _), (4, _), (2, _), (0, _), (1, _)]) (Nat.le_of_ble_eq_true rfl) rfl dL_day_75 ?_
  refine k_bipush C bc_8 dL_day_77 ?_
  refine k_newA2 C am_ar_i (rfl) (Nat.le_of_ble_eq_true rfl) (Or.inl ⟨rfl, rfl⟩) ⟨by show _ ≤ 6400; (try dsimp only); omega, by show _ ≤ 39000; (try dsimp only); omega⟩ dL_day_79 (fun h15 hh79 => ?_)
  obtain ⟨hN, hsh15, hxh15, hzh15, hp⟩ := new_step (s := (2, 8)) hN hh79
  obtain ⟨lth9_h15, e0⟩ := hp h9 (by rw [hsh9]; exact Nat.succ_ne_zero _)
  replace hsh9 := e0.trans hsh9
  clear e0
  obtain ⟨lth10_h15, e0⟩ := hp h10 (by rw [hsh10]; exact Nat.succ_ne_zero _)
  replace hsh10 := e0.trans hsh10
  clear e0
  obtain ⟨lth11_h15, e0⟩ := hp h11 (by rw [hsh11]; exact Nat.succ_ne_zero _)
  replace hsh11 := e0.trans hsh11
  clear e0
  obtain ⟨lth12_h15, e0⟩ := hp h12 (by rw [hsh12]; exact Nat.succ_ne_zero _)
  replace hsh12 := e0.trans hsh12
  clear e0
  obtain ⟨lth13_h15, e0⟩ := hp h13 (by rw [hsh13]; exact Nat.succ_ne_zero _)
  replace hsh13 := e0.trans hsh13
  clear e0
  obtain ⟨lth14_h15, e0⟩ := hp h14 (by rw [hsh14]; exact Nat.succ_ne_zero _)
  replace hsh14 := e0.trans hsh14
  clear e0
  clear hp
  generalize am_nS Λ6 h15 (2, 8) = Λ7 at hN hsh15 hsh9 hsh10 hsh11 hsh12 hsh13 hsh14 ⊢
  generalize am_nI I6 h15 = I7 at hN ⊢
  generalize am_nJ _ h15 = J7
  have hx7 := hN.2.1
  have hr7 := CR_eq hr hN.2.2
  have hlt : h9 < h10 ∧ h10 < h11 ∧ h11 < h12 ∧ h12 < h13 ∧ h13 < h14 := ⟨lth9_h10, lth10_h11, lth11_h12, lth12_h13, lth13_h14⟩
  refine k_astore C (i := 15) (lv := [(15, _), (14, _), (13, _), (12, _), (11, _), (10, _), (9, _), (8, _), (7, _), (6, _), (5, _), (4, _), (2, _), (0, _), (1, _)]) (Nat.le_of_ble_eq_true rfl) rfl dL_day_81 ?_
  have join116 : ∀ (b : Int32), ((b = nI 1 ∧ (dy < 200 ∧ 0 < sp_living r)) ∨ (b = nI 0 ∧ ¬ (dy < 200 ∧ 0 < sp_living r))) → am_K G X { frames := 13, cells := 6400, slots := 39000, locals := 400 } 22 Λ7 I7 J7 (1337) (8060) 116 [(16, .int b), (15, .ref h15), (14, .ref h14), (13, .ref h13), (12, .ref h12), (11, .ref h11), (10, .ref h10), (9, .ref h9), (8, .int (nI (zv r ld))), (7, .int (dis r ld)), (6, .int (nI km)), (5, .int (nI dy)), (4, .int (nI (sp_nc r))), (2, .long (hash r)), (1, .int (nI 1)), (0, .ref x)] [] := by
    intro b hb
    refine k_aload_n C (f := 0) (i := 0) (p := 15) rfl rfl dL_day_116 ?_
    refine k_callVp C s_L_265 h_X5_distanceToday (L5_s (by assumption)) rfl (ct_X5_distanceToday (by first | assumption | omega) (by first | assumption | omega) (by first | assumption | omega) (by first | assumption | omega) (by first | assumption | omega) (by first | assumption | omega)) rfl rfl (Nat.le_of_ble_eq_true rfl) ⟨Nat.le_of_ble_eq_true rfl, Nat.le_of_ble_eq_true rfl⟩ ⟨by show _ ≤ 6400; (try dsimp only); omega, by show _ ≤ 39000; (try dsimp only); omega⟩ ⟨rfl, rfl⟩ dL_day_117 ?_
    rw [show (if sp_living r = 0 then nI 0 else sp_dist r ld) = dis r ld from rfl]
    refine k_iload C (i := 7) (p := 9) rfl dL_day_120 ?_
    first
    | refine k_icmpN_ne C (tgt := 129) (by omega) (by omega) (by decide) dL_day_122 (fun hc122 => ?_) (fun hc122 => ?_)
    | refine k_icmp_ne C (tgt := 129) (by decide) dL_day_122 (fun hc122 => ?_) (fun hc122 => ?_)
    · skip
      first
      | omega
      | exact absurd hc122 (nI_ge (by omega) (by omega))
      | exact absurd hc122 (by decide)
      | exact absurd hc122 (nI_pos (by omega))
      | exact absurd (nI_pos' (by omega)) hc122
      | exact absurd rfl hc122
      | exact absurd hc122 (nI_ne0 (by omega) (by omega))
      | exact hc122 rfl
      | contradiction
      | exact absurd hc122 (nI_n101 (by omega))
      | exact absurd hc122.symm (nI_n101 (by omega))
      | (simp_all; done)
    · skip
      refine k_iconst C ic_1 dL_day_125 ?_
      refine k_goto C (tgt := 130) (by decide) dL_day_126 ?_
      refine k_istore C (i := 17) (lv := [(17, _), (16, _), (15, _), (14, _), (13, _), (12, _), (11, _), (10, _), (9, _), (8, _), (7, _), (6, _), (5, _), (4, _), (2, _), (1, _), (0, _)]) (Nat.le_of_ble_eq_true rfl) rfl dL_day_130 ?_
      refine k_iconst C ic_0 dL_day_132 ?_
      refine k_istore C (i := 18) (lv := [(18, _), (17, _), (16, _), (15, _), (14, _), (13, _), (12, _), (11, _), (10, _), (9, _), (8, _), (7, _), (6, _), (5, _), (4, _), (2, _), (1, _), (0, _)]) (Nat.le_of_ble_eq_true rfl) rfl dL_day_133 ?_
      have loop135 : ∀ (f : Nat) (k : Nat) (S : am_I), (k ≤ sp_nc r) → (NewOk x Λ I Λ7 S) → (AR S r (fun j => (nz r t j + 1) / 2) h9 h10 h11 h12 h13 h14 k) → (sp_nc r - k) < f → am_K G X { frames := 13, cells := 6400, slots := 39000, locals := 400 } 22 Λ7 S J7 (1337 + 36 * k) (8060 + 216 * k) 135 [(18, .int (nI k)), (17, .int (nI 1)), (16, .int b), (15, .ref h15), (14, .ref h14), (13, .ref h13), (12, .ref h12), (11, .ref h11), (10, .ref h10), (9, .ref h9), (8, .int (nI (zv r ld))), (7, .int (dis r ld)), (6, .int (nI km)), (5, .int (nI dy)), (4, .int (nI (sp_nc r))), (2, .long (hash r)), (1, .int (nI 1)), (0, .ref x)] [] := by
        intro f
        induction f with
        | zero => intro k S hk1 hS hA hf; exact absurd hf (Nat.not_lt_zero _)
        | succ f ih135 =>
          intro k S hk1 hS hA hf
          have hrS := CR_eq hr hS.2.2
          refine k_iload C (i := 18) (p := 0) rfl dL_day_135 ?_
          refine k_iload C (i := 4) (p := 14) rfl dL_day_137 ?_
          first
          | refine k_icmpN_ge C (tgt := 245) (by omega) (by omega) (by decide) dL_day_139 (fun hc139 => ?_) (fun hc139 => ?_)
          | refine k_icmp_ge C (tgt := 245) (by decide) dL_day_139 (fun hc139 => ?_) (fun hc139 => ?_)
          · skip
            obtain rfl : k = sp_nc r := by omega
            refine k_iconst C ic_0 dL_day_245 ?_
            refine k_istore C (i := 18) (lv := [(18, _), (17, _), (16, _), (15, _), (14, _), (13, _), (12, _), (11, _), (10, _), (9, _), (8, _), (7, _), (6, _), (5, _), (4, _), (2, _), (1, _), (0, _)]) (Nat.le_of_ble_eq_true rfl) rfl dL_day_246 ?_
            have loop248 : ∀ (f : Nat) (k : Nat) (S : am_I), (k ≤ sp_nw r) → (NewOk x Λ I Λ7 S) → (AR S r (fun j => (nz r t j + 1) / 2) h9 h10 h11 h12 h13 h14 (sp_nc r)) → (∀ j : Nat, j < k → S h15 j = r (93 + 4 * j)) → (sp_nw r - k) < f → am_K G X { frames := 13, cells := 6400, slots := 39000, locals := 400 } 22 Λ7 S J7 (1700 + 6 * k) (10230 + 36 * k) 248 [(18, .int (nI k)), (17, .int (nI 1)), (16, .int b), (15, .ref h15), (14, .ref h14), (13, .ref h13), (12, .ref h12), (11, .ref h11), (10, .ref h10), (9, .ref h9), (8, .int (nI (zv r ld))), (7, .int (dis r ld)), (6, .int (nI km)), (5, .int (nI dy)), (4, .int (nI (sp_nc r))), (2, .long (hash r)), (1, .int (nI 1)), (0, .ref x)] [] := by
              intro f
              induction f with
              | zero => intro k S hk1 hS hA hW hf; exact absurd hf (Nat.not_lt_zero _)
              | succ f ih248 =>
                intro k S hk1 hS hA hW hf
                have hrS := CR_eq hr hS.2.2
                refine k_iload C (i := 18) (p := 0) rfl dL_day_248 ?_
                refine k_aload_n C (f := 0) (i := 0) (p := 17) rfl rfl dL_day_250 ?_
                refine k_callVp C s_L_225 h_X5_wellCount (L5_s (by assumption)) rfl (ct_X5_wellCount (by first | assumption | omega) (by first | assumption | omega)) rfl rfl (Nat.le_of_ble_eq_true rfl) ⟨Nat.le_of_ble_eq_true rfl, Nat.le_of_ble_eq_true rfl⟩ ⟨by show _ ≤ 6400; (try dsimp only); omega, by show _ ≤ 39000; (try dsimp only); omega⟩ ⟨rfl, rfl⟩ dL_day_251 ?_
                first
                | refine k_icmpN_ge C (tgt := 276) (by omega) (by omega) (by decide) dL_day_254 (fun hc254 => ?_) (fun hc254 => ?_)
                | refine k_icmp_ge C (tgt := 276) (by decide) dL_day_254 (fun hc254 => ?_) (fun hc254 => ?_)
                · skip
                  obtain rfl : k = sp_nw r := by omega
                  have hR7 := RouRel_agree hR hS.2.2
                  rcases hb with ⟨rfl, hm⟩ | ⟨rfl, hm⟩
                  · skip
                    have hcd : (r 2 < nI 200 ∧ 0 < sp_living r) := ⟨by rw [hdy]; exact nI_lt (by omega) (by omega), hm.2⟩
                    refine k_aload_n C (f := 0) (i := 0) (p := 17) rfl rfl dL_day_276 ?_
                    refine k_iload_n C (f := 1) (i := 1) (p := 16) rfl rfl dL_day_277 ?_
                    first
                    | refine k_ifb_eq C (tgt := 285) (by decide) dL_day_278 (fun hc278 => ?_) (fun hc278 => ?_)
                    | refine k_if_eq C (tgt := 285) (by decide) dL_day_278 (fun hc278 => ?_) (fun hc278 => ?_)
                    · skip
                      first
                      | exact absurd hc278 (by decide)
                      | exact absurd (by decide) hc278
                    · skip
                      refine k_iconst C ic_1 dL_day_281 ?_
                      refine k_goto C (tgt := 286) (by decide) dL_day_282 ?_
                      refine k_iconst C ic_0 dL_day_286 ?_
                      refine k_callSgq C s_L_163 h_L_call__ (ct_L_call__ (ct_c1 (u1 := nI 0) (u2 := nI 0) (u3 := nI 0) (u4 := nI 0) (u5 := nI 0) hx7 hR7 hok hld hlc) (fun _ _ _ _ h => ⟨_, h.2.2.1⟩)) rfl rfl (Nat.le_of_ble_eq_true rfl) ⟨Nat.le_of_ble_eq_true rfl, Nat.le_of_ble_eq_true rfl⟩ ⟨rfl, rfl⟩ ⟨by show _ ≤ 6400; (try dsimp only); omega, by show _ ≤ 39000; (try dsimp only); omega⟩ dL_day_287 ?_
                      intro v I2 hv
                      obtain ⟨rfl, hv2, -⟩ := hv
                      obtain ⟨hR2, hF2⟩ := hv2 (if_pos hcd)
                      rw [if_pos (if_pos hcd)]
                      have hleg2 : Leg (sp_rest r) := Leg_rest hleg (by rw [hdy]; exact nI_lt (by omega) (by omega))
                      obtain ⟨hdf, hdk⟩ := DF_rest hleg ht ht9
                      generalize sp_rest r = R at hR2 hleg2 hdf hdk ⊢
                      rw [hk] at hdk
                      show am_K G X _ _ _ _ _ _ _ _ _ (.int (nI (sp_living R)) :: _)
                      obtain ⟨hd2, hdn, hdw, hdc, hdl⟩ := hdf
                      rw [hdy, nI_add] at hd2
                      have hr2 := RR_r hR2
                      have hdis : dis r ld = nI d := by unfold dis; rw [if_neg (show ¬ sp_living r = 0 by omega), hd]
                      rw [hdis]
                      have hA2 : AR I2 r (fun j => (nz r t j + 1) / 2) h9 h10 h11 h12 h13 h14 (sp_nc r) := AR_agree hA (hF2 _ (Or.inr (by omega))) (hF2 _ (Or.inr (by omega))) (hF2 _ (Or.inr (by omega))) (hF2 _ (Or.inr (by omega))) (hF2 _ (Or.inr (by omega))) (hF2 _ (Or.inr (by omega)))
                      have hW2 : ∀ j : Nat, j < sp_nw r → I2 h15 j = r (93 + 4 * j) := fun j hj => by rw [hF2 _ (Or.inr (by omega))]; exact hW j hj
                      have hlk2 := hS.1.tr (LK.fr hF2)
                      refine k_istore C (i := 18) (lv := [(18, _), (17, _), (16, _), (15, _), (14, _), (13, _), (12, _), (11, _), (10, _), (9, _), (8, _), (7, _), (6, _), (5, _), (4, _), (2, _), (1, _), (0, _)]) (Nat.le_of_ble_eq_true rfl) rfl dL_day_290 ?_
                      refine k_iload C (i := 16) (p := 2) rfl dL_day_292 ?_
                      first
                      | refine k_ifb_ne C (tgt := 324) (by decide) dL_day_294 (fun hc294 => ?_) (fun hc294 => ?_)
                      | refine k_if_ne C (tgt := 324) (by decide) dL_day_294 (fun hc294 => ?_) (fun hc294 => ?_)
                      · skip
                        refine k_iload C (i := 17) (p := 1) rfl dL_day_324 ?_
                        first
                        | refine k_ifb_eq C (tgt := 383) (by decide) dL_day_326 (fun hc326 => ?_) (fun hc326 => ?_)
                        | refine k_if_eq C (tgt := 383) (by decide) dL_day_326 (fun hc326 => ?_) (fun hc326 => ?_)
                        · skip
                          first
                          | omega
                          | exact absurd hc326 (nI_ge (by omega) (by omega))
                          | exact absurd hc326 (by decide)
                          | exact absurd hc326 (nI_pos (by omega))
                          | exact absurd (nI_pos' (by omega)) hc326
                          | exact absurd rfl hc326
                          | exact absurd hc326 (nI_ne0 (by omega) (by omega))
                          | exact hc326 rfl
                          | contradiction
                          | exact absurd hc326 (nI_n101 (by omega))
                          | exact absurd hc326.symm (nI_n101 (by omega))
                          | (simp_all; done)
                        · skip
                          refine k_iload C (i := 18) (p := 0) rfl dL_day_329 ?_
                          refine k_iload_n C (f := 1) (i := 1) (p := 16) rfl rfl dL_day_331 ?_
                          first
                          | refine k_ifb_eq C (tgt := 342) (by decide) dL_day_332 (fun hc332 => ?_) (fun hc332 => ?_)
                          | refine k_if_eq C (tgt := 342) (by decide) dL_day_332 (fun hc332 => ?_) (fun hc332 => ?_)
                          · skip
                            first
                            | exact absurd hc332 (by decide)
                            | exact absurd (by decide) hc332
                          · skip
                            refine k_aload_n C (f := 0) (i := 0) (p := 17) rfl rfl dL_day_335 ?_
                            refine k_callVp C s_L_240 h_X5_livingCamels (L5_s (by assumption)) rfl (ct_X5_livingCamels (by first | assumption | omega) (by first | assumption | omega)) rfl rfl (Nat.le_of_ble_eq_true rfl) ⟨Nat.le_of_ble_eq_true rfl, Nat.le_of_ble_eq_true rfl⟩ ⟨by show _ ≤ 6400; (try dsimp only); omega, by show _ ≤ 39000; (try dsimp only); omega⟩ ⟨rfl, rfl⟩ dL_day_336 ?_
                            refine k_goto C (tgt := 344) (by decide) dL_day_339 ?_
                            first
                            | refine k_icmpN_ne C (tgt := 383) (by omega) (by omega) (by decide) dL_day_344 (fun hc344 => ?_) (fun hc344 => ?_)
                            | refine k_icmp_ne C (tgt := 383) (by decide) dL_day_344 (fun hc344 => ?_) (fun hc344 => ?_)
                            · skip
                              first
                              | omega
                              | exact absurd hc344 (nI_ge (by omega) (by omega))
                              | exact absurd hc344 (by decide)
                              | exact absurd hc344 (nI_pos (by omega))
                              | exact absurd (nI_pos' (by omega)) hc344
                              | exact absurd rfl hc344
                              | exact absurd hc344 (nI_ne0 (by omega) (by omega))
                              | exact hc344 rfl
                              | contradiction
                              | exact absurd hc344 (nI_n101 (by omega))
                              | exact absurd hc344.symm (nI_n101 (by omega))
                              | (simp_all; done)
                            · skip
                              refine k_aload_n C (f := 0) (i := 0) (p := 17) rfl rfl dL_day_347 ?_
                              refine k_callVp C s_L_202 h_X5_kilometre (L5_s (by assumption)) rfl (ct_X5_kilometre (by first | assumption | omega) (by first | assumption | omega)) rfl rfl (Nat.le_of_ble_eq_true rfl) ⟨Nat.le_of_ble_eq_true rfl, Nat.le_of_ble_eq_true rfl⟩ ⟨by show _ ≤ 6400; (try dsimp only); omega, by show _ ≤ 39000; (try dsimp only); omega⟩ ⟨rfl, rfl⟩ dL_day_348 ?_
                              rw [hdk]
                              refine k_iload_n C (f := 1) (i := 1) (p := 16) rfl rfl dL_day_351 ?_
                              first
                              | refine k_ifb_eq C (tgt := 360) (by decide) dL_day_352 (fun hc352 => ?_) (fun hc352 => ?_)
                              | refine k_if_eq C (tgt := 360) (by decide) dL_day_352 (fun hc352 => ?_) (fun hc352 => ?_)
                              · skip
                                first
                                | exact absurd hc352 (by decide)
                                | exact absurd (by decide) hc352
                              · skip
                                refine k_iload C (i := 6) (p := 12) rfl dL_day_355 ?_
                                refine k_goto C (tgt := 365) (by decide) dL_day_357 ?_
                                first
                                | refine k_icmpN_ne C (tgt := 383) (by omega) (by omega) (by decide) dL_day_365 (fun hc365 => ?_) (fun hc365 => ?_)
                                | refine k_icmp_ne C (tgt := 383) (by decide) dL_day_365 (fun hc365 => ?_) (fun hc365 => ?_)
                                · skip
                                  first
                                  | omega
                                  | exact absurd hc365 (nI_ge (by omega) (by omega))
                                  | exact absurd hc365 (by decide)
                                  | exact absurd hc365 (nI_pos (by omega))
                                  | exact absurd (nI_pos' (by omega)) hc365
                                  | exact absurd rfl hc365
                                  | exact absurd hc365 (nI_ne0 (by omega) (by omega))
                                  | exact hc365 rfl
                                  | contradiction
                                  | exact absurd hc365 (nI_n101 (by omega))
                                  | exact absurd hc365.symm (nI_n101 (by omega))
                                  | (simp_all; done)
                                · skip
                                  refine k_aload_n C (f := 0) (i := 0) (p := 17) rfl rfl dL_day_368 ?_
                                  refine k_callVp C s_L_205 h_X5_day (L5_s (by assumption)) rfl (ct_X5_day (by first | assumption | omega) (by first | assumption | omega)) rfl rfl (Nat.le_of_ble_eq_true rfl) ⟨Nat.le_of_ble_eq_true rfl, Nat.le_of_ble_eq_true rfl⟩ ⟨by show _ ≤ 6400; (try dsimp only); omega, by show _ ≤ 39000; (try dsimp only); omega⟩ ⟨rfl, rfl⟩ dL_day_369 ?_
                                  rw [hd2]
                                  refine k_iload C (i := 5) (p := 13) rfl dL_day_372 ?_
                                  refine k_iconst C ic_1 dL_day_374 ?_
                                  refine k_iadd C dL_day_375 ?_
                                  rw [nI_add]
                                  first
                                  | refine k_icmpN_ne C (tgt := 383) (by omega) (by omega) (by decide) dL_day_376 (fun hc376 => ?_) (fun hc376 => ?_)
                                  | refine k_icmp_ne C (tgt := 383) (by decide) dL_day_376 (fun hc376 => ?_) (fun hc376 => ?_)
                                  · skip
                                    first
                                    | omega
                                    | exact absurd hc376 (nI_ge (by omega) (by omega))
                                    | exact absurd hc376 (by decide)
                                    | exact absurd hc376 (nI_pos (by omega))
                                    | exact absurd (nI_pos' (by omega)) hc376
                                    | exact absurd rfl hc376
                                    | exact absurd hc376 (nI_ne0 (by omega) (by omega))
                                    | exact hc376 rfl
                                    | contradiction
                                    | exact absurd hc376 (nI_n101 (by omega))
                                    | exact absurd hc376.symm (nI_n101 (by omega))
                                    | (simp_all; done)
                                  · skip
                                    refine k_iconst C ic_1 dL_day_379 ?_
                                    refine k_goto C (tgt := 384) (by decide) dL_day_380 ?_
                                    refine k_istore C (i := 17) (lv := [(17, _), (18, _), (16, _), (15, _), (14, _), (13, _), (12, _), (11, _), (10, _), (9, _), (8, _), (7, _), (6, _), (5, _), (4, _), (2, _), (1, _), (0, _)]) (Nat.le_of_ble_eq_true rfl) rfl dL_day_384 ?_
                                    refine k_iconst C ic_0 dL_day_386 ?_
                                    refine k_istore C (i := 19) (lv := [(19, _), (17, _), (18, _), (16, _), (15, _), (14, _), (13, _), (12, _), (11, _), (10, _), (9, _), (8, _), (7, _), (6, _), (5, _), (4, _), (2, _), (1, _), (0, _)]) (Nat.le_of_ble_eq_true rfl) rfl dL_day_387 ?_
                                    have loop389 : ∀ (f : Nat) (k : Nat), (k ≤ sp_nc r) → (sp_nc r - k) < f → am_K G X { frames := 13, cells := 6400, slots := 39000, locals := 400 } 22 Λ7 I2 J7 (1760 + 42 * k) (10600 + 252 * k) 389 [(19, .int (nI k)), (17, .int (nI 1)), (15, .ref h15), (14, .ref h14), (13, .ref h13), (12, .ref h12), (11, .ref h11), (10, .ref h10), (9, .ref h9), (8, .int (nI (zv r ld))), (4, .int (nI (sp_nc r))), (2, .long (hash r)), (1, .int (nI 1)), (0, .ref x)] [] := by
                                      intro f
                                      induction f with
                                      | zero => intro k hk1 hf; exact absurd hf (Nat.not_lt_zero _)
                                      | succ f ih389 =>
                                        intro k hk1 hf
                                        refine k_iload C (i := 19) (p := 0) rfl dL_day_389 ?_
                                        refine k_iload C (i := 4) (p := 10) rfl dL_day_391 ?_
                                        first
                                        | refine k_icmpN_ge C (tgt := 645) (by omega) (by omega) (by decide) dL_day_393 (fun hc393 => ?_) (fun hc393 => ?_)
                                        | refine k_icmp_ge C (tgt := 645) (by decide) dL_day_393 (fun hc393 => ?_) (fun hc393 => ?_)
                                        · skip
                                          obtain rfl : k = sp_nc r := by omega
                                          refine k_iconst C ic_0 dL_day_645 ?_
                                          refine k_istore C (i := 19) (lv := [(19, _), (17, _), (15, _), (14, _), (13, _), (12, _), (11, _), (10, _), (9, _), (8, _), (4, _), (2, _), (1, _), (0, _)]) (Nat.le_of_ble_eq_true rfl) rfl dL_day_646 ?_
                                          have loop648 : ∀ (f : Nat) (k : Nat), (k ≤ sp_nw r) → (sp_nw r - k) < f → am_K G X { frames := 13, cells := 6400, slots := 39000, locals := 400 } 22 Λ7 I2 J7 (2200 + 18 * k) (13140 + 108 * k) 648 [(19, .int (nI k)), (17, .int (nI 1)), (15, .ref h15), (14, .ref h14), (13, .ref h13), (12, .ref h12), (11, .ref h11), (10, .ref h10), (9, .ref h9), (8, .int (nI (zv r ld))), (4, .int (nI (sp_nc r))), (2, .long (hash r)), (1, .int (nI 1)), (0, .ref x)] [] := by
                                            intro f
                                            induction f with
                                            | zero => intro k hk1 hf; exact absurd hf (Nat.not_lt_zero _)
                                            | succ f ih648 =>
                                              intro k hk1 hf
                                              refine k_iload C (i := 19) (p := 0) rfl dL_day_648 ?_
                                              refine k_aload_n C (f := 0) (i := 0) (p := 13) rfl rfl dL_day_650 ?_
                                              refine k_callVp C s_L_225 h_X5_wellCount (L5_s (by assumption)) rfl (ct_X5_wellCount (by first | assumption | omega) (by first | assumption | omega)) rfl rfl (Nat.le_of_ble_eq_true rfl) ⟨Nat.le_of_ble_eq_true rfl, Nat.le_of_ble_eq_true rfl⟩ ⟨by show _ ≤ 6400; (try dsimp only); omega, by show _ ≤ 39000; (try dsimp only); omega⟩ ⟨rfl, rfl⟩ dL_day_651 ?_
                                              rw [hdw]
                                              first
                                              | refine k_icmpN_ge C (tgt := 710) (by omega) (by omega) (by decide) dL_day_654 (fun hc654 => ?_) (fun hc654 => ?_)
                                              | refine k_icmp_ge C (tgt := 710) (by decide) dL_day_654 (fun hc654 => ?_) (fun hc654 => ?_)
                                              · skip
                                                obtain rfl : k = sp_nw r := by omega
                                                refine k_iload C (i := 17) (p := 1) rfl dL_day_710 ?_
                                                first
                                                | refine k_ifb_eq C (tgt := 745) (by decide) dL_day_712 (fun hc712 => ?_) (fun hc712 => ?_)
                                                | refine k_if_eq C (tgt := 745) (by decide) dL_day_712 (fun hc712 => ?_) (fun hc712 => ?_)
                                                · skip
                                                  first
                                                  | omega
                                                  | exact absurd hc712 (nI_ge (by omega) (by omega))
                                                  | exact absurd hc712 (by decide)
                                                  | exact absurd hc712 (nI_pos (by omega))
                                                  | exact absurd (nI_pos' (by omega)) hc712
                                                  | exact absurd rfl hc712
                                                  | exact absurd hc712 (nI_ne0 (by omega) (by omega))
                                                  | exact hc712 rfl
                                                  | contradiction
                                                  | exact absurd hc712 (nI_n101 (by omega))
                                                  | exact absurd hc712.symm (nI_n101 (by omega))
                                                  | (simp_all; done)
                                                · skip
                                                  refine k_aload_n C (f := 0) (i := 0) (p := 13) rfl rfl dL_day_715 ?_
                                                  refine k_callSl C s_L_268 h_L_caravan (ct_L_caravan hx7 hR2 hleg2) rfl rfl (Nat.le_of_ble_eq_true rfl) ⟨Nat.le_of_ble_eq_true rfl, Nat.le_of_ble_eq_true rfl⟩ ⟨rfl, rfl⟩ ⟨by show _ ≤ 6400; (try dsimp only); omega, by show _ ≤ 39000; (try dsimp only); omega⟩ dL_day_716 ?_
                                                  intro v Λ3 I3 J3 hv
                                                  obtain ⟨hlk3, rfl, hkp3⟩ := hv
                                                  show am_K G X _ _ _ _ _ _ _ _ _ (.int (nI 1) :: _)
                                                  first
                                                  | refine k_ifb_eq C (tgt := 745) (by decide) dL_day_719 (fun hc719 => ?_) (fun hc719 => ?_)
                                                  | refine k_if_eq C (tgt := 745) (by decide) dL_day_719 (fun hc719 => ?_) (fun hc719 => ?_)
                                                  · skip
                                                    first
                                                    | omega
                                                    | exact absurd hc719 (nI_ge (by omega) (by omega))
                                                    | exact absurd hc719 (by decide)
                                                    | exact absurd hc719 (nI_pos (by omega))
                                                    | exact absurd (nI_pos' (by omega)) hc719
                                                    | exact absurd rfl hc719
                                                    | exact absurd hc719 (nI_ne0 (by omega) (by omega))
                                                    | exact hc719 rfl
                                                    | contradiction
                                                    | exact absurd hc719 (nI_n101 (by omega))
                                                    | exact absurd hc719.symm (nI_n101 (by omega))
                                                    | (simp_all; done)
                                                  · skip
                                                    refine k_aload_n C (f := 0) (i := 0) (p := 13) rfl rfl dL_day_722 ?_
                                                    refine k_bipush C bc_7 dL_day_723 ?_
                                                    refine k_iconst C ic_0 dL_day_725 ?_
                                                    refine k_callSgq C s_L_163 h_L_call__ (ct_L_call__ (ct_c7 (u1 := nI 0) (u2 := nI 0) (u3 := nI 0) (u4 := nI 0) (u5 := nI 0) (hlk3.lay hx7) (RouRel_agree hR2 hkp3) hleg2.1) (fun _ _ _ _ h => ⟨_, h.2.2.1⟩)) rfl rfl (Nat.le_of_ble_eq_true rfl) ⟨Nat.le_of_ble_eq_true rfl, Nat.le_of_ble_eq_true rfl⟩ ⟨rfl, rfl⟩ ⟨by show _ ≤ 6400; (try dsimp only); omega, by show _ ≤ 39000; (try dsimp only); omega⟩ dL_day_726 ?_
                                                    intro v I4 hv
                                                    obtain ⟨rfl, hv2, -⟩ := hv
                                                    have hct : ¬ min 8 (ct + 1) = 0 := by omega
                                                    obtain ⟨hR4, hF4⟩ := hv2 (if_neg hct)
                                                    rw [if_pos (if_neg hct)]
                                                    rw [push_0, push_s] at hR4
                                                    show am_K G X _ _ _ _ _ _ _ _ _ (.int (nI (min 8 (ct + 1) - 1)) :: _)
                                                    have hr4 := RR_r hR4
                                                    have hx4 := hlk3.lay hx7
                                                    refine k_if_lt C (tgt := 745) (by decide) dL_day_729 (fun hc729 => ?_) (fun hc729 => ?_)
                                                    · skip
                                                      first
                                                      | omega
                                                      | exact absurd hc729 (nI_ge (by omega) (by omega))
                                                      | exact absurd hc729 (by decide)
                                                      | exact absurd hc729 (nI_pos (by omega))
                                                      | exact absurd (nI_pos' (by omega)) hc729
                                                      | exact absurd rfl hc729
                                                      | exact absurd hc729 (nI_ne0 (by omega) (by omega))
                                                      | exact hc729 rfl
                                                      | contradiction
                                                      | exact absurd hc729 (nI_n101 (by omega))
                                                      | exact absurd hc729.symm (nI_n101 (by omega))
                                                      | (simp_all; done)
                                                    · skip
                                                      refine k_aload_n C (f := 0) (i := 0) (p := 13) rfl rfl dL_day_732 ?_
                                                      refine k_callSq C s_L_257 h_L_state (ct_L_state (by first | assumption | omega) (by first | assumption | omega) (by first | assumption | omega)) rfl rfl (Nat.le_of_ble_eq_true rfl) ⟨Nat.le_of_ble_eq_true rfl, Nat.le_of_ble_eq_true rfl⟩ ⟨rfl, rfl⟩ ⟨by show _ ≤ 6400; (try dsimp only); omega, by show _ ≤ 39000; (try dsimp only); omega⟩ dL_day_733 ?_
                                                      refine k_lload_n C (f := 2) (i := 2) (p := 11) rfl rfl dL_day_736 ?_
                                                      refine k_lcmp C dL_day_737 ?_
                                                      rw [lg_self]
                                                      first
                                                      | refine k_ifb_ne C (tgt := 745) (by decide) dL_day_738 (fun hc738 => ?_) (fun hc738 => ?_)
                                                      | refine k_if_ne C (tgt := 745) (by decide) dL_day_738 (fun hc738 => ?_) (fun hc738 => ?_)
                                                      · skip
                                                        first
                                                        | omega
                                                        | exact absurd hc738 (nI_ge (by omega) (by omega))
                                                        | exact absurd hc738 (by decide)
                                                        | exact absurd hc738 (nI_pos (by omega))
                                                        | exact absurd (nI_pos' (by omega)) hc738
                                                        | exact absurd rfl hc738
                                                        | exact absurd hc738 (nI_ne0 (by omega) (by omega))
                                                        | exact hc738 rfl
                                                        | contradiction
                                                        | exact absurd hc738 (nI_n101 (by omega))
                                                        | exact absurd hc738.symm (nI_n101 (by omega))
                                                        | (simp_all; done)
                                                      · skip
                                                        refine k_iconst C ic_1 dL_day_741 ?_
                                                        refine k_goto C (tgt := 746) (by decide) dL_day_742 ?_
                                                        exact k_zret C (by first | rfl | exact am_bz) (by show _ ≤ 6400; (try dsimp only); omega) (by show _ ≤ 39000; (try dsimp only); omega) (⟨hlk2.tr (hlk3.tr (LK.fr hF4)), rfl, _, by omega, hR4⟩) dL_day_746
                                              · skip
                                                have hk2 : k < sp_nw r := by omega
                                                have hk3 : k < sp_nw R := by omega
                                                obtain ⟨cap, lev, new, l1, l2, l3, l4, l5, l6⟩ := hdl k hk2
                                                have hw2 := (hW2 k hk2).trans l1
                                                refine k_iload C (i := 17) (p := 1) rfl dL_day_657 ?_
                                                first
                                                | refine k_ifb_eq C (tgt := 710) (by decide) dL_day_659 (fun hc659 => ?_) (fun hc659 => ?_)
                                                | refine k_if_eq C (tgt := 710) (by decide) dL_day_659 (fun hc659 => ?_) (fun hc659 => ?_)
                                                · skip
                                                  first
                                                  | omega
                                                  | exact absurd hc659 (nI_ge (by omega) (by omega))
                                                  | exact absurd hc659 (by decide)
                                                  | exact absurd hc659 (nI_pos (by omega))
                                                  | exact absurd (nI_pos' (by omega)) hc659
                                                  | exact absurd rfl hc659
                                                  | exact absurd hc659 (nI_ne0 (by omega) (by omega))
                                                  | exact hc659 rfl
                                                  | contradiction
                                                  | exact absurd hc659 (nI_n101 (by omega))
                                                  | exact absurd hc659.symm (nI_n101 (by omega))
                                                  | (simp_all; done)
                                                · skip
                                                  refine k_aload_n C (f := 0) (i := 0) (p := 13) rfl rfl dL_day_662 ?_
                                                  refine k_bipush C bc_17 dL_day_663 ?_
                                                  refine k_iload C (i := 19) (p := 0) rfl dL_day_665 ?_
                                                  refine k_callSq C s_L_163 h_L_call__ (ct_k17 hx7 hr2 hk3 l2) rfl rfl (Nat.le_of_ble_eq_true rfl) ⟨Nat.le_of_ble_eq_true rfl, Nat.le_of_ble_eq_true rfl⟩ ⟨rfl, rfl⟩ ⟨by show _ ≤ 6400; (try dsimp only); omega, by show _ ≤ 39000; (try dsimp only); omega⟩ dL_day_667 ?_
                                                  refine k_aload C (i := 15) (p := 2) rfl dL_day_670 ?_
                                                  refine k_iload C (i := 19) (p := 0) rfl dL_day_672 ?_
                                                  refine k_iald C (hsh15) (rfl) (by omega) (by decide) (hw2) dL_day_674 ?_
                                                  first
                                                  | refine k_icmpN_lt C (tgt := 701) (by omega) (by omega) (by decide) dL_day_675 (fun hc675 => ?_) (fun hc675 => ?_)
                                                  | refine k_icmp_lt C (tgt := 701) (by decide) dL_day_675 (fun hc675 => ?_) (fun hc675 => ?_)
                                                  · skip
                                                    first
                                                    | omega
                                                    | exact absurd hc675 (nI_ge (by omega) (by omega))
                                                    | exact absurd hc675 (by decide)
                                                    | exact absurd hc675 (nI_pos (by omega))
                                                    | exact absurd (nI_pos' (by omega)) hc675
                                                    | exact absurd rfl hc675
                                                    | exact absurd hc675 (nI_ne0 (by omega) (by omega))
                                                    | exact hc675 rfl
                                                    | contradiction
                                                    | exact absurd hc675 (nI_n101 (by omega))
                                                    | exact absurd hc675.symm (nI_n101 (by omega))
                                                    | (simp_all; done)
                                                  · skip
                                                    refine k_aload_n C (f := 0) (i := 0) (p := 13) rfl rfl dL_day_678 ?_
                                                    refine k_bipush C bc_17 dL_day_679 ?_
                                                    refine k_iload C (i := 19) (p := 0) rfl dL_day_681 ?_
                                                    refine k_callSq C s_L_163 h_L_call__ (ct_k17 hx7 hr2 hk3 l2) rfl rfl (Nat.le_of_ble_eq_true rfl) ⟨Nat.le_of_ble_eq_true rfl, Nat.le_of_ble_eq_true rfl⟩ ⟨rfl, rfl⟩ ⟨by show _ ≤ 6400; (try dsimp only); omega, by show _ ≤ 39000; (try dsimp only); omega⟩ dL_day_683 ?_
                                                    refine k_aload_n C (f := 0) (i := 0) (p := 13) rfl rfl dL_day_686 ?_
                                                    refine k_bipush C bc_16 dL_day_687 ?_
                                                    refine k_iload C (i := 19) (p := 0) rfl dL_day_689 ?_
                                                    refine k_callSq C s_L_163 h_L_call__ (ct_k16 hx7 hr2 hk3 l3) rfl rfl (Nat.le_of_ble_eq_true rfl) ⟨Nat.le_of_ble_eq_true rfl, Nat.le_of_ble_eq_true rfl⟩ ⟨rfl, rfl⟩ ⟨by show _ ≤ 6400; (try dsimp only); omega, by show _ ≤ 39000; (try dsimp only); omega⟩ dL_day_691 ?_
                                                    first
                                                    | refine k_icmpN_gt C (tgt := 701) (by omega) (by omega) (by decide) dL_day_694 (fun hc694 => ?_) (fun hc694 => ?_)
                                                    | refine k_icmp_gt C (tgt := 701) (by decide) dL_day_694 (fun hc694 => ?_) (fun hc694 => ?_)
                                                    · skip
                                                      first
                                                      | omega
                                                      | exact absurd hc694 (nI_ge (by omega) (by omega))
                                                      | exact absurd hc694 (by decide)
                                                      | exact absurd hc694 (nI_pos (by omega))
                                                      | exact absurd (nI_pos' (by omega)) hc694
                                                      | exact absurd rfl hc694
                                                      | exact absurd hc694 (nI_ne0 (by omega) (by omega))
                                                      | exact hc694 rfl
                                                      | contradiction
                                                      | exact absurd hc694 (nI_n101 (by omega))
                                                      | exact absurd hc694.symm (nI_n101 (by omega))
                                                      | (simp_all; done)
                                                    · skip
                                                      refine k_iconst C ic_1 dL_day_697 ?_
                                                      refine k_goto C (tgt := 702) (by decide) dL_day_698 ?_
                                                      refine k_istore C (i := 17) (lv := [(17, _), (19, _), (15, _), (14, _), (13, _), (12, _), (11, _), (10, _), (9, _), (8, _), (4, _), (2, _), (1, _), (0, _)]) (Nat.le_of_ble_eq_true rfl) rfl dL_day_702 ?_
                                                      refine k_iinc C (i := 19) (p := 1) (lv := [(19, _), (17, _), (15, _), (14, _), (13, _), (12, _), (11, _), (10, _), (9, _), (8, _), (4, _), (2, _), (1, _), (0, _)]) (Nat.le_of_ble_eq_true rfl) rfl (by first | exact am_inc1 _ | rfl) rfl dL_day_704 ?_
                                                      refine k_goto C (tgt := 648) (by decide) dL_day_707 ?_
                                                      refine k_sub [0, 1, 2, 3, 4, 5, 6, 7, 8, 9, 10, 11, 12, 13] rfl ?_
                                                      refine k_widen ?_ ?_ (ih648 (k + 1) (by omega) (by omega))
                                                      · (try dsimp only); omega
                                                      · (try dsimp only); omega
                                          refine k_sub [0, 1, 2, 3, 4, 5, 6, 7, 8, 9, 10, 11, 12, 13] rfl ?_
                                          refine k_widen ?_ ?_ (loop648 (sp_nw r + 1) 0 (Nat.zero_le _) (by omega))
                                          · (try dsimp only); omega
                                          · (try dsimp only); omega
                                        · skip
                                          have hk2 : k < sp_nc r := by omega
                                          have hk3 : k < sp_nc R := by omega
                                          obtain ⟨a9, a10, a11, a12, a13, a14⟩ := hA2 k hk2
                                          obtain ⟨hv23, hv24, hv25, hv26, b23, b24, b25, b26⟩ := NumR_of hleg k hk2
                                          obtain ⟨hv29, hv5, hv9⟩ := zv_of hok hk2
                                          have hnz := nz_le (m := k) hok ht9
                                          obtain ⟨hdc1, hdc2⟩ := hdc k hk2
                                          have hzn := (zn_of (m := k) hok ht9).2.2
                                          refine k_iload C (i := 17) (p := 1) rfl dL_day_396 ?_
                                          first
                                          | refine k_ifb_eq C (tgt := 645) (by decide) dL_day_398 (fun hc398 => ?_) (fun hc398 => ?_)
                                          | refine k_if_eq C (tgt := 645) (by decide) dL_day_398 (fun hc398 => ?_) (fun hc398 => ?_)
                                          · skip
                                            first
                                            | omega
                                            | exact absurd hc398 (nI_ge (by omega) (by omega))
                                            | exact absurd hc398 (by decide)
                                            | exact absurd hc398 (nI_pos (by omega))
                                            | exact absurd (nI_pos' (by omega)) hc398
                                            | exact absurd rfl hc398
                                            | exact absurd hc398 (nI_ne0 (by omega) (by omega))
                                            | exact hc398 rfl
                                            | contradiction
                                            | exact absurd hc398 (nI_n101 (by omega))
                                            | exact absurd hc398.symm (nI_n101 (by omega))
                                            | (simp_all; done)
                                          · skip
                                            by_cases hal : zd r k < 3
                                            · skip
                                              have e12 : dz r k = 0 := if_pos hal
                                              have e10 : nz r t k = zn r t k := if_pos hal
                                              obtain ⟨q23, q24, q25, q26⟩ := hdc1 hal
                                              rw [e12] at a12
                                              have a10b : I2 h10 k = nI ((zn r t k + 1) / 2) := by rw [a10]; show nI ((nz r t k + 1) / 2) = _; rw [e10]
                                              refine k_aload C (i := 12) (p := 5) rfl dL_day_401 ?_
                                              refine k_iload C (i := 19) (p := 0) rfl dL_day_403 ?_
                                              refine k_iald C (hsh12) (rfl) (by omega) (by decide) (a12) dL_day_405 ?_
                                              refine k_iconst C ic_1 dL_day_406 ?_
                                              first
                                              | refine k_icmpN_ne C (tgt := 464) (by omega) (by omega) (by decide) dL_day_407 (fun hc407 => ?_) (fun hc407 => ?_)
                                              | refine k_icmp_ne C (tgt := 464) (by decide) dL_day_407 (fun hc407 => ?_) (fun hc407 => ?_)
                                              · skip
                                                have join507 : ∀ (P : Nat), (st1 (zs r k) 0 0 = P) → (P ≤ 200) → am_K G X { frames := 13, cells := 6400, slots := 39000, locals := 400 } 22 Λ7 I2 J7 (1760 + 42 * k) (10600 + 252 * k) 507 [(19, .int (nI k)), (17, .int (nI 1)), (15, .ref h15), (14, .ref h14), (13, .ref h13), (12, .ref h12), (11, .ref h11), (10, .ref h10), (9, .ref h9), (8, .int (nI (zv r ld))), (4, .int (nI (sp_nc r))), (2, .long (hash r)), (1, .int (nI 1)), (0, .ref x)] [.int (nI P)] := by
                                                  intro P hP hP9
                                                  refine k_istore C (i := 20) (lv := [(20, _), (19, _), (17, _), (15, _), (14, _), (13, _), (12, _), (11, _), (10, _), (9, _), (8, _), (4, _), (2, _), (1, _), (0, _)]) (Nat.le_of_ble_eq_true rfl) rfl dL_day_507 ?_
                                                  refine k_iload C (i := 20) (p := 0) rfl dL_day_509 ?_
                                                  refine k_bipush C bc_60 dL_day_511 ?_
                                                  first
                                                  | refine k_icmpN_le C (tgt := 520) (by omega) (by omega) (by decide) dL_day_513 (fun hc513 => ?_) (fun hc513 => ?_)
                                                  | refine k_icmp_le C (tgt := 520) (by decide) dL_day_513 (fun hc513 => ?_) (fun hc513 => ?_)
                                                  · skip
                                                    have h24 : R (14 + 8 * k) = nI P := by rw [q24]; show nI (st2 (st1 (zs r k) 0 0)) = nI P; rw [hP]; unfold st2; rw [if_neg (show ¬ 60 < P by omega)]
                                                    have h25 : R (15 + 8 * k) = nI (zl r k - 1) := by rw [q25]; show nI (lm2 (st1 (zs r k) 0 0) (zl r k)) = _; rw [hP]; unfold lm2; rw [if_neg (show ¬ 60 < P by omega)]
                                                    refine k_iconst C ic_0 dL_day_520 ?_
                                                    refine k_istore C (i := 21) (lv := [(21, _), (20, _), (19, _), (17, _), (15, _), (14, _), (13, _), (12, _), (11, _), (10, _), (9, _), (8, _), (4, _), (2, _), (1, _), (0, _)]) (Nat.le_of_ble_eq_true rfl) rfl dL_day_521 ?_
                                                    refine k_aload_n C (f := 0) (i := 0) (p := 15) rfl rfl dL_day_523 ?_
                                                    refine k_bipush C bc_24 dL_day_524 ?_
                                                    refine k_iload C (i := 19) (p := 2) rfl dL_day_526 ?_
                                                    refine k_callSq C s_L_163 h_L_call__ (ct_k24 hx7 hr2 hk3 h24) rfl rfl (Nat.le_of_ble_eq_true rfl) ⟨Nat.le_of_ble_eq_true rfl, Nat.le_of_ble_eq_true rfl⟩ ⟨rfl, rfl⟩ ⟨by show _ ≤ 6400; (try dsimp only); omega, by show _ ≤ 39000; (try dsimp only); omega⟩ dL_day_528 ?_
                                                    refine k_iload C (i := 21) (p := 0) rfl dL_day_531 ?_
                                                    first
                                                    | refine k_ifb_eq C (tgt := 540) (by decide) dL_day_533 (fun hc533 => ?_) (fun hc533 => ?_)
                                                    | refine k_if_eq C (tgt := 540) (by decide) dL_day_533 (fun hc533 => ?_) (fun hc533 => ?_)
                                                    · skip
                                                      refine k_iload C (i := 20) (p := 1) rfl dL_day_540 ?_
                                                      first
                                                      | refine k_icmpN_ne C (tgt := 636) (by omega) (by omega) (by decide) dL_day_542 (fun hc542 => ?_) (fun hc542 => ?_)
                                                      | refine k_icmp_ne C (tgt := 636) (by decide) dL_day_542 (fun hc542 => ?_) (fun hc542 => ?_)
                                                      · skip
                                                        first
                                                        | omega
                                                        | exact absurd hc542 (nI_ge (by omega) (by omega))
                                                        | exact absurd hc542 (by decide)
                                                        | exact absurd hc542 (nI_pos (by omega))
                                                        | exact absurd (nI_pos' (by omega)) hc542
                                                        | exact absurd rfl hc542
                                                        | exact absurd hc542 (nI_ne0 (by omega) (by omega))
                                                        | exact hc542 rfl
                                                        | contradiction
                                                        | exact absurd hc542 (nI_n101 (by omega))
                                                        | exact absurd hc542.symm (nI_n101 (by omega))
                                                        | (simp_all; done)
                                                      · skip
                                                        refine k_aload_n C (f := 0) (i := 0) (p := 15) rfl rfl dL_day_545 ?_
                                                        refine k_bipush C bc_25 dL_day_546 ?_
                                                        refine k_iload C (i := 19) (p := 2) rfl dL_day_548 ?_
                                                        refine k_callSq C s_L_163 h_L_call__ (ct_k25 hx7 hr2 hk3 h25) rfl rfl (Nat.le_of_ble_eq_true rfl) ⟨Nat.le_of_ble_eq_true rfl, Nat.le_of_ble_eq_true rfl⟩ ⟨rfl, rfl⟩ ⟨by show _ ≤ 6400; (try dsimp only); omega, by show _ ≤ 39000; (try dsimp only); omega⟩ dL_day_550 ?_
                                                        refine k_iload C (i := 21) (p := 0) rfl dL_day_553 ?_
                                                        first
                                                        | refine k_ifb_eq C (tgt := 568) (by decide) dL_day_555 (fun hc555 => ?_) (fun hc555 => ?_)
                                                        | refine k_if_eq C (tgt := 568) (by decide) dL_day_555 (fun hc555 => ?_) (fun hc555 => ?_)
                                                        · skip
                                                          refine k_iconst C ic_0 dL_day_568 ?_
                                                          refine k_aload C (i := 14) (p := 5) rfl dL_day_569 ?_
                                                          refine k_iload C (i := 19) (p := 2) rfl dL_day_571 ?_
                                                          refine k_iald C (hsh14) (rfl) (by omega) (by decide) (a14) dL_day_573 ?_
                                                          refine k_iconst C ic_1 dL_day_574 ?_
                                                          refine k_isub C dL_day_575 ?_
                                                          refine k_max C (max0_sub (by omega) (by omega)) m_L_235 ⟨Nat.le_of_ble_eq_true rfl, Nat.le_of_ble_eq_true rfl⟩ ⟨by show _ ≤ 6400; (try dsimp only); omega, by show _ ≤ 39000; (try dsimp only); omega⟩ dL_day_576 ?_
                                                          first
                                                          | refine k_icmpN_ne C (tgt := 636) (by omega) (by omega) (by decide) dL_day_579 (fun hc579 => ?_) (fun hc579 => ?_)
                                                          | refine k_icmp_ne C (tgt := 636) (by decide) dL_day_579 (fun hc579 => ?_) (fun hc579 => ?_)
                                                          · skip
                                                            first
                                                            | omega
                                                            | exact absurd hc579 (nI_ge (by omega) (by omega))
                                                            | exact absurd hc579 (by decide)
                                                            | exact absurd hc579 (nI_pos (by omega))
                                                            | exact absurd (nI_pos' (by omega)) hc579
                                                            | exact absurd rfl hc579
                                                            | exact absurd hc579 (nI_ne0 (by omega) (by omega))
                                                            | exact hc579 rfl
                                                            | contradiction
                                                            | exact absurd hc579 (nI_n101 (by omega))
                                                            | exact absurd hc579.symm (nI_n101 (by omega))
                                                            | (simp_all; done)
                                                          · skip
                                                            refine k_aload_n C (f := 0) (i := 0) (p := 15) rfl rfl dL_day_582 ?_
                                                            refine k_bipush C bc_23 dL_day_583 ?_
                                                            refine k_iload C (i := 19) (p := 2) rfl dL_day_585 ?_
                                                            refine k_callSq C s_L_163 h_L_call__ (ct_k23 hx7 hr2 hk3 q23) rfl rfl (Nat.le_of_ble_eq_true rfl) ⟨Nat.le_of_ble_eq_true rfl, Nat.le_of_ble_eq_true rfl⟩ ⟨rfl, rfl⟩ ⟨by show _ ≤ 6400; (try dsimp only); omega, by show _ ≤ 39000; (try dsimp only); omega⟩ dL_day_587 ?_
                                                            refine k_iconst C ic_0 dL_day_590 ?_
                                                            refine k_aload C (i := 9) (p := 10) rfl dL_day_591 ?_
                                                            refine k_iload C (i := 19) (p := 2) rfl dL_day_593 ?_
                                                            refine k_iald C (hsh9) (rfl) (by omega) (by decide) (a9) dL_day_595 ?_
                                                            refine k_aload C (i := 10) (p := 9) rfl dL_day_596 ?_
                                                            refine k_iload C (i := 19) (p := 2) rfl dL_day_598 ?_
                                                            refine k_iald C (hsh10) (rfl) (by omega) (by decide) (a10b) dL_day_600 ?_
                                                            refine k_isub C dL_day_601 ?_
                                                            refine k_max C (max0_sub (by omega) (by omega)) m_L_235 ⟨Nat.le_of_ble_eq_true rfl, Nat.le_of_ble_eq_true rfl⟩ ⟨by show _ ≤ 6400; (try dsimp only); omega, by show _ ≤ 39000; (try dsimp only); omega⟩ dL_day_602 ?_
                                                            first
                                                            | refine k_icmpN_ne C (tgt := 636) (by omega) (by omega) (by decide) dL_day_605 (fun hc605 => ?_) (fun hc605 => ?_)
                                                            | refine k_icmp_ne C (tgt := 636) (by decide) dL_day_605 (fun hc605 => ?_) (fun hc605 => ?_)
                                                            · skip
                                                              first
                                                              | omega
                                                              | exact absurd hc605 (nI_ge (by omega) (by omega))
                                                              | exact absurd hc605 (by decide)
                                                              | exact absurd hc605 (nI_pos (by omega))
                                                              | exact absurd (nI_pos' (by omega)) hc605
                                                              | exact absurd rfl hc605
                                                              | exact absurd hc605 (nI_ne0 (by omega) (by omega))
                                                              | exact hc605 rfl
                                                              | contradiction
                                                              | exact absurd hc605 (nI_n101 (by omega))
                                                              | exact absurd hc605.symm (nI_n101 (by omega))
                                                              | (simp_all; done)
                                                            · skip
                                                              refine k_aload C (i := 9) (p := 10) rfl dL_day_608 ?_
                                                              refine k_iload C (i := 19) (p := 2) rfl dL_day_610 ?_
                                                              refine k_iald C (hsh9) (rfl) (by omega) (by decide) (a9) dL_day_612 ?_
                                                              refine k_aload C (i := 10) (p := 9) rfl dL_day_613 ?_
                                                              refine k_iload C (i := 19) (p := 2) rfl dL_day_615 ?_
                                                              refine k_iald C (hsh10) (rfl) (by omega) (by decide) (a10b) dL_day_617 ?_
                                                              first
                                                              | refine k_icmpN_lt C (tgt := 632) (by omega) (by omega) (by decide) dL_day_618 (fun hc618 => ?_) (fun hc618 => ?_)
                                                              | refine k_icmp_lt C (tgt := 632) (by decide) dL_day_618 (fun hc618 => ?_) (fun hc618 => ?_)
                                                              · skip
                                                                refine k_iconst C ic_1 dL_day_632 ?_
                                                                refine k_goto C (tgt := 637) (by decide) dL_day_633 ?_
                                                                refine k_istore C (i := 17) (lv := [(17, _), (21, _), (20, _), (19, _), (15, _), (14, _), (13, _), (12, _), (11, _), (10, _), (9, _), (8, _), (4, _), (2, _), (1, _), (0, _)]) (Nat.le_of_ble_eq_true rfl) rfl dL_day_637 ?_
                                                                refine k_iinc C (i := 19) (p := 3) (lv := [(19, _), (17, _), (21, _), (20, _), (15, _), (14, _), (13, _), (12, _), (11, _), (10, _), (9, _), (8, _), (4, _), (2, _), (1, _), (0, _)]) (Nat.le_of_ble_eq_true rfl) rfl (by first | exact am_inc1 _ | rfl) rfl dL_day_639 ?_
                                                                refine k_goto C (tgt := 389) (by decide) dL_day_642 ?_
                                                                refine k_sub [0, 1, 4, 5, 6, 7, 8, 9, 10, 11, 12, 13, 14, 15] rfl ?_
                                                                refine k_widen ?_ ?_ (ih389 (k + 1) (by omega) (by omega))
                                                                · (try dsimp only); omega
                                                                · (try dsimp only); omega
                                                              · skip
                                                                have h26 : R (16 + 8 * k) = nI 0 := by rw [q26]; show nI (dr2 (zw r k) (zd r k) ((zn r t k + 1) / 2)) = _; unfold dr2; rw [if_pos (show ((zn r t k + 1) / 2) ≤ zw r k by omega)]
                                                                refine k_aload_n C (f := 0) (i := 0) (p := 15) rfl rfl dL_day_621 ?_
                                                                refine k_bipush C bc_26 dL_day_622 ?_
                                                                refine k_iload C (i := 19) (p := 2) rfl dL_day_624 ?_
                                                                refine k_callSq C s_L_163 h_L_call__ (ct_k26 hx7 hr2 hk3 h26) rfl rfl (Nat.le_of_ble_eq_true rfl) ⟨Nat.le_of_ble_eq_true rfl, Nat.le_of_ble_eq_true rfl⟩ ⟨rfl, rfl⟩ ⟨by show _ ≤ 6400; (try dsimp only); omega, by show _ ≤ 39000; (try dsimp only); omega⟩ dL_day_626 ?_
                                                                first
                                                                | refine k_ifb_ne C (tgt := 636) (by decide) dL_day_629 (fun hc629 => ?_) (fun hc629 => ?_)
                                                                | refine k_if_ne C (tgt := 636) (by decide) dL_day_629 (fun hc629 => ?_) (fun hc629 => ?_)
                                                                · skip
                                                                  first
                                                                  | omega
                                                                  | exact absurd hc629 (nI_ge (by omega) (by omega))
                                                                  | exact absurd hc629 (by decide)
                                                                  | exact absurd hc629 (nI_pos (by omega))
                                                                  | exact absurd (nI_pos' (by omega)) hc629
                                                                  | exact absurd rfl hc629
                                                                  | exact absurd hc629 (nI_ne0 (by omega) (by omega))
                                                                  | exact hc629 rfl
                                                                  | contradiction
                                                                  | exact absurd hc629 (nI_n101 (by omega))
                                                                  | exact absurd hc629.symm (nI_n101 (by omega))
                                                                  | (simp_all; done)
                                                                · skip
                                                                  refine k_iconst C ic_1 dL_day_632 ?_
                                                                  refine k_goto C (tgt := 637) (by decide) dL_day_633 ?_
                                                                  refine k_istore C (i := 17) (lv := [(17, _), (21, _), (20, _), (19, _), (15, _), (14, _), (13, _), (12, _), (11, _), (10, _), (9, _), (8, _), (4, _), (2, _), (1, _), (0, _)]) (Nat.le_of_ble_eq_true rfl) rfl dL_day_637 ?_
                                                                  refine k_iinc C (i := 19) (p := 3) (lv := [(19, _), (17, _), (21, _), (20, _), (15, _), (14, _), (13, _), (12, _), (11, _), (10, _), (9, _), (8, _), (4, _), (2, _), (1, _), (0, _)]) (Nat.le_of_ble_eq_true rfl) rfl (by first | exact am_inc1 _ | rfl) rfl dL_day_639 ?_
                                                                  refine k_goto C (tgt := 389) (by decide) dL_day_642 ?_
                                                                  refine k_sub [0, 1, 4, 5, 6, 7, 8, 9, 10, 11, 12, 13, 14, 15] rfl ?_
                                                                  refine k_widen ?_ ?_ (ih389 (k + 1) (by omega) (by omega))
                                                                  · (try dsimp only); omega
                                                                  · (try dsimp only); omega
                                                        · skip
                                                          first
                                                          | exact absurd hc555 (by decide)
                                                          | exact absurd (by decide) hc555
                                                    · skip
                                                      first
                                                      | exact absurd hc533 (by decide)
                                                      | exact absurd (by decide) hc533
                                                  · skip
                                                    have h24 : R (14 + 8 * k) = nI 0 := by rw [q24]; show nI (st2 (st1 (zs r k) 0 0)) = nI 0; rw [hP]; unfold st2; rw [if_pos (show 60 < P by omega)]
                                                    have h25 : R (15 + 8 * k) = nI (zl r k + 3) := by rw [q25]; show nI (lm2 (st1 (zs r k) 0 0) (zl r k)) = _; rw [hP]; unfold lm2; rw [if_pos (show 60 < P by omega)]
                                                    refine k_iconst C ic_1 dL_day_516 ?_
                                                    refine k_goto C (tgt := 521) (by decide) dL_day_517 ?_
                                                    refine k_istore C (i := 21) (lv := [(21, _), (20, _), (19, _), (17, _), (15, _), (14, _), (13, _), (12, _), (11, _), (10, _), (9, _), (8, _), (4, _), (2, _), (1, _), (0, _)]) (Nat.le_of_ble_eq_true rfl) rfl dL_day_521 ?_
                                                    refine k_aload_n C (f := 0) (i := 0) (p := 15) rfl rfl dL_day_523 ?_
                                                    refine k_bipush C bc_24 dL_day_524 ?_
                                                    refine k_iload C (i := 19) (p := 2) rfl dL_day_526 ?_
                                                    refine k_callSq C s_L_163 h_L_call__ (ct_k24 hx7 hr2 hk3 h24) rfl rfl (Nat.le_of_ble_eq_true rfl) ⟨Nat.le_of_ble_eq_true rfl, Nat.le_of_ble_eq_true rfl⟩ ⟨rfl, rfl⟩ ⟨by show _ ≤ 6400; (try dsimp only); omega, by show _ ≤ 39000; (try dsimp only); omega⟩ dL_day_528 ?_
                                                    refine k_iload C (i := 21) (p := 0) rfl dL_day_531 ?_
                                                    first
                                                    | refine k_ifb_eq C (tgt := 540) (by decide) dL_day_533 (fun hc533 => ?_) (fun hc533 => ?_)
                                                    | refine k_if_eq C (tgt := 540) (by decide) dL_day_533 (fun hc533 => ?_) (fun hc533 => ?_)
                                                    · skip
                                                      first
                                                      | exact absurd hc533 (by decide)
                                                      | exact absurd (by decide) hc533
                                                    · skip
                                                      refine k_iconst C ic_0 dL_day_536 ?_
                                                      refine k_goto C (tgt := 542) (by decide) dL_day_537 ?_
                                                      first
                                                      | refine k_icmpN_ne C (tgt := 636) (by omega) (by omega) (by decide) dL_day_542 (fun hc542 => ?_) (fun hc542 => ?_)
                                                      | refine k_icmp_ne C (tgt := 636) (by decide) dL_day_542 (fun hc542 => ?_) (fun hc542 => ?_)
                                                      · skip
                                                        first
                                                        | omega
                                                        | exact absurd hc542 (nI_ge (by omega) (by omega))
                                                        | exact absurd hc542 (by decide)
                                                        | exact absurd hc542 (nI_pos (by omega))
                                                        | exact absurd (nI_pos' (by omega)) hc542
                                                        | exact absurd rfl hc542
                                                        | exact absurd hc542 (nI_ne0 (by omega) (by omega))
                                                        | exact hc542 rfl
                                                        | contradiction
                                                        | exact absurd hc542 (nI_n101 (by omega))
                                                        | exact absurd hc542.symm (nI_n101 (by omega))
                                                        | (simp_all; done)
                                                      · skip
                                                        refine k_aload_n C (f := 0) (i := 0) (p := 15) rfl rfl dL_day_545 ?_
                                                        refine k_bipush C bc_25 dL_day_546 ?_
                                                        refine k_iload C (i := 19) (p := 2) rfl dL_day_548 ?_
                                                        refine k_callSq C s_L_163 h_L_call__ (ct_k25 hx7 hr2 hk3 h25) rfl rfl (Nat.le_of_ble_eq_true rfl) ⟨Nat.le_of_ble_eq_true rfl, Nat.le_of_ble_eq_true rfl⟩ ⟨rfl, rfl⟩ ⟨by show _ ≤ 6400; (try dsimp only); omega, by show _ ≤ 39000; (try dsimp only); omega⟩ dL_day_550 ?_
                                                        refine k_iload C (i := 21) (p := 0) rfl dL_day_553 ?_
                                                        first
                                                        | refine k_ifb_eq C (tgt := 568) (by decide) dL_day_555 (fun hc555 => ?_) (fun hc555 => ?_)
                                                        | refine k_if_eq C (tgt := 568) (by decide) dL_day_555 (fun hc555 => ?_) (fun hc555 => ?_)
                                                        · skip
                                                          first
                                                          | exact absurd hc555 (by decide)
                                                          | exact absurd (by decide) hc555
                                                        · skip
                                                          refine k_aload C (i := 14) (p := 5) rfl dL_day_558 ?_
                                                          refine k_iload C (i := 19) (p := 2) rfl dL_day_560 ?_
                                                          refine k_iald C (hsh14) (rfl) (by omega) (by decide) (a14) dL_day_562 ?_
                                                          refine k_iconst C ic_3 dL_day_563 ?_
                                                          refine k_iadd C dL_day_564 ?_
                                                          rw [nI_add]
                                                          refine k_goto C (tgt := 579) (by decide) dL_day_565 ?_
                                                          first
                                                          | refine k_icmpN_ne C (tgt := 636) (by omega) (by omega) (by decide) dL_day_579 (fun hc579 => ?_) (fun hc579 => ?_)
                                                          | refine k_icmp_ne C (tgt := 636) (by decide) dL_day_579 (fun hc579 => ?_) (fun hc579 => ?_)
                                                          · skip
                                                            first
                                                            | omega
                                                            | exact absurd hc579 (nI_ge (by omega) (by omega))
                                                            | exact absurd hc579 (by decide)
                                                            | exact absurd hc579 (nI_pos (by omega))
                                                            | exact absurd (nI_pos' (by omega)) hc579
                                                            | exact absurd rfl hc579
                                                            | exact absurd hc579 (nI_ne0 (by omega) (by omega))
                                                            | exact hc579 rfl
                                                            | contradiction
                                                            | exact absurd hc579 (nI_n101 (by omega))
                                                            | exact absurd hc579.symm (nI_n101 (by omega))
                                                            | (simp_all; done)
                                                          · skip
                                                            refine k_aload_n C (f := 0) (i := 0) (p := 15) rfl rfl dL_day_582 ?_
                                                            refine k_bipush C bc_23 dL_day_583 ?_
                                                            refine k_iload C (i := 19) (p := 2) rfl dL_day_585 ?_
                                                            refine k_callSq C s_L_163 h_L_call__ (ct_k23 hx7 hr2 hk3 q23) rfl rfl (Nat.le_of_ble_eq_true rfl) ⟨Nat.le_of_ble_eq_true rfl, Nat.le_of_ble_eq_true rfl⟩ ⟨rfl, rfl⟩ ⟨by show _ ≤ 6400; (try dsimp only); omega, by show _ ≤ 39000; (try dsimp only); omega⟩ dL_day_587 ?_
                                                            refine k_iconst C ic_0 dL_day_590 ?_
                                                            refine k_aload C (i := 9) (p := 10) rfl dL_day_591 ?_
                                                            refine k_iload C (i := 19) (p := 2) rfl dL_day_593 ?_
                                                            refine k_iald C (hsh9) (rfl) (by omega) (by decide) (a9) dL_day_595 ?_
                                                            refine k_aload C (i := 10) (p := 9) rfl dL_day_596 ?_
                                                            refine k_iload C (i := 19) (p := 2) rfl dL_day_598 ?_
                                                            refine k_iald C (hsh10) (rfl) (by omega) (by decide) (a10b) dL_day_600 ?_
                                                            refine k_isub C dL_day_601 ?_
                                                            refine k_max C (max0_sub (by omega) (by omega)) m_L_235 ⟨Nat.le_of_ble_eq_true rfl, Nat.le_of_ble_eq_true rfl⟩ ⟨by show _ ≤ 6400; (try dsimp only); omega, by show _ ≤ 39000; (try dsimp only); omega⟩ dL_day_602 ?_
                                                            first
                                                            | refine k_icmpN_ne C (tgt := 636) (by omega) (by omega) (by decide) dL_day_605 (fun hc605 => ?_) (fun hc605 => ?_)
                                                            | refine k_icmp_ne C (tgt := 636) (by decide) dL_day_605 (fun hc605 => ?_) (fun hc605 => ?_)
                                                            · skip
                                                              first
                                                              | omega
                                                              | exact absurd hc605 (nI_ge (by omega) (by omega))
                                                              | exact absurd hc605 (by decide)
                                                              | exact absurd hc605 (nI_pos (by omega))
                                                              | exact absurd (nI_pos' (by omega)) hc605
                                                              | exact absurd rfl hc605
                                                              | exact absurd hc605 (nI_ne0 (by omega) (by omega))
                                                              | exact hc605 rfl
                                                              | contradiction
                                                              | exact absurd hc605 (nI_n101 (by omega))
                                                              | exact absurd hc605.symm (nI_n101 (by omega))
                                                              | (simp_all; done)
                                                            · skip
                                                              refine k_aload C (i := 9) (p := 10) rfl dL_day_608 ?_
                                                              refine k_iload C (i := 19) (p := 2) rfl dL_day_610 ?_
                                                              refine k_iald C (hsh9) (rfl) (by omega) (by decide) (a9) dL_day_612 ?_
                                                              refine k_aload C (i := 10) (p := 9) rfl dL_day_613 ?_
                                                              refine k_iload C (i := 19) (p := 2) rfl dL_day_615 ?_
                                                              refine k_iald C (hsh10) (rfl) (by omega) (by decide) (a10b) dL_day_617 ?_
                                                              first
                                                              | refine k_icmpN_lt C (tgt := 632) (by omega) (by omega) (by decide) dL_day_618 (fun hc618 => ?_) (fun hc618 => ?_)
                                                              | refine k_icmp_lt C (tgt := 632) (by decide) dL_day_618 (fun hc618 => ?_) (fun hc618 => ?_)
                                                              · skip
                                                                refine k_iconst C ic_1 dL_day_632 ?_
                                                                refine k_goto C (tgt := 637) (by decide) dL_day_633 ?_
                                                                refine k_istore C (i := 17) (lv := [(17, _), (21, _), (20, _), (19, _), (15, _), (14, _), (13, _), (12, _), (11, _), (10, _), (9, _), (8, _), (4, _), (2, _), (1, _), (0, _)]) (Nat.le_of_ble_eq_true rfl) rfl dL_day_637 ?_
                                                                refine k_iinc C (i := 19) (p := 3) (lv := [(19, _), (17, _), (21, _), (20, _), (15, _), (14, _), (13, _), (12, _), (11, _), (10, _), (9, _), (8, _), (4, _), (2, _), (1, _), (0, _)]) (Nat.le_of_ble_eq_true rfl) rfl (by first | exact am_inc1 _ | rfl) rfl dL_day_639 ?_
                                                                refine k_goto C (tgt := 389) (by decide) dL_day_642 ?_
                                                                refine k_sub [0, 1, 4, 5, 6, 7, 8, 9, 10, 11, 12, 13, 14, 15] rfl ?_
                                                                refine k_widen ?_ ?_ (ih389 (k + 1) (by omega) (by omega))
                                                                · (try dsimp only); omega
                                                                · (try dsimp only); omega
                                                              · skip
                                                                have h26 : R (16 + 8 * k) = nI 0 := by rw [q26]; show nI (dr2 (zw r k) (zd r k) ((zn r t k + 1) / 2)) = _; unfold dr2; rw [if_pos (show ((zn r t k + 1) / 2) ≤ zw r k by omega)]
                                                                refine k_aload_n C (f := 0) (i := 0) (p := 15) rfl rfl dL_day_621 ?_
                                                                refine k_bipush C bc_26 dL_day_622 ?_
                                                                refine k_iload C (i := 19) (p := 2) rfl dL_day_624 ?_
                                                                refine k_callSq C s_L_163 h_L_call__ (ct_k26 hx7 hr2 hk3 h26) rfl rfl (Nat.le_of_ble_eq_true rfl) ⟨Nat.le_of_ble_eq_true rfl, Nat.le_of_ble_eq_true rfl⟩ ⟨rfl, rfl⟩ ⟨by show _ ≤ 6400; (try dsimp only); omega, by show _ ≤ 39000; (try dsimp only); omega⟩ dL_day_626 ?_
                                                                first
                                                                | refine k_ifb_ne C (tgt := 636) (by decide) dL_day_629 (fun hc629 => ?_) (fun hc629 => ?_)
                                                                | refine k_if_ne C (tgt := 636) (by decide) dL_day_629 (fun hc629 => ?_) (fun hc629 => ?_)
                                                                · skip
                                                                  first
                                                                  | omega
                                                                  | exact absurd hc629 (nI_ge (by omega) (by omega))
                                                                  | exact absurd hc629 (by decide)
                                                                  | exact absurd hc629 (nI_pos (by omega))
                                                                  | exact absurd (nI_pos' (by omega)) hc629
                                                                  | exact absurd rfl hc629
                                                                  | exact absurd hc629 (nI_ne0 (by omega) (by omega))
                                                                  | exact hc629 rfl
                                                                  | contradiction
                                                                  | exact absurd hc629 (nI_n101 (by omega))
                                                                  | exact absurd hc629.symm (nI_n101 (by omega))
                                                                  | (simp_all; done)
                                                                · skip
                                                                  refine k_iconst C ic_1 dL_day_632 ?_
                                                                  refine k_goto C (tgt := 637) (by decide) dL_day_633 ?_
                                                                  refine k_istore C (i := 17) (lv := [(17, _), (21, _), (20, _), (19, _), (15, _), (14, _), (13, _), (12, _), (11, _), (10, _), (9, _), (8, _), (4, _), (2, _), (1, _), (0, _)]) (Nat.le_of_ble_eq_true rfl) rfl dL_day_637 ?_
                                                                  refine k_iinc C (i := 19) (p := 3) (lv := [(19, _), (17, _), (21, _), (20, _), (15, _), (14, _), (13, _), (12, _), (11, _), (10, _), (9, _), (8, _), (4, _), (2, _), (1, _), (0, _)]) (Nat.le_of_ble_eq_true rfl) rfl (by first | exact am_inc1 _ | rfl) rfl dL_day_639 ?_
                                                                  refine k_goto C (tgt := 389) (by decide) dL_day_642 ?_
                                                                  refine k_sub [0, 1, 4, 5, 6, 7, 8, 9, 10, 11, 12, 13, 14, 15] rfl ?_
                                                                  refine k_widen ?_ ?_ (ih389 (k + 1) (by omega) (by omega))
                                                                  · (try dsimp only); omega
                                                                  · (try dsimp only); omega
                                                refine k_iload_n C (f := 1) (i := 1) (p := 12) rfl rfl dL_day_464 ?_
                                                first
                                                | refine k_ifb_ne C (tgt := 495) (by decide) dL_day_465 (fun hc465 => ?_) (fun hc465 => ?_)
                                                | refine k_if_ne C (tgt := 495) (by decide) dL_day_465 (fun hc465 => ?_) (fun hc465 => ?_)
                                                · skip
                                                  refine k_iconst C ic_0 dL_day_495 ?_
                                                  refine k_aload C (i := 11) (p := 6) rfl dL_day_496 ?_
                                                  refine k_iload C (i := 19) (p := 0) rfl dL_day_498 ?_
                                                  refine k_iald C (hsh11) (rfl) (by omega) (by decide) (a11) dL_day_500 ?_
                                                  refine k_bipush C bc_10 dL_day_501 ?_
                                                  refine k_isub C dL_day_503 ?_
                                                  refine k_max C (max0_sub (by omega) (by omega)) m_L_235 ⟨Nat.le_of_ble_eq_true rfl, Nat.le_of_ble_eq_true rfl⟩ ⟨by show _ ≤ 6400; (try dsimp only); omega, by show _ ≤ 39000; (try dsimp only); omega⟩ dL_day_504 ?_
                                                  refine k_sub [0, 1, 2, 3, 4, 5, 6, 7, 8, 9, 10, 11, 12, 13] rfl ?_
                                                  refine k_widen ?_ ?_ (join507 _ (by unfold st1; rw [if_neg (show ¬ 0 < 0 by omega)]) (by omega))
                                                  · (try dsimp only); omega
                                                  · (try dsimp only); omega
                                                · skip
                                                  first
                                                  | exact absurd hc465 (by decide)
                                                  | exact absurd (by decide) hc465
                                              · skip
                                                first
                                                | omega
                                                | exact absurd hc407 (nI_ge (by omega) (by omega))
                                                | exact absurd hc407 (by decide)
                                                | exact absurd hc407 (nI_pos (by omega))
                                                | exact absurd (nI_pos' (by omega)) hc407
                                                | exact absurd rfl hc407
                                                | exact absurd hc407 (nI_ne0 (by omega) (by omega))
                                                | exact hc407 rfl
                                                | contradiction
                                                | exact absurd hc407 (nI_n101 (by omega))
                                                | exact absurd hc407.symm (nI_n101 (by omega))
                                                | (simp_all; done)
                                            · skip
                                              have e12 : dz r k = 1 := if_neg hal
                                              obtain ⟨q23, q24, q25, q26⟩ := hdc2 hal
                                              rw [e12] at a12
                                              have q20 : am_b (¬ R (16 + 8 * k) < nI 3) = nI 1 := (am_bt (P := ¬ R (16 + 8 * k) < nI 3) (by rw [q26, hv26]; exact nI_nlt (by omega) (by omega))).symm
                                              refine k_aload C (i := 12) (p := 5) rfl dL_day_401 ?_
                                              refine k_iload C (i := 19) (p := 0) rfl dL_day_403 ?_
                                              refine k_iald C (hsh12) (rfl) (by omega) (by decide) (a12) dL_day_405 ?_
                                              refine k_iconst C ic_1 dL_day_406 ?_
                                              first
                                              | refine k_icmpN_ne C (tgt := 464) (by omega) (by omega) (by decide) dL_day_407 (fun hc407 => ?_) (fun hc407 => ?_)
                                              | refine k_icmp_ne C (tgt := 464) (by decide) dL_day_407 (fun hc407 => ?_) (fun hc407 => ?_)
                                              · skip
                                                first
                                                | omega
                                                | exact absurd hc407 (nI_ge (by omega) (by omega))
                                                | exact absurd hc407 (by decide)
                                                | exact absurd hc407 (nI_pos (by omega))
                                                | exact absurd (nI_pos' (by omega)) hc407
                                                | exact absurd rfl hc407
                                                | exact absurd hc407 (nI_ne0 (by omega) (by omega))
                                                | exact hc407 rfl
                                                | contradiction
                                                | exact absurd hc407 (nI_n101 (by omega))
                                                | exact absurd hc407.symm (nI_n101 (by omega))
                                                | (simp_all; done)
                                              · skip
                                                refine k_aload_n C (f := 0) (i := 0) (p := 13) rfl rfl dL_day_410 ?_
                                                refine k_bipush C bc_20 dL_day_411 ?_
                                                refine k_iload C (i := 19) (p := 0) rfl dL_day_413 ?_
                                                refine k_callSq C s_L_163 h_L_call__ (ct_k20 hx7 hr2 hk3 q20) rfl rfl (Nat.le_of_ble_eq_true rfl) ⟨Nat.le_of_ble_eq_true rfl, Nat.le_of_ble_eq_true rfl⟩ ⟨rfl, rfl⟩ ⟨by show _ ≤ 6400; (try dsimp only); omega, by show _ ≤ 39000; (try dsimp only); omega⟩ dL_day_415 ?_
                                                refine k_iconst C ic_1 dL_day_418 ?_
                                                first
                                                | refine k_icmpN_ne C (tgt := 458) (by omega) (by omega) (by decide) dL_day_419 (fun hc419 => ?_) (fun hc419 => ?_)
                                                | refine k_icmp_ne C (tgt := 458) (by decide) dL_day_419 (fun hc419 => ?_) (fun hc419 => ?_)
                                                · skip
                                                  first
                                                  | omega
                                                  | exact absurd hc419 (nI_ge (by omega) (by omega))
                                                  | exact absurd hc419 (by decide)
                                                  | exact absurd hc419 (nI_pos (by omega))
                                                  | exact absurd (nI_pos' (by omega)) hc419
                                                  | exact absurd rfl hc419
                                                  | exact absurd hc419 (nI_ne0 (by omega) (by omega))
                                                  | exact hc419 rfl
                                                  | contradiction
                                                  | exact absurd hc419 (nI_n101 (by omega))
                                                  | exact absurd hc419.symm (nI_n101 (by omega))
                                                  | (simp_all; done)
                                                · skip
                                                  refine k_aload_n C (f := 0) (i := 0) (p := 13) rfl rfl dL_day_422 ?_
                                                  refine k_bipush C bc_23 dL_day_423 ?_
                                                  refine k_iload C (i := 19) (p := 0) rfl dL_day_425 ?_
                                                  refine k_callSq C s_L_163 h_L_call__ (ct_k23 hx7 hr2 hk3 (q23.trans hv23)) rfl rfl (Nat.le_of_ble_eq_true rfl) ⟨Nat.le_of_ble_eq_true rfl, Nat.le_of_ble_eq_true rfl⟩ ⟨rfl, rfl⟩ ⟨by show _ ≤ 6400; (try dsimp only); omega, by show _ ≤ 39000; (try dsimp only); omega⟩ dL_day_427 ?_
                                                  refine k_aload C (i := 9) (p := 8) rfl dL_day_430 ?_
                                                  refine k_iload C (i := 19) (p := 0) rfl dL_day_432 ?_
                                                  refine k_iald C (hsh9) (rfl) (by omega) (by decide) (a9) dL_day_434 ?_
                                                  first
                                                  | refine k_icmpN_ne C (tgt := 458) (by omega) (by omega) (by decide) dL_day_435 (fun hc435 => ?_) (fun hc435 => ?_)
                                                  | refine k_icmp_ne C (tgt := 458) (by decide) dL_day_435 (fun hc435 => ?_) (fun hc435 => ?_)
                                                  · skip
                                                    first
                                                    | omega
                                                    | exact absurd hc435 (nI_ge (by omega) (by omega))
                                                    | exact absurd hc435 (by decide)
                                                    | exact absurd hc435 (nI_pos (by omega))
                                                    | exact absurd (nI_pos' (by omega)) hc435
                                                    | exact absurd rfl hc435
                                                    | exact absurd hc435 (nI_ne0 (by omega) (by omega))
                                                    | exact hc435 rfl
                                                    | contradiction
                                                    | exact absurd hc435 (nI_n101 (by omega))
                                                    | exact absurd hc435.symm (nI_n101 (by omega))
                                                    | (simp_all; done)
                                                  · skip
                                                    refine k_aload_n C (f := 0) (i := 0) (p := 13) rfl rfl dL_day_438 ?_
                                                    refine k_bipush C bc_24 dL_day_439 ?_
                                                    refine k_iload C (i := 19) (p := 0) rfl dL_day_441 ?_
                                                    refine k_callSq C s_L_163 h_L_call__ (ct_k24 hx7 hr2 hk3 (q24.trans hv24)) rfl rfl (Nat.le_of_ble_eq_true rfl) ⟨Nat.le_of_ble_eq_true rfl, Nat.le_of_ble_eq_true rfl⟩ ⟨rfl, rfl⟩ ⟨by show _ ≤ 6400; (try dsimp only); omega, by show _ ≤ 39000; (try dsimp only); omega⟩ dL_day_443 ?_
                                                    refine k_aload C (i := 11) (p := 6) rfl dL_day_446 ?_
                                                    refine k_iload C (i := 19) (p := 0) rfl dL_day_448 ?_
                                                    refine k_iald C (hsh11) (rfl) (by omega) (by decide) (a11) dL_day_450 ?_
                                                    first
                                                    | refine k_icmpN_ne C (tgt := 458) (by omega) (by omega) (by decide) dL_day_451 (fun hc451 => ?_) (fun hc451 => ?_)
                                                    | refine k_icmp_ne C (tgt := 458) (by decide) dL_day_451 (fun hc451 => ?_) (fun hc451 => ?_)
                                                    · skip
                                                      first
                                                      | omega
                                                      | exact absurd hc451 (nI_ge (by omega) (by omega))
                                                      | exact absurd hc451 (by decide)
                                                      | exact absurd hc451 (nI_pos (by omega))
                                                      | exact absurd (nI_pos' (by omega)) hc451
                                                      | exact absurd rfl hc451
                                                      | exact absurd hc451 (nI_ne0 (by omega) (by omega))
                                                      | exact hc451 rfl
                                                      | contradiction
                                                      | exact absurd hc451 (nI_n101 (by omega))
                                                      | exact absurd hc451.symm (nI_n101 (by omega))
                                                      | (simp_all; done)
                                                    · skip
                                                      refine k_iconst C ic_1 dL_day_454 ?_
                                                      refine k_goto C (tgt := 459) (by decide) dL_day_455 ?_
                                                      refine k_istore C (i := 17) (lv := [(17, _), (19, _), (15, _), (14, _), (13, _), (12, _), (11, _), (10, _), (9, _), (8, _), (4, _), (2, _), (1, _), (0, _)]) (Nat.le_of_ble_eq_true rfl) rfl dL_day_459 ?_
                                                      refine k_goto C (tgt := 639) (by decide) dL_day_461 ?_
                                                      refine k_iinc C (i := 19) (p := 1) (lv := [(19, _), (17, _), (15, _), (14, _), (13, _), (12, _), (11, _), (10, _), (9, _), (8, _), (4, _), (2, _), (1, _), (0, _)]) (Nat.le_of_ble_eq_true rfl) rfl (by first | exact am_inc1 _ | rfl) rfl dL_day_639 ?_
                                                      refine k_goto C (tgt := 389) (by decide) dL_day_642 ?_
                                                      refine k_sub [0, 1, 2, 3, 4, 5, 6, 7, 8, 9, 10, 11, 12, 13] rfl ?_
                                                      refine k_widen ?_ ?_ (ih389 (k + 1) (by omega) (by omega))
                                                      · (try dsimp only); omega
                                                      · (try dsimp only); omega
                                    refine k_sub [0, 1, 4, 5, 6, 7, 8, 9, 10, 11, 15, 16, 17, 18] rfl ?_
                                    refine k_widen ?_ ?_ (loop389 (sp_nc r + 1) 0 (Nat.zero_le _) (by omega))
                                    · (try dsimp only); omega
                                    · (try dsimp only); omega
                      · skip
                        first
                        | omega
                        | exact absurd hc294 (nI_ge (by omega) (by omega))
                        | exact absurd hc294 (by decide)
                        | exact absurd hc294 (nI_pos (by omega))
                        | exact absurd (nI_pos' (by omega)) hc294
                        | exact absurd rfl hc294
                        | exact absurd hc294 (nI_ne0 (by omega) (by omega))
                        | exact hc294 rfl
                        | contradiction
                        | exact absurd hc294 (nI_n101 (by omega))
                        | exact absurd hc294.symm (nI_n101 (by omega))
                        | (simp_all; done)
                  · skip
                    have hcd : ¬ (r 2 < nI 200 ∧ 0 < sp_living r) := (fun z => hm ⟨by rw [hdy] at z; exact (nI_ltI (by omega) (by omega)).mp z.1, z.2⟩)
                    refine k_aload_n C (f := 0) (i := 0) (p := 17) rfl rfl dL_day_276 ?_
                    refine k_iload_n C (f := 1) (i := 1) (p := 16) rfl rfl dL_day_277 ?_
                    first
                    | refine k_ifb_eq C (tgt := 285) (by decide) dL_day_278 (fun hc278 => ?_) (fun hc278 => ?_)
                    | refine k_if_eq C (tgt := 285) (by decide) dL_day_278 (fun hc278 => ?_) (fun hc278 => ?_)
                    · skip
                      first
                      | exact absurd hc278 (by decide)
                      | exact absurd (by decide) hc278
                    · skip
                      refine k_iconst C ic_1 dL_day_281 ?_
                      refine k_goto C (tgt := 286) (by decide) dL_day_282 ?_
                      refine k_iconst C ic_0 dL_day_286 ?_
                      refine k_callSgq C s_L_163 h_L_call__ (ct_L_call__ (ct_c1 (u1 := nI 0) (u2 := nI 0) (u3 := nI 0) (u4 := nI 0) (u5 := nI 0) hx7 hR7 hok hld hlc) (fun _ _ _ _ h => ⟨_, h.2.2.1⟩)) rfl rfl (Nat.le_of_ble_eq_true rfl) ⟨Nat.le_of_ble_eq_true rfl, Nat.le_of_ble_eq_true rfl⟩ ⟨rfl, rfl⟩ ⟨by show _ ≤ 6400; (try dsimp only); omega, by show _ ≤ 39000; (try dsimp only); omega⟩ dL_day_287 ?_
                      intro v I2 hv
                      obtain ⟨rfl, -, hv3⟩ := hv
                      have e2 := (hv3 (by rw [if_neg hcd]; decide)).symm
                      subst e2
                      rw [if_neg (by rw [if_neg hcd]; decide)]
                      show am_K G X _ _ _ _ _ _ _ _ _ (.int (-102) :: _)
                      refine k_istore C (i := 18) (lv := [(18, _), (17, _), (16, _), (15, _), (14, _), (13, _), (12, _), (11, _), (10, _), (9, _), (8, _), (7, _), (6, _), (5, _), (4, _), (2, _), (1, _), (0, _)]) (Nat.le_of_ble_eq_true rfl) rfl dL_day_290 ?_
                      refine k_iload C (i := 16) (p := 2) rfl dL_day_292 ?_
                      first
                      | refine k_ifb_ne C (tgt := 324) (by decide) dL_day_294 (fun hc294 => ?_) (fun hc294 => ?_)
                      | refine k_if_ne C (tgt := 324) (by decide) dL_day_294 (fun hc294 => ?_) (fun hc294 => ?_)
                      · skip
                        first
                        | omega
                        | exact absurd hc294 (nI_ge (by omega) (by omega))
                        | exact absurd hc294 (by decide)
                        | exact absurd hc294 (nI_pos (by omega))
                        | exact absurd (nI_pos' (by omega)) hc294
                        | exact absurd rfl hc294
                        | exact absurd hc294 (nI_ne0 (by omega) (by omega))
                        | exact hc294 rfl
                        | contradiction
                        | exact absurd hc294 (nI_n101 (by omega))
                        | exact absurd hc294.symm (nI_n101 (by omega))
                        | (simp_all; done)
                      · skip
                        refine k_iload C (i := 17) (p := 1) rfl dL_day_297 ?_
                        first
                        | refine k_ifb_eq C (tgt := 322) (by decide) dL_day_299 (fun hc299 => ?_) (fun hc299 => ?_)
                        | refine k_if_eq C (tgt := 322) (by decide) dL_day_299 (fun hc299 => ?_) (fun hc299 => ?_)
                        · skip
                          first
                          | omega
                          | exact absurd hc299 (nI_ge (by omega) (by omega))
                          | exact absurd hc299 (by decide)
                          | exact absurd hc299 (nI_pos (by omega))
                          | exact absurd (nI_pos' (by omega)) hc299
                          | exact absurd rfl hc299
                          | exact absurd hc299 (nI_ne0 (by omega) (by omega))
                          | exact hc299 rfl
                          | contradiction
                          | exact absurd hc299 (nI_n101 (by omega))
                          | exact absurd hc299.symm (nI_n101 (by omega))
                          | (simp_all; done)
                        · skip
                          refine k_iload C (i := 18) (p := 0) rfl dL_day_302 ?_
                          refine k_bipush C bc_m102 dL_day_304 ?_
                          first
                          | refine k_icmpN_ne C (tgt := 322) (by omega) (by omega) (by decide) dL_day_306 (fun hc306 => ?_) (fun hc306 => ?_)
                          | refine k_icmp_ne C (tgt := 322) (by decide) dL_day_306 (fun hc306 => ?_) (fun hc306 => ?_)
                          · skip
                            first
                            | omega
                            | exact absurd hc306 (nI_ge (by omega) (by omega))
                            | exact absurd hc306 (by decide)
                            | exact absurd hc306 (nI_pos (by omega))
                            | exact absurd (nI_pos' (by omega)) hc306
                            | exact absurd rfl hc306
                            | exact absurd hc306 (nI_ne0 (by omega) (by omega))
                            | exact hc306 rfl
                            | contradiction
                            | exact absurd hc306 (nI_n101 (by omega))
                            | exact absurd hc306.symm (nI_n101 (by omega))
                            | (simp_all; done)
                          · skip
                            refine k_aload_n C (f := 0) (i := 0) (p := 17) rfl rfl dL_day_309 ?_
                            refine k_callSq C s_L_257 h_L_state (ct_L_state (by first | assumption | omega) (by first | assumption | omega) (by first | assumption | omega)) rfl rfl (Nat.le_of_ble_eq_true rfl) ⟨Nat.le_of_ble_eq_true rfl, Nat.le_of_ble_eq_true rfl⟩ ⟨rfl, rfl⟩ ⟨by show _ ≤ 6400; (try dsimp only); omega, by show _ ≤ 39000; (try dsimp only); omega⟩ dL_day_310 ?_
                            refine k_lload_n C (f := 2) (i := 2) (p := 15) rfl rfl dL_day_313 ?_
                            refine k_lcmp C dL_day_314 ?_
                            rw [lg_self]
                            first
                            | refine k_ifb_ne C (tgt := 322) (by decide) dL_day_315 (fun hc315 => ?_) (fun hc315 => ?_)
                            | refine k_if_ne C (tgt := 322) (by decide) dL_day_315 (fun hc315 => ?_) (fun hc315 => ?_)
                            · skip
                              first
                              | omega
                              | exact absurd hc315 (nI_ge (by omega) (by omega))
                              | exact absurd hc315 (by decide)
                              | exact absurd hc315 (nI_pos (by omega))
                              | exact absurd (nI_pos' (by omega)) hc315
                              | exact absurd rfl hc315
                              | exact absurd hc315 (nI_ne0 (by omega) (by omega))
                              | exact hc315 rfl
                              | contradiction
                              | exact absurd hc315 (nI_n101 (by omega))
                              | exact absurd hc315.symm (nI_n101 (by omega))
                              | (simp_all; done)
                            · skip
                              refine k_iconst C ic_1 dL_day_318 ?_
                              refine k_goto C (tgt := 323) (by decide) dL_day_319 ?_
                              exact k_zret C (by first | rfl | exact am_bz) (by show _ ≤ 6400; (try dsimp only); omega) (by show _ ≤ 39000; (try dsimp only); omega) (⟨hS.1, rfl, ct, Nat.le_refl _, RouRel_agree hR hS.2.2⟩) dL_day_323
                · skip
                  have hk2 : k < sp_nw r := by omega
                  refine k_aload C (i := 15) (p := 3) rfl dL_day_257 ?_
                  refine k_iload C (i := 18) (p := 0) rfl dL_day_259 ?_
                  refine k_aload_n C (f := 0) (i := 0) (p := 17) rfl rfl dL_day_261 ?_
                  refine k_bipush C bc_17 dL_day_262 ?_
                  refine k_iload C (i := 18) (p := 0) rfl dL_day_264 ?_
                  refine k_callSq C s_L_163 h_L_call__ (ct_k17 hx7 hrS hk2 rfl) rfl rfl (Nat.le_of_ble_eq_true rfl) ⟨Nat.le_of_ble_eq_true rfl, Nat.le_of_ble_eq_true rfl⟩ ⟨rfl, rfl⟩ ⟨by show _ ≤ 6400; (try dsimp only); omega, by show _ ≤ 39000; (try dsimp only); omega⟩ dL_day_266 ?_
                  refine k_iast C (hsh15) (rfl) (by omega) (by decide) dL_day_269 ?_
                  have hSu := NewOk.up (j := k) (v := r (93 + 4 * k)) hS hzh15 hxh15
                  have hAu : AR (am_up S h15 k (r (93 + 4 * k))) r (fun j => (nz r t j + 1) / 2) h9 h10 h11 h12 h13 h14 (sp_nc r) := AR_agree hA (am_up_ne (by omega)) (am_up_ne (by omega)) (am_up_ne (by omega)) (am_up_ne (by omega)) (am_up_ne (by omega)) (am_up_ne (by omega))
                  have hWu : ∀ j : Nat, j < k + 1 → am_up S h15 k (r (93 + 4 * k)) h15 j = r (93 + 4 * j) := fun j hj => by
                    by_cases e : j = k
                    · subst e; rw [am_up_eq]
                    · rw [am_up_n2 (fun z => e z.2)]; exact hW j (by omega)
                  refine k_iinc C (i := 18) (p := 0) (lv := [(18, _), (17, _), (16, _), (15, _), (14, _), (13, _), (12, _), (11, _), (10, _), (9, _), (8, _), (7, _), (6, _), (5, _), (4, _), (2, _), (1, _), (0, _)]) (Nat.le_of_ble_eq_true rfl) rfl (by first | exact am_inc1 _ | rfl) rfl dL_day_270 ?_
                  refine k_goto C (tgt := 248) (by decide) dL_day_273 ?_
                  refine k_sub [0, 1, 2, 3, 4, 5, 6, 7, 8, 9, 10, 11, 12, 13, 14, 15, 16, 17] rfl ?_
                  refine k_widen ?_ ?_ (ih248 (k + 1) _ (by omega) hSu hAu hWu (by omega))
                  · (try dsimp only); omega
                  · (try dsimp only); omega
            refine k_sub [0, 1, 2, 3, 4, 5, 6, 7, 8, 9, 10, 11, 12, 13, 14, 15, 16, 17] rfl ?_
            refine k_widen ?_ ?_ (loop248 (sp_nw r + 1) 0 S (Nat.zero_le _) hS hA (fun j hj => absurd hj (Nat.not_lt_zero j)) (by omega))
            · (try dsimp only); omega
            · (try dsimp only); omega
          · skip
            have hk2 : k < sp_nc r := by omega
            obtain ⟨hv23, hv24, hv25, -, b23, b24, b25, -⟩ := NumR_of hleg k hk2
            obtain ⟨hv29, hv5, hv9⟩ := zv_of hok hk2
            have hv20 := dz_of hleg hk2
            have hv37 := nz_of hleg hk2 ht ht9
            have hnz := nz_le (m := k) hok ht9
            refine k_aload C (i := 9) (p := 9) rfl dL_day_142 ?_
            refine k_iload C (i := 18) (p := 0) rfl dL_day_144 ?_
            refine k_aload_n C (f := 0) (i := 0) (p := 17) rfl rfl dL_day_146 ?_
            refine k_bipush C bc_23 dL_day_147 ?_
            refine k_iload C (i := 18) (p := 0) rfl dL_day_149 ?_
            refine k_callSq C s_L_163 h_L_call__ (ct_k23 hx7 hrS hk2 hv23) rfl rfl (Nat.le_of_ble_eq_true rfl) ⟨Nat.le_of_ble_eq_true rfl, Nat.le_of_ble_eq_true rfl⟩ ⟨rfl, rfl⟩ ⟨by show _ ≤ 6400; (try dsimp only); omega, by show _ ≤ 39000; (try dsimp only); omega⟩ dL_day_151 ?_
            refine k_iast C (hsh9) (rfl) (by omega) (by decide) dL_day_154 ?_
            have hS1 := NewOk.up (j := k) (v := nI (zw r k)) hS hzh9 hxh9
            have hrS1 := CR_eq hr hS1.2.2
            refine k_aload C (i := 10) (p := 8) rfl dL_day_155 ?_
            refine k_iload C (i := 18) (p := 0) rfl dL_day_157 ?_
            refine k_iload_n C (f := 1) (i := 1) (p := 16) rfl rfl dL_day_159 ?_
            first
            | refine k_ifb_eq C (tgt := 178) (by decide) dL_day_160 (fun hc160 => ?_) (fun hc160 => ?_)
            | refine k_if_eq C (tgt := 178) (by decide) dL_day_160 (fun hc160 => ?_) (fun hc160 => ?_)
            · skip
              first
              | exact absurd hc160 (by decide)
              | exact absurd (by decide) hc160
            · skip
              refine k_aload_n C (f := 0) (i := 0) (p := 17) rfl rfl dL_day_163 ?_
              refine k_bipush C bc_37 dL_day_164 ?_
              refine k_iload C (i := 18) (p := 0) rfl dL_day_166 ?_
              refine k_callSq C s_L_163 h_L_call__ (ct_k37 hx7 hrS1 hk2 hv37) rfl rfl (Nat.le_of_ble_eq_true rfl) ⟨Nat.le_of_ble_eq_true rfl, Nat.le_of_ble_eq_true rfl⟩ ⟨rfl, rfl⟩ ⟨by show _ ≤ 6400; (try dsimp only); omega, by show _ ≤ 39000; (try dsimp only); omega⟩ dL_day_168 ?_
              refine k_iconst C ic_1 dL_day_171 ?_
              refine k_iadd C dL_day_172 ?_
              rw [nI_add]
              refine k_iconst C ic_2 dL_day_173 ?_
              refine k_idiv C (by decide) dL_day_174 ?_
              rw [pk_div (by omega) (by omega) (by omega)]
              refine k_goto C (tgt := 186) (by decide) dL_day_175 ?_
              refine k_iast C (hsh10) (rfl) (by omega) (by decide) dL_day_186 ?_
              have hS2 := NewOk.up (j := k) (v := nI ((nz r t k + 1) / 2)) hS1 hzh10 hxh10
              have hrS2 := CR_eq hr hS2.2.2
              refine k_aload C (i := 11) (p := 7) rfl dL_day_187 ?_
              refine k_iload C (i := 18) (p := 0) rfl dL_day_189 ?_
              refine k_aload_n C (f := 0) (i := 0) (p := 17) rfl rfl dL_day_191 ?_
              refine k_bipush C bc_24 dL_day_192 ?_
              refine k_iload C (i := 18) (p := 0) rfl dL_day_194 ?_
              refine k_callSq C s_L_163 h_L_call__ (ct_k24 hx7 hrS2 hk2 hv24) rfl rfl (Nat.le_of_ble_eq_true rfl) ⟨Nat.le_of_ble_eq_true rfl, Nat.le_of_ble_eq_true rfl⟩ ⟨rfl, rfl⟩ ⟨by show _ ≤ 6400; (try dsimp only); omega, by show _ ≤ 39000; (try dsimp only); omega⟩ dL_day_196 ?_
              refine k_iast C (hsh11) (rfl) (by omega) (by decide) dL_day_199 ?_
              have hS3 := NewOk.up (j := k) (v := nI (zs r k)) hS2 hzh11 hxh11
              have hrS3 := CR_eq hr hS3.2.2
              refine k_aload C (i := 12) (p := 6) rfl dL_day_200 ?_
              refine k_iload C (i := 18) (p := 0) rfl dL_day_202 ?_
              refine k_aload_n C (f := 0) (i := 0) (p := 17) rfl rfl dL_day_204 ?_
              refine k_bipush C bc_20 dL_day_205 ?_
              refine k_iload C (i := 18) (p := 0) rfl dL_day_207 ?_
              refine k_callSq C s_L_163 h_L_call__ (ct_k20 hx7 hrS3 hk2 hv20) rfl rfl (Nat.le_of_ble_eq_true rfl) ⟨Nat.le_of_ble_eq_true rfl, Nat.le_of_ble_eq_true rfl⟩ ⟨rfl, rfl⟩ ⟨by show _ ≤ 6400; (try dsimp only); omega, by show _ ≤ 39000; (try dsimp only); omega⟩ dL_day_209 ?_
              refine k_iast C (hsh12) (rfl) (by omega) (by decide) dL_day_212 ?_
              have hS4 := NewOk.up (j := k) (v := nI (dz r k)) hS3 hzh12 hxh12
              have hrS4 := CR_eq hr hS4.2.2
              refine k_aload C (i := 13) (p := 5) rfl dL_day_213 ?_
              refine k_iload C (i := 18) (p := 0) rfl dL_day_215 ?_
              refine k_aload_n C (f := 0) (i := 0) (p := 17) rfl rfl dL_day_217 ?_
              refine k_bipush C bc_29 dL_day_218 ?_
              refine k_iload C (i := 18) (p := 0) rfl dL_day_220 ?_
              refine k_callSq C s_L_163 h_L_call__ (ct_k29 hx7 hrS4 hk2 hv29) rfl rfl (Nat.le_of_ble_eq_true rfl) ⟨Nat.le_of_ble_eq_true rfl, Nat.le_of_ble_eq_true rfl⟩ ⟨rfl, rfl⟩ ⟨by show _ ≤ 6400; (try dsimp only); omega, by show _ ≤ 39000; (try dsimp only); omega⟩ dL_day_222 ?_
              refine k_iast C (hsh13) (rfl) (by omega) (by decide) dL_day_225 ?_
              have hS5 := NewOk.up (j := k) (v := nI (zv r k)) hS4 hzh13 hxh13
              have hrS5 := CR_eq hr hS5.2.2
              refine k_aload C (i := 14) (p := 4) rfl dL_day_226 ?_
              refine k_iload C (i := 18) (p := 0) rfl dL_day_228 ?_
              refine k_aload_n C (f := 0) (i := 0) (p := 17) rfl rfl dL_day_230 ?_
              refine k_bipush C bc_25 dL_day_231 ?_
              refine k_iload C (i := 18) (p := 0) rfl dL_day_233 ?_
              refine k_callSq C s_L_163 h_L_call__ (ct_k25 hx7 hrS5 hk2 hv25) rfl rfl (Nat.le_of_ble_eq_true rfl) ⟨Nat.le_of_ble_eq_true rfl, Nat.le_of_ble_eq_true rfl⟩ ⟨rfl, rfl⟩ ⟨by show _ ≤ 6400; (try dsimp only); omega, by show _ ≤ 39000; (try dsimp only); omega⟩ dL_day_235 ?_
              refine k_iast C (hsh14) (rfl) (by omega) (by decide) dL_day_238 ?_
              have hS6 := NewOk.up (j := k) (v := nI (zl r k)) hS5 hzh14 hxh14
              have hrS6 := CR_eq hr hS6.2.2
              refine k_iinc C (i := 18) (p := 0) (lv := [(18, _), (17, _), (16, _), (15, _), (14, _), (13, _), (12, _), (11, _), (10, _), (9, _), (8, _), (7, _), (6, _), (5, _), (4, _), (2, _), (1, _), (0, _)]) (Nat.le_of_ble_eq_true rfl) rfl (by first | exact am_inc1 _ | rfl) rfl dL_day_239 ?_
              refine k_goto C (tgt := 135) (by decide) dL_day_242 ?_
              refine k_sub [0, 1, 2, 3, 4, 5, 6, 7, 8, 9, 10, 11, 12, 13, 14, 15, 16, 17] rfl ?_
              refine k_widen ?_ ?_ (ih135 (k + 1) _ (by omega) hS6 (AR_step hlt hA) (by omega))
              · (try dsimp only); omega
              · (try dsimp only); omega
      refine k_sub [0, 1, 2, 3, 4, 5, 6, 7, 8, 9, 10, 11, 12, 13, 14, 15, 16, 17] rfl ?_
      refine k_widen ?_ ?_ (loop135 (sp_nc r + 1) 0 I7 (Nat.zero_le _) hN (fun j hj => absurd hj (Nat.not_lt_zero j)) (by omega))
      · (try dsimp only); omega
      · (try dsimp only); omega
  rcases (show sp_living r = 0 ∨ (0 < sp_living r ∧ 200 ≤ dy) ∨ (0 < sp_living r ∧ dy < 200) by omega) with hl0 | ⟨hl0, hd0⟩ | ⟨hl0, hd0⟩
  · skip
    refine k_aload_n C (f := 0) (i := 0) (p := 13) rfl rfl dL_day_83 ?_
    refine k_callVp C s_L_240 h_X5_livingCamels (L5_s (by assumption)) rfl (ct_X5_livingCamels (by first | assumption | omega) (by first | assumption | omega)) rfl rfl (Nat.le_of_ble_eq_true rfl) ⟨Nat.le_of_ble_eq_true rfl, Nat.le_of_ble_eq_true rfl⟩ ⟨by show _ ≤ 6400; (try dsimp only); omega, by show _ ≤ 39000; (try dsimp only); omega⟩ ⟨rfl, rfl⟩ dL_day_84 ?_
    rw [show sp_living r = 0 from hl0]
    refine k_if_le C (tgt := 113) (by decide) dL_day_87 (fun hc87 => ?_) (fun hc87 => ?_)
    · skip
      refine k_iconst C ic_0 dL_day_113 ?_
      refine k_istore C (i := 16) (lv := [(16, _), (15, _), (14, _), (13, _), (12, _), (11, _), (10, _), (9, _), (8, _), (7, _), (6, _), (5, _), (4, _), (2, _), (0, _), (1, _)]) (Nat.le_of_ble_eq_true rfl) rfl dL_day_114 ?_
      refine k_sub [0, 1, 2, 3, 4, 5, 6, 7, 8, 9, 10, 11, 12, 13, 15, 14] rfl ?_
      refine k_widen ?_ ?_ (join116 _ (Or.inr ⟨rfl, by omega⟩))
      · (try dsimp only); omega
      · (try dsimp only); omega
    · skip
      first
      | omega
      | exact absurd hc87 (nI_ge (by omega) (by omega))
      | exact absurd hc87 (by decide)
      | exact absurd hc87 (nI_pos (by omega))
      | exact absurd (nI_pos' (by omega)) hc87
      | exact absurd rfl hc87
      | exact absurd hc87 (nI_ne0 (by omega) (by omega))
      | exact hc87 rfl
      | contradiction
      | exact absurd hc87 (nI_n101 (by omega))
      | exact absurd hc87.symm (nI_n101 (by omega))
      | (simp_all; done)
  · skip
    refine k_aload_n C (f := 0) (i := 0) (p := 13) rfl rfl dL_day_83 ?_
    refine k_callVp C s_L_240 h_X5_livingCamels (L5_s (by assumption)) rfl (ct_X5_livingCamels (by first | assumption | omega) (by first | assumption | omega)) rfl rfl (Nat.le_of_ble_eq_true rfl) ⟨Nat.le_of_ble_eq_true rfl, Nat.le_of_ble_eq_true rfl⟩ ⟨by show _ ≤ 6400; (try dsimp only); omega, by show _ ≤ 39000; (try dsimp only); omega⟩ ⟨rfl, rfl⟩ dL_day_84 ?_
    skip
    refine k_if_le C (tgt := 113) (by decide) dL_day_87 (fun hc87 => ?_) (fun hc87 => ?_)
    · skip
      first
      | omega
      | exact absurd hc87 (nI_ge (by omega) (by omega))
      | exact absurd hc87 (by decide)
      | exact absurd hc87 (nI_pos (by omega))
      | exact absurd (nI_pos' (by omega)) hc87
      | exact absurd rfl hc87
      | exact absurd hc87 (nI_ne0 (by omega) (by omega))
      | exact hc87 rfl
      | contradiction
      | exact absurd hc87 (nI_n101 (by omega))
      | exact absurd hc87.symm (nI_n101 (by omega))
      | (simp_all; done)
    · skip
      refine k_iload C (i := 5) (p := 10) rfl dL_day_90 ?_
      refine k_sipush C sc_200 dL_day_92 ?_
      first
      | refine k_icmpN_ge C (tgt := 113) (by omega) (by omega) (by decide) dL_day_95 (fun hc95 => ?_) (fun hc95 => ?_)
      | refine k_icmp_ge C (tgt := 113) (by decide) dL_day_95 (fun hc95 => ?_) (fun hc95 => ?_)
      · skip
        refine k_iconst C ic_0 dL_day_113 ?_
        refine k_istore C (i := 16) (lv := [(16, _), (15, _), (14, _), (13, _), (12, _), (11, _), (10, _), (9, _), (8, _), (7, _), (6, _), (5, _), (4, _), (2, _), (0, _), (1, _)]) (Nat.le_of_ble_eq_true rfl) rfl dL_day_114 ?_
        refine k_sub [0, 1, 2, 3, 4, 5, 6, 7, 8, 9, 10, 11, 12, 13, 15, 14] rfl ?_
        refine k_widen ?_ ?_ (join116 _ (Or.inr ⟨rfl, by omega⟩))
        · (try dsimp only); omega
        · (try dsimp only); omega
      · skip
        first
        | omega
        | exact absurd hc95 (nI_ge (by omega) (by omega))
        | exact absurd hc95 (by decide)
        | exact absurd hc95 (nI_pos (by omega))
        | exact absurd (nI_pos' (by omega)) hc95
        | exact absurd rfl hc95
        | exact absurd hc95 (nI_ne0 (by omega) (by omega))
        | exact hc95 rfl
        | contradiction
        | exact absurd hc95 (nI_n101 (by omega))
        | exact absurd hc95.symm (nI_n101 (by omega))
        | (simp_all; done)
  · skip
    refine k_aload_n C (f := 0) (i := 0) (p := 13) rfl rfl dL_day_83 ?_
    refine k_callVp C s_L_240 h_X5_livingCamels (L5_s (by assumption)) rfl (ct_X5_livingCamels (by first | assumption | omega) (by first | assumption | omega)) rfl rfl (Nat.le_of_ble_eq_true rfl) ⟨Nat.le_of_ble_eq_true rfl, Nat.le_of_ble_eq_true rfl⟩ ⟨by show _ ≤ 6400; (try dsimp only); omega, by show _ ≤ 39000; (try dsimp only); omega⟩ ⟨rfl, rfl⟩ dL_day_84 ?_
    skip
    refine k_if_le C (tgt := 113) (by decide) dL_day_87 (fun hc87 => ?_) (fun hc87 => ?_)
    · skip
      first
      | omega
      | exact absurd hc87 (nI_ge (by omega) (by omega))
      | exact absurd hc87 (by decide)
      | exact absurd hc87 (nI_pos (by omega))
      | exact absurd (nI_pos' (by omega)) hc87
      | exact absurd rfl hc87
      | exact absurd hc87 (nI_ne0 (by omega) (by omega))
      | exact hc87 rfl
      | contradiction
      | exact absurd hc87 (nI_n101 (by omega))
      | exact absurd hc87.symm (nI_n101 (by omega))
      | (simp_all; done)
    · skip
      refine k_iload C (i := 5) (p := 10) rfl dL_day_90 ?_
      refine k_sipush C sc_200 dL_day_92 ?_
      first
      | refine k_icmpN_ge C (tgt := 113) (by omega) (by omega) (by decide) dL_day_95 (fun hc95 => ?_) (fun hc95 => ?_)
      | refine k_icmp_ge C (tgt := 113) (by decide) dL_day_95 (fun hc95 => ?_) (fun hc95 => ?_)
      · skip
        first
        | omega
        | exact absurd hc95 (nI_ge (by omega) (by omega))
        | exact absurd hc95 (by decide)
        | exact absurd hc95 (nI_pos (by omega))
        | exact absurd (nI_pos' (by omega)) hc95
        | exact absurd rfl hc95
        | exact absurd hc95 (nI_ne0 (by omega) (by omega))
        | exact hc95 rfl
        | contradiction
        | exact absurd hc95 (nI_n101 (by omega))
        | exact absurd hc95.symm (nI_n101 (by omega))
        | (simp_all; done)
      · skip
        refine k_iload_n C (f := 1) (i := 1) (p := 14) rfl rfl dL_day_98 ?_
        first
        | refine k_ifb_ne C (tgt := 109) (by decide) dL_day_99 (fun hc99 => ?_) (fun hc99 => ?_)
        | refine k_if_ne C (tgt := 109) (by decide) dL_day_99 (fun hc99 => ?_) (fun hc99 => ?_)
        · skip
          refine k_iconst C ic_1 dL_day_109 ?_
          refine k_goto C (tgt := 114) (by decide) dL_day_110 ?_
          refine k_istore C (i := 16) (lv := [(16, _), (15, _), (14, _), (13, _), (12, _), (11, _), (10, _), (9, _), (8, _), (7, _), (6, _), (5, _), (4, _), (2, _), (0, _), (1, _)]) (Nat.le_of_ble_eq_true rfl) rfl dL_day_114 ?_
          refine k_sub [0, 1, 2, 3, 4, 5, 6, 7, 8, 9, 10, 11, 12, 13, 15, 14] rfl ?_
          refine k_widen ?_ ?_ (join116 _ (Or.inl ⟨rfl, by omega⟩))
          · (try dsimp only); omega
          · (try dsimp only); omega
        · skip
          first
          | exact absurd hc99 (by decide)
          | exact absurd (by decide) hc99
