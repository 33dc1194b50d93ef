set_option maxHeartbeats 4000000 in
set_option maxRecDepth 100000 in
theorem ct_L_fastest {G : am_G} {Λ : am_L} {I : am_I} {J : am_J} {x : Nat} {r : Nat → Int32} {o : Nat}  (hx : RouLay Λ x) (hr : CarRel I (x + 34) (x + 35) (x + 24) r) (ho : Λ.1 o = (5, 1)) : am_CtH G yL_fastest cL_fastest 3 (some .int) [(0, 8, 11, 28)] { frames := 7, cells := 1, slots := 6, locals := 111 } [.ref x, .ref o] Λ I J (WC o (if sp_fast r = -1 then 1 else 0) (sp_fast r) Λ J (fun I' => I' = I) (fun I' => I' = I)) am_never := by
  refine am_ctH_of (own := RL) rfl (by decide) (Nat.le_of_ble_eq_true rfl) (fun X C => ?_)
  change am_K G X { frames := 7, cells := 1, slots := 6, locals := 111 } 3 Λ I J 0 0 0 [(0, .ref x), (1, .ref o)] []
  refine k_aload_n C (f := 1) (i := 1) (p := 1) rfl rfl dL_fastest_0 ?_
  refine k_iconst C ic_0 dL_fastest_1 ?_
  refine k_aload_n C (f := 0) (i := 0) (p := 0) rfl rfl dL_fastest_2 ?_
  refine k_callV C s_L_84 h_X5_fastest (L5_s hx) rfl (ct_X5_fastest hx hr) rfl rfl (Nat.le_of_ble_eq_true rfl) ⟨Nat.le_of_ble_eq_true rfl, Nat.le_of_ble_eq_true rfl⟩ ⟨Nat.le_of_ble_eq_true rfl, Nat.le_of_ble_eq_true rfl⟩ dL_fastest_3 ?_ ?_
  · skip
    intro v Λ' I' J' hv
    obtain ⟨rfl, hcd, rfl, rfl, rfl⟩ := hv
    refine k_i2l C (rfl) dL_fastest_6 ?_
    refine k_last C (ho) (by first | rfl | assumption) (by omega) (by decide) dL_fastest_7 ?_
    refine k_goto C (tgt := 14) (by decide) dL_fastest_8 ?_
    refine k_iconst C ic_0 dL_fastest_14 ?_
    exact k_iret C (Nat.le_of_ble_eq_true rfl) (Nat.le_of_ble_eq_true rfl) (WC_ok hcd (rfl) rfl) dL_fastest_15
  · skip
    intro E Λ' I' J' hp
    obtain ⟨rfl, hcd, rfl, rfl, rfl⟩ := hp
    refine k_catch C [] ⟨0, 8, 11, 28⟩ [] rfl (fun z hz => nomatch hz) (by decide) (by decide) am_cl_RL_28 am_ca_28 (fun q => ?_)
    refine k_astore_n C (f := 2) (i := 2) (lv := [(2, _), (0, _), (1, _)]) rfl (Nat.le_of_ble_eq_true rfl) rfl dL_fastest_11 ?_
    refine k_iconst C ic_1 dL_fastest_12 ?_
    exact k_iret C (Nat.le_of_ble_eq_true rfl) (Nat.le_of_ble_eq_true rfl) (WC_no hcd (by decide) rfl) dL_fastest_13
set_option maxHeartbeats 4000000 in
set_option maxRecDepth 100000 in
theorem ct_L_weightOf {G : am_G} {Λ : am_L} {I : am_I} {J : am_J} {x : Nat} {r : Nat → Int32} {c : Int32}{o : Nat}  (hx : RouLay Λ x) (hr : CarRel I (x + 34) (x + 35) (x + 24) r) (ho : Λ.1 o = (5, 1)) : am_CtH G yL_weightOf cL_weightOf 4 (some .int) [(0, 9, 12, 36)] { frames := 8, cells := 1, slots := 6, locals := 132 } [.ref x, .int c, .ref o] Λ I J (WC o (cdI (sp_nl r) c) (r (140 + 4 * c.toNatClampNeg)) Λ J (fun I' => I' = I) (fun I' => I' = I)) am_never := by
  refine am_ctH_of (own := RL) rfl (by decide) (Nat.le_of_ble_eq_true rfl) (fun X C => ?_)
  change am_K G X { frames := 8, cells := 1, slots := 6, locals := 132 } 4 Λ I J 0 0 0 [(0, .ref x), (1, .int c), (2, .ref o)] []
  refine k_aload_n C (f := 2) (i := 2) (p := 2) rfl rfl dL_weightOf_0 ?_
  refine k_iconst C ic_0 dL_weightOf_1 ?_
  refine k_aload_n C (f := 0) (i := 0) (p := 0) rfl rfl dL_weightOf_2 ?_
  refine k_iload_n C (f := 1) (i := 1) (p := 1) rfl rfl dL_weightOf_3 ?_
  refine k_callV C s_L_87 h_X5_weightOf (L5_s hx) rfl (ct_X5_weightOf hx hr) rfl rfl (Nat.le_of_ble_eq_true rfl) ⟨Nat.le_of_ble_eq_true rfl, Nat.le_of_ble_eq_true rfl⟩ ⟨Nat.le_of_ble_eq_true rfl, Nat.le_of_ble_eq_true rfl⟩ dL_weightOf_4 ?_ ?_
  · skip
    intro v Λ' I' J' hv
    obtain ⟨rfl, hcd, rfl, rfl, rfl⟩ := hv
    refine k_i2l C (rfl) dL_weightOf_7 ?_
    refine k_last C (ho) (by first | rfl | assumption) (by omega) (by decide) dL_weightOf_8 ?_
    refine k_goto C (tgt := 15) (by decide) dL_weightOf_9 ?_
    refine k_iconst C ic_0 dL_weightOf_15 ?_
    exact k_iret C (Nat.le_of_ble_eq_true rfl) (Nat.le_of_ble_eq_true rfl) (WC_ok hcd (rfl) rfl) dL_weightOf_16
  · skip
    intro E Λ' I' J' hp
    obtain ⟨rfl, hcd, rfl, rfl, rfl⟩ := hp
    refine k_catch C [] ⟨0, 9, 12, 36⟩ [] rfl (fun z hz => nomatch hz) (by decide) (by decide) am_cl_RL_36 am_ca_36 (fun q => ?_)
    refine k_astore_n C (f := 3) (i := 3) (lv := [(3, _), (0, _), (1, _), (2, _)]) rfl (Nat.le_of_ble_eq_true rfl) rfl dL_weightOf_12 ?_
    refine k_iconst C ic_1 dL_weightOf_13 ?_
    exact k_iret C (Nat.le_of_ble_eq_true rfl) (Nat.le_of_ble_eq_true rfl) (WC_no hcd (by decide) rfl) dL_weightOf_14
set_option maxHeartbeats 4000000 in
set_option maxRecDepth 100000 in
theorem ct_L_valueOf {G : am_G} {Λ : am_L} {I : am_I} {J : am_J} {x : Nat} {r : Nat → Int32} {c : Int32}{o : Nat}  (hx : RouLay Λ x) (hr : CarRel I (x + 34) (x + 35) (x + 24) r) (ho : Λ.1 o = (5, 1)) : am_CtH G yL_valueOf cL_valueOf 4 (some .int) [(0, 9, 12, 36)] { frames := 8, cells := 1, slots := 6, locals := 132 } [.ref x, .int c, .ref o] Λ I J (WC o (cdI (sp_nl r) c) (r (141 + 4 * c.toNatClampNeg)) Λ J (fun I' => I' = I) (fun I' => I' = I)) am_never := by
  refine am_ctH_of (own := RL) rfl (by decide) (Nat.le_of_ble_eq_true rfl) (fun X C => ?_)
  change am_K G X { frames := 8, cells := 1, slots := 6, locals := 132 } 4 Λ I J 0 0 0 [(0, .ref x), (1, .int c), (2, .ref o)] []
  refine k_aload_n C (f := 2) (i := 2) (p := 2) rfl rfl dL_valueOf_0 ?_
  refine k_iconst C ic_0 dL_valueOf_1 ?_
  refine k_aload_n C (f := 0) (i := 0) (p := 0) rfl rfl dL_valueOf_2 ?_
  refine k_iload_n C (f := 1) (i := 1) (p := 1) rfl rfl dL_valueOf_3 ?_
  refine k_callV C s_L_90 h_X5_valueOf (L5_s hx) rfl (ct_X5_valueOf hx hr) rfl rfl (Nat.le_of_ble_eq_true rfl) ⟨Nat.le_of_ble_eq_true rfl, Nat.le_of_ble_eq_true rfl⟩ ⟨Nat.le_of_ble_eq_true rfl, Nat.le_of_ble_eq_true rfl⟩ dL_valueOf_4 ?_ ?_
  · skip
    intro v Λ' I' J' hv
    obtain ⟨rfl, hcd, rfl, rfl, rfl⟩ := hv
    refine k_i2l C (rfl) dL_valueOf_7 ?_
    refine k_last C (ho) (by first | rfl | assumption) (by omega) (by decide) dL_valueOf_8 ?_
    refine k_goto C (tgt := 15) (by decide) dL_valueOf_9 ?_
    refine k_iconst C ic_0 dL_valueOf_15 ?_
    exact k_iret C (Nat.le_of_ble_eq_true rfl) (Nat.le_of_ble_eq_true rfl) (WC_ok hcd (rfl) rfl) dL_valueOf_16
  · skip
    intro E Λ' I' J' hp
    obtain ⟨rfl, hcd, rfl, rfl, rfl⟩ := hp
    refine k_catch C [] ⟨0, 9, 12, 36⟩ [] rfl (fun z hz => nomatch hz) (by decide) (by decide) am_cl_RL_36 am_ca_36 (fun q => ?_)
    refine k_astore_n C (f := 3) (i := 3) (lv := [(3, _), (0, _), (1, _), (2, _)]) rfl (Nat.le_of_ble_eq_true rfl) rfl dL_valueOf_12 ?_
    refine k_iconst C ic_1 dL_valueOf_13 ?_
    exact k_iret C (Nat.le_of_ble_eq_true rfl) (Nat.le_of_ble_eq_true rfl) (WC_no hcd (by decide) rfl) dL_valueOf_14
set_option maxHeartbeats 4000000 in
set_option maxRecDepth 100000 in
theorem ct_L_isCarried {G : am_G} {Λ : am_L} {I : am_I} {J : am_J} {x : Nat} {r : Nat → Int32} {c : Int32}{o : Nat}  (hx : RouLay Λ x) (hr : CarRel I (x + 34) (x + 35) (x + 24) r) (ho : Λ.1 o = (5, 1)) : am_CtH G yL_isCarried cL_isCarried 4 (some .int) [(0, 16, 19, 36)] { frames := 8, cells := 1, slots := 6, locals := 132 } [.ref x, .int c, .ref o] Λ I J (WC o (cdI (sp_nl r) c) (am_b (¬ r (142 + 4 * c.toNatClampNeg) = -1)) Λ J (fun I' => I' = I) (fun I' => I' = I)) am_never := by
  refine am_ctH_of (own := RL) rfl (by decide) (Nat.le_of_ble_eq_true rfl) (fun X C => ?_)
  change am_K G X { frames := 8, cells := 1, slots := 6, locals := 132 } 4 Λ I J 0 0 0 [(0, .ref x), (1, .int c), (2, .ref o)] []
  refine k_aload_n C (f := 2) (i := 2) (p := 2) rfl rfl dL_isCarried_0 ?_
  refine k_iconst C ic_0 dL_isCarried_1 ?_
  refine k_aload_n C (f := 0) (i := 0) (p := 0) rfl rfl dL_isCarried_2 ?_
  refine k_iload_n C (f := 1) (i := 1) (p := 1) rfl rfl dL_isCarried_3 ?_
  refine k_callV C s_L_93 h_X5_isCarried (L5_s hx) rfl (ct_X5_isCarried hx hr) rfl rfl (Nat.le_of_ble_eq_true rfl) ⟨Nat.le_of_ble_eq_true rfl, Nat.le_of_ble_eq_true rfl⟩ ⟨Nat.le_of_ble_eq_true rfl, Nat.le_of_ble_eq_true rfl⟩ dL_isCarried_4 ?_ ?_
  · skip
    intro v Λ' I' J' hv
    obtain ⟨rfl, hcd, rfl, rfl, rfl⟩ := hv
    refine k_ifb_eq C (tgt := 14) (by decide) dL_isCarried_7 (fun hc7 => ?_) (fun hc7 => ?_)
    · skip
      refine k_lconst C rfl dL_isCarried_14 ?_
      refine k_last C (ho) (by first | rfl | assumption) (by omega) (by decide) dL_isCarried_15 ?_
      refine k_goto C (tgt := 22) (by decide) dL_isCarried_16 ?_
      refine k_iconst C ic_0 dL_isCarried_22 ?_
      exact k_iret C (Nat.le_of_ble_eq_true rfl) (Nat.le_of_ble_eq_true rfl) (WC_ok hcd (by first | (rw [← am_bt hc7]; rfl) | (rw [← am_bf hc7]; rfl)) rfl) dL_isCarried_23
    · skip
      refine k_lconst C rfl dL_isCarried_10 ?_
      refine k_goto C (tgt := 15) (by decide) dL_isCarried_11 ?_
      refine k_last C (ho) (by first | rfl | assumption) (by omega) (by decide) dL_isCarried_15 ?_
      refine k_goto C (tgt := 22) (by decide) dL_isCarried_16 ?_
      refine k_iconst C ic_0 dL_isCarried_22 ?_
      exact k_iret C (Nat.le_of_ble_eq_true rfl) (Nat.le_of_ble_eq_true rfl) (WC_ok hcd (by first | (rw [← am_bt hc7]; rfl) | (rw [← am_bf hc7]; rfl)) rfl) dL_isCarried_23
  · skip
    intro E Λ' I' J' hp
    obtain ⟨rfl, hcd, rfl, rfl, rfl⟩ := hp
    refine k_catch C [] ⟨0, 16, 19, 36⟩ [] rfl (fun z hz => nomatch hz) (by decide) (by decide) am_cl_RL_36 am_ca_36 (fun q => ?_)
    refine k_astore_n C (f := 3) (i := 3) (lv := [(3, _), (0, _), (1, _), (2, _)]) rfl (Nat.le_of_ble_eq_true rfl) rfl dL_isCarried_19 ?_
    refine k_iconst C ic_1 dL_isCarried_20 ?_
    exact k_iret C (Nat.le_of_ble_eq_true rfl) (Nat.le_of_ble_eq_true rfl) (WC_no hcd (by decide) rfl) dL_isCarried_21
set_option maxHeartbeats 4000000 in
set_option maxRecDepth 100000 in
theorem ct_L_carrierOf {G : am_G} {Λ : am_L} {I : am_I} {J : am_J} {x : Nat} {r : Nat → Int32} {c : Int32}{o : Nat}  (hx : RouLay Λ x) (hr : CarRel I (x + 34) (x + 35) (x + 24) r) (ho : Λ.1 o = (5, 1)) : am_CtH G yL_carrierOf cL_carrierOf 4 (some .int) [(0, 9, 12, 36), (0, 9, 15, 28)] { frames := 8, cells := 2, slots := 12, locals := 132 } [.ref x, .int c, .ref o] Λ I J (WC o (if cdI (sp_nl r) c = 0 then (if r (142 + 4 * c.toNatClampNeg) = -1 then 2 else 0) else 1) (r (142 + 4 * c.toNatClampNeg)) Λ J (fun I' => I' = I) (fun I' => I' = I)) am_never := by
  refine am_ctH_of (own := RL) rfl (by decide) (Nat.le_of_ble_eq_true rfl) (fun X C => ?_)
  change am_K G X { frames := 8, cells := 2, slots := 12, locals := 132 } 4 Λ I J 0 0 0 [(0, .ref x), (1, .int c), (2, .ref o)] []
  refine k_aload_n C (f := 2) (i := 2) (p := 2) rfl rfl dL_carrierOf_0 ?_
  refine k_iconst C ic_0 dL_carrierOf_1 ?_
  refine k_aload_n C (f := 0) (i := 0) (p := 0) rfl rfl dL_carrierOf_2 ?_
  refine k_iload_n C (f := 1) (i := 1) (p := 1) rfl rfl dL_carrierOf_3 ?_
  refine k_callV C s_L_96 h_X5_carrierOf (L5_s hx) rfl (ct_X5_carrierOf hx hr) rfl rfl (Nat.le_of_ble_eq_true rfl) ⟨Nat.le_of_ble_eq_true rfl, Nat.le_of_ble_eq_true rfl⟩ ⟨Nat.le_of_ble_eq_true rfl, Nat.le_of_ble_eq_true rfl⟩ dL_carrierOf_4 ?_ ?_
  · skip
    intro v Λ' I' J' hv
    obtain ⟨rfl, hcd, rfl, rfl, rfl⟩ := hv
    refine k_i2l C (rfl) dL_carrierOf_7 ?_
    refine k_last C (ho) (by first | rfl | assumption) (by omega) (by decide) dL_carrierOf_8 ?_
    refine k_goto C (tgt := 18) (by decide) dL_carrierOf_9 ?_
    refine k_iconst C ic_0 dL_carrierOf_18 ?_
    exact k_iret C (Nat.le_of_ble_eq_true rfl) (Nat.le_of_ble_eq_true rfl) (WC_ok hcd (rfl) rfl) dL_carrierOf_19
  · skip
    intro E Λ' I' J' hp
    obtain ⟨(⟨rfl, hcd⟩ | ⟨rfl, hcd⟩), rfl, rfl, rfl⟩ := hp
    · skip
      refine k_catch C [] ⟨0, 9, 12, 36⟩ [⟨0, 9, 15, 28⟩] rfl (fun z hz => nomatch hz) (by decide) (by decide) am_cl_RL_36 am_ca_36 (fun q => ?_)
      refine k_astore_n C (f := 3) (i := 3) (lv := [(3, _), (0, _), (1, _), (2, _)]) rfl (Nat.le_of_ble_eq_true rfl) rfl dL_carrierOf_12 ?_
      refine k_iconst C ic_1 dL_carrierOf_13 ?_
      exact k_iret C (Nat.le_of_ble_eq_true rfl) (Nat.le_of_ble_eq_true rfl) (WC_no hcd (by decide) rfl) dL_carrierOf_14
    · skip
      refine k_catch C [⟨0, 9, 12, 36⟩] ⟨0, 9, 15, 28⟩ [] rfl (fun z hz => Or.inr (by rw [List.mem_singleton.mp hz]; exact ⟨by decide, "java/lang/IndexOutOfBoundsException", am_cl_RL_36, 39, rfl⟩)) (by decide) (by decide) am_cl_RL_28 am_ca_28 (fun q => ?_)
      refine k_astore_n C (f := 3) (i := 3) (lv := [(3, _), (0, _), (1, _), (2, _)]) rfl (Nat.le_of_ble_eq_true rfl) rfl dL_carrierOf_15 ?_
      refine k_iconst C ic_2 dL_carrierOf_16 ?_
      exact k_iret C (Nat.le_of_ble_eq_true rfl) (Nat.le_of_ble_eq_true rfl) (WC_no hcd (by decide) rfl) dL_carrierOf_17
set_option maxHeartbeats 4000000 in
set_option maxRecDepth 100000 in
theorem ct_L_placeOf {G : am_G} {Λ : am_L} {I : am_I} {J : am_J} {x : Nat} {r : Nat → Int32} {c : Int32}{o : Nat}  (hx : RouLay Λ x) (hr : CarRel I (x + 34) (x + 35) (x + 24) r) (ho : Λ.1 o = (5, 1)) : am_CtH G yL_placeOf cL_placeOf 4 (some .int) [(0, 9, 12, 36)] { frames := 8, cells := 1, slots := 6, locals := 132 } [.ref x, .int c, .ref o] Λ I J (WC o (cdI (sp_nl r) c) (if r (142 + 4 * c.toNatClampNeg) = -1 then r (143 + 4 * c.toNatClampNeg) else r 1) Λ J (fun I' => I' = I) (fun I' => I' = I)) am_never := by
  refine am_ctH_of (own := RL) rfl (by decide) (Nat.le_of_ble_eq_true rfl) (fun X C => ?_)
  change am_K G X { frames := 8, cells := 1, slots := 6, locals := 132 } 4 Λ I J 0 0 0 [(0, .ref x), (1, .int c), (2, .ref o)] []
  refine k_aload_n C (f := 2) (i := 2) (p := 2) rfl rfl dL_placeOf_0 ?_
  refine k_iconst C ic_0 dL_placeOf_1 ?_
  refine k_aload_n C (f := 0) (i := 0) (p := 0) rfl rfl dL_placeOf_2 ?_
  refine k_iload_n C (f := 1) (i := 1) (p := 1) rfl rfl dL_placeOf_3 ?_
  refine k_callV C s_L_99 h_X5_placeOf (L5_s hx) rfl (ct_X5_placeOf hx hr) rfl rfl (Nat.le_of_ble_eq_true rfl) ⟨Nat.le_of_ble_eq_true rfl, Nat.le_of_ble_eq_true rfl⟩ ⟨Nat.le_of_ble_eq_true rfl, Nat.le_of_ble_eq_true rfl⟩ dL_placeOf_4 ?_ ?_
  · skip
    intro v Λ' I' J' hv
    obtain ⟨rfl, hcd, rfl, rfl, rfl⟩ := hv
    refine k_i2l C (rfl) dL_placeOf_7 ?_
    refine k_last C (ho) (by first | rfl | assumption) (by omega) (by decide) dL_placeOf_8 ?_
    refine k_goto C (tgt := 15) (by decide) dL_placeOf_9 ?_
    refine k_iconst C ic_0 dL_placeOf_15 ?_
    exact k_iret C (Nat.le_of_ble_eq_true rfl) (Nat.le_of_ble_eq_true rfl) (WC_ok hcd (rfl) rfl) dL_placeOf_16
  · skip
    intro E Λ' I' J' hp
    obtain ⟨rfl, hcd, rfl, rfl, rfl⟩ := hp
    refine k_catch C [] ⟨0, 9, 12, 36⟩ [] rfl (fun z hz => nomatch hz) (by decide) (by decide) am_cl_RL_36 am_ca_36 (fun q => ?_)
    refine k_astore_n C (f := 3) (i := 3) (lv := [(3, _), (0, _), (1, _), (2, _)]) rfl (Nat.le_of_ble_eq_true rfl) rfl dL_placeOf_12 ?_
    refine k_iconst C ic_1 dL_placeOf_13 ?_
    exact k_iret C (Nat.le_of_ble_eq_true rfl) (Nat.le_of_ble_eq_true rfl) (WC_no hcd (by decide) rfl) dL_placeOf_14
set_option maxHeartbeats 4000000 in
set_option maxRecDepth 100000 in
theorem ct_L_needToday {G : am_G} {Λ : am_L} {I : am_I} {J : am_J} {x : Nat} {r : Nat → Int32} {c : Int32}{o : Nat}  (hx : RouLay Λ x) (hr : CarRel I (x + 34) (x + 35) (x + 24) r) (ho : Λ.1 o = (5, 1)) : am_CtH G yL_needToday cL_needToday 4 (some .int) [(0, 9, 12, 36)] { frames := 8, cells := 1, slots := 6, locals := 132 } [.ref x, .int c, .ref o] Λ I J (WC o (cdI (sp_nc r) c) (if r (16 + 8 * c.toNatClampNeg) < nI 3 then sp_need r c.toNatClampNeg (sp_storm r (r 2)) else nI 0) Λ J (fun I' => I' = I) (fun I' => I' = I)) am_never := by
  refine am_ctH_of (own := RL) rfl (by decide) (Nat.le_of_ble_eq_true rfl) (fun X C => ?_)
  change am_K G X { frames := 8, cells := 1, slots := 6, locals := 132 } 4 Λ I J 0 0 0 [(0, .ref x), (1, .int c), (2, .ref o)] []
  refine k_aload_n C (f := 2) (i := 2) (p := 2) rfl rfl dL_needToday_0 ?_
  refine k_iconst C ic_0 dL_needToday_1 ?_
  refine k_aload_n C (f := 0) (i := 0) (p := 0) rfl rfl dL_needToday_2 ?_
  refine k_iload_n C (f := 1) (i := 1) (p := 1) rfl rfl dL_needToday_3 ?_
  refine k_callV C s_L_102 h_X5_needToday (L5_s hx) rfl (ct_X5_needToday hx hr) rfl rfl (Nat.le_of_ble_eq_true rfl) ⟨Nat.le_of_ble_eq_true rfl, Nat.le_of_ble_eq_true rfl⟩ ⟨Nat.le_of_ble_eq_true rfl, Nat.le_of_ble_eq_true rfl⟩ dL_needToday_4 ?_ ?_
  · skip
    intro v Λ' I' J' hv
    obtain ⟨rfl, hcd, rfl, rfl, rfl⟩ := hv
    refine k_i2l C (rfl) dL_needToday_7 ?_
    refine k_last C (ho) (by first | rfl | assumption) (by omega) (by decide) dL_needToday_8 ?_
    refine k_goto C (tgt := 15) (by decide) dL_needToday_9 ?_
    refine k_iconst C ic_0 dL_needToday_15 ?_
    exact k_iret C (Nat.le_of_ble_eq_true rfl) (Nat.le_of_ble_eq_true rfl) (WC_ok hcd (rfl) rfl) dL_needToday_16
  · skip
    intro E Λ' I' J' hp
    obtain ⟨rfl, hcd, rfl, rfl, rfl⟩ := hp
    refine k_catch C [] ⟨0, 9, 12, 36⟩ [] rfl (fun z hz => nomatch hz) (by decide) (by decide) am_cl_RL_36 am_ca_36 (fun q => ?_)
    refine k_astore_n C (f := 3) (i := 3) (lv := [(3, _), (0, _), (1, _), (2, _)]) rfl (Nat.le_of_ble_eq_true rfl) rfl dL_needToday_12 ?_
    refine k_iconst C ic_1 dL_needToday_13 ?_
    exact k_iret C (Nat.le_of_ble_eq_true rfl) (Nat.le_of_ble_eq_true rfl) (WC_no hcd (by decide) rfl) dL_needToday_14
set_option maxHeartbeats 4000000 in
set_option maxRecDepth 100000 in
theorem ct_L_livingAfter {G : am_G} {Λ : am_L} {I : am_I} {J : am_J} {x n ct : Nat} {tb : Nat → Nat} {err : Int32} {r : Nat → Int32} {hs : Nat → Nat → Int32} {kp : Nat → Bool} {sn : Nat → Nat → Int32} {w : Nat × (Nat → Int32)} {a : Int32}{o : Nat}  (hx : RouLay Λ x) (hR : RouRel I x tb n err r ct hs kp sn w) (hok : RowOk r) (ho : Λ.1 o = (5, 1)) : am_CtH G yL_livingAfter cL_livingAfter 4 (some .int) [(0, 9, 12, 19)] { frames := 7, cells := 1, slots := 6, locals := 133 } [.ref x, .int a, .ref o] Λ I J (WC o (if a < 0 ∨ nI 50 < a then 1 else 0) (nI (sp_living (sp_goN r a.toNatClampNeg))) Λ J (fun I' => I' = I) (fun I' => RouRel I' x (tb) (n) (err) (r) (ct) (hs) (kp) (sn) (w) ∧ RFr x I I')) am_never := by
  refine am_ctH_of (own := RL) rfl (by decide) (Nat.le_of_ble_eq_true rfl) (fun X C => ?_)
  change am_K G X { frames := 7, cells := 1, slots := 6, locals := 133 } 4 Λ I J 0 0 0 [(0, .ref x), (1, .int a), (2, .ref o)] []
  refine k_aload_n C (f := 2) (i := 2) (p := 2) rfl rfl dL_livingAfter_0 ?_
  refine k_iconst C ic_0 dL_livingAfter_1 ?_
  refine k_aload_n C (f := 0) (i := 0) (p := 0) rfl rfl dL_livingAfter_2 ?_
  refine k_iload_n C (f := 1) (i := 1) (p := 1) rfl rfl dL_livingAfter_3 ?_
  refine k_callV C s_L_105 h_X5_livingAfter (L5_s hx) rfl (ct_X5_livingAfter hx hR hok) rfl rfl (Nat.le_of_ble_eq_true rfl) ⟨Nat.le_of_ble_eq_true rfl, Nat.le_of_ble_eq_true rfl⟩ ⟨Nat.le_of_ble_eq_true rfl, Nat.le_of_ble_eq_true rfl⟩ dL_livingAfter_4 ?_ ?_
  · skip
    intro v Λ' I' J' hv
    obtain ⟨rfl, hcd, rfl, rfl, hP⟩ := hv
    refine k_i2l C (rfl) dL_livingAfter_7 ?_
    refine k_last C (ho) (by first | rfl | assumption) (by omega) (by decide) dL_livingAfter_8 ?_
    refine k_goto C (tgt := 15) (by decide) dL_livingAfter_9 ?_
    refine k_iconst C ic_0 dL_livingAfter_15 ?_
    exact k_iret C (Nat.le_of_ble_eq_true rfl) (Nat.le_of_ble_eq_true rfl) (WC_ok hcd (rfl) hP) dL_livingAfter_16
  · skip
    intro E Λ' I' J' hp
    obtain ⟨rfl, hcd, rfl, rfl, rfl⟩ := hp
    refine k_catch C [] ⟨0, 9, 12, 19⟩ [] rfl (fun z hz => nomatch hz) (by decide) (by decide) am_cl_RL_19 am_ca_19 (fun q => ?_)
    refine k_astore_n C (f := 3) (i := 3) (lv := [(3, _), (0, _), (1, _), (2, _)]) rfl (Nat.le_of_ble_eq_true rfl) rfl dL_livingAfter_12 ?_
    refine k_iconst C ic_1 dL_livingAfter_13 ?_
    exact k_iret C (Nat.le_of_ble_eq_true rfl) (Nat.le_of_ble_eq_true rfl) (WC_no hcd (by decide) rfl) dL_livingAfter_14
set_option maxHeartbeats 4000000 in
set_option maxRecDepth 100000 in
theorem ct_L_daysToArrival {G : am_G} {Λ : am_L} {I : am_I} {J : am_J} {x n ct : Nat} {tb : Nat → Nat} {err : Int32} {r : Nat → Int32} {hs : Nat → Nat → Int32} {kp : Nat → Bool} {sn : Nat → Nat → Int32} {w : Nat × (Nat → Int32)} {o : Nat}  (hx : RouLay Λ x) (hR : RouRel I x tb n err r ct hs kp sn w) (hok : RowOk r) (ho : Λ.1 o = (5, 1)) : am_CtH G yL_daysToArrival cL_daysToArrival 3 (some .int) [(0, 8, 11, 28)] { frames := 7, cells := 1, slots := 6, locals := 132 } [.ref x, .ref o] Λ I J (WC o (if sp_goN r 200 0 ≤ sp_goN r 200 1 then 0 else 1) (sp_goN r 200 2 - r 2) Λ J (fun I' => RouRel I' x tb n err r ct hs kp sn w ∧ RFr x I I') (fun I' => RouRel I' x (tb) (n) (err) (r) (ct) (hs) (kp) (sn) (w) ∧ RFr x I I')) am_never := by
  refine am_ctH_of (own := RL) rfl (by decide) (Nat.le_of_ble_eq_true rfl) (fun X C => ?_)
  change am_K G X { frames := 7, cells := 1, slots := 6, locals := 132 } 3 Λ I J 0 0 0 [(0, .ref x), (1, .ref o)] []
  refine k_aload_n C (f := 1) (i := 1) (p := 1) rfl rfl dL_daysToArrival_0 ?_
  refine k_iconst C ic_0 dL_daysToArrival_1 ?_
  refine k_aload_n C (f := 0) (i := 0) (p := 0) rfl rfl dL_daysToArrival_2 ?_
  refine k_callV C s_L_108 h_X5_daysToArrival (L5_s hx) rfl (ct_X5_daysToArrival hx hR hok) rfl rfl (Nat.le_of_ble_eq_true rfl) ⟨Nat.le_of_ble_eq_true rfl, Nat.le_of_ble_eq_true rfl⟩ ⟨Nat.le_of_ble_eq_true rfl, Nat.le_of_ble_eq_true rfl⟩ dL_daysToArrival_3 ?_ ?_
  · skip
    intro v Λ' I' J' hv
    obtain ⟨rfl, hcd, rfl, rfl, hP⟩ := hv
    refine k_i2l C (rfl) dL_daysToArrival_6 ?_
    refine k_last C (ho) (by first | rfl | assumption) (by omega) (by decide) dL_daysToArrival_7 ?_
    refine k_goto C (tgt := 14) (by decide) dL_daysToArrival_8 ?_
    refine k_iconst C ic_0 dL_daysToArrival_14 ?_
    exact k_iret C (Nat.le_of_ble_eq_true rfl) (Nat.le_of_ble_eq_true rfl) (WC_ok hcd (rfl) hP) dL_daysToArrival_15
  · skip
    intro E Λ' I' J' hp
    obtain ⟨rfl, hcd, rfl, rfl, hP⟩ := hp
    refine k_catch C [] ⟨0, 8, 11, 28⟩ [] rfl (fun z hz => nomatch hz) (by decide) (by decide) am_cl_RL_28 am_ca_28 (fun q => ?_)
    refine k_astore_n C (f := 2) (i := 2) (lv := [(2, _), (0, _), (1, _)]) rfl (Nat.le_of_ble_eq_true rfl) rfl dL_daysToArrival_11 ?_
    refine k_iconst C ic_1 dL_daysToArrival_12 ?_
    exact k_iret C (Nat.le_of_ble_eq_true rfl) (Nat.le_of_ble_eq_true rfl) (WC_no hcd (by decide) hP) dL_daysToArrival_13
set_option maxHeartbeats 4000000 in
set_option maxRecDepth 100000 in
theorem ct_L_wouldDrink {G : am_G} {Λ : am_L} {I : am_I} {J : am_J} {x n ct : Nat} {tb : Nat → Nat} {err : Int32} {r : Nat → Int32} {hs : Nat → Nat → Int32} {kp : Nat → Bool} {sn : Nat → Nat → Int32} {w : Nat × (Nat → Int32)} {c : Int32}{o : Nat}  (hx : RouLay Λ x) (hR : RouRel I x tb n err r ct hs kp sn w) (hok : RowOk r) (ho : Λ.1 o = (5, 1)) : am_CtH G yL_wouldDrink cL_wouldDrink 4 (some .int) [(0, 9, 12, 36), (0, 9, 15, 13)] { frames := 8, cells := 2, slots := 12, locals := 133 } [.ref x, .int c, .ref o] Λ I J (WC o (if cdI (sp_nc r) c = 0 then (if sp_wellOn r (r 1) = -1 then 2 else 0) else 1) (if r (16 + 8 * c.toNatClampNeg) < nI 3 then sp_drinks r (sp_wellOn r (r 1)).toNatClampNeg c.toNatClampNeg else nI 0) Λ J (fun I' => I' = I) (fun I' => RouRel I' x (tb) (n) (err) (r) (ct) (hs) (kp) (sn) (w) ∧ RFr x I I')) am_never := by
  refine am_ctH_of (own := RL) rfl (by decide) (Nat.le_of_ble_eq_true rfl) (fun X C => ?_)
  change am_K G X { frames := 8, cells := 2, slots := 12, locals := 133 } 4 Λ I J 0 0 0 [(0, .ref x), (1, .int c), (2, .ref o)] []
  refine k_aload_n C (f := 2) (i := 2) (p := 2) rfl rfl dL_wouldDrink_0 ?_
  refine k_iconst C ic_0 dL_wouldDrink_1 ?_
  refine k_aload_n C (f := 0) (i := 0) (p := 0) rfl rfl dL_wouldDrink_2 ?_
  refine k_iload_n C (f := 1) (i := 1) (p := 1) rfl rfl dL_wouldDrink_3 ?_
  refine k_callV C s_L_111 h_X5_wouldDrink (L5_s hx) rfl (ct_X5_wouldDrink hx hR hok) rfl rfl (Nat.le_of_ble_eq_true rfl) ⟨Nat.le_of_ble_eq_true rfl, Nat.le_of_ble_eq_true rfl⟩ ⟨Nat.le_of_ble_eq_true rfl, Nat.le_of_ble_eq_true rfl⟩ dL_wouldDrink_4 ?_ ?_
  · skip
    intro v Λ' I' J' hv
    obtain ⟨rfl, hcd, rfl, rfl, hP⟩ := hv
    refine k_i2l C (rfl) dL_wouldDrink_7 ?_
    refine k_last C (ho) (by first | rfl | assumption) (by omega) (by decide) dL_wouldDrink_8 ?_
    refine k_goto C (tgt := 18) (by decide) dL_wouldDrink_9 ?_
    refine k_iconst C ic_0 dL_wouldDrink_18 ?_
    exact k_iret C (Nat.le_of_ble_eq_true rfl) (Nat.le_of_ble_eq_true rfl) (WC_ok hcd (rfl) hP) dL_wouldDrink_19
  · skip
    intro E Λ' I' J' hp
    obtain ⟨(⟨rfl, hcd⟩ | ⟨rfl, hcd⟩), rfl, rfl, rfl⟩ := hp
    · skip
      refine k_catch C [] ⟨0, 9, 12, 36⟩ [⟨0, 9, 15, 13⟩] rfl (fun z hz => nomatch hz) (by decide) (by decide) am_cl_RL_36 am_ca_36 (fun q => ?_)
      refine k_astore_n C (f := 3) (i := 3) (lv := [(3, _), (0, _), (1, _), (2, _)]) rfl (Nat.le_of_ble_eq_true rfl) rfl dL_wouldDrink_12 ?_
      refine k_iconst C ic_1 dL_wouldDrink_13 ?_
      exact k_iret C (Nat.le_of_ble_eq_true rfl) (Nat.le_of_ble_eq_true rfl) (WC_no hcd (by decide) rfl) dL_wouldDrink_14
    · skip
      refine k_catch C [⟨0, 9, 12, 36⟩] ⟨0, 9, 15, 13⟩ [] rfl (fun z hz => Or.inr (by rw [List.mem_singleton.mp hz]; exact ⟨by decide, "java/lang/IndexOutOfBoundsException", am_cl_RL_36, 37, rfl⟩)) (by decide) (by decide) am_cl_RL_13 am_ca_13 (fun q => ?_)
      refine k_astore_n C (f := 3) (i := 3) (lv := [(3, _), (0, _), (1, _), (2, _)]) rfl (Nat.le_of_ble_eq_true rfl) rfl dL_wouldDrink_15 ?_
      refine k_iconst C ic_2 dL_wouldDrink_16 ?_
      exact k_iret C (Nat.le_of_ble_eq_true rfl) (Nat.le_of_ble_eq_true rfl) (WC_no hcd (by decide) rfl) dL_wouldDrink_17
set_option maxHeartbeats 4000000 in
set_option maxRecDepth 100000 in
theorem ct_L_travel {G : am_G} {Λ : am_L} {I : am_I} {J : am_J} {x n ct : Nat} {tb : Nat → Nat} {err : Int32} {r : Nat → Int32} {hs : Nat → Nat → Int32} {kp : Nat → Bool} {sn : Nat → Nat → Int32} {w : Nat × (Nat → Int32)} {ld : Nat} {o : Nat}  (hx : RouLay Λ x) (hR : RouRel I x tb n err r ct hs kp sn w) (hok : RowOk r) (hld : r 4 = nI ld) (hlc : ld < sp_nc r) (ho : Λ.1 o = (5, 1)) : am_CtH G yL_travel cL_travel 3 (some .int) [(0, 8, 11, 13)] { frames := 7, cells := 1, slots := 6, locals := 131 } [.ref x, .ref o] Λ I J (WC o (if ¬ r 0 ≤ r 1 ∧ (r 2 < nI 200 ∧ 0 < sp_living r) then 0 else 1) (sp_dist r ld) Λ J (fun I' => I' = I) (fun I' => RouRel I' x (tb) (n) (err) (sp_travel r ld) ((min 8 (ct + 1))) ((sp_push r hs)) (kp) (sn) (w) ∧ RFr x I I')) am_never := by
  refine am_ctH_of (own := RL) rfl (by decide) (Nat.le_of_ble_eq_true rfl) (fun X C => ?_)
  change am_K G X { frames := 7, cells := 1, slots := 6, locals := 131 } 3 Λ I J 0 0 0 [(0, .ref x), (1, .ref o)] []
  refine k_aload_n C (f := 1) (i := 1) (p := 1) rfl rfl dL_travel_0 ?_
  refine k_iconst C ic_0 dL_travel_1 ?_
  refine k_aload_n C (f := 0) (i := 0) (p := 0) rfl rfl dL_travel_2 ?_
  refine k_callV C s_L_114 h_X5_travel (L5_s hx) rfl (ct_X5_travel hx hR hok hld hlc) rfl rfl (Nat.le_of_ble_eq_true rfl) ⟨Nat.le_of_ble_eq_true rfl, Nat.le_of_ble_eq_true rfl⟩ ⟨Nat.le_of_ble_eq_true rfl, Nat.le_of_ble_eq_true rfl⟩ dL_travel_3 ?_ ?_
  · skip
    intro v Λ' I' J' hv
    obtain ⟨rfl, hcd, rfl, rfl, hP⟩ := hv
    refine k_i2l C (rfl) dL_travel_6 ?_
    refine k_last C (ho) (by first | rfl | assumption) (by omega) (by decide) dL_travel_7 ?_
    refine k_goto C (tgt := 14) (by decide) dL_travel_8 ?_
    refine k_iconst C ic_0 dL_travel_14 ?_
    exact k_iret C (Nat.le_of_ble_eq_true rfl) (Nat.le_of_ble_eq_true rfl) (WC_ok hcd (rfl) hP) dL_travel_15
  · skip
    intro E Λ' I' J' hp
    obtain ⟨rfl, hcd, rfl, rfl, rfl⟩ := hp
    refine k_catch C [] ⟨0, 8, 11, 13⟩ [] rfl (fun z hz => nomatch hz) (by decide) (by decide) am_cl_RL_13 am_ca_13 (fun q => ?_)
    refine k_astore_n C (f := 2) (i := 2) (lv := [(2, _), (0, _), (1, _)]) rfl (Nat.le_of_ble_eq_true rfl) rfl dL_travel_11 ?_
    refine k_iconst C ic_1 dL_travel_12 ?_
    exact k_iret C (Nat.le_of_ble_eq_true rfl) (Nat.le_of_ble_eq_true rfl) (WC_no hcd (by decide) rfl) dL_travel_13
set_option maxHeartbeats 4000000 in
set_option maxRecDepth 100000 in
theorem ct_L_rest {G : am_G} {Λ : am_L} {I : am_I} {J : am_J} {x n ct : Nat} {tb : Nat → Nat} {err : Int32} {r : Nat → Int32} {hs : Nat → Nat → Int32} {kp : Nat → Bool} {sn : Nat → Nat → Int32} {w : Nat × (Nat → Int32)} {ld : Nat} {o : Nat}  (hx : RouLay Λ x) (hR : RouRel I x tb n err r ct hs kp sn w) (hok : RowOk r) (hld : r 4 = nI ld) (hlc : ld < sp_nc r) (ho : Λ.1 o = (5, 1)) : am_CtH G yL_rest cL_rest 3 (some .int) [(0, 8, 11, 13)] { frames := 7, cells := 1, slots := 6, locals := 129 } [.ref x, .ref o] Λ I J (WC o (if r 2 < nI 200 ∧ 0 < sp_living r then 0 else 1) (nI (sp_living (sp_rest r))) Λ J (fun I' => I' = I) (fun I' => RouRel I' x (tb) (n) (err) (sp_rest r) ((min 8 (ct + 1))) ((sp_push r hs)) (kp) (sn) (w) ∧ RFr x I I')) am_never := by
  refine am_ctH_of (own := RL) rfl (by decide) (Nat.le_of_ble_eq_true rfl) (fun X C => ?_)
  change am_K G X { frames := 7, cells := 1, slots := 6, locals := 129 } 3 Λ I J 0 0 0 [(0, .ref x), (1, .ref o)] []
  refine k_aload_n C (f := 1) (i := 1) (p := 1) rfl rfl dL_rest_0 ?_
  refine k_iconst C ic_0 dL_rest_1 ?_
  refine k_aload_n C (f := 0) (i := 0) (p := 0) rfl rfl dL_rest_2 ?_
  refine k_callV C s_L_117 h_X5_rest (L5_s hx) rfl (ct_X5_rest hx hR hok hld hlc) rfl rfl (Nat.le_of_ble_eq_true rfl) ⟨Nat.le_of_ble_eq_true rfl, Nat.le_of_ble_eq_true rfl⟩ ⟨Nat.le_of_ble_eq_true rfl, Nat.le_of_ble_eq_true rfl⟩ dL_rest_3 ?_ ?_
  · skip
    intro v Λ' I' J' hv
    obtain ⟨rfl, hcd, rfl, rfl, hP⟩ := hv
    refine k_i2l C (rfl) dL_rest_6 ?_
    refine k_last C (ho) (by first | rfl | assumption) (by omega) (by decide) dL_rest_7 ?_
    refine k_goto C (tgt := 14) (by decide) dL_rest_8 ?_
    refine k_iconst C ic_0 dL_rest_14 ?_
    exact k_iret C (Nat.le_of_ble_eq_true rfl) (Nat.le_of_ble_eq_true rfl) (WC_ok hcd (rfl) hP) dL_rest_15
  · skip
    intro E Λ' I' J' hp
    obtain ⟨rfl, hcd, rfl, rfl, rfl⟩ := hp
    refine k_catch C [] ⟨0, 8, 11, 13⟩ [] rfl (fun z hz => nomatch hz) (by decide) (by decide) am_cl_RL_13 am_ca_13 (fun q => ?_)
    refine k_astore_n C (f := 2) (i := 2) (lv := [(2, _), (0, _), (1, _)]) rfl (Nat.le_of_ble_eq_true rfl) rfl dL_rest_11 ?_
    refine k_iconst C ic_1 dL_rest_12 ?_
    exact k_iret C (Nat.le_of_ble_eq_true rfl) (Nat.le_of_ble_eq_true rfl) (WC_no hcd (by decide) rfl) dL_rest_13
set_option maxHeartbeats 4000000 in
set_option maxRecDepth 100000 in
theorem ct_L_drink {G : am_G} {Λ : am_L} {I : am_I} {J : am_J} {x n ct : Nat} {tb : Nat → Nat} {err : Int32} {r : Nat → Int32} {hs : Nat → Nat → Int32} {kp : Nat → Bool} {sn : Nat → Nat → Int32} {w : Nat × (Nat → Int32)} {o : Nat}  (hx : RouLay Λ x) (hR : RouRel I x tb n err r ct hs kp sn w) (hok : RowOk r) (ho : Λ.1 o = (5, 1)) : am_CtH G yL_drink cL_drink 3 (some .int) [(0, 8, 11, 13)] { frames := 7, cells := 1, slots := 6, locals := 112 } [.ref x, .ref o] Λ I J (WC o (if sp_wellOn r (r 1) = -1 then 1 else 0) (sp_sumTo (sp_drinks r (sp_wellOn r (r 1)).toNatClampNeg) (sp_nc r)) Λ J (fun I' => I' = I) (fun I' => RouRel I' x (tb) (n) (err) (sp_drink r (sp_drinks r (sp_wellOn r (r 1)).toNatClampNeg) (sp_wellOn r (r 1)).toNatClampNeg) ((min 8 (ct + 1))) ((sp_push r hs)) (kp) (sn) (w) ∧ RFr x I I')) am_never := by
  refine am_ctH_of (own := RL) rfl (by decide) (Nat.le_of_ble_eq_true rfl) (fun X C => ?_)
  change am_K G X { frames := 7, cells := 1, slots := 6, locals := 112 } 3 Λ I J 0 0 0 [(0, .ref x), (1, .ref o)] []
  refine k_aload_n C (f := 1) (i := 1) (p := 1) rfl rfl dL_drink_0 ?_
  refine k_iconst C ic_0 dL_drink_1 ?_
  refine k_aload_n C (f := 0) (i := 0) (p := 0) rfl rfl dL_drink_2 ?_
  refine k_callV C s_L_120 h_X5_drink (L5_s hx) rfl (ct_X5_drink hx hR hok) rfl rfl (Nat.le_of_ble_eq_true rfl) ⟨Nat.le_of_ble_eq_true rfl, Nat.le_of_ble_eq_true rfl⟩ ⟨Nat.le_of_ble_eq_true rfl, Nat.le_of_ble_eq_true rfl⟩ dL_drink_3 ?_ ?_
  · skip
    intro v Λ' I' J' hv
    obtain ⟨rfl, hcd, rfl, rfl, hP⟩ := hv
    refine k_i2l C (rfl) dL_drink_6 ?_
    refine k_last C (ho) (by first | rfl | assumption) (by omega) (by decide) dL_drink_7 ?_
    refine k_goto C (tgt := 14) (by decide) dL_drink_8 ?_
    refine k_iconst C ic_0 dL_drink_14 ?_
    exact k_iret C (Nat.le_of_ble_eq_true rfl) (Nat.le_of_ble_eq_true rfl) (WC_ok hcd (rfl) hP) dL_drink_15
  · skip
    intro E Λ' I' J' hp
    obtain ⟨rfl, hcd, rfl, rfl, rfl⟩ := hp
    refine k_catch C [] ⟨0, 8, 11, 13⟩ [] rfl (fun z hz => nomatch hz) (by decide) (by decide) am_cl_RL_13 am_ca_13 (fun q => ?_)
    refine k_astore_n C (f := 2) (i := 2) (lv := [(2, _), (0, _), (1, _)]) rfl (Nat.le_of_ble_eq_true rfl) rfl dL_drink_11 ?_
    refine k_iconst C ic_1 dL_drink_12 ?_
    exact k_iret C (Nat.le_of_ble_eq_true rfl) (Nat.le_of_ble_eq_true rfl) (WC_no hcd (by decide) rfl) dL_drink_13
set_option maxHeartbeats 4000000 in
set_option maxRecDepth 100000 in
theorem ct_L_setLeader {G : am_G} {Λ : am_L} {I : am_I} {J : am_J} {x n ct : Nat} {tb : Nat → Nat} {err : Int32} {r : Nat → Int32} {hs : Nat → Nat → Int32} {kp : Nat → Bool} {sn : Nat → Nat → Int32} {w : Nat × (Nat → Int32)} {c : Int32}{o : Nat}  (hx : RouLay Λ x) (hR : RouRel I x tb n err r ct hs kp sn w) (hok : RowOk r) (ho : Λ.1 o = (5, 1)) : am_CtH G yL_setLeader cL_setLeader 4 (some .int) [(0, 9, 12, 36), (0, 9, 15, 13)] { frames := 8, cells := 2, slots := 12, locals := 133 } [.ref x, .int c, .ref o] Λ I J (WC o (if cdI (sp_nc r) c = 0 then (if r (16 + 8 * c.toNatClampNeg) < nI 3 then 0 else 2) else 1) (r 4) Λ J (fun I' => I' = I) (fun I' => RouRel I' x (tb) (n) (err) (upd r 4 c) ((min 8 (ct + 1))) ((sp_push r hs)) (kp) (sn) (w) ∧ RFr x I I')) am_never := by
  refine am_ctH_of (own := RL) rfl (by decide) (Nat.le_of_ble_eq_true rfl) (fun X C => ?_)
  change am_K G X { frames := 8, cells := 2, slots := 12, locals := 133 } 4 Λ I J 0 0 0 [(0, .ref x), (1, .int c), (2, .ref o)] []
  refine k_aload_n C (f := 2) (i := 2) (p := 2) rfl rfl dL_setLeader_0 ?_
  refine k_iconst C ic_0 dL_setLeader_1 ?_
  refine k_aload_n C (f := 0) (i := 0) (p := 0) rfl rfl dL_setLeader_2 ?_
  refine k_iload_n C (f := 1) (i := 1) (p := 1) rfl rfl dL_setLeader_3 ?_
  refine k_callV C s_L_123 h_X5_setLeader (L5_s hx) rfl (ct_X5_setLeader hx hR hok) rfl rfl (Nat.le_of_ble_eq_true rfl) ⟨Nat.le_of_ble_eq_true rfl, Nat.le_of_ble_eq_true rfl⟩ ⟨Nat.le_of_ble_eq_true rfl, Nat.le_of_ble_eq_true rfl⟩ dL_setLeader_4 ?_ ?_
  · skip
    intro v Λ' I' J' hv
    obtain ⟨rfl, hcd, rfl, rfl, hP⟩ := hv
    refine k_i2l C (rfl) dL_setLeader_7 ?_
    refine k_last C (ho) (by first | rfl | assumption) (by omega) (by decide) dL_setLeader_8 ?_
    refine k_goto C (tgt := 18) (by decide) dL_setLeader_9 ?_
    refine k_iconst C ic_0 dL_setLeader_18 ?_
    exact k_iret C (Nat.le_of_ble_eq_true rfl) (Nat.le_of_ble_eq_true rfl) (WC_ok hcd (rfl) hP) dL_setLeader_19
  · skip
    intro E Λ' I' J' hp
    obtain ⟨(⟨rfl, hcd⟩ | ⟨rfl, hcd⟩), rfl, rfl, rfl⟩ := hp
    · skip
      refine k_catch C [] ⟨0, 9, 12, 36⟩ [⟨0, 9, 15, 13⟩] rfl (fun z hz => nomatch hz) (by decide) (by decide) am_cl_RL_36 am_ca_36 (fun q => ?_)
      refine k_astore_n C (f := 3) (i := 3) (lv := [(3, _), (0, _), (1, _), (2, _)]) rfl (Nat.le_of_ble_eq_true rfl) rfl dL_setLeader_12 ?_
      refine k_iconst C ic_1 dL_setLeader_13 ?_
      exact k_iret C (Nat.le_of_ble_eq_true rfl) (Nat.le_of_ble_eq_true rfl) (WC_no hcd (by decide) rfl) dL_setLeader_14
    · skip
      refine k_catch C [⟨0, 9, 12, 36⟩] ⟨0, 9, 15, 13⟩ [] rfl (fun z hz => Or.inr (by rw [List.mem_singleton.mp hz]; exact ⟨by decide, "java/lang/IndexOutOfBoundsException", am_cl_RL_36, 37, rfl⟩)) (by decide) (by decide) am_cl_RL_13 am_ca_13 (fun q => ?_)
      refine k_astore_n C (f := 3) (i := 3) (lv := [(3, _), (0, _), (1, _), (2, _)]) rfl (Nat.le_of_ble_eq_true rfl) rfl dL_setLeader_15 ?_
      refine k_iconst C ic_2 dL_setLeader_16 ?_
      exact k_iret C (Nat.le_of_ble_eq_true rfl) (Nat.le_of_ble_eq_true rfl) (WC_no hcd (by decide) rfl) dL_setLeader_17
set_option maxHeartbeats 4000000 in
set_option maxRecDepth 100000 in
theorem ct_L_putOn {G : am_G} {Λ : am_L} {I : am_I} {J : am_J} {x n ct : Nat} {tb : Nat → Nat} {err : Int32} {r : Nat → Int32} {hs : Nat → Nat → Int32} {kp : Nat → Bool} {sn : Nat → Nat → Int32} {w : Nat × (Nat → Int32)} {a c : Int32}{o : Nat}  (hx : RouLay Λ x) (hR : RouRel I x tb n err r ct hs kp sn w) (hok : RowOk r) (ho : Λ.1 o = (5, 1)) : am_CtH G yL_putOn cL_putOn 5 (some .int) [(0, 10, 13, 36), (0, 10, 17, 13)] { frames := 8, cells := 5, slots := 30, locals := 133 } [.ref x, .int a, .int c, .ref o] Λ I J (WC o (if cdI (sp_nl r) a = 0 ∧ cdI (sp_nc r) c = 0 then (if (r (16 + 8 * c.toNatClampNeg) < nI 3 ∧ ¬ r (142 + 4 * a.toNatClampNeg) = c ∧ (if r (142 + 4 * a.toNatClampNeg) = -1 then r (143 + 4 * a.toNatClampNeg) else r 1) = r 1 ∧ ¬ sp_free r c.toNatClampNeg < r (140 + 4 * a.toNatClampNeg)) then 0 else 2) else 1) (sp_free (sp_hang (sp_lay r a.toNatClampNeg) a.toNatClampNeg c.toNatClampNeg) c.toNatClampNeg) Λ J (fun I' => I' = I) (fun I' => RouRel I' x (tb) (n) (err) (sp_hang (sp_lay r a.toNatClampNeg) a.toNatClampNeg c.toNatClampNeg) ((min 8 (ct + 1))) ((sp_push r hs)) (kp) (sn) (w) ∧ RFr x I I')) am_never := by
  refine am_ctH_of (own := RL) rfl (by decide) (Nat.le_of_ble_eq_true rfl) (fun X C => ?_)
  change am_K G X { frames := 8, cells := 5, slots := 30, locals := 133 } 5 Λ I J 0 0 0 [(0, .ref x), (1, .int a), (2, .int c), (3, .ref o)] []
  refine k_aload_n C (f := 3) (i := 3) (p := 3) rfl rfl dL_putOn_0 ?_
  refine k_iconst C ic_0 dL_putOn_1 ?_
  refine k_aload_n C (f := 0) (i := 0) (p := 0) rfl rfl dL_putOn_2 ?_
  refine k_iload_n C (f := 1) (i := 1) (p := 1) rfl rfl dL_putOn_3 ?_
  refine k_iload_n C (f := 2) (i := 2) (p := 2) rfl rfl dL_putOn_4 ?_
  refine k_callV C s_L_126 h_X5_putOn (L5_s hx) rfl (ct_X5_putOn hx hR hok) rfl rfl (Nat.le_of_ble_eq_true rfl) ⟨Nat.le_of_ble_eq_true rfl, Nat.le_of_ble_eq_true rfl⟩ ⟨Nat.le_of_ble_eq_true rfl, Nat.le_of_ble_eq_true rfl⟩ dL_putOn_5 ?_ ?_
  · skip
    intro v Λ' I' J' hv
    obtain ⟨rfl, hcd, rfl, rfl, hP⟩ := hv
    refine k_i2l C (rfl) dL_putOn_8 ?_
    refine k_last C (ho) (by first | rfl | assumption) (by omega) (by decide) dL_putOn_9 ?_
    refine k_goto C (tgt := 21) (by decide) dL_putOn_10 ?_
    refine k_iconst C ic_0 dL_putOn_21 ?_
    exact k_iret C (Nat.le_of_ble_eq_true rfl) (Nat.le_of_ble_eq_true rfl) (WC_ok hcd (rfl) hP) dL_putOn_22
  · skip
    intro E Λ' I' J' hp
    obtain ⟨(⟨rfl, hcd⟩ | ⟨rfl, hcd⟩), rfl, rfl, rfl⟩ := hp
    · skip
      refine k_catch C [] ⟨0, 10, 13, 36⟩ [⟨0, 10, 17, 13⟩] rfl (fun z hz => nomatch hz) (by decide) (by decide) am_cl_RL_36 am_ca_36 (fun q => ?_)
      refine k_astore C (i := 4) (lv := [(4, _), (0, _), (1, _), (2, _), (3, _)]) (Nat.le_of_ble_eq_true rfl) rfl dL_putOn_13 ?_
      refine k_iconst C ic_1 dL_putOn_15 ?_
      exact k_iret C (Nat.le_of_ble_eq_true rfl) (Nat.le_of_ble_eq_true rfl) (WC_no hcd (by decide) rfl) dL_putOn_16
    · skip
      refine k_catch C [⟨0, 10, 13, 36⟩] ⟨0, 10, 17, 13⟩ [] rfl (fun z hz => Or.inr (by rw [List.mem_singleton.mp hz]; exact ⟨by decide, "java/lang/IndexOutOfBoundsException", am_cl_RL_36, 37, rfl⟩)) (by decide) (by decide) am_cl_RL_13 am_ca_13 (fun q => ?_)
      refine k_astore C (i := 4) (lv := [(4, _), (0, _), (1, _), (2, _), (3, _)]) (Nat.le_of_ble_eq_true rfl) rfl dL_putOn_17 ?_
      refine k_iconst C ic_2 dL_putOn_19 ?_
      exact k_iret C (Nat.le_of_ble_eq_true rfl) (Nat.le_of_ble_eq_true rfl) (WC_no hcd (by decide) rfl) dL_putOn_20
set_option maxHeartbeats 4000000 in
set_option maxRecDepth 100000 in
theorem ct_L_takeOff {G : am_G} {Λ : am_L} {I : am_I} {J : am_J} {x n ct : Nat} {tb : Nat → Nat} {err : Int32} {r : Nat → Int32} {hs : Nat → Nat → Int32} {kp : Nat → Bool} {sn : Nat → Nat → Int32} {w : Nat × (Nat → Int32)} {c : Int32}{o : Nat}  (hx : RouLay Λ x) (hR : RouRel I x tb n err r ct hs kp sn w) (hok : RowOk r) (ho : Λ.1 o = (5, 1)) : am_CtH G yL_takeOff cL_takeOff 4 (some .int) [(0, 9, 12, 36), (0, 9, 15, 13)] { frames := 8, cells := 2, slots := 12, locals := 133 } [.ref x, .int c, .ref o] Λ I J (WC o (if cdI (sp_nl r) c = 0 then (if r (142 + 4 * c.toNatClampNeg) = -1 then 2 else 0) else 1) (r (142 + 4 * c.toNatClampNeg)) Λ J (fun I' => I' = I) (fun I' => RouRel I' x (tb) (n) (err) (sp_lay r c.toNatClampNeg) ((min 8 (ct + 1))) ((sp_push r hs)) (kp) (sn) (w) ∧ RFr x I I')) am_never := by
  refine am_ctH_of (own := RL) rfl (by decide) (Nat.le_of_ble_eq_true rfl) (fun X C => ?_)
  change am_K G X { frames := 8, cells := 2, slots := 12, locals := 133 } 4 Λ I J 0 0 0 [(0, .ref x), (1, .int c), (2, .ref o)] []
  refine k_aload_n C (f := 2) (i := 2) (p := 2) rfl rfl dL_takeOff_0 ?_
  refine k_iconst C ic_0 dL_takeOff_1 ?_
  refine k_aload_n C (f := 0) (i := 0) (p := 0) rfl rfl dL_takeOff_2 ?_
  refine k_iload_n C (f := 1) (i := 1) (p := 1) rfl rfl dL_takeOff_3 ?_
  refine k_callV C s_L_130 h_X5_takeOff (L5_s hx) rfl (ct_X5_takeOff hx hR hok) rfl rfl (Nat.le_of_ble_eq_true rfl) ⟨Nat.le_of_ble_eq_true rfl, Nat.le_of_ble_eq_true rfl⟩ ⟨Nat.le_of_ble_eq_true rfl, Nat.le_of_ble_eq_true rfl⟩ dL_takeOff_4 ?_ ?_
  · skip
    intro v Λ' I' J' hv
    obtain ⟨rfl, hcd, rfl, rfl, hP⟩ := hv
    refine k_i2l C (rfl) dL_takeOff_7 ?_
    refine k_last C (ho) (by first | rfl | assumption) (by omega) (by decide) dL_takeOff_8 ?_
    refine k_goto C (tgt := 18) (by decide) dL_takeOff_9 ?_
    refine k_iconst C ic_0 dL_takeOff_18 ?_
    exact k_iret C (Nat.le_of_ble_eq_true rfl) (Nat.le_of_ble_eq_true rfl) (WC_ok hcd (rfl) hP) dL_takeOff_19
  · skip
    intro E Λ' I' J' hp
    obtain ⟨(⟨rfl, hcd⟩ | ⟨rfl, hcd⟩), rfl, rfl, rfl⟩ := hp
    · skip
      refine k_catch C [] ⟨0, 9, 12, 36⟩ [⟨0, 9, 15, 13⟩] rfl (fun z hz => nomatch hz) (by decide) (by decide) am_cl_RL_36 am_ca_36 (fun q => ?_)
      refine k_astore_n C (f := 3) (i := 3) (lv := [(3, _), (0, _), (1, _), (2, _)]) rfl (Nat.le_of_ble_eq_true rfl) rfl dL_takeOff_12 ?_
      refine k_iconst C ic_1 dL_takeOff_13 ?_
      exact k_iret C (Nat.le_of_ble_eq_true rfl) (Nat.le_of_ble_eq_true rfl) (WC_no hcd (by decide) rfl) dL_takeOff_14
    · skip
      refine k_catch C [⟨0, 9, 12, 36⟩] ⟨0, 9, 15, 13⟩ [] rfl (fun z hz => Or.inr (by rw [List.mem_singleton.mp hz]; exact ⟨by decide, "java/lang/IndexOutOfBoundsException", am_cl_RL_36, 37, rfl⟩)) (by decide) (by decide) am_cl_RL_13 am_ca_13 (fun q => ?_)
      refine k_astore_n C (f := 3) (i := 3) (lv := [(3, _), (0, _), (1, _), (2, _)]) rfl (Nat.le_of_ble_eq_true rfl) rfl dL_takeOff_15 ?_
      refine k_iconst C ic_2 dL_takeOff_16 ?_
      exact k_iret C (Nat.le_of_ble_eq_true rfl) (Nat.le_of_ble_eq_true rfl) (WC_no hcd (by decide) rfl) dL_takeOff_17
set_option maxHeartbeats 4000000 in
set_option maxRecDepth 100000 in
theorem ct_L_addLoad {G : am_G} {Λ : am_L} {I : am_I} {J : am_J} {x n ct : Nat} {tb : Nat → Nat} {err : Int32} {r : Nat → Int32} {hs : Nat → Nat → Int32} {kp : Nat → Bool} {sn : Nat → Nat → Int32} {w : Nat × (Nat → Int32)} {a b : Int32}{o : Nat}  (hx : RouLay Λ x) (hR : RouRel I x tb n err r ct hs kp sn w) (hok : RowOk r) (ho : Λ.1 o = (5, 1)) : am_CtH G yL_addLoad cL_addLoad 5 (some .int) [(0, 10, 13, 19), (0, 10, 17, 13)] { frames := 7, cells := 2, slots := 12, locals := 112 } [.ref x, .int a, .int b, .ref o] Λ I J (WC o (if (a < nI 1 ∨ nI 99 < a ∨ b < nI 1 ∨ nI 99 < b) then 1 else if 20 ≤ sp_nl r then 2 else 0) (nI (sp_nl r)) Λ J (fun I' => I' = I) (fun I' => RouRel I' x (tb) (n) (err) (sp_bring r a b) ((min 8 (ct + 1))) ((sp_push r hs)) (kp) (sn) (w) ∧ RFr x I I')) am_never := by
  refine am_ctH_of (own := RL) rfl (by decide) (Nat.le_of_ble_eq_true rfl) (fun X C => ?_)
  change am_K G X { frames := 7, cells := 2, slots := 12, locals := 112 } 5 Λ I J 0 0 0 [(0, .ref x), (1, .int a), (2, .int b), (3, .ref o)] []
  refine k_aload_n C (f := 3) (i := 3) (p := 3) rfl rfl dL_addLoad_0 ?_
  refine k_iconst C ic_0 dL_addLoad_1 ?_
  refine k_aload_n C (f := 0) (i := 0) (p := 0) rfl rfl dL_addLoad_2 ?_
  refine k_iload_n C (f := 1) (i := 1) (p := 1) rfl rfl dL_addLoad_3 ?_
  refine k_iload_n C (f := 2) (i := 2) (p := 2) rfl rfl dL_addLoad_4 ?_
  refine k_callV C s_L_133 h_X5_addLoad (L5_s hx) rfl (ct_X5_addLoad hx hR hok) rfl rfl (Nat.le_of_ble_eq_true rfl) ⟨Nat.le_of_ble_eq_true rfl, Nat.le_of_ble_eq_true rfl⟩ ⟨Nat.le_of_ble_eq_true rfl, Nat.le_of_ble_eq_true rfl⟩ dL_addLoad_5 ?_ ?_
  · skip
    intro v Λ' I' J' hv
    obtain ⟨rfl, hcd, rfl, rfl, hP⟩ := hv
    refine k_i2l C (rfl) dL_addLoad_8 ?_
    refine k_last C (ho) (by first | rfl | assumption) (by omega) (by decide) dL_addLoad_9 ?_
    refine k_goto C (tgt := 21) (by decide) dL_addLoad_10 ?_
    refine k_iconst C ic_0 dL_addLoad_21 ?_
    exact k_iret C (Nat.le_of_ble_eq_true rfl) (Nat.le_of_ble_eq_true rfl) (WC_ok hcd (rfl) hP) dL_addLoad_22
  · skip
    intro E Λ' I' J' hp
    obtain ⟨(⟨rfl, hcd⟩ | ⟨rfl, hcd⟩), rfl, rfl, rfl⟩ := hp
    · skip
      refine k_catch C [] ⟨0, 10, 13, 19⟩ [⟨0, 10, 17, 13⟩] rfl (fun z hz => nomatch hz) (by decide) (by decide) am_cl_RL_19 am_ca_19 (fun q => ?_)
      refine k_astore C (i := 4) (lv := [(4, _), (0, _), (1, _), (2, _), (3, _)]) (Nat.le_of_ble_eq_true rfl) rfl dL_addLoad_13 ?_
      refine k_iconst C ic_1 dL_addLoad_15 ?_
      exact k_iret C (Nat.le_of_ble_eq_true rfl) (Nat.le_of_ble_eq_true rfl) (WC_no hcd (by decide) rfl) dL_addLoad_16
    · skip
      refine k_catch C [⟨0, 10, 13, 19⟩] ⟨0, 10, 17, 13⟩ [] rfl (fun z hz => Or.inr (by rw [List.mem_singleton.mp hz]; exact ⟨by decide, "java/lang/IllegalArgumentException", am_cl_RL_19, 17, rfl⟩)) (by decide) (by decide) am_cl_RL_13 am_ca_13 (fun q => ?_)
      refine k_astore C (i := 4) (lv := [(4, _), (0, _), (1, _), (2, _), (3, _)]) (Nat.le_of_ble_eq_true rfl) rfl dL_addLoad_17 ?_
      refine k_iconst C ic_2 dL_addLoad_19 ?_
      exact k_iret C (Nat.le_of_ble_eq_true rfl) (Nat.le_of_ble_eq_true rfl) (WC_no hcd (by decide) rfl) dL_addLoad_20
set_option maxHeartbeats 4000000 in
set_option maxRecDepth 100000 in
theorem ct_L_undo {G : am_G} {Λ : am_L} {I : am_I} {J : am_J} {x n ct : Nat} {tb : Nat → Nat} {err : Int32} {r : Nat → Int32} {hs : Nat → Nat → Int32} {kp : Nat → Bool} {sn : Nat → Nat → Int32} {w : Nat × (Nat → Int32)} {o : Nat}  (hx : RouLay Λ x) (hR : RouRel I x tb n err r ct hs kp sn w) (hok : RowOk r) (ho : Λ.1 o = (5, 1)) : am_CtH G yL_undo cL_undo 3 (some .int) [(0, 8, 11, 13)] { frames := 7, cells := 1, slots := 6, locals := 110 } [.ref x, .ref o] Λ I J (WC o (if ct = 0 then 1 else 0) (nI (ct - 1)) Λ J (fun I' => I' = I) (fun I' => RouRel I' x (tb) (n) (err) (hs 0) (ct - 1) (fun s => hs (s + 1)) (kp) (sn) (w) ∧ RFr x I I')) am_never := by
  refine am_ctH_of (own := RL) rfl (by decide) (Nat.le_of_ble_eq_true rfl) (fun X C => ?_)
  change am_K G X { frames := 7, cells := 1, slots := 6, locals := 110 } 3 Λ I J 0 0 0 [(0, .ref x), (1, .ref o)] []
  refine k_aload_n C (f := 1) (i := 1) (p := 1) rfl rfl dL_undo_0 ?_
  refine k_iconst C ic_0 dL_undo_1 ?_
  refine k_aload_n C (f := 0) (i := 0) (p := 0) rfl rfl dL_undo_2 ?_
  refine k_callV C s_L_136 h_X5_undo (L5_s hx) rfl (ct_X5_undo hx hR hok) rfl rfl (Nat.le_of_ble_eq_true rfl) ⟨Nat.le_of_ble_eq_true rfl, Nat.le_of_ble_eq_true rfl⟩ ⟨Nat.le_of_ble_eq_true rfl, Nat.le_of_ble_eq_true rfl⟩ dL_undo_3 ?_ ?_
  · skip
    intro v Λ' I' J' hv
    obtain ⟨rfl, hcd, rfl, rfl, hP⟩ := hv
    refine k_i2l C (rfl) dL_undo_6 ?_
    refine k_last C (ho) (by first | rfl | assumption) (by omega) (by decide) dL_undo_7 ?_
    refine k_goto C (tgt := 14) (by decide) dL_undo_8 ?_
    refine k_iconst C ic_0 dL_undo_14 ?_
    exact k_iret C (Nat.le_of_ble_eq_true rfl) (Nat.le_of_ble_eq_true rfl) (WC_ok hcd (rfl) hP) dL_undo_15
  · skip
    intro E Λ' I' J' hp
    obtain ⟨rfl, hcd, rfl, rfl, rfl⟩ := hp
    refine k_catch C [] ⟨0, 8, 11, 13⟩ [] rfl (fun z hz => nomatch hz) (by decide) (by decide) am_cl_RL_13 am_ca_13 (fun q => ?_)
    refine k_astore_n C (f := 2) (i := 2) (lv := [(2, _), (0, _), (1, _)]) rfl (Nat.le_of_ble_eq_true rfl) rfl dL_undo_11 ?_
    refine k_iconst C ic_1 dL_undo_12 ?_
    exact k_iret C (Nat.le_of_ble_eq_true rfl) (Nat.le_of_ble_eq_true rfl) (WC_no hcd (by decide) rfl) dL_undo_13
set_option maxHeartbeats 4000000 in
set_option maxRecDepth 100000 in
theorem ct_L_saveSnapshot {G : am_G} {Λ : am_L} {I : am_I} {J : am_J} {x n ct : Nat} {tb : Nat → Nat} {err : Int32} {r : Nat → Int32} {hs : Nat → Nat → Int32} {kp : Nat → Bool} {sn : Nat → Nat → Int32} {w : Nat × (Nat → Int32)} {c : Int32}{o : Nat}  (hx : RouLay Λ x) (hR : RouRel I x tb n err r ct hs kp sn w) (hok : RowOk r) (ho : Λ.1 o = (5, 1)) : am_CtH G yL_saveSnapshot cL_saveSnapshot 4 (some .int) [(0, 9, 12, 36)] { frames := 8, cells := 1, slots := 6, locals := 132 } [.ref x, .int c, .ref o] Λ I J (WC o (cdI 2 c) (r 1) Λ J (fun I' => I' = I) (fun I' => RouRel I' x (tb) (n) (err) (r) (ct) (hs) (fun i => if i = c.toNatClampNeg then true else kp i) (fun i => if i = c.toNatClampNeg then r else sn i) (w) ∧ RFr x I I')) am_never := by
  refine am_ctH_of (own := RL) rfl (by decide) (Nat.le_of_ble_eq_true rfl) (fun X C => ?_)
  change am_K G X { frames := 8, cells := 1, slots := 6, locals := 132 } 4 Λ I J 0 0 0 [(0, .ref x), (1, .int c), (2, .ref o)] []
  refine k_aload_n C (f := 2) (i := 2) (p := 2) rfl rfl dL_saveSnapshot_0 ?_
  refine k_iconst C ic_0 dL_saveSnapshot_1 ?_
  refine k_aload_n C (f := 0) (i := 0) (p := 0) rfl rfl dL_saveSnapshot_2 ?_
  refine k_iload_n C (f := 1) (i := 1) (p := 1) rfl rfl dL_saveSnapshot_3 ?_
  refine k_callV C s_L_139 h_X5_saveSnapshot (L5_s hx) rfl (ct_X5_saveSnapshot hx hR hok) rfl rfl (Nat.le_of_ble_eq_true rfl) ⟨Nat.le_of_ble_eq_true rfl, Nat.le_of_ble_eq_true rfl⟩ ⟨Nat.le_of_ble_eq_true rfl, Nat.le_of_ble_eq_true rfl⟩ dL_saveSnapshot_4 ?_ ?_
  · skip
    intro v Λ' I' J' hv
    obtain ⟨rfl, hcd, rfl, rfl, hP⟩ := hv
    refine k_i2l C (rfl) dL_saveSnapshot_7 ?_
    refine k_last C (ho) (by first | rfl | assumption) (by omega) (by decide) dL_saveSnapshot_8 ?_
    refine k_goto C (tgt := 15) (by decide) dL_saveSnapshot_9 ?_
    refine k_iconst C ic_0 dL_saveSnapshot_15 ?_
    exact k_iret C (Nat.le_of_ble_eq_true rfl) (Nat.le_of_ble_eq_true rfl) (WC_ok hcd (rfl) hP) dL_saveSnapshot_16
  · skip
    intro E Λ' I' J' hp
    obtain ⟨rfl, hcd, rfl, rfl, rfl⟩ := hp
    refine k_catch C [] ⟨0, 9, 12, 36⟩ [] rfl (fun z hz => nomatch hz) (by decide) (by decide) am_cl_RL_36 am_ca_36 (fun q => ?_)
    refine k_astore_n C (f := 3) (i := 3) (lv := [(3, _), (0, _), (1, _), (2, _)]) rfl (Nat.le_of_ble_eq_true rfl) rfl dL_saveSnapshot_12 ?_
    refine k_iconst C ic_1 dL_saveSnapshot_13 ?_
    exact k_iret C (Nat.le_of_ble_eq_true rfl) (Nat.le_of_ble_eq_true rfl) (WC_no hcd (by decide) rfl) dL_saveSnapshot_14
set_option maxHeartbeats 4000000 in
set_option maxRecDepth 100000 in
theorem ct_L_restoreSnapshot {G : am_G} {Λ : am_L} {I : am_I} {J : am_J} {x n ct : Nat} {tb : Nat → Nat} {err : Int32} {r : Nat → Int32} {hs : Nat → Nat → Int32} {kp : Nat → Bool} {sn : Nat → Nat → Int32} {w : Nat × (Nat → Int32)} {c : Int32}{o : Nat}  (hx : RouLay Λ x) (hR : RouRel I x tb n err r ct hs kp sn w) (hok : RowOk r) (ho : Λ.1 o = (5, 1)) : am_CtH G yL_restoreSnapshot cL_restoreSnapshot 4 (some .int) [(0, 9, 12, 36), (0, 9, 15, 28)] { frames := 8, cells := 2, slots := 12, locals := 132 } [.ref x, .int c, .ref o] Λ I J (WC o (if cdI 2 c = 0 then (if kp c.toNatClampNeg = true then 0 else 2) else 1) (sn c.toNatClampNeg 1) Λ J (fun I' => I' = I) (fun I' => RouRel I' x (tb) (n) (err) (sn c.toNatClampNeg) ((min 8 (ct + 1))) ((sp_push r hs)) (kp) (sn) (w) ∧ RFr x I I')) am_never := by
  refine am_ctH_of (own := RL) rfl (by decide) (Nat.le_of_ble_eq_true rfl) (fun X C => ?_)
  change am_K G X { frames := 8, cells := 2, slots := 12, locals := 132 } 4 Λ I J 0 0 0 [(0, .ref x), (1, .int c), (2, .ref o)] []
  refine k_aload_n C (f := 2) (i := 2) (p := 2) rfl rfl dL_restoreSnapshot_0 ?_
  refine k_iconst C ic_0 dL_restoreSnapshot_1 ?_
  refine k_aload_n C (f := 0) (i := 0) (p := 0) rfl rfl dL_restoreSnapshot_2 ?_
  refine k_iload_n C (f := 1) (i := 1) (p := 1) rfl rfl dL_restoreSnapshot_3 ?_
  refine k_callV C s_L_142 h_X5_restoreSnapshot (L5_s hx) rfl (ct_X5_restoreSnapshot hx hR hok) rfl rfl (Nat.le_of_ble_eq_true rfl) ⟨Nat.le_of_ble_eq_true rfl, Nat.le_of_ble_eq_true rfl⟩ ⟨Nat.le_of_ble_eq_true rfl, Nat.le_of_ble_eq_true rfl⟩ dL_restoreSnapshot_4 ?_ ?_
  · skip
    intro v Λ' I' J' hv
    obtain ⟨rfl, hcd, rfl, rfl, hP⟩ := hv
    refine k_i2l C (rfl) dL_restoreSnapshot_7 ?_
    refine k_last C (ho) (by first | rfl | assumption) (by omega) (by decide) dL_restoreSnapshot_8 ?_
    refine k_goto C (tgt := 18) (by decide) dL_restoreSnapshot_9 ?_
    refine k_iconst C ic_0 dL_restoreSnapshot_18 ?_
    exact k_iret C (Nat.le_of_ble_eq_true rfl) (Nat.le_of_ble_eq_true rfl) (WC_ok hcd (rfl) hP) dL_restoreSnapshot_19
  · skip
    intro E Λ' I' J' hp
    obtain ⟨(⟨rfl, hcd⟩ | ⟨rfl, hcd⟩), rfl, rfl, rfl⟩ := hp
    · skip
      refine k_catch C [] ⟨0, 9, 12, 36⟩ [⟨0, 9, 15, 28⟩] rfl (fun z hz => nomatch hz) (by decide) (by decide) am_cl_RL_36 am_ca_36 (fun q => ?_)
      refine k_astore_n C (f := 3) (i := 3) (lv := [(3, _), (0, _), (1, _), (2, _)]) rfl (Nat.le_of_ble_eq_true rfl) rfl dL_restoreSnapshot_12 ?_
      refine k_iconst C ic_1 dL_restoreSnapshot_13 ?_
      exact k_iret C (Nat.le_of_ble_eq_true rfl) (Nat.le_of_ble_eq_true rfl) (WC_no hcd (by decide) rfl) dL_restoreSnapshot_14
    · skip
      refine k_catch C [⟨0, 9, 12, 36⟩] ⟨0, 9, 15, 28⟩ [] rfl (fun z hz => Or.inr (by rw [List.mem_singleton.mp hz]; exact ⟨by decide, "java/lang/IndexOutOfBoundsException", am_cl_RL_36, 39, rfl⟩)) (by decide) (by decide) am_cl_RL_28 am_ca_28 (fun q => ?_)
      refine k_astore_n C (f := 3) (i := 3) (lv := [(3, _), (0, _), (1, _), (2, _)]) rfl (Nat.le_of_ble_eq_true rfl) rfl dL_restoreSnapshot_15 ?_
      refine k_iconst C ic_2 dL_restoreSnapshot_16 ?_
      exact k_iret C (Nat.le_of_ble_eq_true rfl) (Nat.le_of_ble_eq_true rfl) (WC_no hcd (by decide) rfl) dL_restoreSnapshot_17
set_option maxHeartbeats 4000000 in
set_option maxRecDepth 100000 in
theorem ct_L_writtenByte {G : am_G} {Λ : am_L} {I : am_I} {J : am_J} {x : Nat} {i : Int32} {t : Nat × (Nat → Int32)}{o : Nat}  (hx : RouLay Λ x) (ht : WriRel I (x + 171) t) (hn : t.1 ≤ 140) (ho : Λ.1 o = (5, 1)) : am_CtH G yL_writtenByte cL_writtenByte 4 (some .int) [(0, 9, 12, 36)] { frames := 7, cells := 1, slots := 6, locals := 111 } [.ref x, .int i, .ref o] Λ I J (WC o (if i < 0 ∨ ¬ i < nI t.1 then 1 else 0) (t.2 i.toNatClampNeg) Λ J (fun I' => I' = I) (fun I' => I' = I)) am_never := by
  refine am_ctH_of (own := RL) rfl (by decide) (Nat.le_of_ble_eq_true rfl) (fun X C => ?_)
  change am_K G X { frames := 7, cells := 1, slots := 6, locals := 111 } 4 Λ I J 0 0 0 [(0, .ref x), (1, .int i), (2, .ref o)] []
  refine k_aload_n C (f := 2) (i := 2) (p := 2) rfl rfl dL_writtenByte_0 ?_
  refine k_iconst C ic_0 dL_writtenByte_1 ?_
  refine k_aload_n C (f := 0) (i := 0) (p := 0) rfl rfl dL_writtenByte_2 ?_
  refine k_iload_n C (f := 1) (i := 1) (p := 1) rfl rfl dL_writtenByte_3 ?_
  refine k_callV C s_L_145 h_X5_writtenByte (L5_s hx) rfl (ct_X5_writtenByte hx ht hn) rfl rfl (Nat.le_of_ble_eq_true rfl) ⟨Nat.le_of_ble_eq_true rfl, Nat.le_of_ble_eq_true rfl⟩ ⟨Nat.le_of_ble_eq_true rfl, Nat.le_of_ble_eq_true rfl⟩ dL_writtenByte_4 ?_ ?_
  · skip
    intro v Λ' I' J' hv
    obtain ⟨rfl, hcd, rfl, rfl, rfl⟩ := hv
    refine k_i2l C (rfl) dL_writtenByte_7 ?_
    refine k_last C (ho) (by first | rfl | assumption) (by omega) (by decide) dL_writtenByte_8 ?_
    refine k_goto C (tgt := 15) (by decide) dL_writtenByte_9 ?_
    refine k_iconst C ic_0 dL_writtenByte_15 ?_
    exact k_iret C (Nat.le_of_ble_eq_true rfl) (Nat.le_of_ble_eq_true rfl) (WC_ok hcd (rfl) rfl) dL_writtenByte_16
  · skip
    intro E Λ' I' J' hp
    obtain ⟨rfl, hcd, rfl, rfl, rfl⟩ := hp
    refine k_catch C [] ⟨0, 9, 12, 36⟩ [] rfl (fun z hz => nomatch hz) (by decide) (by decide) am_cl_RL_36 am_ca_36 (fun q => ?_)
    refine k_astore_n C (f := 3) (i := 3) (lv := [(3, _), (0, _), (1, _), (2, _)]) rfl (Nat.le_of_ble_eq_true rfl) rfl dL_writtenByte_12 ?_
    refine k_iconst C ic_1 dL_writtenByte_13 ?_
    exact k_iret C (Nat.le_of_ble_eq_true rfl) (Nat.le_of_ble_eq_true rfl) (WC_no hcd (by decide) rfl) dL_writtenByte_14
