set_option maxHeartbeats 4000000 in
set_option maxRecDepth 100000 in
theorem ct_c14 {G : am_G} {Λ : am_L} {I : am_I} {J : am_J} {x : Nat} {r : Nat → Int32} {d : Int32} {u1 u2 u3 u4 : Int32} (hx : RouLay Λ x) (hr : CarRel I (x + 34) (x + 35) (x + 24) r) : am_CtH G yL_call cL_call 8 (some .int) hhL { frames := 10, cells := 6, slots := 36, locals := 230 } [.ref x, .int (nI 14), .int d, .int u1, .int u2, .int u3, .int u4] Λ I J (am_pure (.int (if (if d < 0 ∨ nI 999 < d then 1 else 0) = 0 then (sp_storm r d) else (-103))) Λ I J) am_never := by
  refine am_ctH_of (own := RL) rfl (by decide) (Nat.le_of_ble_eq_true rfl) (fun X C => ?_)
  change am_K G X { frames := 10, cells := 6, slots := 36, locals := 230 } 8 Λ I J 0 0 0 [(0, .ref x), (1, .int (nI 14)), (2, .int d), (3, .int u1), (4, .int u2), (5, .int u3), (6, .int u4)] []
  refine k_iload_n C (f := 1) (i := 1) (p := 1) rfl rfl dL_call_0 ?_
  refine k_tswIn C (off := 266) (tgt := 267) (by decide) (by decide) (by decide) (by decide) dL_call_1 ?_
  refine k_aload_n C (f := 0) (i := 0) (p := 0) rfl rfl dL_call_267 ?_
  refine k_iload_n C (f := 2) (i := 2) (p := 2) rfl rfl dL_call_268 ?_
  refine k_callV C s_L_55 h_X5_stormOn (L5_s hx) rfl (ct_X5_stormOn hx hr) rfl rfl (Nat.le_of_ble_eq_true rfl) ⟨Nat.le_of_ble_eq_true rfl, Nat.le_of_ble_eq_true rfl⟩ ⟨Nat.le_of_ble_eq_true rfl, Nat.le_of_ble_eq_true rfl⟩ dL_call_269 ?_ ?_
  · skip
    intro v Λ' I' J' hv
    obtain ⟨rfl, hcd, rfl, rfl, rfl⟩ := hv
    exact k_iret C (Nat.le_of_ble_eq_true rfl) (Nat.le_of_ble_eq_true rfl) (⟨by rw [if_pos hcd], rfl, rfl, rfl⟩) dL_call_272
  · skip
    intro E Λ' I' J' hp
    obtain ⟨rfl, hcd, rfl, rfl, rfl⟩ := hp
    refine k_catchI C (E := "java/lang/IllegalArgumentException") 98 ⟨267, 272, 456, 146⟩ [140, 144] rfl (by decide +kernel) am_hc_146 (by decide) (by decide) am_cl_RL_146 am_ca_146 (fun q => ?_)
    refine k_astore C (i := 7) (lv := [(7, _), (0, _), (1, _), (2, _), (3, _), (4, _), (5, _), (6, _)]) (Nat.le_of_ble_eq_true rfl) rfl dL_call_456 ?_
    refine k_bipush C bc_m103 dL_call_458 ?_
    exact k_iret C (Nat.le_of_ble_eq_true rfl) (Nat.le_of_ble_eq_true rfl) (⟨by rw [hcd]; rfl, rfl, rfl, rfl⟩) dL_call_460
set_option maxHeartbeats 4000000 in
set_option maxRecDepth 100000 in
theorem ct_c15 {G : am_G} {Λ : am_L} {I : am_I} {J : am_J} {x : Nat} {r : Nat → Int32} {c : Int32} {u1 u2 u3 u4 : Int32} (hx : RouLay Λ x) (hr : CarRel I (x + 34) (x + 35) (x + 24) r) : am_CtH G yL_call cL_call 8 (some .int) hhL { frames := 10, cells := 6, slots := 36, locals := 230 } [.ref x, .int (nI 15), .int c, .int u1, .int u2, .int u3, .int u4] Λ I J (am_pure (.int (if (cdI (sp_nw r) c) = 0 then (r (90 + 4 * c.toNatClampNeg)) else (-104))) Λ I J) am_never := by
  refine am_ctH_of (own := RL) rfl (by decide) (Nat.le_of_ble_eq_true rfl) (fun X C => ?_)
  change am_K G X { frames := 10, cells := 6, slots := 36, locals := 230 } 8 Λ I J 0 0 0 [(0, .ref x), (1, .int (nI 15)), (2, .int c), (3, .int u1), (4, .int u2), (5, .int u3), (6, .int u4)] []
  refine k_iload_n C (f := 1) (i := 1) (p := 1) rfl rfl dL_call_0 ?_
  refine k_tswIn C (off := 272) (tgt := 273) (by decide) (by decide) (by decide) (by decide) dL_call_1 ?_
  refine k_aload_n C (f := 0) (i := 0) (p := 0) rfl rfl dL_call_273 ?_
  refine k_iload_n C (f := 2) (i := 2) (p := 2) rfl rfl dL_call_274 ?_
  refine k_callV C s_L_58 h_X5_wellKilometre (L5_s hx) rfl (ct_X5_wellKilometre hx hr) rfl rfl (Nat.le_of_ble_eq_true rfl) ⟨Nat.le_of_ble_eq_true rfl, Nat.le_of_ble_eq_true rfl⟩ ⟨Nat.le_of_ble_eq_true rfl, Nat.le_of_ble_eq_true rfl⟩ dL_call_275 ?_ ?_
  · skip
    intro v Λ' I' J' hv
    obtain ⟨rfl, hcd, rfl, rfl, rfl⟩ := hv
    exact k_iret C (Nat.le_of_ble_eq_true rfl) (Nat.le_of_ble_eq_true rfl) (⟨by rw [if_pos hcd], rfl, rfl, rfl⟩) dL_call_278
  · skip
    intro E Λ' I' J' hp
    obtain ⟨rfl, hcd, rfl, rfl, rfl⟩ := hp
    refine k_catchI C (E := "java/lang/IndexOutOfBoundsException") 141 ⟨273, 278, 461, 148⟩ [140, 144, 146] rfl (by decide +kernel) am_hc_148 (by decide) (by decide) am_cl_RL_148 am_ca_148 (fun q => ?_)
    refine k_astore C (i := 7) (lv := [(7, _), (0, _), (1, _), (2, _), (3, _), (4, _), (5, _), (6, _)]) (Nat.le_of_ble_eq_true rfl) rfl dL_call_461 ?_
    refine k_bipush C bc_m104 dL_call_463 ?_
    exact k_iret C (Nat.le_of_ble_eq_true rfl) (Nat.le_of_ble_eq_true rfl) (⟨by rw [hcd]; rfl, rfl, rfl, rfl⟩) dL_call_465
set_option maxHeartbeats 4000000 in
set_option maxRecDepth 100000 in
theorem ct_c16 {G : am_G} {Λ : am_L} {I : am_I} {J : am_J} {x : Nat} {r : Nat → Int32} {c : Int32} {u1 u2 u3 u4 : Int32} (hx : RouLay Λ x) (hr : CarRel I (x + 34) (x + 35) (x + 24) r) : am_CtH G yL_call cL_call 8 (some .int) hhL { frames := 10, cells := 6, slots := 36, locals := 230 } [.ref x, .int (nI 16), .int c, .int u1, .int u2, .int u3, .int u4] Λ I J (am_pure (.int (if (cdI (sp_nw r) c) = 0 then (r (91 + 4 * c.toNatClampNeg)) else (-104))) Λ I J) am_never := by
  refine am_ctH_of (own := RL) rfl (by decide) (Nat.le_of_ble_eq_true rfl) (fun X C => ?_)
  change am_K G X { frames := 10, cells := 6, slots := 36, locals := 230 } 8 Λ I J 0 0 0 [(0, .ref x), (1, .int (nI 16)), (2, .int c), (3, .int u1), (4, .int u2), (5, .int u3), (6, .int u4)] []
  refine k_iload_n C (f := 1) (i := 1) (p := 1) rfl rfl dL_call_0 ?_
  refine k_tswIn C (off := 278) (tgt := 279) (by decide) (by decide) (by decide) (by decide) dL_call_1 ?_
  refine k_aload_n C (f := 0) (i := 0) (p := 0) rfl rfl dL_call_279 ?_
  refine k_iload_n C (f := 2) (i := 2) (p := 2) rfl rfl dL_call_280 ?_
  refine k_callV C s_L_61 h_X5_wellCapacity (L5_s hx) rfl (ct_X5_wellCapacity hx hr) rfl rfl (Nat.le_of_ble_eq_true rfl) ⟨Nat.le_of_ble_eq_true rfl, Nat.le_of_ble_eq_true rfl⟩ ⟨Nat.le_of_ble_eq_true rfl, Nat.le_of_ble_eq_true rfl⟩ dL_call_281 ?_ ?_
  · skip
    intro v Λ' I' J' hv
    obtain ⟨rfl, hcd, rfl, rfl, rfl⟩ := hv
    exact k_iret C (Nat.le_of_ble_eq_true rfl) (Nat.le_of_ble_eq_true rfl) (⟨by rw [if_pos hcd], rfl, rfl, rfl⟩) dL_call_284
  · skip
    intro E Λ' I' J' hp
    obtain ⟨rfl, hcd, rfl, rfl, rfl⟩ := hp
    refine k_catchI C (E := "java/lang/IndexOutOfBoundsException") 142 ⟨279, 284, 461, 148⟩ [140, 144, 146] rfl (by decide +kernel) am_hc_148 (by decide) (by decide) am_cl_RL_148 am_ca_148 (fun q => ?_)
    refine k_astore C (i := 7) (lv := [(7, _), (0, _), (1, _), (2, _), (3, _), (4, _), (5, _), (6, _)]) (Nat.le_of_ble_eq_true rfl) rfl dL_call_461 ?_
    refine k_bipush C bc_m104 dL_call_463 ?_
    exact k_iret C (Nat.le_of_ble_eq_true rfl) (Nat.le_of_ble_eq_true rfl) (⟨by rw [hcd]; rfl, rfl, rfl, rfl⟩) dL_call_465
set_option maxHeartbeats 4000000 in
set_option maxRecDepth 100000 in
theorem ct_c17 {G : am_G} {Λ : am_L} {I : am_I} {J : am_J} {x : Nat} {r : Nat → Int32} {c : Int32} {u1 u2 u3 u4 : Int32} (hx : RouLay Λ x) (hr : CarRel I (x + 34) (x + 35) (x + 24) r) : am_CtH G yL_call cL_call 8 (some .int) hhL { frames := 10, cells := 6, slots := 36, locals := 230 } [.ref x, .int (nI 17), .int c, .int u1, .int u2, .int u3, .int u4] Λ I J (am_pure (.int (if (cdI (sp_nw r) c) = 0 then (r (93 + 4 * c.toNatClampNeg)) else (-104))) Λ I J) am_never := by
  refine am_ctH_of (own := RL) rfl (by decide) (Nat.le_of_ble_eq_true rfl) (fun X C => ?_)
  change am_K G X { frames := 10, cells := 6, slots := 36, locals := 230 } 8 Λ I J 0 0 0 [(0, .ref x), (1, .int (nI 17)), (2, .int c), (3, .int u1), (4, .int u2), (5, .int u3), (6, .int u4)] []
  refine k_iload_n C (f := 1) (i := 1) (p := 1) rfl rfl dL_call_0 ?_
  refine k_tswIn C (off := 284) (tgt := 285) (by decide) (by decide) (by decide) (by decide) dL_call_1 ?_
  refine k_aload_n C (f := 0) (i := 0) (p := 0) rfl rfl dL_call_285 ?_
  refine k_iload_n C (f := 2) (i := 2) (p := 2) rfl rfl dL_call_286 ?_
  refine k_callV C s_L_64 h_X5_wellLevel (L5_s hx) rfl (ct_X5_wellLevel hx hr) rfl rfl (Nat.le_of_ble_eq_true rfl) ⟨Nat.le_of_ble_eq_true rfl, Nat.le_of_ble_eq_true rfl⟩ ⟨Nat.le_of_ble_eq_true rfl, Nat.le_of_ble_eq_true rfl⟩ dL_call_287 ?_ ?_
  · skip
    intro v Λ' I' J' hv
    obtain ⟨rfl, hcd, rfl, rfl, rfl⟩ := hv
    exact k_iret C (Nat.le_of_ble_eq_true rfl) (Nat.le_of_ble_eq_true rfl) (⟨by rw [if_pos hcd], rfl, rfl, rfl⟩) dL_call_290
  · skip
    intro E Λ' I' J' hp
    obtain ⟨rfl, hcd, rfl, rfl, rfl⟩ := hp
    refine k_catchI C (E := "java/lang/IndexOutOfBoundsException") 143 ⟨285, 290, 461, 148⟩ [140, 144, 146] rfl (by decide +kernel) am_hc_148 (by decide) (by decide) am_cl_RL_148 am_ca_148 (fun q => ?_)
    refine k_astore C (i := 7) (lv := [(7, _), (0, _), (1, _), (2, _), (3, _), (4, _), (5, _), (6, _)]) (Nat.le_of_ble_eq_true rfl) rfl dL_call_461 ?_
    refine k_bipush C bc_m104 dL_call_463 ?_
    exact k_iret C (Nat.le_of_ble_eq_true rfl) (Nat.le_of_ble_eq_true rfl) (⟨by rw [hcd]; rfl, rfl, rfl, rfl⟩) dL_call_465
set_option maxHeartbeats 4000000 in
set_option maxRecDepth 100000 in
theorem ct_c18 {G : am_G} {Λ : am_L} {I : am_I} {J : am_J} {x : Nat} {r : Nat → Int32}  {u1 u2 u3 u4 u5 : Int32} (hx : RouLay Λ x) (hr : CarRel I (x + 34) (x + 35) (x + 24) r) : am_CtH G yL_call cL_call 8 (some .int) hhL { frames := 10, cells := 6, slots := 36, locals := 230 } [.ref x, .int (nI 18), .int u1, .int u2, .int u3, .int u4, .int u5] Λ I J (am_pure (.int (if (if sp_wellOn r (r 1) = -1 then 1 else 0) = 0 then (sp_wellOn r (r 1)) else (-101))) Λ I J) am_never := by
  refine am_ctH_of (own := RL) rfl (by decide) (Nat.le_of_ble_eq_true rfl) (fun X C => ?_)
  change am_K G X { frames := 10, cells := 6, slots := 36, locals := 230 } 8 Λ I J 0 0 0 [(0, .ref x), (1, .int (nI 18)), (2, .int u1), (3, .int u2), (4, .int u3), (5, .int u4), (6, .int u5)] []
  refine k_iload_n C (f := 1) (i := 1) (p := 1) rfl rfl dL_call_0 ?_
  refine k_tswIn C (off := 290) (tgt := 291) (by decide) (by decide) (by decide) (by decide) dL_call_1 ?_
  refine k_aload_n C (f := 0) (i := 0) (p := 0) rfl rfl dL_call_291 ?_
  refine k_callV C s_L_67 h_X5_wellHere (L5_s hx) rfl (ct_X5_wellHere hx hr) rfl rfl (Nat.le_of_ble_eq_true rfl) ⟨Nat.le_of_ble_eq_true rfl, Nat.le_of_ble_eq_true rfl⟩ ⟨Nat.le_of_ble_eq_true rfl, Nat.le_of_ble_eq_true rfl⟩ dL_call_292 ?_ ?_
  · skip
    intro v Λ' I' J' hv
    obtain ⟨rfl, hcd, rfl, rfl, rfl⟩ := hv
    exact k_iret C (Nat.le_of_ble_eq_true rfl) (Nat.le_of_ble_eq_true rfl) (⟨by rw [if_pos hcd], rfl, rfl, rfl⟩) dL_call_295
  · skip
    intro E Λ' I' J' hp
    obtain ⟨rfl, hcd, rfl, rfl, rfl⟩ := hp
    refine k_catchI C (E := "java/util/NoSuchElementException") 18 ⟨291, 295, 446, 140⟩ [] rfl (by decide +kernel) am_hc_140 (by decide) (by decide) am_cl_RL_140 am_ca_140 (fun q => ?_)
    refine k_astore C (i := 7) (lv := [(7, _), (0, _), (1, _), (2, _), (3, _), (4, _), (5, _), (6, _)]) (Nat.le_of_ble_eq_true rfl) rfl dL_call_446 ?_
    refine k_bipush C bc_m101 dL_call_448 ?_
    exact k_iret C (Nat.le_of_ble_eq_true rfl) (Nat.le_of_ble_eq_true rfl) (⟨by rw [hcd]; rfl, rfl, rfl, rfl⟩) dL_call_450
set_option maxHeartbeats 4000000 in
set_option maxRecDepth 100000 in
theorem ct_c19 {G : am_G} {Λ : am_L} {I : am_I} {J : am_J} {x : Nat} {r : Nat → Int32}  {u1 u2 u3 u4 u5 : Int32} (hx : RouLay Λ x) (hr : CarRel I (x + 34) (x + 35) (x + 24) r) (hw : ∀ k : Nat, k < sp_nw r → r (90 + 4 * k) < nI 1000) : am_CtH G yL_call cL_call 8 (some .int) hhL { frames := 10, cells := 6, slots := 36, locals := 230 } [.ref x, .int (nI 19), .int u1, .int u2, .int u3, .int u4, .int u5] Λ I J (am_pure (.int (if (if sp_behind r (r 1) = -1 then 1 else 0) = 0 then (sp_behind r (r 1)) else (-101))) Λ I J) am_never := by
  refine am_ctH_of (own := RL) rfl (by decide) (Nat.le_of_ble_eq_true rfl) (fun X C => ?_)
  change am_K G X { frames := 10, cells := 6, slots := 36, locals := 230 } 8 Λ I J 0 0 0 [(0, .ref x), (1, .int (nI 19)), (2, .int u1), (3, .int u2), (4, .int u3), (5, .int u4), (6, .int u5)] []
  refine k_iload_n C (f := 1) (i := 1) (p := 1) rfl rfl dL_call_0 ?_
  refine k_tswIn C (off := 295) (tgt := 296) (by decide) (by decide) (by decide) (by decide) dL_call_1 ?_
  refine k_aload_n C (f := 0) (i := 0) (p := 0) rfl rfl dL_call_296 ?_
  refine k_callV C s_L_70 h_X5_nextWell (L5_s hx) rfl (ct_X5_nextWell hx hr hw) rfl rfl (Nat.le_of_ble_eq_true rfl) ⟨Nat.le_of_ble_eq_true rfl, Nat.le_of_ble_eq_true rfl⟩ ⟨Nat.le_of_ble_eq_true rfl, Nat.le_of_ble_eq_true rfl⟩ dL_call_297 ?_ ?_
  · skip
    intro v Λ' I' J' hv
    obtain ⟨rfl, hcd, rfl, rfl, rfl⟩ := hv
    exact k_iret C (Nat.le_of_ble_eq_true rfl) (Nat.le_of_ble_eq_true rfl) (⟨by rw [if_pos hcd], rfl, rfl, rfl⟩) dL_call_300
  · skip
    intro E Λ' I' J' hp
    obtain ⟨rfl, hcd, rfl, rfl, rfl⟩ := hp
    refine k_catchI C (E := "java/util/NoSuchElementException") 19 ⟨296, 300, 446, 140⟩ [] rfl (by decide +kernel) am_hc_140 (by decide) (by decide) am_cl_RL_140 am_ca_140 (fun q => ?_)
    refine k_astore C (i := 7) (lv := [(7, _), (0, _), (1, _), (2, _), (3, _), (4, _), (5, _), (6, _)]) (Nat.le_of_ble_eq_true rfl) rfl dL_call_446 ?_
    refine k_bipush C bc_m101 dL_call_448 ?_
    exact k_iret C (Nat.le_of_ble_eq_true rfl) (Nat.le_of_ble_eq_true rfl) (⟨by rw [hcd]; rfl, rfl, rfl, rfl⟩) dL_call_450
set_option maxHeartbeats 4000000 in
set_option maxRecDepth 100000 in
theorem ct_c20 {G : am_G} {Λ : am_L} {I : am_I} {J : am_J} {x : Nat} {r : Nat → Int32} {c : Int32} {u1 u2 u3 u4 : Int32} (hx : RouLay Λ x) (hr : CarRel I (x + 34) (x + 35) (x + 24) r) : am_CtH G yL_call cL_call 8 (some .int) hhL { frames := 10, cells := 6, slots := 36, locals := 230 } [.ref x, .int (nI 20), .int c, .int u1, .int u2, .int u3, .int u4] Λ I J (am_pure (.int (if (cdI (sp_nc r) c) = 0 then (am_b (¬ r (16 + 8 * c.toNatClampNeg) < nI 3)) else (-104))) Λ I J) am_never := by
  refine am_ctH_of (own := RL) rfl (by decide) (Nat.le_of_ble_eq_true rfl) (fun X C => ?_)
  change am_K G X { frames := 10, cells := 6, slots := 36, locals := 230 } 8 Λ I J 0 0 0 [(0, .ref x), (1, .int (nI 20)), (2, .int c), (3, .int u1), (4, .int u2), (5, .int u3), (6, .int u4)] []
  refine k_iload_n C (f := 1) (i := 1) (p := 1) rfl rfl dL_call_0 ?_
  refine k_tswIn C (off := 300) (tgt := 301) (by decide) (by decide) (by decide) (by decide) dL_call_1 ?_
  refine k_aload_n C (f := 0) (i := 0) (p := 0) rfl rfl dL_call_301 ?_
  refine k_iload_n C (f := 2) (i := 2) (p := 2) rfl rfl dL_call_302 ?_
  refine k_callV C s_L_73 h_X5_isDead (L5_s hx) rfl (ct_X5_isDead hx hr) rfl rfl (Nat.le_of_ble_eq_true rfl) ⟨Nat.le_of_ble_eq_true rfl, Nat.le_of_ble_eq_true rfl⟩ ⟨Nat.le_of_ble_eq_true rfl, Nat.le_of_ble_eq_true rfl⟩ dL_call_303 ?_ ?_
  · skip
    intro v Λ' I' J' hv
    obtain ⟨rfl, hcd, rfl, rfl, rfl⟩ := hv
    refine k_ifb_eq C (tgt := 313) (by decide) dL_call_306 (fun hc306 => ?_) (fun hc306 => ?_)
    · skip
      refine k_iconst C ic_0 dL_call_313 ?_
      exact k_iret C (Nat.le_of_ble_eq_true rfl) (Nat.le_of_ble_eq_true rfl) (⟨by rw [if_pos hcd]; first | exact congrArg (fun z => some (Value.int z)) (am_bt hc306) | exact congrArg (fun z => some (Value.int z)) (am_bf hc306), rfl, rfl, rfl⟩) dL_call_314
    · skip
      refine k_iconst C ic_1 dL_call_309 ?_
      refine k_goto C (tgt := 314) (by decide) dL_call_310 ?_
      exact k_iret C (Nat.le_of_ble_eq_true rfl) (Nat.le_of_ble_eq_true rfl) (⟨by rw [if_pos hcd]; first | exact congrArg (fun z => some (Value.int z)) (am_bt hc306) | exact congrArg (fun z => some (Value.int z)) (am_bf hc306), rfl, rfl, rfl⟩) dL_call_314
  · skip
    intro E Λ' I' J' hp
    obtain ⟨rfl, hcd, rfl, rfl, rfl⟩ := hp
    refine k_catchI C (E := "java/lang/IndexOutOfBoundsException") 146 ⟨301, 314, 461, 148⟩ [140, 144, 146] rfl (by decide +kernel) am_hc_148 (by decide) (by decide) am_cl_RL_148 am_ca_148 (fun q => ?_)
    refine k_astore C (i := 7) (lv := [(7, _), (0, _), (1, _), (2, _), (3, _), (4, _), (5, _), (6, _)]) (Nat.le_of_ble_eq_true rfl) rfl dL_call_461 ?_
    refine k_bipush C bc_m104 dL_call_463 ?_
    exact k_iret C (Nat.le_of_ble_eq_true rfl) (Nat.le_of_ble_eq_true rfl) (⟨by rw [hcd]; rfl, rfl, rfl, rfl⟩) dL_call_465
set_option maxHeartbeats 4000000 in
set_option maxRecDepth 100000 in
theorem ct_c21 {G : am_G} {Λ : am_L} {I : am_I} {J : am_J} {x : Nat} {r : Nat → Int32} {c : Int32} {u1 u2 u3 u4 : Int32} (hx : RouLay Λ x) (hr : CarRel I (x + 34) (x + 35) (x + 24) r) : am_CtH G yL_call cL_call 8 (some .int) hhL { frames := 10, cells := 6, slots := 36, locals := 230 } [.ref x, .int (nI 21), .int c, .int u1, .int u2, .int u3, .int u4] Λ I J (am_pure (.int (if (cdI (sp_nc r) c) = 0 then (r (10 + 8 * c.toNatClampNeg)) else (-104))) Λ I J) am_never := by
  refine am_ctH_of (own := RL) rfl (by decide) (Nat.le_of_ble_eq_true rfl) (fun X C => ?_)
  change am_K G X { frames := 10, cells := 6, slots := 36, locals := 230 } 8 Λ I J 0 0 0 [(0, .ref x), (1, .int (nI 21)), (2, .int c), (3, .int u1), (4, .int u2), (5, .int u3), (6, .int u4)] []
  refine k_iload_n C (f := 1) (i := 1) (p := 1) rfl rfl dL_call_0 ?_
  refine k_tswIn C (off := 314) (tgt := 315) (by decide) (by decide) (by decide) (by decide) dL_call_1 ?_
  refine k_aload_n C (f := 0) (i := 0) (p := 0) rfl rfl dL_call_315 ?_
  refine k_iload_n C (f := 2) (i := 2) (p := 2) rfl rfl dL_call_316 ?_
  refine k_callV C s_L_77 h_X5_pace (L5_s hx) rfl (ct_X5_pace hx hr) rfl rfl (Nat.le_of_ble_eq_true rfl) ⟨Nat.le_of_ble_eq_true rfl, Nat.le_of_ble_eq_true rfl⟩ ⟨Nat.le_of_ble_eq_true rfl, Nat.le_of_ble_eq_true rfl⟩ dL_call_317 ?_ ?_
  · skip
    intro v Λ' I' J' hv
    obtain ⟨rfl, hcd, rfl, rfl, rfl⟩ := hv
    exact k_iret C (Nat.le_of_ble_eq_true rfl) (Nat.le_of_ble_eq_true rfl) (⟨by rw [if_pos hcd], rfl, rfl, rfl⟩) dL_call_320
  · skip
    intro E Λ' I' J' hp
    obtain ⟨rfl, hcd, rfl, rfl, rfl⟩ := hp
    refine k_catchI C (E := "java/lang/IndexOutOfBoundsException") 147 ⟨315, 320, 461, 148⟩ [140, 144, 146] rfl (by decide +kernel) am_hc_148 (by decide) (by decide) am_cl_RL_148 am_ca_148 (fun q => ?_)
    refine k_astore C (i := 7) (lv := [(7, _), (0, _), (1, _), (2, _), (3, _), (4, _), (5, _), (6, _)]) (Nat.le_of_ble_eq_true rfl) rfl dL_call_461 ?_
    refine k_bipush C bc_m104 dL_call_463 ?_
    exact k_iret C (Nat.le_of_ble_eq_true rfl) (Nat.le_of_ble_eq_true rfl) (⟨by rw [hcd]; rfl, rfl, rfl, rfl⟩) dL_call_465
set_option maxHeartbeats 4000000 in
set_option maxRecDepth 100000 in
theorem ct_c22 {G : am_G} {Λ : am_L} {I : am_I} {J : am_J} {x : Nat} {r : Nat → Int32} {c : Int32} {u1 u2 u3 u4 : Int32} (hx : RouLay Λ x) (hr : CarRel I (x + 34) (x + 35) (x + 24) r) : am_CtH G yL_call cL_call 8 (some .int) hhL { frames := 10, cells := 6, slots := 36, locals := 230 } [.ref x, .int (nI 22), .int c, .int u1, .int u2, .int u3, .int u4] Λ I J (am_pure (.int (if (cdI (sp_nc r) c) = 0 then (r (12 + 8 * c.toNatClampNeg)) else (-104))) Λ I J) am_never := by
  refine am_ctH_of (own := RL) rfl (by decide) (Nat.le_of_ble_eq_true rfl) (fun X C => ?_)
  change am_K G X { frames := 10, cells := 6, slots := 36, locals := 230 } 8 Λ I J 0 0 0 [(0, .ref x), (1, .int (nI 22)), (2, .int c), (3, .int u1), (4, .int u2), (5, .int u3), (6, .int u4)] []
  refine k_iload_n C (f := 1) (i := 1) (p := 1) rfl rfl dL_call_0 ?_
  refine k_tswIn C (off := 320) (tgt := 321) (by decide) (by decide) (by decide) (by decide) dL_call_1 ?_
  refine k_aload_n C (f := 0) (i := 0) (p := 0) rfl rfl dL_call_321 ?_
  refine k_iload_n C (f := 2) (i := 2) (p := 2) rfl rfl dL_call_322 ?_
  refine k_callV C s_L_80 h_X5_tank (L5_s hx) rfl (ct_X5_tank hx hr) rfl rfl (Nat.le_of_ble_eq_true rfl) ⟨Nat.le_of_ble_eq_true rfl, Nat.le_of_ble_eq_true rfl⟩ ⟨Nat.le_of_ble_eq_true rfl, Nat.le_of_ble_eq_true rfl⟩ dL_call_323 ?_ ?_
  · skip
    intro v Λ' I' J' hv
    obtain ⟨rfl, hcd, rfl, rfl, rfl⟩ := hv
    exact k_iret C (Nat.le_of_ble_eq_true rfl) (Nat.le_of_ble_eq_true rfl) (⟨by rw [if_pos hcd], rfl, rfl, rfl⟩) dL_call_326
  · skip
    intro E Λ' I' J' hp
    obtain ⟨rfl, hcd, rfl, rfl, rfl⟩ := hp
    refine k_catchI C (E := "java/lang/IndexOutOfBoundsException") 148 ⟨321, 326, 461, 148⟩ [140, 144, 146] rfl (by decide +kernel) am_hc_148 (by decide) (by decide) am_cl_RL_148 am_ca_148 (fun q => ?_)
    refine k_astore C (i := 7) (lv := [(7, _), (0, _), (1, _), (2, _), (3, _), (4, _), (5, _), (6, _)]) (Nat.le_of_ble_eq_true rfl) rfl dL_call_461 ?_
    refine k_bipush C bc_m104 dL_call_463 ?_
    exact k_iret C (Nat.le_of_ble_eq_true rfl) (Nat.le_of_ble_eq_true rfl) (⟨by rw [hcd]; rfl, rfl, rfl, rfl⟩) dL_call_465
set_option maxHeartbeats 4000000 in
set_option maxRecDepth 100000 in
theorem ct_c23 {G : am_G} {Λ : am_L} {I : am_I} {J : am_J} {x : Nat} {r : Nat → Int32} {c : Int32} {u1 u2 u3 u4 : Int32} (hx : RouLay Λ x) (hr : CarRel I (x + 34) (x + 35) (x + 24) r) : am_CtH G yL_call cL_call 8 (some .int) hhL { frames := 10, cells := 6, slots := 36, locals := 230 } [.ref x, .int (nI 23), .int c, .int u1, .int u2, .int u3, .int u4] Λ I J (am_pure (.int (if (cdI (sp_nc r) c) = 0 then (r (13 + 8 * c.toNatClampNeg)) else (-104))) Λ I J) am_never := by
  refine am_ctH_of (own := RL) rfl (by decide) (Nat.le_of_ble_eq_true rfl) (fun X C => ?_)
  change am_K G X { frames := 10, cells := 6, slots := 36, locals := 230 } 8 Λ I J 0 0 0 [(0, .ref x), (1, .int (nI 23)), (2, .int c), (3, .int u1), (4, .int u2), (5, .int u3), (6, .int u4)] []
  refine k_iload_n C (f := 1) (i := 1) (p := 1) rfl rfl dL_call_0 ?_
  refine k_tswIn C (off := 326) (tgt := 327) (by decide) (by decide) (by decide) (by decide) dL_call_1 ?_
  refine k_aload_n C (f := 0) (i := 0) (p := 0) rfl rfl dL_call_327 ?_
  refine k_iload_n C (f := 2) (i := 2) (p := 2) rfl rfl dL_call_328 ?_
  refine k_callV C s_L_83 h_X5_water (L5_s hx) rfl (ct_X5_water hx hr) rfl rfl (Nat.le_of_ble_eq_true rfl) ⟨Nat.le_of_ble_eq_true rfl, Nat.le_of_ble_eq_true rfl⟩ ⟨Nat.le_of_ble_eq_true rfl, Nat.le_of_ble_eq_true rfl⟩ dL_call_329 ?_ ?_
  · skip
    intro v Λ' I' J' hv
    obtain ⟨rfl, hcd, rfl, rfl, rfl⟩ := hv
    exact k_iret C (Nat.le_of_ble_eq_true rfl) (Nat.le_of_ble_eq_true rfl) (⟨by rw [if_pos hcd], rfl, rfl, rfl⟩) dL_call_332
  · skip
    intro E Λ' I' J' hp
    obtain ⟨rfl, hcd, rfl, rfl, rfl⟩ := hp
    refine k_catchI C (E := "java/lang/IndexOutOfBoundsException") 149 ⟨327, 332, 461, 148⟩ [140, 144, 146] rfl (by decide +kernel) am_hc_148 (by decide) (by decide) am_cl_RL_148 am_ca_148 (fun q => ?_)
    refine k_astore C (i := 7) (lv := [(7, _), (0, _), (1, _), (2, _), (3, _), (4, _), (5, _), (6, _)]) (Nat.le_of_ble_eq_true rfl) rfl dL_call_461 ?_
    refine k_bipush C bc_m104 dL_call_463 ?_
    exact k_iret C (Nat.le_of_ble_eq_true rfl) (Nat.le_of_ble_eq_true rfl) (⟨by rw [hcd]; rfl, rfl, rfl, rfl⟩) dL_call_465
set_option maxHeartbeats 4000000 in
set_option maxRecDepth 100000 in
theorem ct_c24 {G : am_G} {Λ : am_L} {I : am_I} {J : am_J} {x : Nat} {r : Nat → Int32} {c : Int32} {u1 u2 u3 u4 : Int32} (hx : RouLay Λ x) (hr : CarRel I (x + 34) (x + 35) (x + 24) r) : am_CtH G yL_call cL_call 8 (some .int) hhL { frames := 10, cells := 6, slots := 36, locals := 230 } [.ref x, .int (nI 24), .int c, .int u1, .int u2, .int u3, .int u4] Λ I J (am_pure (.int (if (cdI (sp_nc r) c) = 0 then (r (14 + 8 * c.toNatClampNeg)) else (-104))) Λ I J) am_never := by
  refine am_ctH_of (own := RL) rfl (by decide) (Nat.le_of_ble_eq_true rfl) (fun X C => ?_)
  change am_K G X { frames := 10, cells := 6, slots := 36, locals := 230 } 8 Λ I J 0 0 0 [(0, .ref x), (1, .int (nI 24)), (2, .int c), (3, .int u1), (4, .int u2), (5, .int u3), (6, .int u4)] []
  refine k_iload_n C (f := 1) (i := 1) (p := 1) rfl rfl dL_call_0 ?_
  refine k_tswIn C (off := 332) (tgt := 333) (by decide) (by decide) (by decide) (by decide) dL_call_1 ?_
  refine k_aload_n C (f := 0) (i := 0) (p := 0) rfl rfl dL_call_333 ?_
  refine k_iload_n C (f := 2) (i := 2) (p := 2) rfl rfl dL_call_334 ?_
  refine k_callV C s_L_86 h_X5_strain (L5_s hx) rfl (ct_X5_strain hx hr) rfl rfl (Nat.le_of_ble_eq_true rfl) ⟨Nat.le_of_ble_eq_true rfl, Nat.le_of_ble_eq_true rfl⟩ ⟨Nat.le_of_ble_eq_true rfl, Nat.le_of_ble_eq_true rfl⟩ dL_call_335 ?_ ?_
  · skip
    intro v Λ' I' J' hv
    obtain ⟨rfl, hcd, rfl, rfl, rfl⟩ := hv
    exact k_iret C (Nat.le_of_ble_eq_true rfl) (Nat.le_of_ble_eq_true rfl) (⟨by rw [if_pos hcd], rfl, rfl, rfl⟩) dL_call_338
  · skip
    intro E Λ' I' J' hp
    obtain ⟨rfl, hcd, rfl, rfl, rfl⟩ := hp
    refine k_catchI C (E := "java/lang/IndexOutOfBoundsException") 150 ⟨333, 338, 461, 148⟩ [140, 144, 146] rfl (by decide +kernel) am_hc_148 (by decide) (by decide) am_cl_RL_148 am_ca_148 (fun q => ?_)
    refine k_astore C (i := 7) (lv := [(7, _), (0, _), (1, _), (2, _), (3, _), (4, _), (5, _), (6, _)]) (Nat.le_of_ble_eq_true rfl) rfl dL_call_461 ?_
    refine k_bipush C bc_m104 dL_call_463 ?_
    exact k_iret C (Nat.le_of_ble_eq_true rfl) (Nat.le_of_ble_eq_true rfl) (⟨by rw [hcd]; rfl, rfl, rfl, rfl⟩) dL_call_465
set_option maxHeartbeats 4000000 in
set_option maxRecDepth 100000 in
theorem ct_c25 {G : am_G} {Λ : am_L} {I : am_I} {J : am_J} {x : Nat} {r : Nat → Int32} {c : Int32} {u1 u2 u3 u4 : Int32} (hx : RouLay Λ x) (hr : CarRel I (x + 34) (x + 35) (x + 24) r) : am_CtH G yL_call cL_call 8 (some .int) hhL { frames := 10, cells := 6, slots := 36, locals := 230 } [.ref x, .int (nI 25), .int c, .int u1, .int u2, .int u3, .int u4] Λ I J (am_pure (.int (if (cdI (sp_nc r) c) = 0 then (r (15 + 8 * c.toNatClampNeg)) else (-104))) Λ I J) am_never := by
  refine am_ctH_of (own := RL) rfl (by decide) (Nat.le_of_ble_eq_true rfl) (fun X C => ?_)
  change am_K G X { frames := 10, cells := 6, slots := 36, locals := 230 } 8 Λ I J 0 0 0 [(0, .ref x), (1, .int (nI 25)), (2, .int c), (3, .int u1), (4, .int u2), (5, .int u3), (6, .int u4)] []
  refine k_iload_n C (f := 1) (i := 1) (p := 1) rfl rfl dL_call_0 ?_
  refine k_tswIn C (off := 338) (tgt := 339) (by decide) (by decide) (by decide) (by decide) dL_call_1 ?_
  refine k_aload_n C (f := 0) (i := 0) (p := 0) rfl rfl dL_call_339 ?_
  refine k_iload_n C (f := 2) (i := 2) (p := 2) rfl rfl dL_call_340 ?_
  refine k_callV C s_L_89 h_X5_lameDays (L5_s hx) rfl (ct_X5_lameDays hx hr) rfl rfl (Nat.le_of_ble_eq_true rfl) ⟨Nat.le_of_ble_eq_true rfl, Nat.le_of_ble_eq_true rfl⟩ ⟨Nat.le_of_ble_eq_true rfl, Nat.le_of_ble_eq_true rfl⟩ dL_call_341 ?_ ?_
  · skip
    intro v Λ' I' J' hv
    obtain ⟨rfl, hcd, rfl, rfl, rfl⟩ := hv
    exact k_iret C (Nat.le_of_ble_eq_true rfl) (Nat.le_of_ble_eq_true rfl) (⟨by rw [if_pos hcd], rfl, rfl, rfl⟩) dL_call_344
  · skip
    intro E Λ' I' J' hp
    obtain ⟨rfl, hcd, rfl, rfl, rfl⟩ := hp
    refine k_catchI C (E := "java/lang/IndexOutOfBoundsException") 151 ⟨339, 344, 461, 148⟩ [140, 144, 146] rfl (by decide +kernel) am_hc_148 (by decide) (by decide) am_cl_RL_148 am_ca_148 (fun q => ?_)
    refine k_astore C (i := 7) (lv := [(7, _), (0, _), (1, _), (2, _), (3, _), (4, _), (5, _), (6, _)]) (Nat.le_of_ble_eq_true rfl) rfl dL_call_461 ?_
    refine k_bipush C bc_m104 dL_call_463 ?_
    exact k_iret C (Nat.le_of_ble_eq_true rfl) (Nat.le_of_ble_eq_true rfl) (⟨by rw [hcd]; rfl, rfl, rfl, rfl⟩) dL_call_465
set_option maxHeartbeats 4000000 in
set_option maxRecDepth 100000 in
theorem ct_c26 {G : am_G} {Λ : am_L} {I : am_I} {J : am_J} {x : Nat} {r : Nat → Int32} {c : Int32} {u1 u2 u3 u4 : Int32} (hx : RouLay Λ x) (hr : CarRel I (x + 34) (x + 35) (x + 24) r) : am_CtH G yL_call cL_call 8 (some .int) hhL { frames := 10, cells := 6, slots := 36, locals := 230 } [.ref x, .int (nI 26), .int c, .int u1, .int u2, .int u3, .int u4] Λ I J (am_pure (.int (if (cdI (sp_nc r) c) = 0 then (r (16 + 8 * c.toNatClampNeg)) else (-104))) Λ I J) am_never := by
  refine am_ctH_of (own := RL) rfl (by decide) (Nat.le_of_ble_eq_true rfl) (fun X C => ?_)
  change am_K G X { frames := 10, cells := 6, slots := 36, locals := 230 } 8 Λ I J 0 0 0 [(0, .ref x), (1, .int (nI 26)), (2, .int c), (3, .int u1), (4, .int u2), (5, .int u3), (6, .int u4)] []
  refine k_iload_n C (f := 1) (i := 1) (p := 1) rfl rfl dL_call_0 ?_
  refine k_tswIn C (off := 344) (tgt := 345) (by decide) (by decide) (by decide) (by decide) dL_call_1 ?_
  refine k_aload_n C (f := 0) (i := 0) (p := 0) rfl rfl dL_call_345 ?_
  refine k_iload_n C (f := 2) (i := 2) (p := 2) rfl rfl dL_call_346 ?_
  refine k_callV C s_L_92 h_X5_dryDays (L5_s hx) rfl (ct_X5_dryDays hx hr) rfl rfl (Nat.le_of_ble_eq_true rfl) ⟨Nat.le_of_ble_eq_true rfl, Nat.le_of_ble_eq_true rfl⟩ ⟨Nat.le_of_ble_eq_true rfl, Nat.le_of_ble_eq_true rfl⟩ dL_call_347 ?_ ?_
  · skip
    intro v Λ' I' J' hv
    obtain ⟨rfl, hcd, rfl, rfl, rfl⟩ := hv
    exact k_iret C (Nat.le_of_ble_eq_true rfl) (Nat.le_of_ble_eq_true rfl) (⟨by rw [if_pos hcd], rfl, rfl, rfl⟩) dL_call_350
  · skip
    intro E Λ' I' J' hp
    obtain ⟨rfl, hcd, rfl, rfl, rfl⟩ := hp
    refine k_catchI C (E := "java/lang/IndexOutOfBoundsException") 152 ⟨345, 350, 461, 148⟩ [140, 144, 146] rfl (by decide +kernel) am_hc_148 (by decide) (by decide) am_cl_RL_148 am_ca_148 (fun q => ?_)
    refine k_astore C (i := 7) (lv := [(7, _), (0, _), (1, _), (2, _), (3, _), (4, _), (5, _), (6, _)]) (Nat.le_of_ble_eq_true rfl) rfl dL_call_461 ?_
    refine k_bipush C bc_m104 dL_call_463 ?_
    exact k_iret C (Nat.le_of_ble_eq_true rfl) (Nat.le_of_ble_eq_true rfl) (⟨by rw [hcd]; rfl, rfl, rfl, rfl⟩) dL_call_465
set_option maxHeartbeats 4000000 in
set_option maxRecDepth 100000 in
theorem ct_c27 {G : am_G} {Λ : am_L} {I : am_I} {J : am_J} {x : Nat} {r : Nat → Int32} {c : Int32} {u1 u2 u3 u4 : Int32} (hx : RouLay Λ x) (hr : CarRel I (x + 34) (x + 35) (x + 24) r) : am_CtH G yL_call cL_call 8 (some .int) hhL { frames := 10, cells := 6, slots := 36, locals := 230 } [.ref x, .int (nI 27), .int c, .int u1, .int u2, .int u3, .int u4] Λ I J (am_pure (.int (if (cdI (sp_nc r) c) = 0 then (sp_car r c.toNatClampNeg) else (-104))) Λ I J) am_never := by
  refine am_ctH_of (own := RL) rfl (by decide) (Nat.le_of_ble_eq_true rfl) (fun X C => ?_)
  change am_K G X { frames := 10, cells := 6, slots := 36, locals := 230 } 8 Λ I J 0 0 0 [(0, .ref x), (1, .int (nI 27)), (2, .int c), (3, .int u1), (4, .int u2), (5, .int u3), (6, .int u4)] []
  refine k_iload_n C (f := 1) (i := 1) (p := 1) rfl rfl dL_call_0 ?_
  refine k_tswIn C (off := 350) (tgt := 351) (by decide) (by decide) (by decide) (by decide) dL_call_1 ?_
  refine k_aload_n C (f := 0) (i := 0) (p := 0) rfl rfl dL_call_351 ?_
  refine k_iload_n C (f := 2) (i := 2) (p := 2) rfl rfl dL_call_352 ?_
  refine k_callV C s_L_95 h_X5_carried (L5_s hx) rfl (ct_X5_carried hx hr) rfl rfl (Nat.le_of_ble_eq_true rfl) ⟨Nat.le_of_ble_eq_true rfl, Nat.le_of_ble_eq_true rfl⟩ ⟨Nat.le_of_ble_eq_true rfl, Nat.le_of_ble_eq_true rfl⟩ dL_call_353 ?_ ?_
  · skip
    intro v Λ' I' J' hv
    obtain ⟨rfl, hcd, rfl, rfl, rfl⟩ := hv
    exact k_iret C (Nat.le_of_ble_eq_true rfl) (Nat.le_of_ble_eq_true rfl) (⟨by rw [if_pos hcd], rfl, rfl, rfl⟩) dL_call_356
  · skip
    intro E Λ' I' J' hp
    obtain ⟨rfl, hcd, rfl, rfl, rfl⟩ := hp
    refine k_catchI C (E := "java/lang/IndexOutOfBoundsException") 153 ⟨351, 356, 461, 148⟩ [140, 144, 146] rfl (by decide +kernel) am_hc_148 (by decide) (by decide) am_cl_RL_148 am_ca_148 (fun q => ?_)
    refine k_astore C (i := 7) (lv := [(7, _), (0, _), (1, _), (2, _), (3, _), (4, _), (5, _), (6, _)]) (Nat.le_of_ble_eq_true rfl) rfl dL_call_461 ?_
    refine k_bipush C bc_m104 dL_call_463 ?_
    exact k_iret C (Nat.le_of_ble_eq_true rfl) (Nat.le_of_ble_eq_true rfl) (⟨by rw [hcd]; rfl, rfl, rfl, rfl⟩) dL_call_465
