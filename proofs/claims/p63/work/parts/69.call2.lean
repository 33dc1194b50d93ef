set_option maxHeartbeats 4000000 in
set_option maxRecDepth 100000 in
theorem ct_c28 {G : am_G} {Λ : am_L} {I : am_I} {J : am_J} {x : Nat} {r : Nat → Int32} {c : Int32} {u1 u2 u3 u4 : Int32} (hx : RouLay Λ x) (hr : CarRel I (x + 34) (x + 35) (x + 24) r) : am_CtH G yL_call cL_call 8 (some .int) hhL { frames := 10, cells := 6, slots := 36, locals := 230 } [.ref x, .int (nI 28), .int c, .int u1, .int u2, .int u3, .int u4] Λ I J (am_pure (.int (if (cdI (sp_nc r) c) = 0 then (sp_free r c.toNatClampNeg) else (-104))) Λ I J) am_never := by
  refine am_ctH_of (own := RL) rfl (by decide) (Nat.le_of_ble_eq_true rfl) (fun X C => ?_)
  change am_K G X { frames := 10, cells := 6, slots := 36, locals := 230 } 8 Λ I J 0 0 0 [(0, .ref x), (1, .int (nI 28)), (2, .int c), (3, .int u1), (4, .int u2), (5, .int u3), (6, .int u4)] []
  refine k_iload_n C (f := 1) (i := 1) (p := 1) rfl rfl dL_call_0 ?_
  refine k_tswIn C (off := 356) (tgt := 357) (by decide) (by decide) (by decide) (by decide) dL_call_1 ?_
  refine k_aload_n C (f := 0) (i := 0) (p := 0) rfl rfl dL_call_357 ?_
  refine k_iload_n C (f := 2) (i := 2) (p := 2) rfl rfl dL_call_358 ?_
  refine k_callV C s_L_98 h_X5_freeWeight (L5_s hx) rfl (ct_X5_freeWeight hx hr) rfl rfl (Nat.le_of_ble_eq_true rfl) ⟨Nat.le_of_ble_eq_true rfl, Nat.le_of_ble_eq_true rfl⟩ ⟨Nat.le_of_ble_eq_true rfl, Nat.le_of_ble_eq_true rfl⟩ dL_call_359 ?_ ?_
  · skip
    intro v Λ' I' J' hv
    obtain ⟨rfl, hcd, rfl, rfl, rfl⟩ := hv
    exact k_iret C (Nat.le_of_ble_eq_true rfl) (Nat.le_of_ble_eq_true rfl) (⟨by rw [if_pos hcd], rfl, rfl, rfl⟩) dL_call_362
  · skip
    intro E Λ' I' J' hp
    obtain ⟨rfl, hcd, rfl, rfl, rfl⟩ := hp
    refine k_catchI C (E := "java/lang/IndexOutOfBoundsException") 154 ⟨357, 362, 461, 148⟩ [140, 144, 146] rfl (by decide +kernel) am_hc_148 (by decide) (by decide) am_cl_RL_148 am_ca_148 (fun q => ?_)
    refine k_astore C (i := 7) (lv := [(7, _), (0, _), (1, _), (2, _), (3, _), (4, _), (5, _), (6, _)]) (Nat.le_of_ble_eq_true rfl) rfl dL_call_461 ?_
    refine k_bipush C bc_m104 dL_call_463 ?_
    exact k_iret C (Nat.le_of_ble_eq_true rfl) (Nat.le_of_ble_eq_true rfl) (⟨by rw [hcd]; rfl, rfl, rfl, rfl⟩) dL_call_465
set_option maxHeartbeats 4000000 in
set_option maxRecDepth 100000 in
theorem ct_c29 {G : am_G} {Λ : am_L} {I : am_I} {J : am_J} {x : Nat} {r : Nat → Int32} {c : Int32} {u1 u2 u3 u4 : Int32} (hx : RouLay Λ x) (hr : CarRel I (x + 34) (x + 35) (x + 24) r) : am_CtH G yL_call cL_call 8 (some .int) hhL { frames := 10, cells := 6, slots := 36, locals := 230 } [.ref x, .int (nI 29), .int c, .int u1, .int u2, .int u3, .int u4] Λ I J (am_pure (.int (if (cdI (sp_nc r) c) = 0 then (sp_speed r c.toNatClampNeg) else (-104))) Λ I J) am_never := by
  refine am_ctH_of (own := RL) rfl (by decide) (Nat.le_of_ble_eq_true rfl) (fun X C => ?_)
  change am_K G X { frames := 10, cells := 6, slots := 36, locals := 230 } 8 Λ I J 0 0 0 [(0, .ref x), (1, .int (nI 29)), (2, .int c), (3, .int u1), (4, .int u2), (5, .int u3), (6, .int u4)] []
  refine k_iload_n C (f := 1) (i := 1) (p := 1) rfl rfl dL_call_0 ?_
  refine k_tswIn C (off := 362) (tgt := 363) (by decide) (by decide) (by decide) (by decide) dL_call_1 ?_
  refine k_aload_n C (f := 0) (i := 0) (p := 0) rfl rfl dL_call_363 ?_
  refine k_iload_n C (f := 2) (i := 2) (p := 2) rfl rfl dL_call_364 ?_
  refine k_callV C s_L_101 h_X5_speed (L5_s hx) rfl (ct_X5_speed hx hr) rfl rfl (Nat.le_of_ble_eq_true rfl) ⟨Nat.le_of_ble_eq_true rfl, Nat.le_of_ble_eq_true rfl⟩ ⟨Nat.le_of_ble_eq_true rfl, Nat.le_of_ble_eq_true rfl⟩ dL_call_365 ?_ ?_
  · skip
    intro v Λ' I' J' hv
    obtain ⟨rfl, hcd, rfl, rfl, rfl⟩ := hv
    exact k_iret C (Nat.le_of_ble_eq_true rfl) (Nat.le_of_ble_eq_true rfl) (⟨by rw [if_pos hcd], rfl, rfl, rfl⟩) dL_call_368
  · skip
    intro E Λ' I' J' hp
    obtain ⟨rfl, hcd, rfl, rfl, rfl⟩ := hp
    refine k_catchI C (E := "java/lang/IndexOutOfBoundsException") 155 ⟨363, 368, 461, 148⟩ [140, 144, 146] rfl (by decide +kernel) am_hc_148 (by decide) (by decide) am_cl_RL_148 am_ca_148 (fun q => ?_)
    refine k_astore C (i := 7) (lv := [(7, _), (0, _), (1, _), (2, _), (3, _), (4, _), (5, _), (6, _)]) (Nat.le_of_ble_eq_true rfl) rfl dL_call_461 ?_
    refine k_bipush C bc_m104 dL_call_463 ?_
    exact k_iret C (Nat.le_of_ble_eq_true rfl) (Nat.le_of_ble_eq_true rfl) (⟨by rw [hcd]; rfl, rfl, rfl, rfl⟩) dL_call_465
set_option maxHeartbeats 4000000 in
set_option maxRecDepth 100000 in
theorem ct_c30 {G : am_G} {Λ : am_L} {I : am_I} {J : am_J} {x : Nat} {r : Nat → Int32}  {u1 u2 u3 u4 u5 : Int32} (hx : RouLay Λ x) (hr : CarRel I (x + 34) (x + 35) (x + 24) r) : am_CtH G yL_call cL_call 8 (some .int) hhL { frames := 10, cells := 6, slots := 36, locals := 230 } [.ref x, .int (nI 30), .int u1, .int u2, .int u3, .int u4, .int u5] Λ I J (am_pure (.int (if (if sp_thirst r = -1 then 1 else 0) = 0 then (sp_thirst r) else (-101))) Λ I J) am_never := by
  refine am_ctH_of (own := RL) rfl (by decide) (Nat.le_of_ble_eq_true rfl) (fun X C => ?_)
  change am_K G X { frames := 10, cells := 6, slots := 36, locals := 230 } 8 Λ I J 0 0 0 [(0, .ref x), (1, .int (nI 30)), (2, .int u1), (3, .int u2), (4, .int u3), (5, .int u4), (6, .int u5)] []
  refine k_iload_n C (f := 1) (i := 1) (p := 1) rfl rfl dL_call_0 ?_
  refine k_tswIn C (off := 368) (tgt := 369) (by decide) (by decide) (by decide) (by decide) dL_call_1 ?_
  refine k_aload_n C (f := 0) (i := 0) (p := 0) rfl rfl dL_call_369 ?_
  refine k_callV C s_L_104 h_X5_thirstiest (L5_s hx) rfl (ct_X5_thirstiest hx hr) rfl rfl (Nat.le_of_ble_eq_true rfl) ⟨Nat.le_of_ble_eq_true rfl, Nat.le_of_ble_eq_true rfl⟩ ⟨Nat.le_of_ble_eq_true rfl, Nat.le_of_ble_eq_true rfl⟩ dL_call_370 ?_ ?_
  · skip
    intro v Λ' I' J' hv
    obtain ⟨rfl, hcd, rfl, rfl, rfl⟩ := hv
    exact k_iret C (Nat.le_of_ble_eq_true rfl) (Nat.le_of_ble_eq_true rfl) (⟨by rw [if_pos hcd], rfl, rfl, rfl⟩) dL_call_373
  · skip
    intro E Λ' I' J' hp
    obtain ⟨rfl, hcd, rfl, rfl, rfl⟩ := hp
    refine k_catchI C (E := "java/util/NoSuchElementException") 30 ⟨369, 373, 446, 140⟩ [] rfl (by decide +kernel) am_hc_140 (by decide) (by decide) am_cl_RL_140 am_ca_140 (fun q => ?_)
    refine k_astore C (i := 7) (lv := [(7, _), (0, _), (1, _), (2, _), (3, _), (4, _), (5, _), (6, _)]) (Nat.le_of_ble_eq_true rfl) rfl dL_call_446 ?_
    refine k_bipush C bc_m101 dL_call_448 ?_
    exact k_iret C (Nat.le_of_ble_eq_true rfl) (Nat.le_of_ble_eq_true rfl) (⟨by rw [hcd]; rfl, rfl, rfl, rfl⟩) dL_call_450
set_option maxHeartbeats 4000000 in
set_option maxRecDepth 100000 in
theorem ct_c31 {G : am_G} {Λ : am_L} {I : am_I} {J : am_J} {x : Nat} {r : Nat → Int32}  {u1 u2 u3 u4 u5 : Int32} (hx : RouLay Λ x) (hr : CarRel I (x + 34) (x + 35) (x + 24) r) : am_CtH G yL_call cL_call 8 (some .int) hhL { frames := 10, cells := 6, slots := 36, locals := 230 } [.ref x, .int (nI 31), .int u1, .int u2, .int u3, .int u4, .int u5] Λ I J (am_pure (.int (if (if sp_fast r = -1 then 1 else 0) = 0 then (sp_fast r) else (-101))) Λ I J) am_never := by
  refine am_ctH_of (own := RL) rfl (by decide) (Nat.le_of_ble_eq_true rfl) (fun X C => ?_)
  change am_K G X { frames := 10, cells := 6, slots := 36, locals := 230 } 8 Λ I J 0 0 0 [(0, .ref x), (1, .int (nI 31)), (2, .int u1), (3, .int u2), (4, .int u3), (5, .int u4), (6, .int u5)] []
  refine k_iload_n C (f := 1) (i := 1) (p := 1) rfl rfl dL_call_0 ?_
  refine k_tswIn C (off := 373) (tgt := 374) (by decide) (by decide) (by decide) (by decide) dL_call_1 ?_
  refine k_aload_n C (f := 0) (i := 0) (p := 0) rfl rfl dL_call_374 ?_
  refine k_callV C s_L_107 h_X5_fastest (L5_s hx) rfl (ct_X5_fastest hx hr) rfl rfl (Nat.le_of_ble_eq_true rfl) ⟨Nat.le_of_ble_eq_true rfl, Nat.le_of_ble_eq_true rfl⟩ ⟨Nat.le_of_ble_eq_true rfl, Nat.le_of_ble_eq_true rfl⟩ dL_call_375 ?_ ?_
  · skip
    intro v Λ' I' J' hv
    obtain ⟨rfl, hcd, rfl, rfl, rfl⟩ := hv
    exact k_iret C (Nat.le_of_ble_eq_true rfl) (Nat.le_of_ble_eq_true rfl) (⟨by rw [if_pos hcd], rfl, rfl, rfl⟩) dL_call_378
  · skip
    intro E Λ' I' J' hp
    obtain ⟨rfl, hcd, rfl, rfl, rfl⟩ := hp
    refine k_catchI C (E := "java/util/NoSuchElementException") 31 ⟨374, 378, 446, 140⟩ [] rfl (by decide +kernel) am_hc_140 (by decide) (by decide) am_cl_RL_140 am_ca_140 (fun q => ?_)
    refine k_astore C (i := 7) (lv := [(7, _), (0, _), (1, _), (2, _), (3, _), (4, _), (5, _), (6, _)]) (Nat.le_of_ble_eq_true rfl) rfl dL_call_446 ?_
    refine k_bipush C bc_m101 dL_call_448 ?_
    exact k_iret C (Nat.le_of_ble_eq_true rfl) (Nat.le_of_ble_eq_true rfl) (⟨by rw [hcd]; rfl, rfl, rfl, rfl⟩) dL_call_450
set_option maxHeartbeats 4000000 in
set_option maxRecDepth 100000 in
theorem ct_c32 {G : am_G} {Λ : am_L} {I : am_I} {J : am_J} {x : Nat} {r : Nat → Int32} {c : Int32} {u1 u2 u3 u4 : Int32} (hx : RouLay Λ x) (hr : CarRel I (x + 34) (x + 35) (x + 24) r) : am_CtH G yL_call cL_call 8 (some .int) hhL { frames := 10, cells := 6, slots := 36, locals := 230 } [.ref x, .int (nI 32), .int c, .int u1, .int u2, .int u3, .int u4] Λ I J (am_pure (.int (if (cdI (sp_nl r) c) = 0 then (r (140 + 4 * c.toNatClampNeg)) else (-104))) Λ I J) am_never := by
  refine am_ctH_of (own := RL) rfl (by decide) (Nat.le_of_ble_eq_true rfl) (fun X C => ?_)
  change am_K G X { frames := 10, cells := 6, slots := 36, locals := 230 } 8 Λ I J 0 0 0 [(0, .ref x), (1, .int (nI 32)), (2, .int c), (3, .int u1), (4, .int u2), (5, .int u3), (6, .int u4)] []
  refine k_iload_n C (f := 1) (i := 1) (p := 1) rfl rfl dL_call_0 ?_
  refine k_tswIn C (off := 378) (tgt := 379) (by decide) (by decide) (by decide) (by decide) dL_call_1 ?_
  refine k_aload_n C (f := 0) (i := 0) (p := 0) rfl rfl dL_call_379 ?_
  refine k_iload_n C (f := 2) (i := 2) (p := 2) rfl rfl dL_call_380 ?_
  refine k_callV C s_L_110 h_X5_weightOf (L5_s hx) rfl (ct_X5_weightOf hx hr) rfl rfl (Nat.le_of_ble_eq_true rfl) ⟨Nat.le_of_ble_eq_true rfl, Nat.le_of_ble_eq_true rfl⟩ ⟨Nat.le_of_ble_eq_true rfl, Nat.le_of_ble_eq_true rfl⟩ dL_call_381 ?_ ?_
  · skip
    intro v Λ' I' J' hv
    obtain ⟨rfl, hcd, rfl, rfl, rfl⟩ := hv
    exact k_iret C (Nat.le_of_ble_eq_true rfl) (Nat.le_of_ble_eq_true rfl) (⟨by rw [if_pos hcd], rfl, rfl, rfl⟩) dL_call_384
  · skip
    intro E Λ' I' J' hp
    obtain ⟨rfl, hcd, rfl, rfl, rfl⟩ := hp
    refine k_catchI C (E := "java/lang/IndexOutOfBoundsException") 158 ⟨379, 384, 461, 148⟩ [140, 144, 146] rfl (by decide +kernel) am_hc_148 (by decide) (by decide) am_cl_RL_148 am_ca_148 (fun q => ?_)
    refine k_astore C (i := 7) (lv := [(7, _), (0, _), (1, _), (2, _), (3, _), (4, _), (5, _), (6, _)]) (Nat.le_of_ble_eq_true rfl) rfl dL_call_461 ?_
    refine k_bipush C bc_m104 dL_call_463 ?_
    exact k_iret C (Nat.le_of_ble_eq_true rfl) (Nat.le_of_ble_eq_true rfl) (⟨by rw [hcd]; rfl, rfl, rfl, rfl⟩) dL_call_465
set_option maxHeartbeats 4000000 in
set_option maxRecDepth 100000 in
theorem ct_c33 {G : am_G} {Λ : am_L} {I : am_I} {J : am_J} {x : Nat} {r : Nat → Int32} {c : Int32} {u1 u2 u3 u4 : Int32} (hx : RouLay Λ x) (hr : CarRel I (x + 34) (x + 35) (x + 24) r) : am_CtH G yL_call cL_call 8 (some .int) hhL { frames := 10, cells := 6, slots := 36, locals := 230 } [.ref x, .int (nI 33), .int c, .int u1, .int u2, .int u3, .int u4] Λ I J (am_pure (.int (if (cdI (sp_nl r) c) = 0 then (r (141 + 4 * c.toNatClampNeg)) else (-104))) Λ I J) am_never := by
  refine am_ctH_of (own := RL) rfl (by decide) (Nat.le_of_ble_eq_true rfl) (fun X C => ?_)
  change am_K G X { frames := 10, cells := 6, slots := 36, locals := 230 } 8 Λ I J 0 0 0 [(0, .ref x), (1, .int (nI 33)), (2, .int c), (3, .int u1), (4, .int u2), (5, .int u3), (6, .int u4)] []
  refine k_iload_n C (f := 1) (i := 1) (p := 1) rfl rfl dL_call_0 ?_
  refine k_tswIn C (off := 384) (tgt := 385) (by decide) (by decide) (by decide) (by decide) dL_call_1 ?_
  refine k_aload_n C (f := 0) (i := 0) (p := 0) rfl rfl dL_call_385 ?_
  refine k_iload_n C (f := 2) (i := 2) (p := 2) rfl rfl dL_call_386 ?_
  refine k_callV C s_L_113 h_X5_valueOf (L5_s hx) rfl (ct_X5_valueOf hx hr) rfl rfl (Nat.le_of_ble_eq_true rfl) ⟨Nat.le_of_ble_eq_true rfl, Nat.le_of_ble_eq_true rfl⟩ ⟨Nat.le_of_ble_eq_true rfl, Nat.le_of_ble_eq_true rfl⟩ dL_call_387 ?_ ?_
  · skip
    intro v Λ' I' J' hv
    obtain ⟨rfl, hcd, rfl, rfl, rfl⟩ := hv
    exact k_iret C (Nat.le_of_ble_eq_true rfl) (Nat.le_of_ble_eq_true rfl) (⟨by rw [if_pos hcd], rfl, rfl, rfl⟩) dL_call_390
  · skip
    intro E Λ' I' J' hp
    obtain ⟨rfl, hcd, rfl, rfl, rfl⟩ := hp
    refine k_catchI C (E := "java/lang/IndexOutOfBoundsException") 159 ⟨385, 390, 461, 148⟩ [140, 144, 146] rfl (by decide +kernel) am_hc_148 (by decide) (by decide) am_cl_RL_148 am_ca_148 (fun q => ?_)
    refine k_astore C (i := 7) (lv := [(7, _), (0, _), (1, _), (2, _), (3, _), (4, _), (5, _), (6, _)]) (Nat.le_of_ble_eq_true rfl) rfl dL_call_461 ?_
    refine k_bipush C bc_m104 dL_call_463 ?_
    exact k_iret C (Nat.le_of_ble_eq_true rfl) (Nat.le_of_ble_eq_true rfl) (⟨by rw [hcd]; rfl, rfl, rfl, rfl⟩) dL_call_465
set_option maxHeartbeats 4000000 in
set_option maxRecDepth 100000 in
theorem ct_c34 {G : am_G} {Λ : am_L} {I : am_I} {J : am_J} {x : Nat} {r : Nat → Int32} {c : Int32} {u1 u2 u3 u4 : Int32} (hx : RouLay Λ x) (hr : CarRel I (x + 34) (x + 35) (x + 24) r) : am_CtH G yL_call cL_call 8 (some .int) hhL { frames := 10, cells := 6, slots := 36, locals := 230 } [.ref x, .int (nI 34), .int c, .int u1, .int u2, .int u3, .int u4] Λ I J (am_pure (.int (if (cdI (sp_nl r) c) = 0 then (am_b (¬ r (142 + 4 * c.toNatClampNeg) = -1)) else (-104))) Λ I J) am_never := by
  refine am_ctH_of (own := RL) rfl (by decide) (Nat.le_of_ble_eq_true rfl) (fun X C => ?_)
  change am_K G X { frames := 10, cells := 6, slots := 36, locals := 230 } 8 Λ I J 0 0 0 [(0, .ref x), (1, .int (nI 34)), (2, .int c), (3, .int u1), (4, .int u2), (5, .int u3), (6, .int u4)] []
  refine k_iload_n C (f := 1) (i := 1) (p := 1) rfl rfl dL_call_0 ?_
  refine k_tswIn C (off := 390) (tgt := 391) (by decide) (by decide) (by decide) (by decide) dL_call_1 ?_
  refine k_aload_n C (f := 0) (i := 0) (p := 0) rfl rfl dL_call_391 ?_
  refine k_iload_n C (f := 2) (i := 2) (p := 2) rfl rfl dL_call_392 ?_
  refine k_callV C s_L_116 h_X5_isCarried (L5_s hx) rfl (ct_X5_isCarried hx hr) rfl rfl (Nat.le_of_ble_eq_true rfl) ⟨Nat.le_of_ble_eq_true rfl, Nat.le_of_ble_eq_true rfl⟩ ⟨Nat.le_of_ble_eq_true rfl, Nat.le_of_ble_eq_true rfl⟩ dL_call_393 ?_ ?_
  · skip
    intro v Λ' I' J' hv
    obtain ⟨rfl, hcd, rfl, rfl, rfl⟩ := hv
    refine k_ifb_eq C (tgt := 403) (by decide) dL_call_396 (fun hc396 => ?_) (fun hc396 => ?_)
    · skip
      refine k_iconst C ic_0 dL_call_403 ?_
      exact k_iret C (Nat.le_of_ble_eq_true rfl) (Nat.le_of_ble_eq_true rfl) (⟨by rw [if_pos hcd]; first | exact congrArg (fun z => some (Value.int z)) (am_bt hc396) | exact congrArg (fun z => some (Value.int z)) (am_bf hc396), rfl, rfl, rfl⟩) dL_call_404
    · skip
      refine k_iconst C ic_1 dL_call_399 ?_
      refine k_goto C (tgt := 404) (by decide) dL_call_400 ?_
      exact k_iret C (Nat.le_of_ble_eq_true rfl) (Nat.le_of_ble_eq_true rfl) (⟨by rw [if_pos hcd]; first | exact congrArg (fun z => some (Value.int z)) (am_bt hc396) | exact congrArg (fun z => some (Value.int z)) (am_bf hc396), rfl, rfl, rfl⟩) dL_call_404
  · skip
    intro E Λ' I' J' hp
    obtain ⟨rfl, hcd, rfl, rfl, rfl⟩ := hp
    refine k_catchI C (E := "java/lang/IndexOutOfBoundsException") 160 ⟨391, 404, 461, 148⟩ [140, 144, 146] rfl (by decide +kernel) am_hc_148 (by decide) (by decide) am_cl_RL_148 am_ca_148 (fun q => ?_)
    refine k_astore C (i := 7) (lv := [(7, _), (0, _), (1, _), (2, _), (3, _), (4, _), (5, _), (6, _)]) (Nat.le_of_ble_eq_true rfl) rfl dL_call_461 ?_
    refine k_bipush C bc_m104 dL_call_463 ?_
    exact k_iret C (Nat.le_of_ble_eq_true rfl) (Nat.le_of_ble_eq_true rfl) (⟨by rw [hcd]; rfl, rfl, rfl, rfl⟩) dL_call_465
set_option maxHeartbeats 4000000 in
set_option maxRecDepth 100000 in
theorem ct_c35 {G : am_G} {Λ : am_L} {I : am_I} {J : am_J} {x : Nat} {r : Nat → Int32} {c : Int32} {u1 u2 u3 u4 : Int32} (hx : RouLay Λ x) (hr : CarRel I (x + 34) (x + 35) (x + 24) r) : am_CtH G yL_call cL_call 8 (some .int) hhL { frames := 10, cells := 6, slots := 36, locals := 230 } [.ref x, .int (nI 35), .int c, .int u1, .int u2, .int u3, .int u4] Λ I J (am_pure (.int (if (if cdI (sp_nl r) c = 0 then (if r (142 + 4 * c.toNatClampNeg) = -1 then 2 else 0) else 1) = 0 then (r (142 + 4 * c.toNatClampNeg)) else if (if cdI (sp_nl r) c = 0 then (if r (142 + 4 * c.toNatClampNeg) = -1 then 2 else 0) else 1) = 1 then (-104) else (-101))) Λ I J) am_never := by
  refine am_ctH_of (own := RL) rfl (by decide) (Nat.le_of_ble_eq_true rfl) (fun X C => ?_)
  change am_K G X { frames := 10, cells := 6, slots := 36, locals := 230 } 8 Λ I J 0 0 0 [(0, .ref x), (1, .int (nI 35)), (2, .int c), (3, .int u1), (4, .int u2), (5, .int u3), (6, .int u4)] []
  refine k_iload_n C (f := 1) (i := 1) (p := 1) rfl rfl dL_call_0 ?_
  refine k_tswIn C (off := 404) (tgt := 405) (by decide) (by decide) (by decide) (by decide) dL_call_1 ?_
  refine k_aload_n C (f := 0) (i := 0) (p := 0) rfl rfl dL_call_405 ?_
  refine k_iload_n C (f := 2) (i := 2) (p := 2) rfl rfl dL_call_406 ?_
  refine k_callV C s_L_119 h_X5_carrierOf (L5_s hx) rfl (ct_X5_carrierOf hx hr) rfl rfl (Nat.le_of_ble_eq_true rfl) ⟨Nat.le_of_ble_eq_true rfl, Nat.le_of_ble_eq_true rfl⟩ ⟨Nat.le_of_ble_eq_true rfl, Nat.le_of_ble_eq_true rfl⟩ dL_call_407 ?_ ?_
  · skip
    intro v Λ' I' J' hv
    obtain ⟨rfl, hcd, rfl, rfl, rfl⟩ := hv
    exact k_iret C (Nat.le_of_ble_eq_true rfl) (Nat.le_of_ble_eq_true rfl) (⟨by rw [if_pos hcd], rfl, rfl, rfl⟩) dL_call_410
  · skip
    intro E Λ' I' J' hp
    obtain ⟨(⟨rfl, hcd⟩ | ⟨rfl, hcd⟩), rfl, rfl, rfl⟩ := hp
    · skip
      refine k_catchI C (E := "java/lang/IndexOutOfBoundsException") 161 ⟨405, 410, 461, 148⟩ [140, 144, 146] rfl (by decide +kernel) am_hc_148 (by decide) (by decide) am_cl_RL_148 am_ca_148 (fun q => ?_)
      refine k_astore C (i := 7) (lv := [(7, _), (0, _), (1, _), (2, _), (3, _), (4, _), (5, _), (6, _)]) (Nat.le_of_ble_eq_true rfl) rfl dL_call_461 ?_
      refine k_bipush C bc_m104 dL_call_463 ?_
      exact k_iret C (Nat.le_of_ble_eq_true rfl) (Nat.le_of_ble_eq_true rfl) (⟨by rw [hcd]; rfl, rfl, rfl, rfl⟩) dL_call_465
    · skip
      refine k_catchI C (E := "java/util/NoSuchElementException") 35 ⟨405, 410, 446, 140⟩ [] rfl (by decide +kernel) am_hc_140 (by decide) (by decide) am_cl_RL_140 am_ca_140 (fun q => ?_)
      refine k_astore C (i := 7) (lv := [(7, _), (0, _), (1, _), (2, _), (3, _), (4, _), (5, _), (6, _)]) (Nat.le_of_ble_eq_true rfl) rfl dL_call_446 ?_
      refine k_bipush C bc_m101 dL_call_448 ?_
      exact k_iret C (Nat.le_of_ble_eq_true rfl) (Nat.le_of_ble_eq_true rfl) (⟨by rw [hcd]; rfl, rfl, rfl, rfl⟩) dL_call_450
set_option maxHeartbeats 4000000 in
set_option maxRecDepth 100000 in
theorem ct_c36 {G : am_G} {Λ : am_L} {I : am_I} {J : am_J} {x : Nat} {r : Nat → Int32} {c : Int32} {u1 u2 u3 u4 : Int32} (hx : RouLay Λ x) (hr : CarRel I (x + 34) (x + 35) (x + 24) r) : am_CtH G yL_call cL_call 8 (some .int) hhL { frames := 10, cells := 6, slots := 36, locals := 230 } [.ref x, .int (nI 36), .int c, .int u1, .int u2, .int u3, .int u4] Λ I J (am_pure (.int (if (cdI (sp_nl r) c) = 0 then (if r (142 + 4 * c.toNatClampNeg) = -1 then r (143 + 4 * c.toNatClampNeg) else r 1) else (-104))) Λ I J) am_never := by
  refine am_ctH_of (own := RL) rfl (by decide) (Nat.le_of_ble_eq_true rfl) (fun X C => ?_)
  change am_K G X { frames := 10, cells := 6, slots := 36, locals := 230 } 8 Λ I J 0 0 0 [(0, .ref x), (1, .int (nI 36)), (2, .int c), (3, .int u1), (4, .int u2), (5, .int u3), (6, .int u4)] []
  refine k_iload_n C (f := 1) (i := 1) (p := 1) rfl rfl dL_call_0 ?_
  refine k_tswIn C (off := 410) (tgt := 411) (by decide) (by decide) (by decide) (by decide) dL_call_1 ?_
  refine k_aload_n C (f := 0) (i := 0) (p := 0) rfl rfl dL_call_411 ?_
  refine k_iload_n C (f := 2) (i := 2) (p := 2) rfl rfl dL_call_412 ?_
  refine k_callV C s_L_122 h_X5_placeOf (L5_s hx) rfl (ct_X5_placeOf hx hr) rfl rfl (Nat.le_of_ble_eq_true rfl) ⟨Nat.le_of_ble_eq_true rfl, Nat.le_of_ble_eq_true rfl⟩ ⟨Nat.le_of_ble_eq_true rfl, Nat.le_of_ble_eq_true rfl⟩ dL_call_413 ?_ ?_
  · skip
    intro v Λ' I' J' hv
    obtain ⟨rfl, hcd, rfl, rfl, rfl⟩ := hv
    exact k_iret C (Nat.le_of_ble_eq_true rfl) (Nat.le_of_ble_eq_true rfl) (⟨by rw [if_pos hcd], rfl, rfl, rfl⟩) dL_call_416
  · skip
    intro E Λ' I' J' hp
    obtain ⟨rfl, hcd, rfl, rfl, rfl⟩ := hp
    refine k_catchI C (E := "java/lang/IndexOutOfBoundsException") 162 ⟨411, 416, 461, 148⟩ [140, 144, 146] rfl (by decide +kernel) am_hc_148 (by decide) (by decide) am_cl_RL_148 am_ca_148 (fun q => ?_)
    refine k_astore C (i := 7) (lv := [(7, _), (0, _), (1, _), (2, _), (3, _), (4, _), (5, _), (6, _)]) (Nat.le_of_ble_eq_true rfl) rfl dL_call_461 ?_
    refine k_bipush C bc_m104 dL_call_463 ?_
    exact k_iret C (Nat.le_of_ble_eq_true rfl) (Nat.le_of_ble_eq_true rfl) (⟨by rw [hcd]; rfl, rfl, rfl, rfl⟩) dL_call_465
set_option maxHeartbeats 4000000 in
set_option maxRecDepth 100000 in
theorem ct_c37 {G : am_G} {Λ : am_L} {I : am_I} {J : am_J} {x : Nat} {r : Nat → Int32} {c : Int32} {u1 u2 u3 u4 : Int32} (hx : RouLay Λ x) (hr : CarRel I (x + 34) (x + 35) (x + 24) r) : am_CtH G yL_call cL_call 8 (some .int) hhL { frames := 10, cells := 6, slots := 36, locals := 230 } [.ref x, .int (nI 37), .int c, .int u1, .int u2, .int u3, .int u4] Λ I J (am_pure (.int (if (cdI (sp_nc r) c) = 0 then (if r (16 + 8 * c.toNatClampNeg) < nI 3 then sp_need r c.toNatClampNeg (sp_storm r (r 2)) else nI 0) else (-104))) Λ I J) am_never := by
  refine am_ctH_of (own := RL) rfl (by decide) (Nat.le_of_ble_eq_true rfl) (fun X C => ?_)
  change am_K G X { frames := 10, cells := 6, slots := 36, locals := 230 } 8 Λ I J 0 0 0 [(0, .ref x), (1, .int (nI 37)), (2, .int c), (3, .int u1), (4, .int u2), (5, .int u3), (6, .int u4)] []
  refine k_iload_n C (f := 1) (i := 1) (p := 1) rfl rfl dL_call_0 ?_
  refine k_tswIn C (off := 416) (tgt := 417) (by decide) (by decide) (by decide) (by decide) dL_call_1 ?_
  refine k_aload_n C (f := 0) (i := 0) (p := 0) rfl rfl dL_call_417 ?_
  refine k_iload_n C (f := 2) (i := 2) (p := 2) rfl rfl dL_call_418 ?_
  refine k_callV C s_L_125 h_X5_needToday (L5_s hx) rfl (ct_X5_needToday hx hr) rfl rfl (Nat.le_of_ble_eq_true rfl) ⟨Nat.le_of_ble_eq_true rfl, Nat.le_of_ble_eq_true rfl⟩ ⟨Nat.le_of_ble_eq_true rfl, Nat.le_of_ble_eq_true rfl⟩ dL_call_419 ?_ ?_
  · skip
    intro v Λ' I' J' hv
    obtain ⟨rfl, hcd, rfl, rfl, rfl⟩ := hv
    exact k_iret C (Nat.le_of_ble_eq_true rfl) (Nat.le_of_ble_eq_true rfl) (⟨by rw [if_pos hcd], rfl, rfl, rfl⟩) dL_call_422
  · skip
    intro E Λ' I' J' hp
    obtain ⟨rfl, hcd, rfl, rfl, rfl⟩ := hp
    refine k_catchI C (E := "java/lang/IndexOutOfBoundsException") 163 ⟨417, 422, 461, 148⟩ [140, 144, 146] rfl (by decide +kernel) am_hc_148 (by decide) (by decide) am_cl_RL_148 am_ca_148 (fun q => ?_)
    refine k_astore C (i := 7) (lv := [(7, _), (0, _), (1, _), (2, _), (3, _), (4, _), (5, _), (6, _)]) (Nat.le_of_ble_eq_true rfl) rfl dL_call_461 ?_
    refine k_bipush C bc_m104 dL_call_463 ?_
    exact k_iret C (Nat.le_of_ble_eq_true rfl) (Nat.le_of_ble_eq_true rfl) (⟨by rw [hcd]; rfl, rfl, rfl, rfl⟩) dL_call_465
set_option maxHeartbeats 4000000 in
set_option maxRecDepth 100000 in
theorem ct_c38 {G : am_G} {Λ : am_L} {I : am_I} {J : am_J} {x n ct : Nat} {tb : Nat → Nat} {err : Int32} {r : Nat → Int32} {hs : Nat → Nat → Int32} {kp : Nat → Bool} {sn : Nat → Nat → Int32} {w : Nat × (Nat → Int32)} {a : Int32} {u1 u2 u3 u4 : Int32} (hx : RouLay Λ x) (hR : RouRel I x tb n err r ct hs kp sn w) (hok : RowOk r) : am_CtH G yL_call cL_call 8 (some .int) hhL { frames := 10, cells := 6, slots := 36, locals := 230 } [.ref x, .int (nI 38), .int a, .int u1, .int u2, .int u3, .int u4] Λ I J (am_gen Λ J (fun v I' => v = some (.int (if (if a < 0 ∨ nI 50 < a then 1 else 0) = 0 then (nI (sp_living (sp_goN r a.toNatClampNeg))) else (-103))) ∧ ((if a < 0 ∨ nI 50 < a then 1 else 0) = 0 → RouRel I' x (tb) (n) (err) (r) (ct) (hs) (kp) (sn) (w) ∧ RFr x I I') ∧ (¬ (if a < 0 ∨ nI 50 < a then 1 else 0) = 0 → I' = I))) am_never := by
  refine am_ctH_of (own := RL) rfl (by decide) (Nat.le_of_ble_eq_true rfl) (fun X C => ?_)
  change am_K G X { frames := 10, cells := 6, slots := 36, locals := 230 } 8 Λ I J 0 0 0 [(0, .ref x), (1, .int (nI 38)), (2, .int a), (3, .int u1), (4, .int u2), (5, .int u3), (6, .int u4)] []
  refine k_iload_n C (f := 1) (i := 1) (p := 1) rfl rfl dL_call_0 ?_
  refine k_tswIn C (off := 422) (tgt := 423) (by decide) (by decide) (by decide) (by decide) dL_call_1 ?_
  refine k_aload_n C (f := 0) (i := 0) (p := 0) rfl rfl dL_call_423 ?_
  refine k_iload_n C (f := 2) (i := 2) (p := 2) rfl rfl dL_call_424 ?_
  refine k_callV C s_L_128 h_X5_livingAfter (L5_s hx) rfl (ct_X5_livingAfter hx hR hok) rfl rfl (Nat.le_of_ble_eq_true rfl) ⟨Nat.le_of_ble_eq_true rfl, Nat.le_of_ble_eq_true rfl⟩ ⟨Nat.le_of_ble_eq_true rfl, Nat.le_of_ble_eq_true rfl⟩ dL_call_425 ?_ ?_
  · skip
    intro v Λ' I' J' hv
    obtain ⟨rfl, hcd, rfl, rfl, hP⟩ := hv
    exact k_iret C (Nat.le_of_ble_eq_true rfl) (Nat.le_of_ble_eq_true rfl) (⟨rfl, rfl, by rw [if_pos hcd], fun _ => hP, fun h => absurd hcd h⟩) dL_call_428
  · skip
    intro E Λ' I' J' hp
    obtain ⟨rfl, hcd, rfl, rfl, rfl⟩ := hp
    refine k_catchI C (E := "java/lang/IllegalArgumentException") 122 ⟨423, 428, 456, 146⟩ [140, 144] rfl (by decide +kernel) am_hc_146 (by decide) (by decide) am_cl_RL_146 am_ca_146 (fun q => ?_)
    refine k_astore C (i := 7) (lv := [(7, _), (0, _), (1, _), (2, _), (3, _), (4, _), (5, _), (6, _)]) (Nat.le_of_ble_eq_true rfl) rfl dL_call_456 ?_
    refine k_bipush C bc_m103 dL_call_458 ?_
    exact k_iret C (Nat.le_of_ble_eq_true rfl) (Nat.le_of_ble_eq_true rfl) (⟨rfl, rfl, by rw [hcd]; rfl, fun h => absurd (hcd.symm.trans h) (by decide), fun _ => rfl⟩) dL_call_460
set_option maxHeartbeats 4000000 in
set_option maxRecDepth 100000 in
theorem ct_c39 {G : am_G} {Λ : am_L} {I : am_I} {J : am_J} {x n ct : Nat} {tb : Nat → Nat} {err : Int32} {r : Nat → Int32} {hs : Nat → Nat → Int32} {kp : Nat → Bool} {sn : Nat → Nat → Int32} {w : Nat × (Nat → Int32)}  {u1 u2 u3 u4 u5 : Int32} (hx : RouLay Λ x) (hR : RouRel I x tb n err r ct hs kp sn w) (hok : RowOk r) : am_CtH G yL_call cL_call 8 (some .int) hhL { frames := 10, cells := 6, slots := 36, locals := 230 } [.ref x, .int (nI 39), .int u1, .int u2, .int u3, .int u4, .int u5] Λ I J (am_gen Λ J (fun v I' => v = some (.int (if (if sp_goN r 200 0 ≤ sp_goN r 200 1 then 0 else 1) = 0 then (sp_goN r 200 2 - r 2) else (-101))) ∧ RouRel I' x (tb) (n) (err) (r) (ct) (hs) (kp) (sn) (w) ∧ RFr x I I')) am_never := by
  refine am_ctH_of (own := RL) rfl (by decide) (Nat.le_of_ble_eq_true rfl) (fun X C => ?_)
  change am_K G X { frames := 10, cells := 6, slots := 36, locals := 230 } 8 Λ I J 0 0 0 [(0, .ref x), (1, .int (nI 39)), (2, .int u1), (3, .int u2), (4, .int u3), (5, .int u4), (6, .int u5)] []
  refine k_iload_n C (f := 1) (i := 1) (p := 1) rfl rfl dL_call_0 ?_
  refine k_tswIn C (off := 428) (tgt := 429) (by decide) (by decide) (by decide) (by decide) dL_call_1 ?_
  refine k_aload_n C (f := 0) (i := 0) (p := 0) rfl rfl dL_call_429 ?_
  refine k_callV C s_L_131 h_X5_daysToArrival (L5_s hx) rfl (ct_X5_daysToArrival hx hR hok) rfl rfl (Nat.le_of_ble_eq_true rfl) ⟨Nat.le_of_ble_eq_true rfl, Nat.le_of_ble_eq_true rfl⟩ ⟨Nat.le_of_ble_eq_true rfl, Nat.le_of_ble_eq_true rfl⟩ dL_call_430 ?_ ?_
  · skip
    intro v Λ' I' J' hv
    obtain ⟨rfl, hcd, rfl, rfl, hP⟩ := hv
    exact k_iret C (Nat.le_of_ble_eq_true rfl) (Nat.le_of_ble_eq_true rfl) (⟨rfl, rfl, by rw [if_pos hcd], hP⟩) dL_call_433
  · skip
    intro E Λ' I' J' hp
    obtain ⟨rfl, hcd, rfl, rfl, hP⟩ := hp
    refine k_catchI C (E := "java/util/NoSuchElementException") 39 ⟨429, 433, 446, 140⟩ [] rfl (by decide +kernel) am_hc_140 (by decide) (by decide) am_cl_RL_140 am_ca_140 (fun q => ?_)
    refine k_astore C (i := 7) (lv := [(7, _), (0, _), (1, _), (2, _), (3, _), (4, _), (5, _), (6, _)]) (Nat.le_of_ble_eq_true rfl) rfl dL_call_446 ?_
    refine k_bipush C bc_m101 dL_call_448 ?_
    exact k_iret C (Nat.le_of_ble_eq_true rfl) (Nat.le_of_ble_eq_true rfl) (⟨rfl, rfl, by rw [hcd]; rfl, hP⟩) dL_call_450
set_option maxHeartbeats 4000000 in
set_option maxRecDepth 100000 in
theorem ct_c40 {G : am_G} {Λ : am_L} {I : am_I} {J : am_J} {x n ct : Nat} {tb : Nat → Nat} {err : Int32} {r : Nat → Int32} {hs : Nat → Nat → Int32} {kp : Nat → Bool} {sn : Nat → Nat → Int32} {w : Nat × (Nat → Int32)} {c : Int32} {u1 u2 u3 u4 : Int32} (hx : RouLay Λ x) (hR : RouRel I x tb n err r ct hs kp sn w) (hok : RowOk r) : am_CtH G yL_call cL_call 8 (some .int) hhL { frames := 10, cells := 6, slots := 36, locals := 230 } [.ref x, .int (nI 40), .int c, .int u1, .int u2, .int u3, .int u4] Λ I J (am_gen Λ J (fun v I' => v = some (.int (if (if cdI (sp_nc r) c = 0 then (if sp_wellOn r (r 1) = -1 then 2 else 0) else 1) = 0 then (if r (16 + 8 * c.toNatClampNeg) < nI 3 then sp_drinks r (sp_wellOn r (r 1)).toNatClampNeg c.toNatClampNeg else nI 0) else if (if cdI (sp_nc r) c = 0 then (if sp_wellOn r (r 1) = -1 then 2 else 0) else 1) = 1 then (-104) else (-102))) ∧ ((if cdI (sp_nc r) c = 0 then (if sp_wellOn r (r 1) = -1 then 2 else 0) else 1) = 0 → RouRel I' x (tb) (n) (err) (r) (ct) (hs) (kp) (sn) (w) ∧ RFr x I I') ∧ (¬ (if cdI (sp_nc r) c = 0 then (if sp_wellOn r (r 1) = -1 then 2 else 0) else 1) = 0 → I' = I))) am_never := by
  refine am_ctH_of (own := RL) rfl (by decide) (Nat.le_of_ble_eq_true rfl) (fun X C => ?_)
  change am_K G X { frames := 10, cells := 6, slots := 36, locals := 230 } 8 Λ I J 0 0 0 [(0, .ref x), (1, .int (nI 40)), (2, .int c), (3, .int u1), (4, .int u2), (5, .int u3), (6, .int u4)] []
  refine k_iload_n C (f := 1) (i := 1) (p := 1) rfl rfl dL_call_0 ?_
  refine k_tswIn C (off := 433) (tgt := 434) (by decide) (by decide) (by decide) (by decide) dL_call_1 ?_
  refine k_aload_n C (f := 0) (i := 0) (p := 0) rfl rfl dL_call_434 ?_
  refine k_iload_n C (f := 2) (i := 2) (p := 2) rfl rfl dL_call_435 ?_
  refine k_callV C s_L_134 h_X5_wouldDrink (L5_s hx) rfl (ct_X5_wouldDrink hx hR hok) rfl rfl (Nat.le_of_ble_eq_true rfl) ⟨Nat.le_of_ble_eq_true rfl, Nat.le_of_ble_eq_true rfl⟩ ⟨Nat.le_of_ble_eq_true rfl, Nat.le_of_ble_eq_true rfl⟩ dL_call_436 ?_ ?_
  · skip
    intro v Λ' I' J' hv
    obtain ⟨rfl, hcd, rfl, rfl, hP⟩ := hv
    exact k_iret C (Nat.le_of_ble_eq_true rfl) (Nat.le_of_ble_eq_true rfl) (⟨rfl, rfl, by rw [if_pos hcd], fun _ => hP, fun h => absurd hcd h⟩) dL_call_439
  · skip
    intro E Λ' I' J' hp
    obtain ⟨(⟨rfl, hcd⟩ | ⟨rfl, hcd⟩), rfl, rfl, rfl⟩ := hp
    · skip
      refine k_catchI C (E := "java/lang/IndexOutOfBoundsException") 166 ⟨434, 439, 461, 148⟩ [140, 144, 146] rfl (by decide +kernel) am_hc_148 (by decide) (by decide) am_cl_RL_148 am_ca_148 (fun q => ?_)
      refine k_astore C (i := 7) (lv := [(7, _), (0, _), (1, _), (2, _), (3, _), (4, _), (5, _), (6, _)]) (Nat.le_of_ble_eq_true rfl) rfl dL_call_461 ?_
      refine k_bipush C bc_m104 dL_call_463 ?_
      exact k_iret C (Nat.le_of_ble_eq_true rfl) (Nat.le_of_ble_eq_true rfl) (⟨rfl, rfl, by rw [hcd]; rfl, fun h => absurd (hcd.symm.trans h) (by decide), fun _ => rfl⟩) dL_call_465
    · skip
      refine k_catchI C (E := "java/lang/IllegalStateException") 82 ⟨434, 439, 451, 144⟩ [140] rfl (by decide +kernel) am_hc_144 (by decide) (by decide) am_cl_RL_144 am_ca_144 (fun q => ?_)
      refine k_astore C (i := 7) (lv := [(7, _), (0, _), (1, _), (2, _), (3, _), (4, _), (5, _), (6, _)]) (Nat.le_of_ble_eq_true rfl) rfl dL_call_451 ?_
      refine k_bipush C bc_m102 dL_call_453 ?_
      exact k_iret C (Nat.le_of_ble_eq_true rfl) (Nat.le_of_ble_eq_true rfl) (⟨rfl, rfl, by rw [hcd]; rfl, fun h => absurd (hcd.symm.trans h) (by decide), fun _ => rfl⟩) dL_call_455
set_option maxHeartbeats 4000000 in
set_option maxRecDepth 100000 in
theorem ct_c41 {G : am_G} {Λ : am_L} {I : am_I} {J : am_J} {x : Nat} {i : Int32} {t : Nat × (Nat → Int32)} {u1 u2 u3 u4 : Int32} (hx : RouLay Λ x) (ht : WriRel I (x + 171) t) (hn : t.1 ≤ 140) : am_CtH G yL_call cL_call 8 (some .int) hhL { frames := 10, cells := 6, slots := 36, locals := 230 } [.ref x, .int (nI 41), .int i, .int u1, .int u2, .int u3, .int u4] Λ I J (am_pure (.int (if (if i < 0 ∨ ¬ i < nI t.1 then 1 else 0) = 0 then (t.2 i.toNatClampNeg) else (-104))) Λ I J) am_never := by
  refine am_ctH_of (own := RL) rfl (by decide) (Nat.le_of_ble_eq_true rfl) (fun X C => ?_)
  change am_K G X { frames := 10, cells := 6, slots := 36, locals := 230 } 8 Λ I J 0 0 0 [(0, .ref x), (1, .int (nI 41)), (2, .int i), (3, .int u1), (4, .int u2), (5, .int u3), (6, .int u4)] []
  refine k_iload_n C (f := 1) (i := 1) (p := 1) rfl rfl dL_call_0 ?_
  refine k_tswOut C (tgt := 440) (by decide) (by decide) dL_call_1 ?_
  refine k_aload_n C (f := 0) (i := 0) (p := 0) rfl rfl dL_call_440 ?_
  refine k_iload_n C (f := 2) (i := 2) (p := 2) rfl rfl dL_call_441 ?_
  refine k_callV C s_L_137 h_X5_writtenByte (L5_s hx) rfl (ct_X5_writtenByte hx ht hn) rfl rfl (Nat.le_of_ble_eq_true rfl) ⟨Nat.le_of_ble_eq_true rfl, Nat.le_of_ble_eq_true rfl⟩ ⟨Nat.le_of_ble_eq_true rfl, Nat.le_of_ble_eq_true rfl⟩ dL_call_442 ?_ ?_
  · skip
    intro v Λ' I' J' hv
    obtain ⟨rfl, hcd, rfl, rfl, rfl⟩ := hv
    exact k_iret C (Nat.le_of_ble_eq_true rfl) (Nat.le_of_ble_eq_true rfl) (⟨by rw [if_pos hcd], rfl, rfl, rfl⟩) dL_call_445
  · skip
    intro E Λ' I' J' hp
    obtain ⟨rfl, hcd, rfl, rfl, rfl⟩ := hp
    refine k_catchI C (E := "java/lang/IndexOutOfBoundsException") 167 ⟨440, 445, 461, 148⟩ [140, 144, 146] rfl (by decide +kernel) am_hc_148 (by decide) (by decide) am_cl_RL_148 am_ca_148 (fun q => ?_)
    refine k_astore C (i := 7) (lv := [(7, _), (0, _), (1, _), (2, _), (3, _), (4, _), (5, _), (6, _)]) (Nat.le_of_ble_eq_true rfl) rfl dL_call_461 ?_
    refine k_bipush C bc_m104 dL_call_463 ?_
    exact k_iret C (Nat.le_of_ble_eq_true rfl) (Nat.le_of_ble_eq_true rfl) (⟨by rw [hcd]; rfl, rfl, rfl, rfl⟩) dL_call_465
