/-! ===== the law: a call of the class, an exception as a number below -100 ===== -/
theorem bc_m101 : (Int8.ofInt (-101)).toInt32 = (-101) := by decide
theorem bc_m102 : (Int8.ofInt (-102)).toInt32 = (-102) := by decide
theorem bc_m103 : (Int8.ofInt (-103)).toInt32 = (-103) := by decide
theorem bc_m104 : (Int8.ofInt (-104)).toInt32 = (-104) := by decide
theorem am_cl_RL_140 : Cond.classLink RL 140 "java/util/NoSuchElementException" ∈ am_tbl := am_wd 509 (by decide +kernel) rfl
theorem am_ca_140 : Cond.castable "java/util/NoSuchElementException" "java/util/NoSuchElementException" ∈ lw_tbl := List.mem_of_getElem? (i := 793) (by decide +kernel)
theorem am_cl_RL_144 : Cond.classLink RL 144 "java/lang/IllegalStateException" ∈ am_tbl := am_wd 510 (by decide +kernel) rfl
theorem am_ca_144 : Cond.castable "java/lang/IllegalStateException" "java/lang/IllegalStateException" ∈ lw_tbl := List.mem_of_getElem? (i := 539) (by decide +kernel)
theorem am_cl_RL_146 : Cond.classLink RL 146 "java/lang/IllegalArgumentException" ∈ am_tbl := am_wd 511 (by decide +kernel) rfl
theorem am_ca_146 : Cond.castable "java/lang/IllegalArgumentException" "java/lang/IllegalArgumentException" ∈ lw_tbl := List.mem_of_getElem? (i := 753) (by decide +kernel)
theorem am_cl_RL_148 : Cond.classLink RL 148 "java/lang/IndexOutOfBoundsException" ∈ am_tbl := am_wd 512 (by decide +kernel) rfl
theorem am_ca_148 : Cond.castable "java/lang/IndexOutOfBoundsException" "java/lang/IndexOutOfBoundsException" ∈ lw_tbl := List.mem_of_getElem? (i := 706) (by decide +kernel)
theorem am_hc_140 : ∀ c ∈ ([] : List Nat), c ≠ 0 ∧ ∃ nm : String, Cond.classLink RL c nm ∈ am_tbl ∧ ∃ i : Nat, am_ncs[i]? = some ("java/util/NoSuchElementException", nm) := fun _ h => nomatch h
theorem am_hc_144 : ∀ c ∈ ([140] : List Nat), c ≠ 0 ∧ ∃ nm : String, Cond.classLink RL c nm ∈ am_tbl ∧ ∃ i : Nat, am_ncs[i]? = some ("java/lang/IllegalStateException", nm) := by
  intro c hc
  simp only [List.mem_cons, List.mem_nil_iff, or_false] at hc
  rcases hc with rfl
  · exact ⟨by decide, "java/util/NoSuchElementException", am_cl_RL_140, 6, rfl⟩
theorem am_hc_146 : ∀ c ∈ ([140, 144] : List Nat), c ≠ 0 ∧ ∃ nm : String, Cond.classLink RL c nm ∈ am_tbl ∧ ∃ i : Nat, am_ncs[i]? = some ("java/lang/IllegalArgumentException", nm) := by
  intro c hc
  simp only [List.mem_cons, List.mem_nil_iff, or_false] at hc
  rcases hc with rfl | rfl
  · exact ⟨by decide, "java/util/NoSuchElementException", am_cl_RL_140, 8, rfl⟩
  · exact ⟨by decide, "java/lang/IllegalStateException", am_cl_RL_144, 18, rfl⟩
theorem am_hc_148 : ∀ c ∈ ([140, 144, 146] : List Nat), c ≠ 0 ∧ ∃ nm : String, Cond.classLink RL c nm ∈ am_tbl ∧ ∃ i : Nat, am_ncs[i]? = some ("java/lang/IndexOutOfBoundsException", nm) := by
  intro c hc
  simp only [List.mem_cons, List.mem_nil_iff, or_false] at hc
  rcases hc with rfl | rfl | rfl
  · exact ⟨by decide, "java/util/NoSuchElementException", am_cl_RL_140, 7, rfl⟩
  · exact ⟨by decide, "java/lang/IllegalStateException", am_cl_RL_144, 17, rfl⟩
  · exact ⟨by decide, "java/lang/IllegalArgumentException", am_cl_RL_146, 29, rfl⟩
abbrev hhL : List (Nat × Nat × Nat × Nat) := [(0, 184, 446, 140), (185, 189, 446, 140), (190, 194, 446, 140), (195, 200, 446, 140), (201, 207, 446, 140), (208, 213, 446, 140), (214, 220, 446, 140), (221, 225, 446, 140), (226, 231, 446, 140), (232, 237, 446, 140), (238, 242, 446, 140), (243, 255, 446, 140), (256, 261, 446, 140), (262, 266, 446, 140), (267, 272, 446, 140), (273, 278, 446, 140), (279, 284, 446, 140), (285, 290, 446, 140), (291, 295, 446, 140), (296, 300, 446, 140), (301, 314, 446, 140), (315, 320, 446, 140), (321, 326, 446, 140), (327, 332, 446, 140), (333, 338, 446, 140), (339, 344, 446, 140), (345, 350, 446, 140), (351, 356, 446, 140), (357, 362, 446, 140), (363, 368, 446, 140), (369, 373, 446, 140), (374, 378, 446, 140), (379, 384, 446, 140), (385, 390, 446, 140), (391, 404, 446, 140), (405, 410, 446, 140), (411, 416, 446, 140), (417, 422, 446, 140), (423, 428, 446, 140), (429, 433, 446, 140), (434, 439, 446, 140), (440, 445, 446, 140), (0, 184, 451, 144), (185, 189, 451, 144), (190, 194, 451, 144), (195, 200, 451, 144), (201, 207, 451, 144), (208, 213, 451, 144), (214, 220, 451, 144), (221, 225, 451, 144), (226, 231, 451, 144), (232, 237, 451, 144), (238, 242, 451, 144), (243, 255, 451, 144), (256, 261, 451, 144), (262, 266, 451, 144), (267, 272, 451, 144), (273, 278, 451, 144), (279, 284, 451, 144), (285, 290, 451, 144), (291, 295, 451, 144), (296, 300, 451, 144), (301, 314, 451, 144), (315, 320, 451, 144), (321, 326, 451, 144), (327, 332, 451, 144), (333, 338, 451, 144), (339, 344, 451, 144), (345, 350, 451, 144), (351, 356, 451, 144), (357, 362, 451, 144), (363, 368, 451, 144), (369, 373, 451, 144), (374, 378, 451, 144), (379, 384, 451, 144), (385, 390, 451, 144), (391, 404, 451, 144), (405, 410, 451, 144), (411, 416, 451, 144), (417, 422, 451, 144), (423, 428, 451, 144), (429, 433, 451, 144), (434, 439, 451, 144), (440, 445, 451, 144), (0, 184, 456, 146), (185, 189, 456, 146), (190, 194, 456, 146), (195, 200, 456, 146), (201, 207, 456, 146), (208, 213, 456, 146), (214, 220, 456, 146), (221, 225, 456, 146), (226, 231, 456, 146), (232, 237, 456, 146), (238, 242, 456, 146), (243, 255, 456, 146), (256, 261, 456, 146), (262, 266, 456, 146), (267, 272, 456, 146), (273, 278, 456, 146), (279, 284, 456, 146), (285, 290, 456, 146), (291, 295, 456, 146), (296, 300, 456, 146), (301, 314, 456, 146), (315, 320, 456, 146), (321, 326, 456, 146), (327, 332, 456, 146), (333, 338, 456, 146), (339, 344, 456, 146), (345, 350, 456, 146), (351, 356, 456, 146), (357, 362, 456, 146), (363, 368, 456, 146), (369, 373, 456, 146), (374, 378, 456, 146), (379, 384, 456, 146), (385, 390, 456, 146), (391, 404, 456, 146), (405, 410, 456, 146), (411, 416, 456, 146), (417, 422, 456, 146), (423, 428, 456, 146), (429, 433, 456, 146), (434, 439, 456, 146), (440, 445, 456, 146), (0, 184, 461, 148), (185, 189, 461, 148), (190, 194, 461, 148), (195, 200, 461, 148), (201, 207, 461, 148), (208, 213, 461, 148), (214, 220, 461, 148), (221, 225, 461, 148), (226, 231, 461, 148), (232, 237, 461, 148), (238, 242, 461, 148), (243, 255, 461, 148), (256, 261, 461, 148), (262, 266, 461, 148), (267, 272, 461, 148), (273, 278, 461, 148), (279, 284, 461, 148), (285, 290, 461, 148), (291, 295, 461, 148), (296, 300, 461, 148), (301, 314, 461, 148), (315, 320, 461, 148), (321, 326, 461, 148), (327, 332, 461, 148), (333, 338, 461, 148), (339, 344, 461, 148), (345, 350, 461, 148), (351, 356, 461, 148), (357, 362, 461, 148), (363, 368, 461, 148), (369, 373, 461, 148), (374, 378, 461, 148), (379, 384, 461, 148), (385, 390, 461, 148), (391, 404, 461, 148), (405, 410, 461, 148), (411, 416, 461, 148), (417, 422, 461, 148), (423, 428, 461, 148), (429, 433, 461, 148), (434, 439, 461, 148), (440, 445, 461, 148)]
theorem h_L_callH : Cond.codeWith yL_call cL_call 8 (some .int) hhL ∈ am_tbl := h_L_call
set_option maxHeartbeats 4000000 in
set_option maxRecDepth 100000 in
theorem ct_c0 {G : am_G} {Λ : am_L} {I : am_I} {J : am_J} {x n ct : Nat} {tb : Nat → Nat} {err : Int32} {r : Nat → Int32} {hs : Nat → Nat → Int32} {kp : Nat → Bool} {sn : Nat → Nat → Int32} {w : Nat × (Nat → Int32)} {ld : Nat}  {u1 u2 u3 u4 u5 : Int32} (hx : RouLay Λ x) (hR : RouRel I x tb n err r ct hs kp sn w) (hok : RowOk r) (hld : r 4 = nI ld) (hlc : ld < sp_nc r) : am_CtH G yL_call cL_call 8 (some .int) hhL { frames := 10, cells := 6, slots := 36, locals := 230 } [.ref x, .int (nI 0), .int u1, .int u2, .int u3, .int u4, .int u5] Λ I J (am_gen Λ J (fun v I' => v = some (.int (if (if ¬ r 0 ≤ r 1 ∧ (r 2 < nI 200 ∧ 0 < sp_living r) then 0 else 1) = 0 then (sp_dist r ld) else (-102))) ∧ ((if ¬ r 0 ≤ r 1 ∧ (r 2 < nI 200 ∧ 0 < sp_living r) then 0 else 1) = 0 → RouRel I' x (tb) (n) (err) (sp_travel r ld) ((min 8 (ct + 1))) ((sp_push r hs)) (kp) (sn) (w) ∧ RFr x I I') ∧ (¬ (if ¬ r 0 ≤ r 1 ∧ (r 2 < nI 200 ∧ 0 < sp_living r) then 0 else 1) = 0 → I' = I))) am_never := by
  refine am_ctH_of (own := RL) rfl (by decide) (Nat.le_of_ble_eq_true rfl) (fun X C => ?_)
  change am_K G X { frames := 10, cells := 6, slots := 36, locals := 230 } 8 Λ I J 0 0 0 [(0, .ref x), (1, .int (nI 0)), (2, .int u1), (3, .int u2), (4, .int u3), (5, .int u4), (6, .int u5)] []
  refine k_iload_n C (f := 1) (i := 1) (p := 1) rfl rfl dL_call_0 ?_
  refine k_tswIn C (off := 179) (tgt := 180) (by decide) (by decide) (by decide) (by decide) dL_call_1 ?_
  refine k_aload_n C (f := 0) (i := 0) (p := 0) rfl rfl dL_call_180 ?_
  refine k_callV C s_L_7 h_X5_travel (L5_s hx) rfl (ct_X5_travel hx hR hok hld hlc) rfl rfl (Nat.le_of_ble_eq_true rfl) ⟨Nat.le_of_ble_eq_true rfl, Nat.le_of_ble_eq_true rfl⟩ ⟨Nat.le_of_ble_eq_true rfl, Nat.le_of_ble_eq_true rfl⟩ dL_call_181 ?_ ?_
  · skip
    intro v Λ' I' J' hv
    obtain ⟨rfl, hcd, rfl, rfl, hP⟩ := hv
    exact k_iret C (Nat.le_of_ble_eq_true rfl) (Nat.le_of_ble_eq_true rfl) (⟨rfl, rfl, by rw [if_pos hcd], fun _ => hP, fun h => absurd hcd h⟩) dL_call_184
  · skip
    intro E Λ' I' J' hp
    obtain ⟨rfl, hcd, rfl, rfl, rfl⟩ := hp
    refine k_catchI C (E := "java/lang/IllegalStateException") 42 ⟨0, 184, 451, 144⟩ [140] rfl (by decide +kernel) am_hc_144 (by decide) (by decide) am_cl_RL_144 am_ca_144 (fun q => ?_)
    refine k_astore C (i := 7) (lv := [(7, _), (0, _), (1, _), (2, _), (3, _), (4, _), (5, _), (6, _)]) (Nat.le_of_ble_eq_true rfl) rfl dL_call_451 ?_
    refine k_bipush C bc_m102 dL_call_453 ?_
    exact k_iret C (Nat.le_of_ble_eq_true rfl) (Nat.le_of_ble_eq_true rfl) (⟨rfl, rfl, by rw [hcd]; rfl, fun h => absurd (hcd.symm.trans h) (by decide), fun _ => rfl⟩) dL_call_455
set_option maxHeartbeats 4000000 in
set_option maxRecDepth 100000 in
theorem ct_c1 {G : am_G} {Λ : am_L} {I : am_I} {J : am_J} {x n ct : Nat} {tb : Nat → Nat} {err : Int32} {r : Nat → Int32} {hs : Nat → Nat → Int32} {kp : Nat → Bool} {sn : Nat → Nat → Int32} {w : Nat × (Nat → Int32)} {ld : Nat}  {u1 u2 u3 u4 u5 : Int32} (hx : RouLay Λ x) (hR : RouRel I x tb n err r ct hs kp sn w) (hok : RowOk r) (hld : r 4 = nI ld) (hlc : ld < sp_nc r) : am_CtH G yL_call cL_call 8 (some .int) hhL { frames := 10, cells := 6, slots := 36, locals := 230 } [.ref x, .int (nI 1), .int u1, .int u2, .int u3, .int u4, .int u5] Λ I J (am_gen Λ J (fun v I' => v = some (.int (if (if r 2 < nI 200 ∧ 0 < sp_living r then 0 else 1) = 0 then (nI (sp_living (sp_rest r))) else (-102))) ∧ ((if r 2 < nI 200 ∧ 0 < sp_living r then 0 else 1) = 0 → RouRel I' x (tb) (n) (err) (sp_rest r) ((min 8 (ct + 1))) ((sp_push r hs)) (kp) (sn) (w) ∧ RFr x I I') ∧ (¬ (if r 2 < nI 200 ∧ 0 < sp_living r then 0 else 1) = 0 → I' = I))) am_never := by
  refine am_ctH_of (own := RL) rfl (by decide) (Nat.le_of_ble_eq_true rfl) (fun X C => ?_)
  change am_K G X { frames := 10, cells := 6, slots := 36, locals := 230 } 8 Λ I J 0 0 0 [(0, .ref x), (1, .int (nI 1)), (2, .int u1), (3, .int u2), (4, .int u3), (5, .int u4), (6, .int u5)] []
  refine k_iload_n C (f := 1) (i := 1) (p := 1) rfl rfl dL_call_0 ?_
  refine k_tswIn C (off := 184) (tgt := 185) (by decide) (by decide) (by decide) (by decide) dL_call_1 ?_
  refine k_aload_n C (f := 0) (i := 0) (p := 0) rfl rfl dL_call_185 ?_
  refine k_callV C s_L_13 h_X5_rest (L5_s hx) rfl (ct_X5_rest hx hR hok hld hlc) rfl rfl (Nat.le_of_ble_eq_true rfl) ⟨Nat.le_of_ble_eq_true rfl, Nat.le_of_ble_eq_true rfl⟩ ⟨Nat.le_of_ble_eq_true rfl, Nat.le_of_ble_eq_true rfl⟩ dL_call_186 ?_ ?_
  · skip
    intro v Λ' I' J' hv
    obtain ⟨rfl, hcd, rfl, rfl, hP⟩ := hv
    exact k_iret C (Nat.le_of_ble_eq_true rfl) (Nat.le_of_ble_eq_true rfl) (⟨rfl, rfl, by rw [if_pos hcd], fun _ => hP, fun h => absurd hcd h⟩) dL_call_189
  · skip
    intro E Λ' I' J' hp
    obtain ⟨rfl, hcd, rfl, rfl, rfl⟩ := hp
    refine k_catchI C (E := "java/lang/IllegalStateException") 43 ⟨185, 189, 451, 144⟩ [140] rfl (by decide +kernel) am_hc_144 (by decide) (by decide) am_cl_RL_144 am_ca_144 (fun q => ?_)
    refine k_astore C (i := 7) (lv := [(7, _), (0, _), (1, _), (2, _), (3, _), (4, _), (5, _), (6, _)]) (Nat.le_of_ble_eq_true rfl) rfl dL_call_451 ?_
    refine k_bipush C bc_m102 dL_call_453 ?_
    exact k_iret C (Nat.le_of_ble_eq_true rfl) (Nat.le_of_ble_eq_true rfl) (⟨rfl, rfl, by rw [hcd]; rfl, fun h => absurd (hcd.symm.trans h) (by decide), fun _ => rfl⟩) dL_call_455
set_option maxHeartbeats 4000000 in
set_option maxRecDepth 100000 in
theorem ct_c2 {G : am_G} {Λ : am_L} {I : am_I} {J : am_J} {x n ct : Nat} {tb : Nat → Nat} {err : Int32} {r : Nat → Int32} {hs : Nat → Nat → Int32} {kp : Nat → Bool} {sn : Nat → Nat → Int32} {w : Nat × (Nat → Int32)}  {u1 u2 u3 u4 u5 : Int32} (hx : RouLay Λ x) (hR : RouRel I x tb n err r ct hs kp sn w) (hok : RowOk r) : am_CtH G yL_call cL_call 8 (some .int) hhL { frames := 10, cells := 6, slots := 36, locals := 230 } [.ref x, .int (nI 2), .int u1, .int u2, .int u3, .int u4, .int u5] Λ I J (am_gen Λ J (fun v I' => v = some (.int (if (if sp_wellOn r (r 1) = -1 then 1 else 0) = 0 then (sp_sumTo (sp_drinks r (sp_wellOn r (r 1)).toNatClampNeg) (sp_nc r)) else (-102))) ∧ ((if sp_wellOn r (r 1) = -1 then 1 else 0) = 0 → RouRel I' x (tb) (n) (err) (sp_drink r (sp_drinks r (sp_wellOn r (r 1)).toNatClampNeg) (sp_wellOn r (r 1)).toNatClampNeg) ((min 8 (ct + 1))) ((sp_push r hs)) (kp) (sn) (w) ∧ RFr x I I') ∧ (¬ (if sp_wellOn r (r 1) = -1 then 1 else 0) = 0 → I' = I))) am_never := by
  refine am_ctH_of (own := RL) rfl (by decide) (Nat.le_of_ble_eq_true rfl) (fun X C => ?_)
  change am_K G X { frames := 10, cells := 6, slots := 36, locals := 230 } 8 Λ I J 0 0 0 [(0, .ref x), (1, .int (nI 2)), (2, .int u1), (3, .int u2), (4, .int u3), (5, .int u4), (6, .int u5)] []
  refine k_iload_n C (f := 1) (i := 1) (p := 1) rfl rfl dL_call_0 ?_
  refine k_tswIn C (off := 189) (tgt := 190) (by decide) (by decide) (by decide) (by decide) dL_call_1 ?_
  refine k_aload_n C (f := 0) (i := 0) (p := 0) rfl rfl dL_call_190 ?_
  refine k_callV C s_L_16 h_X5_drink (L5_s hx) rfl (ct_X5_drink hx hR hok) rfl rfl (Nat.le_of_ble_eq_true rfl) ⟨Nat.le_of_ble_eq_true rfl, Nat.le_of_ble_eq_true rfl⟩ ⟨Nat.le_of_ble_eq_true rfl, Nat.le_of_ble_eq_true rfl⟩ dL_call_191 ?_ ?_
  · skip
    intro v Λ' I' J' hv
    obtain ⟨rfl, hcd, rfl, rfl, hP⟩ := hv
    exact k_iret C (Nat.le_of_ble_eq_true rfl) (Nat.le_of_ble_eq_true rfl) (⟨rfl, rfl, by rw [if_pos hcd], fun _ => hP, fun h => absurd hcd h⟩) dL_call_194
  · skip
    intro E Λ' I' J' hp
    obtain ⟨rfl, hcd, rfl, rfl, rfl⟩ := hp
    refine k_catchI C (E := "java/lang/IllegalStateException") 44 ⟨190, 194, 451, 144⟩ [140] rfl (by decide +kernel) am_hc_144 (by decide) (by decide) am_cl_RL_144 am_ca_144 (fun q => ?_)
    refine k_astore C (i := 7) (lv := [(7, _), (0, _), (1, _), (2, _), (3, _), (4, _), (5, _), (6, _)]) (Nat.le_of_ble_eq_true rfl) rfl dL_call_451 ?_
    refine k_bipush C bc_m102 dL_call_453 ?_
    exact k_iret C (Nat.le_of_ble_eq_true rfl) (Nat.le_of_ble_eq_true rfl) (⟨rfl, rfl, by rw [hcd]; rfl, fun h => absurd (hcd.symm.trans h) (by decide), fun _ => rfl⟩) dL_call_455
set_option maxHeartbeats 4000000 in
set_option maxRecDepth 100000 in
theorem ct_c3 {G : am_G} {Λ : am_L} {I : am_I} {J : am_J} {x n ct : Nat} {tb : Nat → Nat} {err : Int32} {r : Nat → Int32} {hs : Nat → Nat → Int32} {kp : Nat → Bool} {sn : Nat → Nat → Int32} {w : Nat × (Nat → Int32)} {c : Int32} {u1 u2 u3 u4 : Int32} (hx : RouLay Λ x) (hR : RouRel I x tb n err r ct hs kp sn w) (hok : RowOk r) : am_CtH G yL_call cL_call 8 (some .int) hhL { frames := 10, cells := 6, slots := 36, locals := 230 } [.ref x, .int (nI 3), .int c, .int u1, .int u2, .int u3, .int u4] Λ I J (am_gen Λ J (fun v I' => v = some (.int (if (if cdI (sp_nc r) c = 0 then (if r (16 + 8 * c.toNatClampNeg) < nI 3 then 0 else 2) else 1) = 0 then (r 4) else if (if cdI (sp_nc r) c = 0 then (if r (16 + 8 * c.toNatClampNeg) < nI 3 then 0 else 2) else 1) = 1 then (-104) else (-102))) ∧ ((if cdI (sp_nc r) c = 0 then (if r (16 + 8 * c.toNatClampNeg) < nI 3 then 0 else 2) else 1) = 0 → RouRel I' x (tb) (n) (err) (upd r 4 c) ((min 8 (ct + 1))) ((sp_push r hs)) (kp) (sn) (w) ∧ RFr x I I') ∧ (¬ (if cdI (sp_nc r) c = 0 then (if r (16 + 8 * c.toNatClampNeg) < nI 3 then 0 else 2) else 1) = 0 → I' = I))) am_never := by
  refine am_ctH_of (own := RL) rfl (by decide) (Nat.le_of_ble_eq_true rfl) (fun X C => ?_)
  change am_K G X { frames := 10, cells := 6, slots := 36, locals := 230 } 8 Λ I J 0 0 0 [(0, .ref x), (1, .int (nI 3)), (2, .int c), (3, .int u1), (4, .int u2), (5, .int u3), (6, .int u4)] []
  refine k_iload_n C (f := 1) (i := 1) (p := 1) rfl rfl dL_call_0 ?_
  refine k_tswIn C (off := 194) (tgt := 195) (by decide) (by decide) (by decide) (by decide) dL_call_1 ?_
  refine k_aload_n C (f := 0) (i := 0) (p := 0) rfl rfl dL_call_195 ?_
  refine k_iload_n C (f := 2) (i := 2) (p := 2) rfl rfl dL_call_196 ?_
  refine k_callV C s_L_19 h_X5_setLeader (L5_s hx) rfl (ct_X5_setLeader hx hR hok) rfl rfl (Nat.le_of_ble_eq_true rfl) ⟨Nat.le_of_ble_eq_true rfl, Nat.le_of_ble_eq_true rfl⟩ ⟨Nat.le_of_ble_eq_true rfl, Nat.le_of_ble_eq_true rfl⟩ dL_call_197 ?_ ?_
  · skip
    intro v Λ' I' J' hv
    obtain ⟨rfl, hcd, rfl, rfl, hP⟩ := hv
    exact k_iret C (Nat.le_of_ble_eq_true rfl) (Nat.le_of_ble_eq_true rfl) (⟨rfl, rfl, by rw [if_pos hcd], fun _ => hP, fun h => absurd hcd h⟩) dL_call_200
  · skip
    intro E Λ' I' J' hp
    obtain ⟨(⟨rfl, hcd⟩ | ⟨rfl, hcd⟩), rfl, rfl, rfl⟩ := hp
    · skip
      refine k_catchI C (E := "java/lang/IndexOutOfBoundsException") 129 ⟨195, 200, 461, 148⟩ [140, 144, 146] rfl (by decide +kernel) am_hc_148 (by decide) (by decide) am_cl_RL_148 am_ca_148 (fun q => ?_)
      refine k_astore C (i := 7) (lv := [(7, _), (0, _), (1, _), (2, _), (3, _), (4, _), (5, _), (6, _)]) (Nat.le_of_ble_eq_true rfl) rfl dL_call_461 ?_
      refine k_bipush C bc_m104 dL_call_463 ?_
      exact k_iret C (Nat.le_of_ble_eq_true rfl) (Nat.le_of_ble_eq_true rfl) (⟨rfl, rfl, by rw [hcd]; rfl, fun h => absurd (hcd.symm.trans h) (by decide), fun _ => rfl⟩) dL_call_465
    · skip
      refine k_catchI C (E := "java/lang/IllegalStateException") 45 ⟨195, 200, 451, 144⟩ [140] rfl (by decide +kernel) am_hc_144 (by decide) (by decide) am_cl_RL_144 am_ca_144 (fun q => ?_)
      refine k_astore C (i := 7) (lv := [(7, _), (0, _), (1, _), (2, _), (3, _), (4, _), (5, _), (6, _)]) (Nat.le_of_ble_eq_true rfl) rfl dL_call_451 ?_
      refine k_bipush C bc_m102 dL_call_453 ?_
      exact k_iret C (Nat.le_of_ble_eq_true rfl) (Nat.le_of_ble_eq_true rfl) (⟨rfl, rfl, by rw [hcd]; rfl, fun h => absurd (hcd.symm.trans h) (by decide), fun _ => rfl⟩) dL_call_455
set_option maxHeartbeats 4000000 in
set_option maxRecDepth 100000 in
theorem ct_c4 {G : am_G} {Λ : am_L} {I : am_I} {J : am_J} {x n ct : Nat} {tb : Nat → Nat} {err : Int32} {r : Nat → Int32} {hs : Nat → Nat → Int32} {kp : Nat → Bool} {sn : Nat → Nat → Int32} {w : Nat × (Nat → Int32)} {a c : Int32} {u1 u2 u3 : Int32} (hx : RouLay Λ x) (hR : RouRel I x tb n err r ct hs kp sn w) (hok : RowOk r) : am_CtH G yL_call cL_call 8 (some .int) hhL { frames := 10, cells := 6, slots := 36, locals := 230 } [.ref x, .int (nI 4), .int a, .int c, .int u1, .int u2, .int u3] Λ I J (am_gen Λ J (fun v I' => v = some (.int (if (if cdI (sp_nl r) a = 0 ∧ cdI (sp_nc r) c = 0 then (if (r (16 + 8 * c.toNatClampNeg) < nI 3 ∧ ¬ r (142 + 4 * a.toNatClampNeg) = c ∧ (if r (142 + 4 * a.toNatClampNeg) = -1 then r (143 + 4 * a.toNatClampNeg) else r 1) = r 1 ∧ ¬ sp_free r c.toNatClampNeg < r (140 + 4 * a.toNatClampNeg)) then 0 else 2) else 1) = 0 then (sp_free (sp_hang (sp_lay r a.toNatClampNeg) a.toNatClampNeg c.toNatClampNeg) c.toNatClampNeg) else if (if cdI (sp_nl r) a = 0 ∧ cdI (sp_nc r) c = 0 then (if (r (16 + 8 * c.toNatClampNeg) < nI 3 ∧ ¬ r (142 + 4 * a.toNatClampNeg) = c ∧ (if r (142 + 4 * a.toNatClampNeg) = -1 then r (143 + 4 * a.toNatClampNeg) else r 1) = r 1 ∧ ¬ sp_free r c.toNatClampNeg < r (140 + 4 * a.toNatClampNeg)) then 0 else 2) else 1) = 1 then (-104) else (-102))) ∧ ((if cdI (sp_nl r) a = 0 ∧ cdI (sp_nc r) c = 0 then (if (r (16 + 8 * c.toNatClampNeg) < nI 3 ∧ ¬ r (142 + 4 * a.toNatClampNeg) = c ∧ (if r (142 + 4 * a.toNatClampNeg) = -1 then r (143 + 4 * a.toNatClampNeg) else r 1) = r 1 ∧ ¬ sp_free r c.toNatClampNeg < r (140 + 4 * a.toNatClampNeg)) then 0 else 2) else 1) = 0 → RouRel I' x (tb) (n) (err) (sp_hang (sp_lay r a.toNatClampNeg) a.toNatClampNeg c.toNatClampNeg) ((min 8 (ct + 1))) ((sp_push r hs)) (kp) (sn) (w) ∧ RFr x I I') ∧ (¬ (if cdI (sp_nl r) a = 0 ∧ cdI (sp_nc r) c = 0 then (if (r (16 + 8 * c.toNatClampNeg) < nI 3 ∧ ¬ r (142 + 4 * a.toNatClampNeg) = c ∧ (if r (142 + 4 * a.toNatClampNeg) = -1 then r (143 + 4 * a.toNatClampNeg) else r 1) = r 1 ∧ ¬ sp_free r c.toNatClampNeg < r (140 + 4 * a.toNatClampNeg)) then 0 else 2) else 1) = 0 → I' = I))) am_never := by
  refine am_ctH_of (own := RL) rfl (by decide) (Nat.le_of_ble_eq_true rfl) (fun X C => ?_)
  change am_K G X { frames := 10, cells := 6, slots := 36, locals := 230 } 8 Λ I J 0 0 0 [(0, .ref x), (1, .int (nI 4)), (2, .int a), (3, .int c), (4, .int u1), (5, .int u2), (6, .int u3)] []
  refine k_iload_n C (f := 1) (i := 1) (p := 1) rfl rfl dL_call_0 ?_
  refine k_tswIn C (off := 200) (tgt := 201) (by decide) (by decide) (by decide) (by decide) dL_call_1 ?_
  refine k_aload_n C (f := 0) (i := 0) (p := 0) rfl rfl dL_call_201 ?_
  refine k_iload_n C (f := 2) (i := 2) (p := 2) rfl rfl dL_call_202 ?_
  refine k_iload_n C (f := 3) (i := 3) (p := 3) rfl rfl dL_call_203 ?_
  refine k_callV C s_L_23 h_X5_putOn (L5_s hx) rfl (ct_X5_putOn hx hR hok) rfl rfl (Nat.le_of_ble_eq_true rfl) ⟨Nat.le_of_ble_eq_true rfl, Nat.le_of_ble_eq_true rfl⟩ ⟨Nat.le_of_ble_eq_true rfl, Nat.le_of_ble_eq_true rfl⟩ dL_call_204 ?_ ?_
  · skip
    intro v Λ' I' J' hv
    obtain ⟨rfl, hcd, rfl, rfl, hP⟩ := hv
    exact k_iret C (Nat.le_of_ble_eq_true rfl) (Nat.le_of_ble_eq_true rfl) (⟨rfl, rfl, by rw [if_pos hcd], fun _ => hP, fun h => absurd hcd h⟩) dL_call_207
  · skip
    intro E Λ' I' J' hp
    obtain ⟨(⟨rfl, hcd⟩ | ⟨rfl, hcd⟩), rfl, rfl, rfl⟩ := hp
    · skip
      refine k_catchI C (E := "java/lang/IndexOutOfBoundsException") 130 ⟨201, 207, 461, 148⟩ [140, 144, 146] rfl (by decide +kernel) am_hc_148 (by decide) (by decide) am_cl_RL_148 am_ca_148 (fun q => ?_)
      refine k_astore C (i := 7) (lv := [(7, _), (0, _), (1, _), (2, _), (3, _), (4, _), (5, _), (6, _)]) (Nat.le_of_ble_eq_true rfl) rfl dL_call_461 ?_
      refine k_bipush C bc_m104 dL_call_463 ?_
      exact k_iret C (Nat.le_of_ble_eq_true rfl) (Nat.le_of_ble_eq_true rfl) (⟨rfl, rfl, by rw [hcd]; rfl, fun h => absurd (hcd.symm.trans h) (by decide), fun _ => rfl⟩) dL_call_465
    · skip
      refine k_catchI C (E := "java/lang/IllegalStateException") 46 ⟨201, 207, 451, 144⟩ [140] rfl (by decide +kernel) am_hc_144 (by decide) (by decide) am_cl_RL_144 am_ca_144 (fun q => ?_)
      refine k_astore C (i := 7) (lv := [(7, _), (0, _), (1, _), (2, _), (3, _), (4, _), (5, _), (6, _)]) (Nat.le_of_ble_eq_true rfl) rfl dL_call_451 ?_
      refine k_bipush C bc_m102 dL_call_453 ?_
      exact k_iret C (Nat.le_of_ble_eq_true rfl) (Nat.le_of_ble_eq_true rfl) (⟨rfl, rfl, by rw [hcd]; rfl, fun h => absurd (hcd.symm.trans h) (by decide), fun _ => rfl⟩) dL_call_455
set_option maxHeartbeats 4000000 in
set_option maxRecDepth 100000 in
theorem ct_c5 {G : am_G} {Λ : am_L} {I : am_I} {J : am_J} {x n ct : Nat} {tb : Nat → Nat} {err : Int32} {r : Nat → Int32} {hs : Nat → Nat → Int32} {kp : Nat → Bool} {sn : Nat → Nat → Int32} {w : Nat × (Nat → Int32)} {c : Int32} {u1 u2 u3 u4 : Int32} (hx : RouLay Λ x) (hR : RouRel I x tb n err r ct hs kp sn w) (hok : RowOk r) : am_CtH G yL_call cL_call 8 (some .int) hhL { frames := 10, cells := 6, slots := 36, locals := 230 } [.ref x, .int (nI 5), .int c, .int u1, .int u2, .int u3, .int u4] Λ I J (am_gen Λ J (fun v I' => v = some (.int (if (if cdI (sp_nl r) c = 0 then (if r (142 + 4 * c.toNatClampNeg) = -1 then 2 else 0) else 1) = 0 then (r (142 + 4 * c.toNatClampNeg)) else if (if cdI (sp_nl r) c = 0 then (if r (142 + 4 * c.toNatClampNeg) = -1 then 2 else 0) else 1) = 1 then (-104) else (-102))) ∧ ((if cdI (sp_nl r) c = 0 then (if r (142 + 4 * c.toNatClampNeg) = -1 then 2 else 0) else 1) = 0 → RouRel I' x (tb) (n) (err) (sp_lay r c.toNatClampNeg) ((min 8 (ct + 1))) ((sp_push r hs)) (kp) (sn) (w) ∧ RFr x I I') ∧ (¬ (if cdI (sp_nl r) c = 0 then (if r (142 + 4 * c.toNatClampNeg) = -1 then 2 else 0) else 1) = 0 → I' = I))) am_never := by
  refine am_ctH_of (own := RL) rfl (by decide) (Nat.le_of_ble_eq_true rfl) (fun X C => ?_)
  change am_K G X { frames := 10, cells := 6, slots := 36, locals := 230 } 8 Λ I J 0 0 0 [(0, .ref x), (1, .int (nI 5)), (2, .int c), (3, .int u1), (4, .int u2), (5, .int u3), (6, .int u4)] []
  refine k_iload_n C (f := 1) (i := 1) (p := 1) rfl rfl dL_call_0 ?_
  refine k_tswIn C (off := 207) (tgt := 208) (by decide) (by decide) (by decide) (by decide) dL_call_1 ?_
  refine k_aload_n C (f := 0) (i := 0) (p := 0) rfl rfl dL_call_208 ?_
  refine k_iload_n C (f := 2) (i := 2) (p := 2) rfl rfl dL_call_209 ?_
  refine k_callV C s_L_27 h_X5_takeOff (L5_s hx) rfl (ct_X5_takeOff hx hR hok) rfl rfl (Nat.le_of_ble_eq_true rfl) ⟨Nat.le_of_ble_eq_true rfl, Nat.le_of_ble_eq_true rfl⟩ ⟨Nat.le_of_ble_eq_true rfl, Nat.le_of_ble_eq_true rfl⟩ dL_call_210 ?_ ?_
  · skip
    intro v Λ' I' J' hv
    obtain ⟨rfl, hcd, rfl, rfl, hP⟩ := hv
    exact k_iret C (Nat.le_of_ble_eq_true rfl) (Nat.le_of_ble_eq_true rfl) (⟨rfl, rfl, by rw [if_pos hcd], fun _ => hP, fun h => absurd hcd h⟩) dL_call_213
  · skip
    intro E Λ' I' J' hp
    obtain ⟨(⟨rfl, hcd⟩ | ⟨rfl, hcd⟩), rfl, rfl, rfl⟩ := hp
    · skip
      refine k_catchI C (E := "java/lang/IndexOutOfBoundsException") 131 ⟨208, 213, 461, 148⟩ [140, 144, 146] rfl (by decide +kernel) am_hc_148 (by decide) (by decide) am_cl_RL_148 am_ca_148 (fun q => ?_)
      refine k_astore C (i := 7) (lv := [(7, _), (0, _), (1, _), (2, _), (3, _), (4, _), (5, _), (6, _)]) (Nat.le_of_ble_eq_true rfl) rfl dL_call_461 ?_
      refine k_bipush C bc_m104 dL_call_463 ?_
      exact k_iret C (Nat.le_of_ble_eq_true rfl) (Nat.le_of_ble_eq_true rfl) (⟨rfl, rfl, by rw [hcd]; rfl, fun h => absurd (hcd.symm.trans h) (by decide), fun _ => rfl⟩) dL_call_465
    · skip
      refine k_catchI C (E := "java/lang/IllegalStateException") 47 ⟨208, 213, 451, 144⟩ [140] rfl (by decide +kernel) am_hc_144 (by decide) (by decide) am_cl_RL_144 am_ca_144 (fun q => ?_)
      refine k_astore C (i := 7) (lv := [(7, _), (0, _), (1, _), (2, _), (3, _), (4, _), (5, _), (6, _)]) (Nat.le_of_ble_eq_true rfl) rfl dL_call_451 ?_
      refine k_bipush C bc_m102 dL_call_453 ?_
      exact k_iret C (Nat.le_of_ble_eq_true rfl) (Nat.le_of_ble_eq_true rfl) (⟨rfl, rfl, by rw [hcd]; rfl, fun h => absurd (hcd.symm.trans h) (by decide), fun _ => rfl⟩) dL_call_455
set_option maxHeartbeats 4000000 in
set_option maxRecDepth 100000 in
theorem ct_c6 {G : am_G} {Λ : am_L} {I : am_I} {J : am_J} {x n ct : Nat} {tb : Nat → Nat} {err : Int32} {r : Nat → Int32} {hs : Nat → Nat → Int32} {kp : Nat → Bool} {sn : Nat → Nat → Int32} {w : Nat × (Nat → Int32)} {a b : Int32} {u1 u2 u3 : Int32} (hx : RouLay Λ x) (hR : RouRel I x tb n err r ct hs kp sn w) (hok : RowOk r) : am_CtH G yL_call cL_call 8 (some .int) hhL { frames := 10, cells := 6, slots := 36, locals := 230 } [.ref x, .int (nI 6), .int a, .int b, .int u1, .int u2, .int u3] Λ I J (am_gen Λ J (fun v I' => v = some (.int (if (if (a < nI 1 ∨ nI 99 < a ∨ b < nI 1 ∨ nI 99 < b) then 1 else if 20 ≤ sp_nl r then 2 else 0) = 0 then (nI (sp_nl r)) else if (if (a < nI 1 ∨ nI 99 < a ∨ b < nI 1 ∨ nI 99 < b) then 1 else if 20 ≤ sp_nl r then 2 else 0) = 1 then (-103) else (-102))) ∧ ((if (a < nI 1 ∨ nI 99 < a ∨ b < nI 1 ∨ nI 99 < b) then 1 else if 20 ≤ sp_nl r then 2 else 0) = 0 → RouRel I' x (tb) (n) (err) (sp_bring r a b) ((min 8 (ct + 1))) ((sp_push r hs)) (kp) (sn) (w) ∧ RFr x I I') ∧ (¬ (if (a < nI 1 ∨ nI 99 < a ∨ b < nI 1 ∨ nI 99 < b) then 1 else if 20 ≤ sp_nl r then 2 else 0) = 0 → I' = I))) am_never := by
  refine am_ctH_of (own := RL) rfl (by decide) (Nat.le_of_ble_eq_true rfl) (fun X C => ?_)
  change am_K G X { frames := 10, cells := 6, slots := 36, locals := 230 } 8 Λ I J 0 0 0 [(0, .ref x), (1, .int (nI 6)), (2, .int a), (3, .int b), (4, .int u1), (5, .int u2), (6, .int u3)] []
  refine k_iload_n C (f := 1) (i := 1) (p := 1) rfl rfl dL_call_0 ?_
  refine k_tswIn C (off := 213) (tgt := 214) (by decide) (by decide) (by decide) (by decide) dL_call_1 ?_
  refine k_aload_n C (f := 0) (i := 0) (p := 0) rfl rfl dL_call_214 ?_
  refine k_iload_n C (f := 2) (i := 2) (p := 2) rfl rfl dL_call_215 ?_
  refine k_iload_n C (f := 3) (i := 3) (p := 3) rfl rfl dL_call_216 ?_
  refine k_callV C s_L_30 h_X5_addLoad (L5_s hx) rfl (ct_X5_addLoad hx hR hok) rfl rfl (Nat.le_of_ble_eq_true rfl) ⟨Nat.le_of_ble_eq_true rfl, Nat.le_of_ble_eq_true rfl⟩ ⟨Nat.le_of_ble_eq_true rfl, Nat.le_of_ble_eq_true rfl⟩ dL_call_217 ?_ ?_
  · skip
    intro v Λ' I' J' hv
    obtain ⟨rfl, hcd, rfl, rfl, hP⟩ := hv
    exact k_iret C (Nat.le_of_ble_eq_true rfl) (Nat.le_of_ble_eq_true rfl) (⟨rfl, rfl, by rw [if_pos hcd], fun _ => hP, fun h => absurd hcd h⟩) dL_call_220
  · skip
    intro E Λ' I' J' hp
    obtain ⟨(⟨rfl, hcd⟩ | ⟨rfl, hcd⟩), rfl, rfl, rfl⟩ := hp
    · skip
      refine k_catchI C (E := "java/lang/IllegalArgumentException") 90 ⟨214, 220, 456, 146⟩ [140, 144] rfl (by decide +kernel) am_hc_146 (by decide) (by decide) am_cl_RL_146 am_ca_146 (fun q => ?_)
      refine k_astore C (i := 7) (lv := [(7, _), (0, _), (1, _), (2, _), (3, _), (4, _), (5, _), (6, _)]) (Nat.le_of_ble_eq_true rfl) rfl dL_call_456 ?_
      refine k_bipush C bc_m103 dL_call_458 ?_
      exact k_iret C (Nat.le_of_ble_eq_true rfl) (Nat.le_of_ble_eq_true rfl) (⟨rfl, rfl, by rw [hcd]; rfl, fun h => absurd (hcd.symm.trans h) (by decide), fun _ => rfl⟩) dL_call_460
    · skip
      refine k_catchI C (E := "java/lang/IllegalStateException") 48 ⟨214, 220, 451, 144⟩ [140] rfl (by decide +kernel) am_hc_144 (by decide) (by decide) am_cl_RL_144 am_ca_144 (fun q => ?_)
      refine k_astore C (i := 7) (lv := [(7, _), (0, _), (1, _), (2, _), (3, _), (4, _), (5, _), (6, _)]) (Nat.le_of_ble_eq_true rfl) rfl dL_call_451 ?_
      refine k_bipush C bc_m102 dL_call_453 ?_
      exact k_iret C (Nat.le_of_ble_eq_true rfl) (Nat.le_of_ble_eq_true rfl) (⟨rfl, rfl, by rw [hcd]; rfl, fun h => absurd (hcd.symm.trans h) (by decide), fun _ => rfl⟩) dL_call_455
set_option maxHeartbeats 4000000 in
set_option maxRecDepth 100000 in
theorem ct_c7 {G : am_G} {Λ : am_L} {I : am_I} {J : am_J} {x n ct : Nat} {tb : Nat → Nat} {err : Int32} {r : Nat → Int32} {hs : Nat → Nat → Int32} {kp : Nat → Bool} {sn : Nat → Nat → Int32} {w : Nat × (Nat → Int32)}  {u1 u2 u3 u4 u5 : Int32} (hx : RouLay Λ x) (hR : RouRel I x tb n err r ct hs kp sn w) (hok : RowOk r) : am_CtH G yL_call cL_call 8 (some .int) hhL { frames := 10, cells := 6, slots := 36, locals := 230 } [.ref x, .int (nI 7), .int u1, .int u2, .int u3, .int u4, .int u5] Λ I J (am_gen Λ J (fun v I' => v = some (.int (if (if ct = 0 then 1 else 0) = 0 then (nI (ct - 1)) else (-102))) ∧ ((if ct = 0 then 1 else 0) = 0 → RouRel I' x (tb) (n) (err) (hs 0) (ct - 1) (fun s => hs (s + 1)) (kp) (sn) (w) ∧ RFr x I I') ∧ (¬ (if ct = 0 then 1 else 0) = 0 → I' = I))) am_never := by
  refine am_ctH_of (own := RL) rfl (by decide) (Nat.le_of_ble_eq_true rfl) (fun X C => ?_)
  change am_K G X { frames := 10, cells := 6, slots := 36, locals := 230 } 8 Λ I J 0 0 0 [(0, .ref x), (1, .int (nI 7)), (2, .int u1), (3, .int u2), (4, .int u3), (5, .int u4), (6, .int u5)] []
  refine k_iload_n C (f := 1) (i := 1) (p := 1) rfl rfl dL_call_0 ?_
  refine k_tswIn C (off := 220) (tgt := 221) (by decide) (by decide) (by decide) (by decide) dL_call_1 ?_
  refine k_aload_n C (f := 0) (i := 0) (p := 0) rfl rfl dL_call_221 ?_
  refine k_callV C s_L_33 h_X5_undo (L5_s hx) rfl (ct_X5_undo hx hR hok) rfl rfl (Nat.le_of_ble_eq_true rfl) ⟨Nat.le_of_ble_eq_true rfl, Nat.le_of_ble_eq_true rfl⟩ ⟨Nat.le_of_ble_eq_true rfl, Nat.le_of_ble_eq_true rfl⟩ dL_call_222 ?_ ?_
  · skip
    intro v Λ' I' J' hv
    obtain ⟨rfl, hcd, rfl, rfl, hP⟩ := hv
    exact k_iret C (Nat.le_of_ble_eq_true rfl) (Nat.le_of_ble_eq_true rfl) (⟨rfl, rfl, by rw [if_pos hcd], fun _ => hP, fun h => absurd hcd h⟩) dL_call_225
  · skip
    intro E Λ' I' J' hp
    obtain ⟨rfl, hcd, rfl, rfl, rfl⟩ := hp
    refine k_catchI C (E := "java/lang/IllegalStateException") 49 ⟨221, 225, 451, 144⟩ [140] rfl (by decide +kernel) am_hc_144 (by decide) (by decide) am_cl_RL_144 am_ca_144 (fun q => ?_)
    refine k_astore C (i := 7) (lv := [(7, _), (0, _), (1, _), (2, _), (3, _), (4, _), (5, _), (6, _)]) (Nat.le_of_ble_eq_true rfl) rfl dL_call_451 ?_
    refine k_bipush C bc_m102 dL_call_453 ?_
    exact k_iret C (Nat.le_of_ble_eq_true rfl) (Nat.le_of_ble_eq_true rfl) (⟨rfl, rfl, by rw [hcd]; rfl, fun h => absurd (hcd.symm.trans h) (by decide), fun _ => rfl⟩) dL_call_455
set_option maxHeartbeats 4000000 in
set_option maxRecDepth 100000 in
theorem ct_c8 {G : am_G} {Λ : am_L} {I : am_I} {J : am_J} {x n ct : Nat} {tb : Nat → Nat} {err : Int32} {r : Nat → Int32} {hs : Nat → Nat → Int32} {kp : Nat → Bool} {sn : Nat → Nat → Int32} {w : Nat × (Nat → Int32)} {c : Int32} {u1 u2 u3 u4 : Int32} (hx : RouLay Λ x) (hR : RouRel I x tb n err r ct hs kp sn w) (hok : RowOk r) : am_CtH G yL_call cL_call 8 (some .int) hhL { frames := 10, cells := 6, slots := 36, locals := 230 } [.ref x, .int (nI 8), .int c, .int u1, .int u2, .int u3, .int u4] Λ I J (am_gen Λ J (fun v I' => v = some (.int (if (cdI 2 c) = 0 then (r 1) else (-104))) ∧ ((cdI 2 c) = 0 → RouRel I' x (tb) (n) (err) (r) (ct) (hs) (fun i => if i = c.toNatClampNeg then true else kp i) (fun i => if i = c.toNatClampNeg then r else sn i) (w) ∧ RFr x I I') ∧ (¬ (cdI 2 c) = 0 → I' = I))) am_never := by
  refine am_ctH_of (own := RL) rfl (by decide) (Nat.le_of_ble_eq_true rfl) (fun X C => ?_)
  change am_K G X { frames := 10, cells := 6, slots := 36, locals := 230 } 8 Λ I J 0 0 0 [(0, .ref x), (1, .int (nI 8)), (2, .int c), (3, .int u1), (4, .int u2), (5, .int u3), (6, .int u4)] []
  refine k_iload_n C (f := 1) (i := 1) (p := 1) rfl rfl dL_call_0 ?_
  refine k_tswIn C (off := 225) (tgt := 226) (by decide) (by decide) (by decide) (by decide) dL_call_1 ?_
  refine k_aload_n C (f := 0) (i := 0) (p := 0) rfl rfl dL_call_226 ?_
  refine k_iload_n C (f := 2) (i := 2) (p := 2) rfl rfl dL_call_227 ?_
  refine k_callV C s_L_36 h_X5_saveSnapshot (L5_s hx) rfl (ct_X5_saveSnapshot hx hR hok) rfl rfl (Nat.le_of_ble_eq_true rfl) ⟨Nat.le_of_ble_eq_true rfl, Nat.le_of_ble_eq_true rfl⟩ ⟨Nat.le_of_ble_eq_true rfl, Nat.le_of_ble_eq_true rfl⟩ dL_call_228 ?_ ?_
  · skip
    intro v Λ' I' J' hv
    obtain ⟨rfl, hcd, rfl, rfl, hP⟩ := hv
    exact k_iret C (Nat.le_of_ble_eq_true rfl) (Nat.le_of_ble_eq_true rfl) (⟨rfl, rfl, by rw [if_pos hcd], fun _ => hP, fun h => absurd hcd h⟩) dL_call_231
  · skip
    intro E Λ' I' J' hp
    obtain ⟨rfl, hcd, rfl, rfl, rfl⟩ := hp
    refine k_catchI C (E := "java/lang/IndexOutOfBoundsException") 134 ⟨226, 231, 461, 148⟩ [140, 144, 146] rfl (by decide +kernel) am_hc_148 (by decide) (by decide) am_cl_RL_148 am_ca_148 (fun q => ?_)
    refine k_astore C (i := 7) (lv := [(7, _), (0, _), (1, _), (2, _), (3, _), (4, _), (5, _), (6, _)]) (Nat.le_of_ble_eq_true rfl) rfl dL_call_461 ?_
    refine k_bipush C bc_m104 dL_call_463 ?_
    exact k_iret C (Nat.le_of_ble_eq_true rfl) (Nat.le_of_ble_eq_true rfl) (⟨rfl, rfl, by rw [hcd]; rfl, fun h => absurd (hcd.symm.trans h) (by decide), fun _ => rfl⟩) dL_call_465
set_option maxHeartbeats 4000000 in
set_option maxRecDepth 100000 in
theorem ct_c9 {G : am_G} {Λ : am_L} {I : am_I} {J : am_J} {x n ct : Nat} {tb : Nat → Nat} {err : Int32} {r : Nat → Int32} {hs : Nat → Nat → Int32} {kp : Nat → Bool} {sn : Nat → Nat → Int32} {w : Nat × (Nat → Int32)} {c : Int32} {u1 u2 u3 u4 : Int32} (hx : RouLay Λ x) (hR : RouRel I x tb n err r ct hs kp sn w) (hok : RowOk r) : am_CtH G yL_call cL_call 8 (some .int) hhL { frames := 10, cells := 6, slots := 36, locals := 230 } [.ref x, .int (nI 9), .int c, .int u1, .int u2, .int u3, .int u4] Λ I J (am_gen Λ J (fun v I' => v = some (.int (if (if cdI 2 c = 0 then (if kp c.toNatClampNeg = true then 0 else 2) else 1) = 0 then (sn c.toNatClampNeg 1) else if (if cdI 2 c = 0 then (if kp c.toNatClampNeg = true then 0 else 2) else 1) = 1 then (-104) else (-101))) ∧ ((if cdI 2 c = 0 then (if kp c.toNatClampNeg = true then 0 else 2) else 1) = 0 → RouRel I' x (tb) (n) (err) (sn c.toNatClampNeg) ((min 8 (ct + 1))) ((sp_push r hs)) (kp) (sn) (w) ∧ RFr x I I') ∧ (¬ (if cdI 2 c = 0 then (if kp c.toNatClampNeg = true then 0 else 2) else 1) = 0 → I' = I))) am_never := by
  refine am_ctH_of (own := RL) rfl (by decide) (Nat.le_of_ble_eq_true rfl) (fun X C => ?_)
  change am_K G X { frames := 10, cells := 6, slots := 36, locals := 230 } 8 Λ I J 0 0 0 [(0, .ref x), (1, .int (nI 9)), (2, .int c), (3, .int u1), (4, .int u2), (5, .int u3), (6, .int u4)] []
  refine k_iload_n C (f := 1) (i := 1) (p := 1) rfl rfl dL_call_0 ?_
  refine k_tswIn C (off := 231) (tgt := 232) (by decide) (by decide) (by decide) (by decide) dL_call_1 ?_
  refine k_aload_n C (f := 0) (i := 0) (p := 0) rfl rfl dL_call_232 ?_
  refine k_iload_n C (f := 2) (i := 2) (p := 2) rfl rfl dL_call_233 ?_
  refine k_callV C s_L_39 h_X5_restoreSnapshot (L5_s hx) rfl (ct_X5_restoreSnapshot hx hR hok) rfl rfl (Nat.le_of_ble_eq_true rfl) ⟨Nat.le_of_ble_eq_true rfl, Nat.le_of_ble_eq_true rfl⟩ ⟨Nat.le_of_ble_eq_true rfl, Nat.le_of_ble_eq_true rfl⟩ dL_call_234 ?_ ?_
  · skip
    intro v Λ' I' J' hv
    obtain ⟨rfl, hcd, rfl, rfl, hP⟩ := hv
    exact k_iret C (Nat.le_of_ble_eq_true rfl) (Nat.le_of_ble_eq_true rfl) (⟨rfl, rfl, by rw [if_pos hcd], fun _ => hP, fun h => absurd hcd h⟩) dL_call_237
  · skip
    intro E Λ' I' J' hp
    obtain ⟨(⟨rfl, hcd⟩ | ⟨rfl, hcd⟩), rfl, rfl, rfl⟩ := hp
    · skip
      refine k_catchI C (E := "java/lang/IndexOutOfBoundsException") 135 ⟨232, 237, 461, 148⟩ [140, 144, 146] rfl (by decide +kernel) am_hc_148 (by decide) (by decide) am_cl_RL_148 am_ca_148 (fun q => ?_)
      refine k_astore C (i := 7) (lv := [(7, _), (0, _), (1, _), (2, _), (3, _), (4, _), (5, _), (6, _)]) (Nat.le_of_ble_eq_true rfl) rfl dL_call_461 ?_
      refine k_bipush C bc_m104 dL_call_463 ?_
      exact k_iret C (Nat.le_of_ble_eq_true rfl) (Nat.le_of_ble_eq_true rfl) (⟨rfl, rfl, by rw [hcd]; rfl, fun h => absurd (hcd.symm.trans h) (by decide), fun _ => rfl⟩) dL_call_465
    · skip
      refine k_catchI C (E := "java/util/NoSuchElementException") 9 ⟨232, 237, 446, 140⟩ [] rfl (by decide +kernel) am_hc_140 (by decide) (by decide) am_cl_RL_140 am_ca_140 (fun q => ?_)
      refine k_astore C (i := 7) (lv := [(7, _), (0, _), (1, _), (2, _), (3, _), (4, _), (5, _), (6, _)]) (Nat.le_of_ble_eq_true rfl) rfl dL_call_446 ?_
      refine k_bipush C bc_m101 dL_call_448 ?_
      exact k_iret C (Nat.le_of_ble_eq_true rfl) (Nat.le_of_ble_eq_true rfl) (⟨rfl, rfl, by rw [hcd]; rfl, fun h => absurd (hcd.symm.trans h) (by decide), fun _ => rfl⟩) dL_call_450
set_option maxHeartbeats 4000000 in
set_option maxRecDepth 100000 in
theorem ct_c10 {G : am_G} {Λ : am_L} {I : am_I} {J : am_J} {x n ct : Nat} {tb : Nat → Nat} {err : Int32} {r : Nat → Int32} {hs : Nat → Nat → Int32} {kp : Nat → Bool} {sn : Nat → Nat → Int32} {w : Nat × (Nat → Int32)}  {u1 u2 u3 u4 u5 : Int32} (hx : RouLay Λ x) (hR : RouRel I x tb n err r ct hs kp sn w) (hp3 : ∀ r1, sp_parse tb n = .ok r1 → (r1 3 = 0 ∨ r1 3 = 1)) : am_CtH G yL_call cL_call 8 (some .int) hhL { frames := 10, cells := 6, slots := 36, locals := 230 } [.ref x, .int (nI 10), .int u1, .int u2, .int u3, .int u4, .int u5] Λ I J (am_gen Λ J (fun v I' => RFr x I I' ∧ ((∃ r' : Nat → Int32, sp_parse tb n = .ok r' ∧ v = some (.int (nI (sp_nc r'))) ∧ RouRel I' x tb 0 (-1) r' 0 hs (fun _ => false) sn w) ∨ (∃ e : Nat, sp_parse tb n = .error e ∧ v = some (.int (-103)) ∧ e ≤ 700 ∧ RouRel I' x tb 0 (nI e) r ct hs kp sn w)))) am_never := by
  refine am_ctH_of (own := RL) rfl (by decide) (Nat.le_of_ble_eq_true rfl) (fun X C => ?_)
  change am_K G X { frames := 10, cells := 6, slots := 36, locals := 230 } 8 Λ I J 0 0 0 [(0, .ref x), (1, .int (nI 10)), (2, .int u1), (3, .int u2), (4, .int u3), (5, .int u4), (6, .int u5)] []
  refine k_iload_n C (f := 1) (i := 1) (p := 1) rfl rfl dL_call_0 ?_
  refine k_tswIn C (off := 237) (tgt := 238) (by decide) (by decide) (by decide) (by decide) dL_call_1 ?_
  refine k_aload_n C (f := 0) (i := 0) (p := 0) rfl rfl dL_call_238 ?_
  refine k_callV C s_L_42 h_X5_load (L5_s hx) rfl (ct_X5_load hx hR hp3) rfl rfl (Nat.le_of_ble_eq_true rfl) ⟨Nat.le_of_ble_eq_true rfl, Nat.le_of_ble_eq_true rfl⟩ ⟨Nat.le_of_ble_eq_true rfl, Nat.le_of_ble_eq_true rfl⟩ dL_call_239 ?_ ?_
  · skip
    intro v Λ' I' J' hv
    obtain ⟨⟨r', hp, rfl, hR'⟩, rfl, rfl, hF⟩ := hv
    exact k_iret C (Nat.le_of_ble_eq_true rfl) (Nat.le_of_ble_eq_true rfl) (⟨rfl, rfl, hF, Or.inl ⟨r', hp, rfl, hR'⟩⟩) dL_call_242
  · skip
    intro E Λ' I' J' hp
    obtain ⟨rfl, ⟨e, hp, he, hR'⟩, rfl, rfl, hF⟩ := hp
    refine k_catchI C (E := "java/lang/IllegalArgumentException") 94 ⟨238, 242, 456, 146⟩ [140, 144] rfl (by decide +kernel) am_hc_146 (by decide) (by decide) am_cl_RL_146 am_ca_146 (fun q => ?_)
    refine k_astore C (i := 7) (lv := [(7, _), (0, _), (1, _), (2, _), (3, _), (4, _), (5, _), (6, _)]) (Nat.le_of_ble_eq_true rfl) rfl dL_call_456 ?_
    refine k_bipush C bc_m103 dL_call_458 ?_
    exact k_iret C (Nat.le_of_ble_eq_true rfl) (Nat.le_of_ble_eq_true rfl) (⟨rfl, rfl, hF, Or.inr ⟨e, hp, rfl, he, hR'⟩⟩) dL_call_460
set_option maxHeartbeats 4000000 in
set_option maxRecDepth 100000 in
theorem ct_c11 {G : am_G} {Λ : am_L} {I : am_I} {J : am_J} {x n ct : Nat} {tb : Nat → Nat} {err : Int32} {r : Nat → Int32} {hs : Nat → Nat → Int32} {kp : Nat → Bool} {sn : Nat → Nat → Int32} {w : Nat × (Nat → Int32)} {a b c d e : Int32} (hx : RouLay Λ x) (hR : RouRel I x tb n err r ct hs kp sn w) : am_CtH G yL_call cL_call 8 (some .int) hhL { frames := 10, cells := 6, slots := 36, locals := 230 } [.ref x, .int (nI 11), .int a, .int b, .int c, .int d, .int e] Λ I J (am_gen Λ J (fun v I' => v = some (.int (if (if 700 < n + 20 then 1 else 0) = 0 then (nI (n + 20)) else (-102))) ∧ ((if 700 < n + 20 then 1 else 0) = 0 → RouRel I' x ((sp_tbs (sp_tbs (sp_tbs (sp_tbs (sp_tbs tb n a 4) (n + 4) b 4) (n + 8) c 4) (n + 12) d 4) (n + 16) e 4)) (n + 20) (err) (r) (ct) (hs) (kp) (sn) (w) ∧ RFr x I I') ∧ (¬ (if 700 < n + 20 then 1 else 0) = 0 → I' = I))) am_never := by
  refine am_ctH_of (own := RL) rfl (by decide) (Nat.le_of_ble_eq_true rfl) (fun X C => ?_)
  change am_K G X { frames := 10, cells := 6, slots := 36, locals := 230 } 8 Λ I J 0 0 0 [(0, .ref x), (1, .int (nI 11)), (2, .int a), (3, .int b), (4, .int c), (5, .int d), (6, .int e)] []
  refine k_iload_n C (f := 1) (i := 1) (p := 1) rfl rfl dL_call_0 ?_
  refine k_tswIn C (off := 242) (tgt := 243) (by decide) (by decide) (by decide) (by decide) dL_call_1 ?_
  refine k_aload_n C (f := 0) (i := 0) (p := 0) rfl rfl dL_call_243 ?_
  refine k_iload_n C (f := 2) (i := 2) (p := 2) rfl rfl dL_call_244 ?_
  refine k_iload_n C (f := 3) (i := 3) (p := 3) rfl rfl dL_call_245 ?_
  refine k_iload C (i := 4) (p := 4) rfl dL_call_246 ?_
  refine k_iload C (i := 5) (p := 5) rfl dL_call_248 ?_
  refine k_iload C (i := 6) (p := 6) rfl dL_call_250 ?_
  refine k_callV C s_L_45 h_X5_append (L5_s hx) rfl (ct_X5_append hx hR) rfl rfl (Nat.le_of_ble_eq_true rfl) ⟨Nat.le_of_ble_eq_true rfl, Nat.le_of_ble_eq_true rfl⟩ ⟨Nat.le_of_ble_eq_true rfl, Nat.le_of_ble_eq_true rfl⟩ dL_call_252 ?_ ?_
  · skip
    intro v Λ' I' J' hv
    obtain ⟨rfl, hcd, rfl, rfl, hP⟩ := hv
    exact k_iret C (Nat.le_of_ble_eq_true rfl) (Nat.le_of_ble_eq_true rfl) (⟨rfl, rfl, by rw [if_pos hcd], fun _ => hP, fun h => absurd hcd h⟩) dL_call_255
  · skip
    intro E Λ' I' J' hp
    obtain ⟨rfl, hcd, rfl, rfl, rfl⟩ := hp
    refine k_catchI C (E := "java/lang/IllegalStateException") 53 ⟨243, 255, 451, 144⟩ [140] rfl (by decide +kernel) am_hc_144 (by decide) (by decide) am_cl_RL_144 am_ca_144 (fun q => ?_)
    refine k_astore C (i := 7) (lv := [(7, _), (0, _), (1, _), (2, _), (3, _), (4, _), (5, _), (6, _)]) (Nat.le_of_ble_eq_true rfl) rfl dL_call_451 ?_
    refine k_bipush C bc_m102 dL_call_453 ?_
    exact k_iret C (Nat.le_of_ble_eq_true rfl) (Nat.le_of_ble_eq_true rfl) (⟨rfl, rfl, by rw [hcd]; rfl, fun h => absurd (hcd.symm.trans h) (by decide), fun _ => rfl⟩) dL_call_455
set_option maxHeartbeats 4000000 in
set_option maxRecDepth 100000 in
theorem ct_c12 {G : am_G} {Λ : am_L} {I : am_I} {J : am_J} {x n ct : Nat} {tb : Nat → Nat} {err : Int32} {r : Nat → Int32} {hs : Nat → Nat → Int32} {kp : Nat → Bool} {sn : Nat → Nat → Int32} {w : Nat × (Nat → Int32)} {a : Int32} {u1 u2 u3 u4 : Int32} (hx : RouLay Λ x) (hR : RouRel I x tb n err r ct hs kp sn w) : am_CtH G yL_call cL_call 8 (some .int) hhL { frames := 10, cells := 6, slots := 36, locals := 230 } [.ref x, .int (nI 12), .int a, .int u1, .int u2, .int u3, .int u4] Λ I J (am_gen Λ J (fun v I' => v = some (.int (if (if a < 0 ∨ nI n < a then 1 else 0) = 0 then a else (-103))) ∧ ((if a < 0 ∨ nI n < a then 1 else 0) = 0 → RouRel I' x (tb) (a.toNatClampNeg) (err) (r) (ct) (hs) (kp) (sn) (w) ∧ RFr x I I') ∧ (¬ (if a < 0 ∨ nI n < a then 1 else 0) = 0 → I' = I))) am_never := by
  refine am_ctH_of (own := RL) rfl (by decide) (Nat.le_of_ble_eq_true rfl) (fun X C => ?_)
  change am_K G X { frames := 10, cells := 6, slots := 36, locals := 230 } 8 Λ I J 0 0 0 [(0, .ref x), (1, .int (nI 12)), (2, .int a), (3, .int u1), (4, .int u2), (5, .int u3), (6, .int u4)] []
  refine k_iload_n C (f := 1) (i := 1) (p := 1) rfl rfl dL_call_0 ?_
  refine k_tswIn C (off := 255) (tgt := 256) (by decide) (by decide) (by decide) (by decide) dL_call_1 ?_
  refine k_aload_n C (f := 0) (i := 0) (p := 0) rfl rfl dL_call_256 ?_
  refine k_iload_n C (f := 2) (i := 2) (p := 2) rfl rfl dL_call_257 ?_
  refine k_callV C s_L_49 h_X5_shorten (L5_s hx) rfl (ct_X5_shorten hx hR) rfl rfl (Nat.le_of_ble_eq_true rfl) ⟨Nat.le_of_ble_eq_true rfl, Nat.le_of_ble_eq_true rfl⟩ ⟨Nat.le_of_ble_eq_true rfl, Nat.le_of_ble_eq_true rfl⟩ dL_call_258 ?_ ?_
  · skip
    intro v Λ' I' J' hv
    obtain ⟨rfl, hcd, rfl, rfl, hP⟩ := hv
    exact k_iret C (Nat.le_of_ble_eq_true rfl) (Nat.le_of_ble_eq_true rfl) (⟨rfl, rfl, by rw [if_pos hcd], fun _ => hP, fun h => absurd hcd h⟩) dL_call_261
  · skip
    intro E Λ' I' J' hp
    obtain ⟨rfl, hcd, rfl, rfl, rfl⟩ := hp
    refine k_catchI C (E := "java/lang/IllegalArgumentException") 96 ⟨256, 261, 456, 146⟩ [140, 144] rfl (by decide +kernel) am_hc_146 (by decide) (by decide) am_cl_RL_146 am_ca_146 (fun q => ?_)
    refine k_astore C (i := 7) (lv := [(7, _), (0, _), (1, _), (2, _), (3, _), (4, _), (5, _), (6, _)]) (Nat.le_of_ble_eq_true rfl) rfl dL_call_456 ?_
    refine k_bipush C bc_m103 dL_call_458 ?_
    exact k_iret C (Nat.le_of_ble_eq_true rfl) (Nat.le_of_ble_eq_true rfl) (⟨rfl, rfl, by rw [hcd]; rfl, fun h => absurd (hcd.symm.trans h) (by decide), fun _ => rfl⟩) dL_call_460
set_option maxHeartbeats 4000000 in
set_option maxRecDepth 100000 in
theorem ct_c13 {G : am_G} {Λ : am_L} {I : am_I} {J : am_J} {x : Nat} {e : Int32} {u1 u2 u3 u4 u5 : Int32} (hx : RouLay Λ x) (he : I x 1 = e) : am_CtH G yL_call cL_call 8 (some .int) hhL { frames := 10, cells := 6, slots := 36, locals := 230 } [.ref x, .int (nI 13), .int u1, .int u2, .int u3, .int u4, .int u5] Λ I J (am_pure (.int (if (if e = -1 then 1 else 0) = 0 then e else (-101))) Λ I J) am_never := by
  refine am_ctH_of (own := RL) rfl (by decide) (Nat.le_of_ble_eq_true rfl) (fun X C => ?_)
  change am_K G X { frames := 10, cells := 6, slots := 36, locals := 230 } 8 Λ I J 0 0 0 [(0, .ref x), (1, .int (nI 13)), (2, .int u1), (3, .int u2), (4, .int u3), (5, .int u4), (6, .int u5)] []
  refine k_iload_n C (f := 1) (i := 1) (p := 1) rfl rfl dL_call_0 ?_
  refine k_tswIn C (off := 261) (tgt := 262) (by decide) (by decide) (by decide) (by decide) dL_call_1 ?_
  refine k_aload_n C (f := 0) (i := 0) (p := 0) rfl rfl dL_call_262 ?_
  refine k_callV C s_L_52 h_X5_errorOffset (L5_s hx) rfl (ct_X5_errorOffset hx he) rfl rfl (Nat.le_of_ble_eq_true rfl) ⟨Nat.le_of_ble_eq_true rfl, Nat.le_of_ble_eq_true rfl⟩ ⟨Nat.le_of_ble_eq_true rfl, Nat.le_of_ble_eq_true rfl⟩ dL_call_263 ?_ ?_
  · skip
    intro v Λ' I' J' hv
    obtain ⟨rfl, hcd, rfl, rfl, rfl⟩ := hv
    exact k_iret C (Nat.le_of_ble_eq_true rfl) (Nat.le_of_ble_eq_true rfl) (⟨by rw [if_pos hcd], rfl, rfl, rfl⟩) dL_call_266
  · skip
    intro E Λ' I' J' hp
    obtain ⟨rfl, hcd, rfl, rfl, rfl⟩ := hp
    refine k_catchI C (E := "java/util/NoSuchElementException") 13 ⟨262, 266, 446, 140⟩ [] rfl (by decide +kernel) am_hc_140 (by decide) (by decide) am_cl_RL_140 am_ca_140 (fun q => ?_)
    refine k_astore C (i := 7) (lv := [(7, _), (0, _), (1, _), (2, _), (3, _), (4, _), (5, _), (6, _)]) (Nat.le_of_ble_eq_true rfl) rfl dL_call_446 ?_
    refine k_bipush C bc_m101 dL_call_448 ?_
    exact k_iret C (Nat.le_of_ble_eq_true rfl) (Nat.le_of_ble_eq_true rfl) (⟨by rw [hcd]; rfl, rfl, rfl, rfl⟩) dL_call_450
