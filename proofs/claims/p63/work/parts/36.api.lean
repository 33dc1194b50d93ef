/-! ===== the public calls: what they answer, and which of their exceptions they throw (0: none) ===== -/
def am_px1 (e : String) (cd : Nat) (Λ : am_L) (I : am_I) (J : am_J) : am_XT := fun E Λ' I' J' => E = e ∧ cd = 1 ∧ Λ' = Λ ∧ I' = I ∧ J' = J
def am_px2 (e1 e2 : String) (cd : Nat) (Λ : am_L) (I : am_I) (J : am_J) : am_XT := fun E Λ' I' J' => (E = e1 ∧ cd = 1 ∨ E = e2 ∧ cd = 2) ∧ Λ' = Λ ∧ I' = I ∧ J' = J
def am_pok (v : Option Value) (cd : Nat) (Λ : am_L) (I : am_I) (J : am_J) : am_PT := fun w Λ' I' J' => w = v ∧ cd = 0 ∧ Λ' = Λ ∧ I' = I ∧ J' = J
def cdI (n : Nat) (c : Int32) : Nat := if 0 ≤ c ∧ c < nI n then 0 else 1
theorem cdI_0 {n : Nat} {c : Int32} (h : cdI n c = 0) (hn : n < 2 ^ 31) : ∃ j : Nat, j < n ∧ c = nI j := by
  unfold cdI at h
  by_cases q : 0 ≤ c ∧ c < nI n
  · obtain ⟨j, hj, rfl⟩ := nI_of (Int32.not_lt.mpr q.1)
    exact ⟨j, (nI_ltI hj hn).mp q.2, rfl⟩
  · rw [if_neg q] at h; cases h
theorem cdI_t {n : Nat} {c : Int32} (h : 0 ≤ c ∧ c < nI n) : cdI n c = 0 := if_pos h
theorem cdI_f {n : Nat} {c : Int32} (h : ¬ (0 ≤ c ∧ c < nI n)) : cdI n c = 1 := if_neg h
set_option maxHeartbeats 4000000 in
set_option maxRecDepth 100000 in
theorem ct_X5_requireCamel {G : am_G} {Λ : am_L} {I : am_I} {J : am_J} {x : Nat} {r : Nat → Int32} {c : Int32} (hx : RouLay Λ x) (hr : CarRel I (x + 34) (x + 35) (x + 24) r) : am_Ct G yX5_requireCamel cX5_requireCamel 2 none { frames := 6, cells := 1, slots := 6, locals := 90 } [.ref x, .int c] Λ I J (am_pok (none) (cdI (sp_nc r) c) Λ I J) (am_px1 "java/lang/IndexOutOfBoundsException" (cdI (sp_nc r) c) Λ I J) := by
  refine am_ct_of (own := RX5) rfl (by decide) (Nat.le_of_ble_eq_true rfl) (fun X C => ?_)
  change am_K G X { frames := 6, cells := 1, slots := 6, locals := 90 } 2 Λ I J 0 0 0 [(0, .ref x), (1, .int c)] []
  have hl := L5_n hx
  have hp := L5_p hx
  have hpr := CR_p hr
  have hnc := PR_c hpr
  have hnw := PR_w hpr
  have hnl := CR_l hr
  refine k_aload_n C (f := 0) (i := 0) (p := 0) rfl rfl dX5_requireCamel_0 ?_
  refine k_getR C f_X5_49 (L5_s (by assumption)) (fun _ _ _ => rfl) (L5_2 (by assumption)) dX5_requireCamel_1 ?_
  refine k_getR C f_X5_37 (L0_s (by assumption)) (fun _ _ _ => rfl) (L0_0 (by assumption)) dX5_requireCamel_4 ?_
  refine k_iload_n C (f := 1) (i := 1) (p := 1) rfl rfl dX5_requireCamel_7 ?_
  refine k_callVp C s_X5_175 h_X3_hasCamel (L3_s (by assumption)) rfl (ct_X3_hasCamel hp) rfl rfl (Nat.le_of_ble_eq_true rfl) ⟨Nat.le_of_ble_eq_true rfl, Nat.le_of_ble_eq_true rfl⟩ ⟨Nat.le_of_ble_eq_true rfl, Nat.le_of_ble_eq_true rfl⟩ ⟨rfl, rfl⟩ dX5_requireCamel_8 ?_
  refine k_ifb_ne C (tgt := 24) (by decide) dX5_requireCamel_11 (fun hc11 => ?_) (fun hc11 => ?_)
  · skip
    exact k_vret C (Nat.le_of_ble_eq_true rfl) (Nat.le_of_ble_eq_true rfl) (⟨rfl, cdI_t (by rw [PR_1 hpr] at hc11; exact hc11), rfl, rfl, rfl⟩) dX5_requireCamel_24
  · skip
    exact k_throwS C tw_X5_151 (si := 15) rfl (Nat.le_of_ble_eq_true rfl) (Nat.le_of_ble_eq_true rfl) (⟨rfl, cdI_f (by rw [PR_1 hpr] at hc11; exact hc11), rfl, rfl, rfl⟩) ⟨Nat.le_of_ble_eq_true rfl, Nat.le_of_ble_eq_true rfl⟩ ⟨Nat.le_of_ble_eq_true rfl, Nat.le_of_ble_eq_true rfl⟩ dX5_requireCamel_14 dX5_requireCamel_17 dX5_requireCamel_18 dX5_requireCamel_20 dX5_requireCamel_23
set_option maxHeartbeats 4000000 in
set_option maxRecDepth 100000 in
theorem ct_X5_requireLoad {G : am_G} {Λ : am_L} {I : am_I} {J : am_J} {x : Nat} {r : Nat → Int32} {c : Int32} (hx : RouLay Λ x) (hr : CarRel I (x + 34) (x + 35) (x + 24) r) : am_Ct G yX5_requireLoad cX5_requireLoad 2 none { frames := 6, cells := 1, slots := 6, locals := 90 } [.ref x, .int c] Λ I J (am_pok (none) (cdI (sp_nl r) c) Λ I J) (am_px1 "java/lang/IndexOutOfBoundsException" (cdI (sp_nl r) c) Λ I J) := by
  refine am_ct_of (own := RX5) rfl (by decide) (Nat.le_of_ble_eq_true rfl) (fun X C => ?_)
  change am_K G X { frames := 6, cells := 1, slots := 6, locals := 90 } 2 Λ I J 0 0 0 [(0, .ref x), (1, .int c)] []
  have hl := L5_n hx
  have hp := L5_p hx
  have hpr := CR_p hr
  have hnc := PR_c hpr
  have hnw := PR_w hpr
  have hnl := CR_l hr
  refine k_aload_n C (f := 0) (i := 0) (p := 0) rfl rfl dX5_requireLoad_0 ?_
  refine k_getR C f_X5_49 (L5_s (by assumption)) (fun _ _ _ => rfl) (L5_2 (by assumption)) dX5_requireLoad_1 ?_
  refine k_iload_n C (f := 1) (i := 1) (p := 1) rfl rfl dX5_requireLoad_4 ?_
  refine k_callVp C s_X5_225 h_X0_hasLoad (L0_s (by assumption)) rfl (ct_X0_hasLoadX hl) rfl rfl (Nat.le_of_ble_eq_true rfl) ⟨Nat.le_of_ble_eq_true rfl, Nat.le_of_ble_eq_true rfl⟩ ⟨Nat.le_of_ble_eq_true rfl, Nat.le_of_ble_eq_true rfl⟩ ⟨rfl, rfl⟩ dX5_requireLoad_5 ?_
  refine k_ifb_ne C (tgt := 21) (by decide) dX5_requireLoad_8 (fun hc8 => ?_) (fun hc8 => ?_)
  · skip
    exact k_vret C (Nat.le_of_ble_eq_true rfl) (Nat.le_of_ble_eq_true rfl) (⟨rfl, cdI_t (by rw [CR_12 hr] at hc8; exact hc8), rfl, rfl, rfl⟩) dX5_requireLoad_21
  · skip
    exact k_throwS C tw_X5_151 (si := 17) rfl (Nat.le_of_ble_eq_true rfl) (Nat.le_of_ble_eq_true rfl) (⟨rfl, cdI_f (by rw [CR_12 hr] at hc8; exact hc8), rfl, rfl, rfl⟩) ⟨Nat.le_of_ble_eq_true rfl, Nat.le_of_ble_eq_true rfl⟩ ⟨Nat.le_of_ble_eq_true rfl, Nat.le_of_ble_eq_true rfl⟩ dX5_requireLoad_11 dX5_requireLoad_14 dX5_requireLoad_15 dX5_requireLoad_17 dX5_requireLoad_20
set_option maxHeartbeats 4000000 in
set_option maxRecDepth 100000 in
theorem ct_X5_requireWell {G : am_G} {Λ : am_L} {I : am_I} {J : am_J} {x : Nat} {r : Nat → Int32} {c : Int32} (hx : RouLay Λ x) (hr : CarRel I (x + 34) (x + 35) (x + 24) r) : am_Ct G yX5_requireWell cX5_requireWell 2 none { frames := 6, cells := 1, slots := 6, locals := 90 } [.ref x, .int c] Λ I J (am_pok (none) (cdI (sp_nw r) c) Λ I J) (am_px1 "java/lang/IndexOutOfBoundsException" (cdI (sp_nw r) c) Λ I J) := by
  refine am_ct_of (own := RX5) rfl (by decide) (Nat.le_of_ble_eq_true rfl) (fun X C => ?_)
  change am_K G X { frames := 6, cells := 1, slots := 6, locals := 90 } 2 Λ I J 0 0 0 [(0, .ref x), (1, .int c)] []
  have hl := L5_n hx
  have hp := L5_p hx
  have hpr := CR_p hr
  have hnc := PR_c hpr
  have hnw := PR_w hpr
  have hnl := CR_l hr
  refine k_iload_n C (f := 1) (i := 1) (p := 1) rfl rfl dX5_requireWell_0 ?_
  refine k_if_lt C (tgt := 18) (by decide) dX5_requireWell_1 (fun hc1 => ?_) (fun hc1 => ?_)
  · skip
    exact k_throwS C tw_X5_151 (si := 12) rfl (Nat.le_of_ble_eq_true rfl) (Nat.le_of_ble_eq_true rfl) (⟨rfl, cdI_f (fun z => by first | exact absurd z.1 (Int32.not_le.mpr hc1) | exact hc15 z.2), rfl, rfl, rfl⟩) ⟨Nat.le_of_ble_eq_true rfl, Nat.le_of_ble_eq_true rfl⟩ ⟨Nat.le_of_ble_eq_true rfl, Nat.le_of_ble_eq_true rfl⟩ dX5_requireWell_18 dX5_requireWell_21 dX5_requireWell_22 dX5_requireWell_24 dX5_requireWell_27
  · skip
    refine k_iload_n C (f := 1) (i := 1) (p := 1) rfl rfl dX5_requireWell_4 ?_
    refine k_aload_n C (f := 0) (i := 0) (p := 0) rfl rfl dX5_requireWell_5 ?_
    refine k_getR C f_X5_49 (L5_s (by assumption)) (fun _ _ _ => rfl) (L5_2 (by assumption)) dX5_requireWell_6 ?_
    refine k_getR C f_X5_37 (L0_s (by assumption)) (fun _ _ _ => rfl) (L0_0 (by assumption)) dX5_requireWell_9 ?_
    refine k_getI C f_X5_136 (L3_s (by assumption)) (fun _ _ _ => rfl) (PR_5 hpr) dX5_requireWell_12 ?_
    refine k_icmp_lt C (tgt := 28) (by decide) dX5_requireWell_15 (fun hc15 => ?_) (fun hc15 => ?_)
    · skip
      exact k_vret C (Nat.le_of_ble_eq_true rfl) (Nat.le_of_ble_eq_true rfl) (⟨rfl, cdI_t (⟨Int32.not_lt.mp hc1, hc15⟩), rfl, rfl, rfl⟩) dX5_requireWell_28
    · skip
      exact k_throwS C tw_X5_151 (si := 12) rfl (Nat.le_of_ble_eq_true rfl) (Nat.le_of_ble_eq_true rfl) (⟨rfl, cdI_f (fun z => by first | exact absurd z.1 (Int32.not_le.mpr hc1) | exact hc15 z.2), rfl, rfl, rfl⟩) ⟨Nat.le_of_ble_eq_true rfl, Nat.le_of_ble_eq_true rfl⟩ ⟨Nat.le_of_ble_eq_true rfl, Nat.le_of_ble_eq_true rfl⟩ dX5_requireWell_18 dX5_requireWell_21 dX5_requireWell_22 dX5_requireWell_24 dX5_requireWell_27
set_option maxHeartbeats 4000000 in
set_option maxRecDepth 100000 in
theorem ct_X5_requireSlot {G : am_G} {Λ : am_L} {I : am_I} {J : am_J} {x : Nat} {c : Int32}  : am_Ct G yX5_requireSlot cX5_requireSlot 2 none { frames := 6, cells := 1, slots := 6, locals := 90 } [.ref x, .int c] Λ I J (am_pok none (cdI 2 c) Λ I J) (am_px1 "java/lang/IndexOutOfBoundsException" (cdI 2 c) Λ I J) := by
  refine am_ct_of (own := RX5) rfl (by decide) (Nat.le_of_ble_eq_true rfl) (fun X C => ?_)
  change am_K G X { frames := 6, cells := 1, slots := 6, locals := 90 } 2 Λ I J 0 0 0 [(0, .ref x), (1, .int c)] []
  refine k_iload_n C (f := 1) (i := 1) (p := 1) rfl rfl dX5_requireSlot_0 ?_
  refine k_if_lt C (tgt := 9) (by decide) dX5_requireSlot_1 (fun hc1 => ?_) (fun hc1 => ?_)
  · skip
    exact k_throwSW C tw_X5_151 (si := 32) rfl (Nat.le_of_ble_eq_true rfl) (Nat.le_of_ble_eq_true rfl) (⟨rfl, cdI_f (fun z => by first | exact absurd z.1 (Int32.not_le.mpr hc1) | exact hc6 z.2), rfl, rfl, rfl⟩) ⟨Nat.le_of_ble_eq_true rfl, Nat.le_of_ble_eq_true rfl⟩ ⟨Nat.le_of_ble_eq_true rfl, Nat.le_of_ble_eq_true rfl⟩ dX5_requireSlot_9 dX5_requireSlot_12 dX5_requireSlot_13 dX5_requireSlot_16 dX5_requireSlot_19
  · skip
    refine k_iload_n C (f := 1) (i := 1) (p := 1) rfl rfl dX5_requireSlot_4 ?_
    refine k_iconst C ic_2 dX5_requireSlot_5 ?_
    refine k_icmp_lt C (tgt := 20) (by decide) dX5_requireSlot_6 (fun hc6 => ?_) (fun hc6 => ?_)
    · skip
      exact k_vret C (Nat.le_of_ble_eq_true rfl) (Nat.le_of_ble_eq_true rfl) (⟨rfl, cdI_t ⟨Int32.not_lt.mp hc1, hc6⟩, rfl, rfl, rfl⟩) dX5_requireSlot_20
    · skip
      exact k_throwSW C tw_X5_151 (si := 32) rfl (Nat.le_of_ble_eq_true rfl) (Nat.le_of_ble_eq_true rfl) (⟨rfl, cdI_f (fun z => by first | exact absurd z.1 (Int32.not_le.mpr hc1) | exact hc6 z.2), rfl, rfl, rfl⟩) ⟨Nat.le_of_ble_eq_true rfl, Nat.le_of_ble_eq_true rfl⟩ ⟨Nat.le_of_ble_eq_true rfl, Nat.le_of_ble_eq_true rfl⟩ dX5_requireSlot_9 dX5_requireSlot_12 dX5_requireSlot_13 dX5_requireSlot_16 dX5_requireSlot_19
set_option maxHeartbeats 4000000 in
set_option maxRecDepth 100000 in
theorem ct_X5_pace {G : am_G} {Λ : am_L} {I : am_I} {J : am_J} {x : Nat} {r : Nat → Int32} {c : Int32} (hx : RouLay Λ x) (hr : CarRel I (x + 34) (x + 35) (x + 24) r) : am_Ct G yX5_pace cX5_pace 2 (some .int) { frames := 7, cells := 1, slots := 6, locals := 111 } [.ref x, .int c] Λ I J (am_pok (some (.int (r (10 + 8 * c.toNatClampNeg)))) (cdI (sp_nc r) c) Λ I J) (am_px1 "java/lang/IndexOutOfBoundsException" (cdI (sp_nc r) c) Λ I J) := by
  refine am_ct_of (own := RX5) rfl (by decide) (Nat.le_of_ble_eq_true rfl) (fun X C => ?_)
  change am_K G X { frames := 7, cells := 1, slots := 6, locals := 111 } 2 Λ I J 0 0 0 [(0, .ref x), (1, .int c)] []
  have hl := L5_n hx
  have hp := L5_p hx
  have hpr := CR_p hr
  have hnc := PR_c hpr
  have hnw := PR_w hpr
  have hnl := CR_l hr
  refine k_aload_n C (f := 0) (i := 0) (p := 0) rfl rfl dX5_pace_0 ?_
  refine k_iload_n C (f := 1) (i := 1) (p := 1) rfl rfl dX5_pace_1 ?_
  refine k_callV C s_X5_181 h_X5_requireCamel (L5_s hx) rfl (ct_X5_requireCamel hx hr) rfl rfl (Nat.le_of_ble_eq_true rfl) ⟨Nat.le_of_ble_eq_true rfl, Nat.le_of_ble_eq_true rfl⟩ ⟨Nat.le_of_ble_eq_true rfl, Nat.le_of_ble_eq_true rfl⟩ dX5_pace_2 ?_ ?_
  · skip
    intro v2 Λ1 I1 J1 hv
    obtain ⟨rfl, hcd, rfl, rfl, rfl⟩ := hv
    obtain ⟨j, hj, rfl⟩ := cdI_0 hcd (by omega)
    refine k_aload_n C (f := 0) (i := 0) (p := 0) rfl rfl dX5_pace_5 ?_
    refine k_getR C f_X5_49 (L5_s (by assumption)) (fun _ _ _ => rfl) (L5_2 (by assumption)) dX5_pace_6 ?_
    refine k_getR C f_X5_37 (L0_s (by assumption)) (fun _ _ _ => rfl) (L0_0 (by assumption)) dX5_pace_9 ?_
    refine k_getR C f_X5_187 (L3_s (by assumption)) (fun _ _ _ => rfl) (L3_2 (by assumption)) dX5_pace_12 ?_
    refine k_iload_n C (f := 1) (i := 1) (p := 1) rfl rfl dX5_pace_15 ?_
    refine k_iald C (A3_2 (by assumption)) (by first | rfl | assumption) (by omega) (by decide) (by first | exact PRa_2 (by assumption) (by omega) | assumption | rfl) dX5_pace_16 ?_
    exact k_iret C (Nat.le_of_ble_eq_true rfl) (Nat.le_of_ble_eq_true rfl) (⟨by rw [nI_clamp (by omega)], hcd, rfl, rfl, rfl⟩) dX5_pace_17
  · skip
    intro E Λ1 I1 J1 hv
    obtain ⟨rfl, hcd, rfl, rfl, rfl⟩ := hv
    exact k_out C rfl (Nat.le_of_ble_eq_true rfl) (Nat.le_of_ble_eq_true rfl) (⟨rfl, hcd, rfl, rfl, rfl⟩)
set_option maxHeartbeats 4000000 in
set_option maxRecDepth 100000 in
theorem ct_X5_water {G : am_G} {Λ : am_L} {I : am_I} {J : am_J} {x : Nat} {r : Nat → Int32} {c : Int32} (hx : RouLay Λ x) (hr : CarRel I (x + 34) (x + 35) (x + 24) r) : am_Ct G yX5_water cX5_water 2 (some .int) { frames := 7, cells := 1, slots := 6, locals := 111 } [.ref x, .int c] Λ I J (am_pok (some (.int (r (13 + 8 * c.toNatClampNeg)))) (cdI (sp_nc r) c) Λ I J) (am_px1 "java/lang/IndexOutOfBoundsException" (cdI (sp_nc r) c) Λ I J) := by
  refine am_ct_of (own := RX5) rfl (by decide) (Nat.le_of_ble_eq_true rfl) (fun X C => ?_)
  change am_K G X { frames := 7, cells := 1, slots := 6, locals := 111 } 2 Λ I J 0 0 0 [(0, .ref x), (1, .int c)] []
  have hl := L5_n hx
  have hp := L5_p hx
  have hpr := CR_p hr
  have hnc := PR_c hpr
  have hnw := PR_w hpr
  have hnl := CR_l hr
  refine k_aload_n C (f := 0) (i := 0) (p := 0) rfl rfl dX5_water_0 ?_
  refine k_iload_n C (f := 1) (i := 1) (p := 1) rfl rfl dX5_water_1 ?_
  refine k_callV C s_X5_181 h_X5_requireCamel (L5_s hx) rfl (ct_X5_requireCamel hx hr) rfl rfl (Nat.le_of_ble_eq_true rfl) ⟨Nat.le_of_ble_eq_true rfl, Nat.le_of_ble_eq_true rfl⟩ ⟨Nat.le_of_ble_eq_true rfl, Nat.le_of_ble_eq_true rfl⟩ dX5_water_2 ?_ ?_
  · skip
    intro v2 Λ1 I1 J1 hv
    obtain ⟨rfl, hcd, rfl, rfl, rfl⟩ := hv
    obtain ⟨j, hj, rfl⟩ := cdI_0 hcd (by omega)
    refine k_aload_n C (f := 0) (i := 0) (p := 0) rfl rfl dX5_water_5 ?_
    refine k_getR C f_X5_49 (L5_s (by assumption)) (fun _ _ _ => rfl) (L5_2 (by assumption)) dX5_water_6 ?_
    refine k_getR C f_X5_193 (L0_s (by assumption)) (fun _ _ _ => rfl) (L0_6 (by assumption)) dX5_water_9 ?_
    refine k_iload_n C (f := 1) (i := 1) (p := 1) rfl rfl dX5_water_12 ?_
    refine k_iald C (A0_6 (by assumption)) (by first | rfl | assumption) (by omega) (by decide) (by first | exact CRa_6 (by assumption) (by omega) | assumption | rfl) dX5_water_13 ?_
    exact k_iret C (Nat.le_of_ble_eq_true rfl) (Nat.le_of_ble_eq_true rfl) (⟨by rw [nI_clamp (by omega)], hcd, rfl, rfl, rfl⟩) dX5_water_14
  · skip
    intro E Λ1 I1 J1 hv
    obtain ⟨rfl, hcd, rfl, rfl, rfl⟩ := hv
    exact k_out C rfl (Nat.le_of_ble_eq_true rfl) (Nat.le_of_ble_eq_true rfl) (⟨rfl, hcd, rfl, rfl, rfl⟩)
set_option maxHeartbeats 4000000 in
set_option maxRecDepth 100000 in
theorem ct_X5_tank {G : am_G} {Λ : am_L} {I : am_I} {J : am_J} {x : Nat} {r : Nat → Int32} {c : Int32} (hx : RouLay Λ x) (hr : CarRel I (x + 34) (x + 35) (x + 24) r) : am_Ct G yX5_tank cX5_tank 2 (some .int) { frames := 7, cells := 1, slots := 6, locals := 111 } [.ref x, .int c] Λ I J (am_pok (some (.int (r (12 + 8 * c.toNatClampNeg)))) (cdI (sp_nc r) c) Λ I J) (am_px1 "java/lang/IndexOutOfBoundsException" (cdI (sp_nc r) c) Λ I J) := by
  refine am_ct_of (own := RX5) rfl (by decide) (Nat.le_of_ble_eq_true rfl) (fun X C => ?_)
  change am_K G X { frames := 7, cells := 1, slots := 6, locals := 111 } 2 Λ I J 0 0 0 [(0, .ref x), (1, .int c)] []
  have hl := L5_n hx
  have hp := L5_p hx
  have hpr := CR_p hr
  have hnc := PR_c hpr
  have hnw := PR_w hpr
  have hnl := CR_l hr
  refine k_aload_n C (f := 0) (i := 0) (p := 0) rfl rfl dX5_tank_0 ?_
  refine k_iload_n C (f := 1) (i := 1) (p := 1) rfl rfl dX5_tank_1 ?_
  refine k_callV C s_X5_181 h_X5_requireCamel (L5_s hx) rfl (ct_X5_requireCamel hx hr) rfl rfl (Nat.le_of_ble_eq_true rfl) ⟨Nat.le_of_ble_eq_true rfl, Nat.le_of_ble_eq_true rfl⟩ ⟨Nat.le_of_ble_eq_true rfl, Nat.le_of_ble_eq_true rfl⟩ dX5_tank_2 ?_ ?_
  · skip
    intro v2 Λ1 I1 J1 hv
    obtain ⟨rfl, hcd, rfl, rfl, rfl⟩ := hv
    obtain ⟨j, hj, rfl⟩ := cdI_0 hcd (by omega)
    refine k_aload_n C (f := 0) (i := 0) (p := 0) rfl rfl dX5_tank_5 ?_
    refine k_getR C f_X5_49 (L5_s (by assumption)) (fun _ _ _ => rfl) (L5_2 (by assumption)) dX5_tank_6 ?_
    refine k_getR C f_X5_37 (L0_s (by assumption)) (fun _ _ _ => rfl) (L0_0 (by assumption)) dX5_tank_9 ?_
    refine k_getR C f_X5_196 (L3_s (by assumption)) (fun _ _ _ => rfl) (L3_4 (by assumption)) dX5_tank_12 ?_
    refine k_iload_n C (f := 1) (i := 1) (p := 1) rfl rfl dX5_tank_15 ?_
    refine k_iald C (A3_4 (by assumption)) (by first | rfl | assumption) (by omega) (by decide) (by first | exact PRa_4 (by assumption) (by omega) | assumption | rfl) dX5_tank_16 ?_
    exact k_iret C (Nat.le_of_ble_eq_true rfl) (Nat.le_of_ble_eq_true rfl) (⟨by rw [nI_clamp (by omega)], hcd, rfl, rfl, rfl⟩) dX5_tank_17
  · skip
    intro E Λ1 I1 J1 hv
    obtain ⟨rfl, hcd, rfl, rfl, rfl⟩ := hv
    exact k_out C rfl (Nat.le_of_ble_eq_true rfl) (Nat.le_of_ble_eq_true rfl) (⟨rfl, hcd, rfl, rfl, rfl⟩)
set_option maxHeartbeats 4000000 in
set_option maxRecDepth 100000 in
theorem ct_X5_strain {G : am_G} {Λ : am_L} {I : am_I} {J : am_J} {x : Nat} {r : Nat → Int32} {c : Int32} (hx : RouLay Λ x) (hr : CarRel I (x + 34) (x + 35) (x + 24) r) : am_Ct G yX5_strain cX5_strain 2 (some .int) { frames := 7, cells := 1, slots := 6, locals := 111 } [.ref x, .int c] Λ I J (am_pok (some (.int (r (14 + 8 * c.toNatClampNeg)))) (cdI (sp_nc r) c) Λ I J) (am_px1 "java/lang/IndexOutOfBoundsException" (cdI (sp_nc r) c) Λ I J) := by
  refine am_ct_of (own := RX5) rfl (by decide) (Nat.le_of_ble_eq_true rfl) (fun X C => ?_)
  change am_K G X { frames := 7, cells := 1, slots := 6, locals := 111 } 2 Λ I J 0 0 0 [(0, .ref x), (1, .int c)] []
  have hl := L5_n hx
  have hp := L5_p hx
  have hpr := CR_p hr
  have hnc := PR_c hpr
  have hnw := PR_w hpr
  have hnl := CR_l hr
  refine k_aload_n C (f := 0) (i := 0) (p := 0) rfl rfl dX5_strain_0 ?_
  refine k_iload_n C (f := 1) (i := 1) (p := 1) rfl rfl dX5_strain_1 ?_
  refine k_callV C s_X5_181 h_X5_requireCamel (L5_s hx) rfl (ct_X5_requireCamel hx hr) rfl rfl (Nat.le_of_ble_eq_true rfl) ⟨Nat.le_of_ble_eq_true rfl, Nat.le_of_ble_eq_true rfl⟩ ⟨Nat.le_of_ble_eq_true rfl, Nat.le_of_ble_eq_true rfl⟩ dX5_strain_2 ?_ ?_
  · skip
    intro v2 Λ1 I1 J1 hv
    obtain ⟨rfl, hcd, rfl, rfl, rfl⟩ := hv
    obtain ⟨j, hj, rfl⟩ := cdI_0 hcd (by omega)
    refine k_aload_n C (f := 0) (i := 0) (p := 0) rfl rfl dX5_strain_5 ?_
    refine k_getR C f_X5_49 (L5_s (by assumption)) (fun _ _ _ => rfl) (L5_2 (by assumption)) dX5_strain_6 ?_
    refine k_getR C f_X5_199 (L0_s (by assumption)) (fun _ _ _ => rfl) (L0_7 (by assumption)) dX5_strain_9 ?_
    refine k_iload_n C (f := 1) (i := 1) (p := 1) rfl rfl dX5_strain_12 ?_
    refine k_iald C (A0_7 (by assumption)) (by first | rfl | assumption) (by omega) (by decide) (by first | exact CRa_7 (by assumption) (by omega) | assumption | rfl) dX5_strain_13 ?_
    exact k_iret C (Nat.le_of_ble_eq_true rfl) (Nat.le_of_ble_eq_true rfl) (⟨by rw [nI_clamp (by omega)], hcd, rfl, rfl, rfl⟩) dX5_strain_14
  · skip
    intro E Λ1 I1 J1 hv
    obtain ⟨rfl, hcd, rfl, rfl, rfl⟩ := hv
    exact k_out C rfl (Nat.le_of_ble_eq_true rfl) (Nat.le_of_ble_eq_true rfl) (⟨rfl, hcd, rfl, rfl, rfl⟩)
set_option maxHeartbeats 4000000 in
set_option maxRecDepth 100000 in
theorem ct_X5_lameDays {G : am_G} {Λ : am_L} {I : am_I} {J : am_J} {x : Nat} {r : Nat → Int32} {c : Int32} (hx : RouLay Λ x) (hr : CarRel I (x + 34) (x + 35) (x + 24) r) : am_Ct G yX5_lameDays cX5_lameDays 2 (some .int) { frames := 7, cells := 1, slots := 6, locals := 111 } [.ref x, .int c] Λ I J (am_pok (some (.int (r (15 + 8 * c.toNatClampNeg)))) (cdI (sp_nc r) c) Λ I J) (am_px1 "java/lang/IndexOutOfBoundsException" (cdI (sp_nc r) c) Λ I J) := by
  refine am_ct_of (own := RX5) rfl (by decide) (Nat.le_of_ble_eq_true rfl) (fun X C => ?_)
  change am_K G X { frames := 7, cells := 1, slots := 6, locals := 111 } 2 Λ I J 0 0 0 [(0, .ref x), (1, .int c)] []
  have hl := L5_n hx
  have hp := L5_p hx
  have hpr := CR_p hr
  have hnc := PR_c hpr
  have hnw := PR_w hpr
  have hnl := CR_l hr
  refine k_aload_n C (f := 0) (i := 0) (p := 0) rfl rfl dX5_lameDays_0 ?_
  refine k_iload_n C (f := 1) (i := 1) (p := 1) rfl rfl dX5_lameDays_1 ?_
  refine k_callV C s_X5_181 h_X5_requireCamel (L5_s hx) rfl (ct_X5_requireCamel hx hr) rfl rfl (Nat.le_of_ble_eq_true rfl) ⟨Nat.le_of_ble_eq_true rfl, Nat.le_of_ble_eq_true rfl⟩ ⟨Nat.le_of_ble_eq_true rfl, Nat.le_of_ble_eq_true rfl⟩ dX5_lameDays_2 ?_ ?_
  · skip
    intro v2 Λ1 I1 J1 hv
    obtain ⟨rfl, hcd, rfl, rfl, rfl⟩ := hv
    obtain ⟨j, hj, rfl⟩ := cdI_0 hcd (by omega)
    refine k_aload_n C (f := 0) (i := 0) (p := 0) rfl rfl dX5_lameDays_5 ?_
    refine k_getR C f_X5_49 (L5_s (by assumption)) (fun _ _ _ => rfl) (L5_2 (by assumption)) dX5_lameDays_6 ?_
    refine k_getR C f_X5_202 (L0_s (by assumption)) (fun _ _ _ => rfl) (L0_8 (by assumption)) dX5_lameDays_9 ?_
    refine k_iload_n C (f := 1) (i := 1) (p := 1) rfl rfl dX5_lameDays_12 ?_
    refine k_iald C (A0_8 (by assumption)) (by first | rfl | assumption) (by omega) (by decide) (by first | exact CRa_8 (by assumption) (by omega) | assumption | rfl) dX5_lameDays_13 ?_
    exact k_iret C (Nat.le_of_ble_eq_true rfl) (Nat.le_of_ble_eq_true rfl) (⟨by rw [nI_clamp (by omega)], hcd, rfl, rfl, rfl⟩) dX5_lameDays_14
  · skip
    intro E Λ1 I1 J1 hv
    obtain ⟨rfl, hcd, rfl, rfl, rfl⟩ := hv
    exact k_out C rfl (Nat.le_of_ble_eq_true rfl) (Nat.le_of_ble_eq_true rfl) (⟨rfl, hcd, rfl, rfl, rfl⟩)
set_option maxHeartbeats 4000000 in
set_option maxRecDepth 100000 in
theorem ct_X5_dryDays {G : am_G} {Λ : am_L} {I : am_I} {J : am_J} {x : Nat} {r : Nat → Int32} {c : Int32} (hx : RouLay Λ x) (hr : CarRel I (x + 34) (x + 35) (x + 24) r) : am_Ct G yX5_dryDays cX5_dryDays 2 (some .int) { frames := 7, cells := 1, slots := 6, locals := 111 } [.ref x, .int c] Λ I J (am_pok (some (.int (r (16 + 8 * c.toNatClampNeg)))) (cdI (sp_nc r) c) Λ I J) (am_px1 "java/lang/IndexOutOfBoundsException" (cdI (sp_nc r) c) Λ I J) := by
  refine am_ct_of (own := RX5) rfl (by decide) (Nat.le_of_ble_eq_true rfl) (fun X C => ?_)
  change am_K G X { frames := 7, cells := 1, slots := 6, locals := 111 } 2 Λ I J 0 0 0 [(0, .ref x), (1, .int c)] []
  have hl := L5_n hx
  have hp := L5_p hx
  have hpr := CR_p hr
  have hnc := PR_c hpr
  have hnw := PR_w hpr
  have hnl := CR_l hr
  refine k_aload_n C (f := 0) (i := 0) (p := 0) rfl rfl dX5_dryDays_0 ?_
  refine k_iload_n C (f := 1) (i := 1) (p := 1) rfl rfl dX5_dryDays_1 ?_
  refine k_callV C s_X5_181 h_X5_requireCamel (L5_s hx) rfl (ct_X5_requireCamel hx hr) rfl rfl (Nat.le_of_ble_eq_true rfl) ⟨Nat.le_of_ble_eq_true rfl, Nat.le_of_ble_eq_true rfl⟩ ⟨Nat.le_of_ble_eq_true rfl, Nat.le_of_ble_eq_true rfl⟩ dX5_dryDays_2 ?_ ?_
  · skip
    intro v2 Λ1 I1 J1 hv
    obtain ⟨rfl, hcd, rfl, rfl, rfl⟩ := hv
    obtain ⟨j, hj, rfl⟩ := cdI_0 hcd (by omega)
    refine k_aload_n C (f := 0) (i := 0) (p := 0) rfl rfl dX5_dryDays_5 ?_
    refine k_getR C f_X5_49 (L5_s (by assumption)) (fun _ _ _ => rfl) (L5_2 (by assumption)) dX5_dryDays_6 ?_
    refine k_getR C f_X5_205 (L0_s (by assumption)) (fun _ _ _ => rfl) (L0_9 (by assumption)) dX5_dryDays_9 ?_
    refine k_iload_n C (f := 1) (i := 1) (p := 1) rfl rfl dX5_dryDays_12 ?_
    refine k_iald C (A0_9 (by assumption)) (by first | rfl | assumption) (by omega) (by decide) (by first | exact CRa_9 (by assumption) (by omega) | assumption | rfl) dX5_dryDays_13 ?_
    exact k_iret C (Nat.le_of_ble_eq_true rfl) (Nat.le_of_ble_eq_true rfl) (⟨by rw [nI_clamp (by omega)], hcd, rfl, rfl, rfl⟩) dX5_dryDays_14
  · skip
    intro E Λ1 I1 J1 hv
    obtain ⟨rfl, hcd, rfl, rfl, rfl⟩ := hv
    exact k_out C rfl (Nat.le_of_ble_eq_true rfl) (Nat.le_of_ble_eq_true rfl) (⟨rfl, hcd, rfl, rfl, rfl⟩)
set_option maxHeartbeats 4000000 in
set_option maxRecDepth 100000 in
theorem ct_X5_carried {G : am_G} {Λ : am_L} {I : am_I} {J : am_J} {x : Nat} {r : Nat → Int32} {c : Int32} (hx : RouLay Λ x) (hr : CarRel I (x + 34) (x + 35) (x + 24) r) : am_Ct G yX5_carried cX5_carried 2 (some .int) { frames := 7, cells := 1, slots := 6, locals := 111 } [.ref x, .int c] Λ I J (am_pok (some (.int (sp_car r c.toNatClampNeg))) (cdI (sp_nc r) c) Λ I J) (am_px1 "java/lang/IndexOutOfBoundsException" (cdI (sp_nc r) c) Λ I J) := by
  refine am_ct_of (own := RX5) rfl (by decide) (Nat.le_of_ble_eq_true rfl) (fun X C => ?_)
  change am_K G X { frames := 7, cells := 1, slots := 6, locals := 111 } 2 Λ I J 0 0 0 [(0, .ref x), (1, .int c)] []
  have hl := L5_n hx
  have hp := L5_p hx
  have hpr := CR_p hr
  have hnc := PR_c hpr
  have hnw := PR_w hpr
  have hnl := CR_l hr
  refine k_aload_n C (f := 0) (i := 0) (p := 0) rfl rfl dX5_carried_0 ?_
  refine k_iload_n C (f := 1) (i := 1) (p := 1) rfl rfl dX5_carried_1 ?_
  refine k_callV C s_X5_181 h_X5_requireCamel (L5_s hx) rfl (ct_X5_requireCamel hx hr) rfl rfl (Nat.le_of_ble_eq_true rfl) ⟨Nat.le_of_ble_eq_true rfl, Nat.le_of_ble_eq_true rfl⟩ ⟨Nat.le_of_ble_eq_true rfl, Nat.le_of_ble_eq_true rfl⟩ dX5_carried_2 ?_ ?_
  · skip
    intro v2 Λ1 I1 J1 hv
    obtain ⟨rfl, hcd, rfl, rfl, rfl⟩ := hv
    obtain ⟨j, hj, rfl⟩ := cdI_0 hcd (by omega)
    refine k_aload_n C (f := 0) (i := 0) (p := 0) rfl rfl dX5_carried_5 ?_
    refine k_getR C f_X5_49 (L5_s (by assumption)) (fun _ _ _ => rfl) (L5_2 (by assumption)) dX5_carried_6 ?_
    refine k_getR C f_X5_208 (L0_s (by assumption)) (fun _ _ _ => rfl) (L0_10 (by assumption)) dX5_carried_9 ?_
    refine k_iload_n C (f := 1) (i := 1) (p := 1) rfl rfl dX5_carried_12 ?_
    refine k_iald C (A0_10 (by assumption)) (by first | rfl | assumption) (by omega) (by decide) (hr.2.2.2.2.1 j hj) dX5_carried_13 ?_
    exact k_iret C (Nat.le_of_ble_eq_true rfl) (Nat.le_of_ble_eq_true rfl) (⟨by rw [nI_clamp (by omega)], hcd, rfl, rfl, rfl⟩) dX5_carried_14
  · skip
    intro E Λ1 I1 J1 hv
    obtain ⟨rfl, hcd, rfl, rfl, rfl⟩ := hv
    exact k_out C rfl (Nat.le_of_ble_eq_true rfl) (Nat.le_of_ble_eq_true rfl) (⟨rfl, hcd, rfl, rfl, rfl⟩)
set_option maxHeartbeats 4000000 in
set_option maxRecDepth 100000 in
theorem ct_X5_speed {G : am_G} {Λ : am_L} {I : am_I} {J : am_J} {x : Nat} {r : Nat → Int32} {c : Int32} (hx : RouLay Λ x) (hr : CarRel I (x + 34) (x + 35) (x + 24) r) : am_Ct G yX5_speed cX5_speed 2 (some .int) { frames := 7, cells := 1, slots := 6, locals := 111 } [.ref x, .int c] Λ I J (am_pok (some (.int (sp_speed r c.toNatClampNeg))) (cdI (sp_nc r) c) Λ I J) (am_px1 "java/lang/IndexOutOfBoundsException" (cdI (sp_nc r) c) Λ I J) := by
  refine am_ct_of (own := RX5) rfl (by decide) (Nat.le_of_ble_eq_true rfl) (fun X C => ?_)
  change am_K G X { frames := 7, cells := 1, slots := 6, locals := 111 } 2 Λ I J 0 0 0 [(0, .ref x), (1, .int c)] []
  have hl := L5_n hx
  have hp := L5_p hx
  have hpr := CR_p hr
  have hnc := PR_c hpr
  have hnw := PR_w hpr
  have hnl := CR_l hr
  refine k_aload_n C (f := 0) (i := 0) (p := 0) rfl rfl dX5_speed_0 ?_
  refine k_iload_n C (f := 1) (i := 1) (p := 1) rfl rfl dX5_speed_1 ?_
  refine k_callV C s_X5_181 h_X5_requireCamel (L5_s hx) rfl (ct_X5_requireCamel hx hr) rfl rfl (Nat.le_of_ble_eq_true rfl) ⟨Nat.le_of_ble_eq_true rfl, Nat.le_of_ble_eq_true rfl⟩ ⟨Nat.le_of_ble_eq_true rfl, Nat.le_of_ble_eq_true rfl⟩ dX5_speed_2 ?_ ?_
  · skip
    intro v2 Λ1 I1 J1 hv
    obtain ⟨rfl, hcd, rfl, rfl, rfl⟩ := hv
    obtain ⟨j, hj, rfl⟩ := cdI_0 hcd (by omega)
    refine k_aload_n C (f := 0) (i := 0) (p := 0) rfl rfl dX5_speed_5 ?_
    refine k_getR C f_X5_49 (L5_s (by assumption)) (fun _ _ _ => rfl) (L5_2 (by assumption)) dX5_speed_6 ?_
    refine k_iload_n C (f := 1) (i := 1) (p := 1) rfl rfl dX5_speed_9 ?_
    refine k_callVp C s_X5_190 h_X0_speedOf (L0_s (by assumption)) rfl (ct_X0_speedOf hl hr hj) rfl rfl (Nat.le_of_ble_eq_true rfl) ⟨Nat.le_of_ble_eq_true rfl, Nat.le_of_ble_eq_true rfl⟩ ⟨Nat.le_of_ble_eq_true rfl, Nat.le_of_ble_eq_true rfl⟩ ⟨rfl, rfl⟩ dX5_speed_10 ?_
    exact k_iret C (Nat.le_of_ble_eq_true rfl) (Nat.le_of_ble_eq_true rfl) (⟨by rw [nI_clamp (by omega)], hcd, rfl, rfl, rfl⟩) dX5_speed_13
  · skip
    intro E Λ1 I1 J1 hv
    obtain ⟨rfl, hcd, rfl, rfl, rfl⟩ := hv
    exact k_out C rfl (Nat.le_of_ble_eq_true rfl) (Nat.le_of_ble_eq_true rfl) (⟨rfl, hcd, rfl, rfl, rfl⟩)
set_option maxHeartbeats 4000000 in
set_option maxRecDepth 100000 in
theorem ct_X5_freeWeight {G : am_G} {Λ : am_L} {I : am_I} {J : am_J} {x : Nat} {r : Nat → Int32} {c : Int32} (hx : RouLay Λ x) (hr : CarRel I (x + 34) (x + 35) (x + 24) r) : am_Ct G yX5_freeWeight cX5_freeWeight 2 (some .int) { frames := 7, cells := 1, slots := 6, locals := 111 } [.ref x, .int c] Λ I J (am_pok (some (.int (sp_free r c.toNatClampNeg))) (cdI (sp_nc r) c) Λ I J) (am_px1 "java/lang/IndexOutOfBoundsException" (cdI (sp_nc r) c) Λ I J) := by
  refine am_ct_of (own := RX5) rfl (by decide) (Nat.le_of_ble_eq_true rfl) (fun X C => ?_)
  change am_K G X { frames := 7, cells := 1, slots := 6, locals := 111 } 2 Λ I J 0 0 0 [(0, .ref x), (1, .int c)] []
  have hl := L5_n hx
  have hp := L5_p hx
  have hpr := CR_p hr
  have hnc := PR_c hpr
  have hnw := PR_w hpr
  have hnl := CR_l hr
  refine k_aload_n C (f := 0) (i := 0) (p := 0) rfl rfl dX5_freeWeight_0 ?_
  refine k_iload_n C (f := 1) (i := 1) (p := 1) rfl rfl dX5_freeWeight_1 ?_
  refine k_callV C s_X5_181 h_X5_requireCamel (L5_s hx) rfl (ct_X5_requireCamel hx hr) rfl rfl (Nat.le_of_ble_eq_true rfl) ⟨Nat.le_of_ble_eq_true rfl, Nat.le_of_ble_eq_true rfl⟩ ⟨Nat.le_of_ble_eq_true rfl, Nat.le_of_ble_eq_true rfl⟩ dX5_freeWeight_2 ?_ ?_
  · skip
    intro v2 Λ1 I1 J1 hv
    obtain ⟨rfl, hcd, rfl, rfl, rfl⟩ := hv
    obtain ⟨j, hj, rfl⟩ := cdI_0 hcd (by omega)
    refine k_aload_n C (f := 0) (i := 0) (p := 0) rfl rfl dX5_freeWeight_5 ?_
    refine k_getR C f_X5_49 (L5_s (by assumption)) (fun _ _ _ => rfl) (L5_2 (by assumption)) dX5_freeWeight_6 ?_
    refine k_iload_n C (f := 1) (i := 1) (p := 1) rfl rfl dX5_freeWeight_9 ?_
    refine k_callVp C s_X5_211 h_X0_freeOn (L0_s (by assumption)) rfl (ct_X0_freeOn hl hr (by omega)) rfl rfl (Nat.le_of_ble_eq_true rfl) ⟨Nat.le_of_ble_eq_true rfl, Nat.le_of_ble_eq_true rfl⟩ ⟨Nat.le_of_ble_eq_true rfl, Nat.le_of_ble_eq_true rfl⟩ ⟨rfl, rfl⟩ dX5_freeWeight_10 ?_
    exact k_iret C (Nat.le_of_ble_eq_true rfl) (Nat.le_of_ble_eq_true rfl) (⟨by rw [nI_clamp (by omega), if_pos hj], hcd, rfl, rfl, rfl⟩) dX5_freeWeight_13
  · skip
    intro E Λ1 I1 J1 hv
    obtain ⟨rfl, hcd, rfl, rfl, rfl⟩ := hv
    exact k_out C rfl (Nat.le_of_ble_eq_true rfl) (Nat.le_of_ble_eq_true rfl) (⟨rfl, hcd, rfl, rfl, rfl⟩)
set_option maxHeartbeats 4000000 in
set_option maxRecDepth 100000 in
theorem ct_X5_isDead {G : am_G} {Λ : am_L} {I : am_I} {J : am_J} {x : Nat} {r : Nat → Int32} {c : Int32} (hx : RouLay Λ x) (hr : CarRel I (x + 34) (x + 35) (x + 24) r) : am_Ct G yX5_isDead cX5_isDead 2 (some .boolean) { frames := 7, cells := 1, slots := 6, locals := 111 } [.ref x, .int c] Λ I J (am_pok (some (.int (am_b (¬ r (16 + 8 * c.toNatClampNeg) < nI 3)))) (cdI (sp_nc r) c) Λ I J) (am_px1 "java/lang/IndexOutOfBoundsException" (cdI (sp_nc r) c) Λ I J) := by
  refine am_ct_of (own := RX5) rfl (by decide) (Nat.le_of_ble_eq_true rfl) (fun X C => ?_)
  change am_K G X { frames := 7, cells := 1, slots := 6, locals := 111 } 2 Λ I J 0 0 0 [(0, .ref x), (1, .int c)] []
  have hl := L5_n hx
  have hp := L5_p hx
  have hpr := CR_p hr
  have hnc := PR_c hpr
  have hnw := PR_w hpr
  have hnl := CR_l hr
  refine k_aload_n C (f := 0) (i := 0) (p := 0) rfl rfl dX5_isDead_0 ?_
  refine k_iload_n C (f := 1) (i := 1) (p := 1) rfl rfl dX5_isDead_1 ?_
  refine k_callV C s_X5_181 h_X5_requireCamel (L5_s hx) rfl (ct_X5_requireCamel hx hr) rfl rfl (Nat.le_of_ble_eq_true rfl) ⟨Nat.le_of_ble_eq_true rfl, Nat.le_of_ble_eq_true rfl⟩ ⟨Nat.le_of_ble_eq_true rfl, Nat.le_of_ble_eq_true rfl⟩ dX5_isDead_2 ?_ ?_
  · skip
    intro v2 Λ1 I1 J1 hv
    obtain ⟨rfl, hcd, rfl, rfl, rfl⟩ := hv
    obtain ⟨j, hj, rfl⟩ := cdI_0 hcd (by omega)
    refine k_aload_n C (f := 0) (i := 0) (p := 0) rfl rfl dX5_isDead_5 ?_
    refine k_getR C f_X5_49 (L5_s (by assumption)) (fun _ _ _ => rfl) (L5_2 (by assumption)) dX5_isDead_6 ?_
    refine k_iload_n C (f := 1) (i := 1) (p := 1) rfl rfl dX5_isDead_9 ?_
    refine k_callVp C s_X5_184 h_X0_isLiving (L0_s (by assumption)) rfl (ct_X0_isLiving hl hr (by omega)) rfl rfl (Nat.le_of_ble_eq_true rfl) ⟨Nat.le_of_ble_eq_true rfl, Nat.le_of_ble_eq_true rfl⟩ ⟨Nat.le_of_ble_eq_true rfl, Nat.le_of_ble_eq_true rfl⟩ ⟨rfl, rfl⟩ dX5_isDead_10 ?_
    refine k_ifb_ne C (tgt := 20) (by decide) dX5_isDead_13 (fun hc13 => ?_) (fun hc13 => ?_)
    · skip
      refine k_iconst C ic_0 dX5_isDead_20 ?_
      exact k_zret C (by first | rfl | exact am_bz) (Nat.le_of_ble_eq_true rfl) (Nat.le_of_ble_eq_true rfl) (⟨by first | (rw [nI_clamp (by omega)]; exact congrArg (fun z => some (Value.int z)) (am_bt (fun z => hc13 ⟨hj, z⟩))) | (rw [nI_clamp (by omega)]; exact congrArg (fun z => some (Value.int z)) (am_bf (fun z => z hc13.2))), hcd, rfl, rfl, rfl⟩) dX5_isDead_21
    · skip
      refine k_iconst C ic_1 dX5_isDead_16 ?_
      refine k_goto C (tgt := 21) (by decide) dX5_isDead_17 ?_
      exact k_zret C (by first | rfl | exact am_bz) (Nat.le_of_ble_eq_true rfl) (Nat.le_of_ble_eq_true rfl) (⟨by first | (rw [nI_clamp (by omega)]; exact congrArg (fun z => some (Value.int z)) (am_bt (fun z => hc13 ⟨hj, z⟩))) | (rw [nI_clamp (by omega)]; exact congrArg (fun z => some (Value.int z)) (am_bf (fun z => z hc13.2))), hcd, rfl, rfl, rfl⟩) dX5_isDead_21
  · skip
    intro E Λ1 I1 J1 hv
    obtain ⟨rfl, hcd, rfl, rfl, rfl⟩ := hv
    exact k_out C rfl (Nat.le_of_ble_eq_true rfl) (Nat.le_of_ble_eq_true rfl) (⟨rfl, hcd, rfl, rfl, rfl⟩)
set_option maxHeartbeats 4000000 in
set_option maxRecDepth 100000 in
theorem ct_X5_needToday {G : am_G} {Λ : am_L} {I : am_I} {J : am_J} {x : Nat} {r : Nat → Int32} {c : Int32} (hx : RouLay Λ x) (hr : CarRel I (x + 34) (x + 35) (x + 24) r) : am_Ct G yX5_needToday cX5_needToday 2 (some .int) { frames := 7, cells := 1, slots := 6, locals := 111 } [.ref x, .int c] Λ I J (am_pok (some (.int (if r (16 + 8 * c.toNatClampNeg) < nI 3 then sp_need r c.toNatClampNeg (sp_storm r (r 2)) else nI 0))) (cdI (sp_nc r) c) Λ I J) (am_px1 "java/lang/IndexOutOfBoundsException" (cdI (sp_nc r) c) Λ I J) := by
  refine am_ct_of (own := RX5) rfl (by decide) (Nat.le_of_ble_eq_true rfl) (fun X C => ?_)
  change am_K G X { frames := 7, cells := 1, slots := 6, locals := 111 } 2 Λ I J 0 0 0 [(0, .ref x), (1, .int c)] []
  have hl := L5_n hx
  have hp := L5_p hx
  have hpr := CR_p hr
  have hnc := PR_c hpr
  have hnw := PR_w hpr
  have hnl := CR_l hr
  refine k_aload_n C (f := 0) (i := 0) (p := 0) rfl rfl dX5_needToday_0 ?_
  refine k_iload_n C (f := 1) (i := 1) (p := 1) rfl rfl dX5_needToday_1 ?_
  refine k_callV C s_X5_181 h_X5_requireCamel (L5_s hx) rfl (ct_X5_requireCamel hx hr) rfl rfl (Nat.le_of_ble_eq_true rfl) ⟨Nat.le_of_ble_eq_true rfl, Nat.le_of_ble_eq_true rfl⟩ ⟨Nat.le_of_ble_eq_true rfl, Nat.le_of_ble_eq_true rfl⟩ dX5_needToday_2 ?_ ?_
  · skip
    intro v2 Λ1 I1 J1 hv
    obtain ⟨rfl, hcd, rfl, rfl, rfl⟩ := hv
    obtain ⟨j, hj, rfl⟩ := cdI_0 hcd (by omega)
    refine k_aload_n C (f := 0) (i := 0) (p := 0) rfl rfl dX5_needToday_5 ?_
    refine k_getR C f_X5_49 (L5_s (by assumption)) (fun _ _ _ => rfl) (L5_2 (by assumption)) dX5_needToday_6 ?_
    refine k_iload_n C (f := 1) (i := 1) (p := 1) rfl rfl dX5_needToday_9 ?_
    refine k_callVp C s_X5_184 h_X0_isLiving (L0_s (by assumption)) rfl (ct_X0_isLiving hl hr (by omega)) rfl rfl (Nat.le_of_ble_eq_true rfl) ⟨Nat.le_of_ble_eq_true rfl, Nat.le_of_ble_eq_true rfl⟩ ⟨Nat.le_of_ble_eq_true rfl, Nat.le_of_ble_eq_true rfl⟩ ⟨rfl, rfl⟩ dX5_needToday_10 ?_
    refine k_ifb_ne C (tgt := 18) (by decide) dX5_needToday_13 (fun hc13 => ?_) (fun hc13 => ?_)
    · skip
      refine k_aload_n C (f := 0) (i := 0) (p := 0) rfl rfl dX5_needToday_18 ?_
      refine k_getR C f_X5_49 (L5_s (by assumption)) (fun _ _ _ => rfl) (L5_2 (by assumption)) dX5_needToday_19 ?_
      refine k_iload_n C (f := 1) (i := 1) (p := 1) rfl rfl dX5_needToday_22 ?_
      refine k_aload_n C (f := 0) (i := 0) (p := 0) rfl rfl dX5_needToday_23 ?_
      refine k_getR C f_X5_49 (L5_s (by assumption)) (fun _ _ _ => rfl) (L5_2 (by assumption)) dX5_needToday_24 ?_
      refine k_getR C f_X5_37 (L0_s (by assumption)) (fun _ _ _ => rfl) (L0_0 (by assumption)) dX5_needToday_27 ?_
      refine k_aload_n C (f := 0) (i := 0) (p := 0) rfl rfl dX5_needToday_30 ?_
      refine k_getR C f_X5_49 (L5_s (by assumption)) (fun _ _ _ => rfl) (L5_2 (by assumption)) dX5_needToday_31 ?_
      refine k_getI C f_X5_123 (L0_s (by assumption)) (fun _ _ _ => rfl) (by first | exact CR_2 (by assumption) | assumption | rfl) dX5_needToday_34 ?_
      refine k_callVp C s_X5_128 h_X3_greatestStorm (L3_s (by assumption)) rfl (ct_X3_greatestStorm hp hpr) rfl rfl (Nat.le_of_ble_eq_true rfl) ⟨Nat.le_of_ble_eq_true rfl, Nat.le_of_ble_eq_true rfl⟩ ⟨Nat.le_of_ble_eq_true rfl, Nat.le_of_ble_eq_true rfl⟩ ⟨rfl, rfl⟩ dX5_needToday_37 ?_
      refine k_callVp C s_X5_250 h_X0_needIn (L0_s (by assumption)) rfl (ct_X0_needIn hl hr hj) rfl rfl (Nat.le_of_ble_eq_true rfl) ⟨Nat.le_of_ble_eq_true rfl, Nat.le_of_ble_eq_true rfl⟩ ⟨Nat.le_of_ble_eq_true rfl, Nat.le_of_ble_eq_true rfl⟩ ⟨rfl, rfl⟩ dX5_needToday_40 ?_
      exact k_iret C (Nat.le_of_ble_eq_true rfl) (Nat.le_of_ble_eq_true rfl) (⟨by rw [nI_clamp (by omega), if_pos hc13.2], hcd, rfl, rfl, rfl⟩) dX5_needToday_43
    · skip
      refine k_iconst C ic_0 dX5_needToday_16 ?_
      exact k_iret C (Nat.le_of_ble_eq_true rfl) (Nat.le_of_ble_eq_true rfl) (⟨by rw [nI_clamp (by omega), if_neg (fun z => hc13 ⟨hj, z⟩)], hcd, rfl, rfl, rfl⟩) dX5_needToday_17
  · skip
    intro E Λ1 I1 J1 hv
    obtain ⟨rfl, hcd, rfl, rfl, rfl⟩ := hv
    exact k_out C rfl (Nat.le_of_ble_eq_true rfl) (Nat.le_of_ble_eq_true rfl) (⟨rfl, hcd, rfl, rfl, rfl⟩)
set_option maxHeartbeats 4000000 in
set_option maxRecDepth 100000 in
theorem ct_X5_wellKilometre {G : am_G} {Λ : am_L} {I : am_I} {J : am_J} {x : Nat} {r : Nat → Int32} {c : Int32} (hx : RouLay Λ x) (hr : CarRel I (x + 34) (x + 35) (x + 24) r) : am_Ct G yX5_wellKilometre cX5_wellKilometre 2 (some .int) { frames := 7, cells := 1, slots := 6, locals := 111 } [.ref x, .int c] Λ I J (am_pok (some (.int (r (90 + 4 * c.toNatClampNeg)))) (cdI (sp_nw r) c) Λ I J) (am_px1 "java/lang/IndexOutOfBoundsException" (cdI (sp_nw r) c) Λ I J) := by
  refine am_ct_of (own := RX5) rfl (by decide) (Nat.le_of_ble_eq_true rfl) (fun X C => ?_)
  change am_K G X { frames := 7, cells := 1, slots := 6, locals := 111 } 2 Λ I J 0 0 0 [(0, .ref x), (1, .int c)] []
  have hl := L5_n hx
  have hp := L5_p hx
  have hpr := CR_p hr
  have hnc := PR_c hpr
  have hnw := PR_w hpr
  have hnl := CR_l hr
  refine k_aload_n C (f := 0) (i := 0) (p := 0) rfl rfl dX5_wellKilometre_0 ?_
  refine k_iload_n C (f := 1) (i := 1) (p := 1) rfl rfl dX5_wellKilometre_1 ?_
  refine k_callV C s_X5_139 h_X5_requireWell (L5_s hx) rfl (ct_X5_requireWell hx hr) rfl rfl (Nat.le_of_ble_eq_true rfl) ⟨Nat.le_of_ble_eq_true rfl, Nat.le_of_ble_eq_true rfl⟩ ⟨Nat.le_of_ble_eq_true rfl, Nat.le_of_ble_eq_true rfl⟩ dX5_wellKilometre_2 ?_ ?_
  · skip
    intro v2 Λ1 I1 J1 hv
    obtain ⟨rfl, hcd, rfl, rfl, rfl⟩ := hv
    obtain ⟨j, hj, rfl⟩ := cdI_0 hcd (by omega)
    refine k_aload_n C (f := 0) (i := 0) (p := 0) rfl rfl dX5_wellKilometre_5 ?_
    refine k_getR C f_X5_49 (L5_s (by assumption)) (fun _ _ _ => rfl) (L5_2 (by assumption)) dX5_wellKilometre_6 ?_
    refine k_getR C f_X5_37 (L0_s (by assumption)) (fun _ _ _ => rfl) (L0_0 (by assumption)) dX5_wellKilometre_9 ?_
    refine k_getR C f_X5_142 (L3_s (by assumption)) (fun _ _ _ => rfl) (L3_6 (by assumption)) dX5_wellKilometre_12 ?_
    refine k_iload_n C (f := 1) (i := 1) (p := 1) rfl rfl dX5_wellKilometre_15 ?_
    refine k_iald C (A3_6 (by assumption)) (by first | rfl | assumption) (by omega) (by decide) (by first | exact PRa_6 (by assumption) (by omega) | assumption | rfl) dX5_wellKilometre_16 ?_
    exact k_iret C (Nat.le_of_ble_eq_true rfl) (Nat.le_of_ble_eq_true rfl) (⟨by rw [nI_clamp (by omega)], hcd, rfl, rfl, rfl⟩) dX5_wellKilometre_17
  · skip
    intro E Λ1 I1 J1 hv
    obtain ⟨rfl, hcd, rfl, rfl, rfl⟩ := hv
    exact k_out C rfl (Nat.le_of_ble_eq_true rfl) (Nat.le_of_ble_eq_true rfl) (⟨rfl, hcd, rfl, rfl, rfl⟩)
set_option maxHeartbeats 4000000 in
set_option maxRecDepth 100000 in
theorem ct_X5_wellLevel {G : am_G} {Λ : am_L} {I : am_I} {J : am_J} {x : Nat} {r : Nat → Int32} {c : Int32} (hx : RouLay Λ x) (hr : CarRel I (x + 34) (x + 35) (x + 24) r) : am_Ct G yX5_wellLevel cX5_wellLevel 2 (some .int) { frames := 7, cells := 1, slots := 6, locals := 111 } [.ref x, .int c] Λ I J (am_pok (some (.int (r (93 + 4 * c.toNatClampNeg)))) (cdI (sp_nw r) c) Λ I J) (am_px1 "java/lang/IndexOutOfBoundsException" (cdI (sp_nw r) c) Λ I J) := by
  refine am_ct_of (own := RX5) rfl (by decide) (Nat.le_of_ble_eq_true rfl) (fun X C => ?_)
  change am_K G X { frames := 7, cells := 1, slots := 6, locals := 111 } 2 Λ I J 0 0 0 [(0, .ref x), (1, .int c)] []
  have hl := L5_n hx
  have hp := L5_p hx
  have hpr := CR_p hr
  have hnc := PR_c hpr
  have hnw := PR_w hpr
  have hnl := CR_l hr
  refine k_aload_n C (f := 0) (i := 0) (p := 0) rfl rfl dX5_wellLevel_0 ?_
  refine k_iload_n C (f := 1) (i := 1) (p := 1) rfl rfl dX5_wellLevel_1 ?_
  refine k_callV C s_X5_139 h_X5_requireWell (L5_s hx) rfl (ct_X5_requireWell hx hr) rfl rfl (Nat.le_of_ble_eq_true rfl) ⟨Nat.le_of_ble_eq_true rfl, Nat.le_of_ble_eq_true rfl⟩ ⟨Nat.le_of_ble_eq_true rfl, Nat.le_of_ble_eq_true rfl⟩ dX5_wellLevel_2 ?_ ?_
  · skip
    intro v2 Λ1 I1 J1 hv
    obtain ⟨rfl, hcd, rfl, rfl, rfl⟩ := hv
    obtain ⟨j, hj, rfl⟩ := cdI_0 hcd (by omega)
    refine k_aload_n C (f := 0) (i := 0) (p := 0) rfl rfl dX5_wellLevel_5 ?_
    refine k_getR C f_X5_49 (L5_s (by assumption)) (fun _ _ _ => rfl) (L5_2 (by assumption)) dX5_wellLevel_6 ?_
    refine k_getR C f_X5_145 (L0_s (by assumption)) (fun _ _ _ => rfl) (L0_11 (by assumption)) dX5_wellLevel_9 ?_
    refine k_iload_n C (f := 1) (i := 1) (p := 1) rfl rfl dX5_wellLevel_12 ?_
    refine k_iald C (A0_11 (by assumption)) (by first | rfl | assumption) (by omega) (by decide) (by first | exact CRa_11 (by assumption) (by omega) | assumption | rfl) dX5_wellLevel_13 ?_
    exact k_iret C (Nat.le_of_ble_eq_true rfl) (Nat.le_of_ble_eq_true rfl) (⟨by rw [nI_clamp (by omega)], hcd, rfl, rfl, rfl⟩) dX5_wellLevel_14
  · skip
    intro E Λ1 I1 J1 hv
    obtain ⟨rfl, hcd, rfl, rfl, rfl⟩ := hv
    exact k_out C rfl (Nat.le_of_ble_eq_true rfl) (Nat.le_of_ble_eq_true rfl) (⟨rfl, hcd, rfl, rfl, rfl⟩)
set_option maxHeartbeats 4000000 in
set_option maxRecDepth 100000 in
theorem ct_X5_wellCapacity {G : am_G} {Λ : am_L} {I : am_I} {J : am_J} {x : Nat} {r : Nat → Int32} {c : Int32} (hx : RouLay Λ x) (hr : CarRel I (x + 34) (x + 35) (x + 24) r) : am_Ct G yX5_wellCapacity cX5_wellCapacity 2 (some .int) { frames := 7, cells := 1, slots := 6, locals := 111 } [.ref x, .int c] Λ I J (am_pok (some (.int (r (91 + 4 * c.toNatClampNeg)))) (cdI (sp_nw r) c) Λ I J) (am_px1 "java/lang/IndexOutOfBoundsException" (cdI (sp_nw r) c) Λ I J) := by
  refine am_ct_of (own := RX5) rfl (by decide) (Nat.le_of_ble_eq_true rfl) (fun X C => ?_)
  change am_K G X { frames := 7, cells := 1, slots := 6, locals := 111 } 2 Λ I J 0 0 0 [(0, .ref x), (1, .int c)] []
  have hl := L5_n hx
  have hp := L5_p hx
  have hpr := CR_p hr
  have hnc := PR_c hpr
  have hnw := PR_w hpr
  have hnl := CR_l hr
  refine k_aload_n C (f := 0) (i := 0) (p := 0) rfl rfl dX5_wellCapacity_0 ?_
  refine k_iload_n C (f := 1) (i := 1) (p := 1) rfl rfl dX5_wellCapacity_1 ?_
  refine k_callV C s_X5_139 h_X5_requireWell (L5_s hx) rfl (ct_X5_requireWell hx hr) rfl rfl (Nat.le_of_ble_eq_true rfl) ⟨Nat.le_of_ble_eq_true rfl, Nat.le_of_ble_eq_true rfl⟩ ⟨Nat.le_of_ble_eq_true rfl, Nat.le_of_ble_eq_true rfl⟩ dX5_wellCapacity_2 ?_ ?_
  · skip
    intro v2 Λ1 I1 J1 hv
    obtain ⟨rfl, hcd, rfl, rfl, rfl⟩ := hv
    obtain ⟨j, hj, rfl⟩ := cdI_0 hcd (by omega)
    refine k_aload_n C (f := 0) (i := 0) (p := 0) rfl rfl dX5_wellCapacity_5 ?_
    refine k_getR C f_X5_49 (L5_s (by assumption)) (fun _ _ _ => rfl) (L5_2 (by assumption)) dX5_wellCapacity_6 ?_
    refine k_getR C f_X5_37 (L0_s (by assumption)) (fun _ _ _ => rfl) (L0_0 (by assumption)) dX5_wellCapacity_9 ?_
    refine k_getR C f_X5_148 (L3_s (by assumption)) (fun _ _ _ => rfl) (L3_7 (by assumption)) dX5_wellCapacity_12 ?_
    refine k_iload_n C (f := 1) (i := 1) (p := 1) rfl rfl dX5_wellCapacity_15 ?_
    refine k_iald C (A3_7 (by assumption)) (by first | rfl | assumption) (by omega) (by decide) (by first | exact PRa_7 (by assumption) (by omega) | assumption | rfl) dX5_wellCapacity_16 ?_
    exact k_iret C (Nat.le_of_ble_eq_true rfl) (Nat.le_of_ble_eq_true rfl) (⟨by rw [nI_clamp (by omega)], hcd, rfl, rfl, rfl⟩) dX5_wellCapacity_17
  · skip
    intro E Λ1 I1 J1 hv
    obtain ⟨rfl, hcd, rfl, rfl, rfl⟩ := hv
    exact k_out C rfl (Nat.le_of_ble_eq_true rfl) (Nat.le_of_ble_eq_true rfl) (⟨rfl, hcd, rfl, rfl, rfl⟩)
set_option maxHeartbeats 4000000 in
set_option maxRecDepth 100000 in
theorem ct_X5_weightOf {G : am_G} {Λ : am_L} {I : am_I} {J : am_J} {x : Nat} {r : Nat → Int32} {c : Int32} (hx : RouLay Λ x) (hr : CarRel I (x + 34) (x + 35) (x + 24) r) : am_Ct G yX5_weightOf cX5_weightOf 2 (some .int) { frames := 7, cells := 1, slots := 6, locals := 111 } [.ref x, .int c] Λ I J (am_pok (some (.int (r (140 + 4 * c.toNatClampNeg)))) (cdI (sp_nl r) c) Λ I J) (am_px1 "java/lang/IndexOutOfBoundsException" (cdI (sp_nl r) c) Λ I J) := by
  refine am_ct_of (own := RX5) rfl (by decide) (Nat.le_of_ble_eq_true rfl) (fun X C => ?_)
  change am_K G X { frames := 7, cells := 1, slots := 6, locals := 111 } 2 Λ I J 0 0 0 [(0, .ref x), (1, .int c)] []
  have hl := L5_n hx
  have hp := L5_p hx
  have hpr := CR_p hr
  have hnc := PR_c hpr
  have hnw := PR_w hpr
  have hnl := CR_l hr
  refine k_aload_n C (f := 0) (i := 0) (p := 0) rfl rfl dX5_weightOf_0 ?_
  refine k_iload_n C (f := 1) (i := 1) (p := 1) rfl rfl dX5_weightOf_1 ?_
  refine k_callV C s_X5_230 h_X5_requireLoad (L5_s hx) rfl (ct_X5_requireLoad hx hr) rfl rfl (Nat.le_of_ble_eq_true rfl) ⟨Nat.le_of_ble_eq_true rfl, Nat.le_of_ble_eq_true rfl⟩ ⟨Nat.le_of_ble_eq_true rfl, Nat.le_of_ble_eq_true rfl⟩ dX5_weightOf_2 ?_ ?_
  · skip
    intro v2 Λ1 I1 J1 hv
    obtain ⟨rfl, hcd, rfl, rfl, rfl⟩ := hv
    obtain ⟨j, hj, rfl⟩ := cdI_0 hcd (by omega)
    refine k_aload_n C (f := 0) (i := 0) (p := 0) rfl rfl dX5_weightOf_5 ?_
    refine k_getR C f_X5_49 (L5_s (by assumption)) (fun _ _ _ => rfl) (L5_2 (by assumption)) dX5_weightOf_6 ?_
    refine k_getR C f_X5_233 (L0_s (by assumption)) (fun _ _ _ => rfl) (L0_13 (by assumption)) dX5_weightOf_9 ?_
    refine k_iload_n C (f := 1) (i := 1) (p := 1) rfl rfl dX5_weightOf_12 ?_
    refine k_iald C (A0_13 (by assumption)) (by first | rfl | assumption) (by omega) (by decide) (by first | exact CRa_13 (by assumption) (by omega) | assumption | rfl) dX5_weightOf_13 ?_
    exact k_iret C (Nat.le_of_ble_eq_true rfl) (Nat.le_of_ble_eq_true rfl) (⟨by rw [nI_clamp (by omega)], hcd, rfl, rfl, rfl⟩) dX5_weightOf_14
  · skip
    intro E Λ1 I1 J1 hv
    obtain ⟨rfl, hcd, rfl, rfl, rfl⟩ := hv
    exact k_out C rfl (Nat.le_of_ble_eq_true rfl) (Nat.le_of_ble_eq_true rfl) (⟨rfl, hcd, rfl, rfl, rfl⟩)
set_option maxHeartbeats 4000000 in
set_option maxRecDepth 100000 in
theorem ct_X5_valueOf {G : am_G} {Λ : am_L} {I : am_I} {J : am_J} {x : Nat} {r : Nat → Int32} {c : Int32} (hx : RouLay Λ x) (hr : CarRel I (x + 34) (x + 35) (x + 24) r) : am_Ct G yX5_valueOf cX5_valueOf 2 (some .int) { frames := 7, cells := 1, slots := 6, locals := 111 } [.ref x, .int c] Λ I J (am_pok (some (.int (r (141 + 4 * c.toNatClampNeg)))) (cdI (sp_nl r) c) Λ I J) (am_px1 "java/lang/IndexOutOfBoundsException" (cdI (sp_nl r) c) Λ I J) := by
  refine am_ct_of (own := RX5) rfl (by decide) (Nat.le_of_ble_eq_true rfl) (fun X C => ?_)
  change am_K G X { frames := 7, cells := 1, slots := 6, locals := 111 } 2 Λ I J 0 0 0 [(0, .ref x), (1, .int c)] []
  have hl := L5_n hx
  have hp := L5_p hx
  have hpr := CR_p hr
  have hnc := PR_c hpr
  have hnw := PR_w hpr
  have hnl := CR_l hr
  refine k_aload_n C (f := 0) (i := 0) (p := 0) rfl rfl dX5_valueOf_0 ?_
  refine k_iload_n C (f := 1) (i := 1) (p := 1) rfl rfl dX5_valueOf_1 ?_
  refine k_callV C s_X5_230 h_X5_requireLoad (L5_s hx) rfl (ct_X5_requireLoad hx hr) rfl rfl (Nat.le_of_ble_eq_true rfl) ⟨Nat.le_of_ble_eq_true rfl, Nat.le_of_ble_eq_true rfl⟩ ⟨Nat.le_of_ble_eq_true rfl, Nat.le_of_ble_eq_true rfl⟩ dX5_valueOf_2 ?_ ?_
  · skip
    intro v2 Λ1 I1 J1 hv
    obtain ⟨rfl, hcd, rfl, rfl, rfl⟩ := hv
    obtain ⟨j, hj, rfl⟩ := cdI_0 hcd (by omega)
    refine k_aload_n C (f := 0) (i := 0) (p := 0) rfl rfl dX5_valueOf_5 ?_
    refine k_getR C f_X5_49 (L5_s (by assumption)) (fun _ _ _ => rfl) (L5_2 (by assumption)) dX5_valueOf_6 ?_
    refine k_getR C f_X5_236 (L0_s (by assumption)) (fun _ _ _ => rfl) (L0_14 (by assumption)) dX5_valueOf_9 ?_
    refine k_iload_n C (f := 1) (i := 1) (p := 1) rfl rfl dX5_valueOf_12 ?_
    refine k_iald C (A0_14 (by assumption)) (by first | rfl | assumption) (by omega) (by decide) (by first | exact CRa_14 (by assumption) (by omega) | assumption | rfl) dX5_valueOf_13 ?_
    exact k_iret C (Nat.le_of_ble_eq_true rfl) (Nat.le_of_ble_eq_true rfl) (⟨by rw [nI_clamp (by omega)], hcd, rfl, rfl, rfl⟩) dX5_valueOf_14
  · skip
    intro E Λ1 I1 J1 hv
    obtain ⟨rfl, hcd, rfl, rfl, rfl⟩ := hv
    exact k_out C rfl (Nat.le_of_ble_eq_true rfl) (Nat.le_of_ble_eq_true rfl) (⟨rfl, hcd, rfl, rfl, rfl⟩)
set_option maxHeartbeats 4000000 in
set_option maxRecDepth 100000 in
theorem ct_X5_isCarried {G : am_G} {Λ : am_L} {I : am_I} {J : am_J} {x : Nat} {r : Nat → Int32} {c : Int32} (hx : RouLay Λ x) (hr : CarRel I (x + 34) (x + 35) (x + 24) r) : am_Ct G yX5_isCarried cX5_isCarried 2 (some .boolean) { frames := 7, cells := 1, slots := 6, locals := 111 } [.ref x, .int c] Λ I J (am_pok (some (.int (am_b (¬ r (142 + 4 * c.toNatClampNeg) = -1)))) (cdI (sp_nl r) c) Λ I J) (am_px1 "java/lang/IndexOutOfBoundsException" (cdI (sp_nl r) c) Λ I J) := by
  refine am_ct_of (own := RX5) rfl (by decide) (Nat.le_of_ble_eq_true rfl) (fun X C => ?_)
  change am_K G X { frames := 7, cells := 1, slots := 6, locals := 111 } 2 Λ I J 0 0 0 [(0, .ref x), (1, .int c)] []
  have hl := L5_n hx
  have hp := L5_p hx
  have hpr := CR_p hr
  have hnc := PR_c hpr
  have hnw := PR_w hpr
  have hnl := CR_l hr
  refine k_aload_n C (f := 0) (i := 0) (p := 0) rfl rfl dX5_isCarried_0 ?_
  refine k_iload_n C (f := 1) (i := 1) (p := 1) rfl rfl dX5_isCarried_1 ?_
  refine k_callV C s_X5_230 h_X5_requireLoad (L5_s hx) rfl (ct_X5_requireLoad hx hr) rfl rfl (Nat.le_of_ble_eq_true rfl) ⟨Nat.le_of_ble_eq_true rfl, Nat.le_of_ble_eq_true rfl⟩ ⟨Nat.le_of_ble_eq_true rfl, Nat.le_of_ble_eq_true rfl⟩ dX5_isCarried_2 ?_ ?_
  · skip
    intro v2 Λ1 I1 J1 hv
    obtain ⟨rfl, hcd, rfl, rfl, rfl⟩ := hv
    obtain ⟨j, hj, rfl⟩ := cdI_0 hcd (by omega)
    refine k_aload_n C (f := 0) (i := 0) (p := 0) rfl rfl dX5_isCarried_5 ?_
    refine k_getR C f_X5_49 (L5_s (by assumption)) (fun _ _ _ => rfl) (L5_2 (by assumption)) dX5_isCarried_6 ?_
    refine k_getR C f_X5_239 (L0_s (by assumption)) (fun _ _ _ => rfl) (L0_15 (by assumption)) dX5_isCarried_9 ?_
    refine k_iload_n C (f := 1) (i := 1) (p := 1) rfl rfl dX5_isCarried_12 ?_
    refine k_iald C (A0_15 (by assumption)) (by first | rfl | assumption) (by omega) (by decide) (by first | exact CRa_15 (by assumption) (by omega) | assumption | rfl) dX5_isCarried_13 ?_
    refine k_iconst C ic_m1 dX5_isCarried_14 ?_
    refine k_icmp_eq C (tgt := 22) (by decide) dX5_isCarried_15 (fun hc15 => ?_) (fun hc15 => ?_)
    · skip
      refine k_iconst C ic_0 dX5_isCarried_22 ?_
      exact k_zret C (by first | rfl | exact am_bz) (Nat.le_of_ble_eq_true rfl) (Nat.le_of_ble_eq_true rfl) (⟨by first | (rw [nI_clamp (by omega)]; exact congrArg (fun z => some (Value.int z)) (am_bt hc15)) | (rw [nI_clamp (by omega)]; exact congrArg (fun z => some (Value.int z)) (am_bf (fun z => z hc15))), hcd, rfl, rfl, rfl⟩) dX5_isCarried_23
    · skip
      refine k_iconst C ic_1 dX5_isCarried_18 ?_
      refine k_goto C (tgt := 23) (by decide) dX5_isCarried_19 ?_
      exact k_zret C (by first | rfl | exact am_bz) (Nat.le_of_ble_eq_true rfl) (Nat.le_of_ble_eq_true rfl) (⟨by first | (rw [nI_clamp (by omega)]; exact congrArg (fun z => some (Value.int z)) (am_bt hc15)) | (rw [nI_clamp (by omega)]; exact congrArg (fun z => some (Value.int z)) (am_bf (fun z => z hc15))), hcd, rfl, rfl, rfl⟩) dX5_isCarried_23
  · skip
    intro E Λ1 I1 J1 hv
    obtain ⟨rfl, hcd, rfl, rfl, rfl⟩ := hv
    exact k_out C rfl (Nat.le_of_ble_eq_true rfl) (Nat.le_of_ble_eq_true rfl) (⟨rfl, hcd, rfl, rfl, rfl⟩)
set_option maxHeartbeats 4000000 in
set_option maxRecDepth 100000 in
theorem ct_X5_placeOf {G : am_G} {Λ : am_L} {I : am_I} {J : am_J} {x : Nat} {r : Nat → Int32} {c : Int32} (hx : RouLay Λ x) (hr : CarRel I (x + 34) (x + 35) (x + 24) r) : am_Ct G yX5_placeOf cX5_placeOf 2 (some .int) { frames := 7, cells := 1, slots := 6, locals := 111 } [.ref x, .int c] Λ I J (am_pok (some (.int (if r (142 + 4 * c.toNatClampNeg) = -1 then r (143 + 4 * c.toNatClampNeg) else r 1))) (cdI (sp_nl r) c) Λ I J) (am_px1 "java/lang/IndexOutOfBoundsException" (cdI (sp_nl r) c) Λ I J) := by
  refine am_ct_of (own := RX5) rfl (by decide) (Nat.le_of_ble_eq_true rfl) (fun X C => ?_)
  change am_K G X { frames := 7, cells := 1, slots := 6, locals := 111 } 2 Λ I J 0 0 0 [(0, .ref x), (1, .int c)] []
  have hl := L5_n hx
  have hp := L5_p hx
  have hpr := CR_p hr
  have hnc := PR_c hpr
  have hnw := PR_w hpr
  have hnl := CR_l hr
  refine k_aload_n C (f := 0) (i := 0) (p := 0) rfl rfl dX5_placeOf_0 ?_
  refine k_iload_n C (f := 1) (i := 1) (p := 1) rfl rfl dX5_placeOf_1 ?_
  refine k_callV C s_X5_230 h_X5_requireLoad (L5_s hx) rfl (ct_X5_requireLoad hx hr) rfl rfl (Nat.le_of_ble_eq_true rfl) ⟨Nat.le_of_ble_eq_true rfl, Nat.le_of_ble_eq_true rfl⟩ ⟨Nat.le_of_ble_eq_true rfl, Nat.le_of_ble_eq_true rfl⟩ dX5_placeOf_2 ?_ ?_
  · skip
    intro v2 Λ1 I1 J1 hv
    obtain ⟨rfl, hcd, rfl, rfl, rfl⟩ := hv
    obtain ⟨j, hj, rfl⟩ := cdI_0 hcd (by omega)
    refine k_aload_n C (f := 0) (i := 0) (p := 0) rfl rfl dX5_placeOf_5 ?_
    refine k_getR C f_X5_49 (L5_s (by assumption)) (fun _ _ _ => rfl) (L5_2 (by assumption)) dX5_placeOf_6 ?_
    refine k_iload_n C (f := 1) (i := 1) (p := 1) rfl rfl dX5_placeOf_9 ?_
    refine k_callVp C s_X5_244 h_X0_whereIs (L0_s (by assumption)) rfl (ct_X0_whereIs hl hr hj) rfl rfl (Nat.le_of_ble_eq_true rfl) ⟨Nat.le_of_ble_eq_true rfl, Nat.le_of_ble_eq_true rfl⟩ ⟨Nat.le_of_ble_eq_true rfl, Nat.le_of_ble_eq_true rfl⟩ ⟨rfl, rfl⟩ dX5_placeOf_10 ?_
    exact k_iret C (Nat.le_of_ble_eq_true rfl) (Nat.le_of_ble_eq_true rfl) (⟨by rw [nI_clamp (by omega)], hcd, rfl, rfl, rfl⟩) dX5_placeOf_13
  · skip
    intro E Λ1 I1 J1 hv
    obtain ⟨rfl, hcd, rfl, rfl, rfl⟩ := hv
    exact k_out C rfl (Nat.le_of_ble_eq_true rfl) (Nat.le_of_ble_eq_true rfl) (⟨rfl, hcd, rfl, rfl, rfl⟩)
set_option maxHeartbeats 4000000 in
set_option maxRecDepth 100000 in
theorem ct_X5_carrierOf {G : am_G} {Λ : am_L} {I : am_I} {J : am_J} {x : Nat} {r : Nat → Int32} {c : Int32} (hx : RouLay Λ x) (hr : CarRel I (x + 34) (x + 35) (x + 24) r) : am_Ct G yX5_carrierOf cX5_carrierOf 2 (some .int) { frames := 7, cells := 2, slots := 12, locals := 111 } [.ref x, .int c] Λ I J (am_pok (some (.int (r (142 + 4 * c.toNatClampNeg)))) (if cdI (sp_nl r) c = 0 then (if r (142 + 4 * c.toNatClampNeg) = -1 then 2 else 0) else 1) Λ I J) (am_px2 "java/lang/IndexOutOfBoundsException" "java/util/NoSuchElementException" (if cdI (sp_nl r) c = 0 then (if r (142 + 4 * c.toNatClampNeg) = -1 then 2 else 0) else 1) Λ I J) := by
  refine am_ct_of (own := RX5) rfl (by decide) (Nat.le_of_ble_eq_true rfl) (fun X C => ?_)
  change am_K G X { frames := 7, cells := 2, slots := 12, locals := 111 } 2 Λ I J 0 0 0 [(0, .ref x), (1, .int c)] []
  have hl := L5_n hx
  have hp := L5_p hx
  have hpr := CR_p hr
  have hnc := PR_c hpr
  have hnw := PR_w hpr
  have hnl := CR_l hr
  refine k_aload_n C (f := 0) (i := 0) (p := 0) rfl rfl dX5_carrierOf_0 ?_
  refine k_iload_n C (f := 1) (i := 1) (p := 1) rfl rfl dX5_carrierOf_1 ?_
  refine k_callV C s_X5_230 h_X5_requireLoad (L5_s hx) rfl (ct_X5_requireLoad hx hr) rfl rfl (Nat.le_of_ble_eq_true rfl) ⟨Nat.le_of_ble_eq_true rfl, Nat.le_of_ble_eq_true rfl⟩ ⟨Nat.le_of_ble_eq_true rfl, Nat.le_of_ble_eq_true rfl⟩ dX5_carrierOf_2 ?_ ?_
  · skip
    intro v2 Λ1 I1 J1 hv
    obtain ⟨rfl, hcd, rfl, rfl, rfl⟩ := hv
    obtain ⟨j, hj, rfl⟩ := cdI_0 hcd (by omega)
    refine k_aload_n C (f := 0) (i := 0) (p := 0) rfl rfl dX5_carrierOf_5 ?_
    refine k_getR C f_X5_49 (L5_s (by assumption)) (fun _ _ _ => rfl) (L5_2 (by assumption)) dX5_carrierOf_6 ?_
    refine k_getR C f_X5_239 (L0_s (by assumption)) (fun _ _ _ => rfl) (L0_15 (by assumption)) dX5_carrierOf_9 ?_
    refine k_iload_n C (f := 1) (i := 1) (p := 1) rfl rfl dX5_carrierOf_12 ?_
    refine k_iald C (A0_15 (by assumption)) (by first | rfl | assumption) (by omega) (by decide) (by first | exact CRa_15 (by assumption) (by omega) | assumption | rfl) dX5_carrierOf_13 ?_
    refine k_iconst C ic_m1 dX5_carrierOf_14 ?_
    refine k_icmp_ne C (tgt := 28) (by decide) dX5_carrierOf_15 (fun hc15 => ?_) (fun hc15 => ?_)
    · skip
      refine k_aload_n C (f := 0) (i := 0) (p := 0) rfl rfl dX5_carrierOf_28 ?_
      refine k_getR C f_X5_49 (L5_s (by assumption)) (fun _ _ _ => rfl) (L5_2 (by assumption)) dX5_carrierOf_29 ?_
      refine k_getR C f_X5_239 (L0_s (by assumption)) (fun _ _ _ => rfl) (L0_15 (by assumption)) dX5_carrierOf_32 ?_
      refine k_iload_n C (f := 1) (i := 1) (p := 1) rfl rfl dX5_carrierOf_35 ?_
      refine k_iald C (A0_15 (by assumption)) (by first | rfl | assumption) (by omega) (by decide) (by first | exact CRa_15 (by assumption) (by omega) | assumption | rfl) dX5_carrierOf_36 ?_
      exact k_iret C (Nat.le_of_ble_eq_true rfl) (Nat.le_of_ble_eq_true rfl) (⟨by rw [nI_clamp (by omega)], by rw [if_pos hcd, nI_clamp (by omega), if_neg hc15], rfl, rfl, rfl⟩) dX5_carrierOf_37
    · skip
      exact k_throwN C tw_X5_110 (si := 18) rfl (Nat.le_of_ble_eq_true rfl) (Nat.le_of_ble_eq_true rfl) (⟨Or.inr ⟨rfl, by rw [if_pos hcd, nI_clamp (by omega), if_pos hc15]⟩, rfl, rfl, rfl⟩) ⟨Nat.le_of_ble_eq_true rfl, Nat.le_of_ble_eq_true rfl⟩ ⟨Nat.le_of_ble_eq_true rfl, Nat.le_of_ble_eq_true rfl⟩ dX5_carrierOf_18 dX5_carrierOf_21 dX5_carrierOf_22 dX5_carrierOf_24 dX5_carrierOf_27
  · skip
    intro E Λ1 I1 J1 hv
    obtain ⟨rfl, hcd, rfl, rfl, rfl⟩ := hv
    exact k_out C rfl (Nat.le_of_ble_eq_true rfl) (Nat.le_of_ble_eq_true rfl) (⟨Or.inl ⟨rfl, by rw [hcd]; rfl⟩, rfl, rfl, rfl⟩)
