set_option maxHeartbeats 4000000 in
set_option maxRecDepth 100000 in
theorem ct_X3_clear {G : am_G} {Λ : am_L} {I : am_I} {J : am_J} {p : Nat} {r : Nat → Int32} {x : Int32} (hp : PlanLay Λ p) (h0 : r 0 = x) (hn : sp_nc r = 0 ∧ sp_nw r = 0 ∧ sp_ns r = 0) : am_Ct G yX3_clear cX3_clear 2 none { frames := 0, cells := 0, slots := 0, locals := 0 } [.ref p, .int x] Λ I J (am_gen Λ J (fun v I' => v = none ∧ PlanRel I' p r ∧ ∀ b : Nat, (b < p ∨ p + 10 ≤ b) → I' b = I b)) am_never := by
  refine am_ct_of (own := RX3) rfl (by decide) (Nat.le_of_ble_eq_true rfl) (fun X C => ?_)
  change am_K G X { frames := 0, cells := 0, slots := 0, locals := 0 } 2 Λ I J 0 0 0 [(0, .ref p), (1, .int x)] []
  refine k_aload_n C (f := 0) (i := 0) (p := 0) rfl rfl dX3_clear_0 ?_
  refine k_iload_n C (f := 1) (i := 1) (p := 1) rfl rfl dX3_clear_1 ?_
  refine k_putI C f_X3_39 (L3_s (by assumption)) rfl rfl dX3_clear_2 ?_
  obtain ⟨I1, hI1⟩ : ∃ z : am_I, z = am_up I p 0 x := ⟨_, rfl⟩
  rw [← hI1]
  refine k_aload_n C (f := 0) (i := 0) (p := 0) rfl rfl dX3_clear_5 ?_
  refine k_iconst C ic_0 dX3_clear_6 ?_
  refine k_putI C f_X3_43 (L3_s (by assumption)) rfl rfl dX3_clear_7 ?_
  obtain ⟨I2, hI2⟩ : ∃ z : am_I, z = am_up I1 p 1 (nI 0) := ⟨_, rfl⟩
  rw [← hI2]
  refine k_aload_n C (f := 0) (i := 0) (p := 0) rfl rfl dX3_clear_10 ?_
  refine k_iconst C ic_0 dX3_clear_11 ?_
  refine k_putI C f_X3_46 (L3_s (by assumption)) rfl rfl dX3_clear_12 ?_
  obtain ⟨I3, hI3⟩ : ∃ z : am_I, z = am_up I2 p 5 (nI 0) := ⟨_, rfl⟩
  rw [← hI3]
  refine k_aload_n C (f := 0) (i := 0) (p := 0) rfl rfl dX3_clear_15 ?_
  refine k_iconst C ic_0 dX3_clear_16 ?_
  refine k_putI C f_X3_49 (L3_s (by assumption)) rfl rfl dX3_clear_17 ?_
  obtain ⟨I4, hI4⟩ : ∃ z : am_I, z = am_up I3 p 9 (nI 0) := ⟨_, rfl⟩
  rw [← hI4]
  exact k_vret C (Nat.le_of_ble_eq_true rfl) (Nat.le_of_ble_eq_true rfl) (⟨rfl, rfl, ⟨rfl, ⟨⟨by rw [hI4, am_up_n2 (by omega), hI3, am_up_n2 (by omega), hI2, am_up_eq, hn.1], by rw [hI4, am_up_n2 (by omega), hI3, am_up_eq, hn.2.1], by rw [hI4, am_up_eq, hn.2.2], by omega, by omega, by omega⟩, fun A K i hm => by
      rw [hn.1, hn.2.1, hn.2.2] at hm
      unfold pm at hm
      rcases hm with ⟨e, e2, e3⟩ | h | h | h | h | h | h | h | h | h
      · rw [e, e2, e3, hI4, am_up_n2 (by omega), hI3, am_up_n2 (by omega), hI2, am_up_n2 (by omega), hI1, am_up_eq, h0]
      all_goals omega⟩, fun b hb => by rw [hI4, am_up_ne (by omega), hI3, am_up_ne (by omega), hI2, am_up_ne (by omega), hI1, am_up_ne (by omega)]⟩⟩) dX3_clear_20
set_option maxHeartbeats 4000000 in
set_option maxRecDepth 100000 in
theorem ct_X3_addCamel {G : am_G} {Λ : am_L} {I : am_I} {J : am_J} {p : Nat} {r : Nat → Int32} {x y w : Int32} (hp : PlanLay Λ p) (hr : PlanRel I p r) (hn : sp_nc r < 10) : am_Ct G yX3_addCamel cX3_addCamel 4 none { frames := 0, cells := 0, slots := 0, locals := 0 } [.ref p, .int x, .int y, .int w] Λ I J (am_gen Λ J (fun v I' => v = none ∧ PlanRel I' p (sp_addCamel r x y w) ∧ ∀ b : Nat, (b < p ∨ p + 10 ≤ b) → I' b = I b)) am_never := by
  refine am_ct_of (own := RX3) rfl (by decide) (Nat.le_of_ble_eq_true rfl) (fun X C => ?_)
  change am_K G X { frames := 0, cells := 0, slots := 0, locals := 0 } 4 Λ I J 0 0 0 [(0, .ref p), (1, .int x), (2, .int y), (3, .int w)] []
  refine k_aload_n C (f := 0) (i := 0) (p := 0) rfl rfl dX3_addCamel_0 ?_
  refine k_getI C f_X3_43 (L3_s (by assumption)) (fun _ _ _ => rfl) (PR_1 hr) dX3_addCamel_1 ?_
  refine k_bipush C bc_10 dX3_addCamel_4 ?_
  refine k_icmpN_ge C (tgt := 49) (by omega) (by omega) (by decide) dX3_addCamel_6 (fun hc6 => ?_) (fun hc6 => ?_)
  · skip
    exact absurd hc6 (by omega)
  · skip
    refine k_aload_n C (f := 0) (i := 0) (p := 0) rfl rfl dX3_addCamel_9 ?_
    refine k_getR C f_X3_9 (L3_s (by assumption)) (fun _ _ _ => rfl) (L3_2 (by assumption)) dX3_addCamel_10 ?_
    refine k_aload_n C (f := 0) (i := 0) (p := 0) rfl rfl dX3_addCamel_13 ?_
    refine k_getI C f_X3_43 (L3_s (by assumption)) (fun _ _ _ => rfl) (PR_1 hr) dX3_addCamel_14 ?_
    refine k_iload_n C (f := 1) (i := 1) (p := 1) rfl rfl dX3_addCamel_17 ?_
    refine k_iast C (A3_2 (by assumption)) (by first | rfl | assumption) (by omega) (by decide) dX3_addCamel_18 ?_
    obtain ⟨I1, hI1⟩ : ∃ z : am_I, z = am_up I (p + 1) (sp_nc r) x := ⟨_, rfl⟩
    rw [← hI1]
    refine k_aload_n C (f := 0) (i := 0) (p := 0) rfl rfl dX3_addCamel_19 ?_
    refine k_getR C f_X3_15 (L3_s (by assumption)) (fun _ _ _ => rfl) (L3_3 (by assumption)) dX3_addCamel_20 ?_
    refine k_aload_n C (f := 0) (i := 0) (p := 0) rfl rfl dX3_addCamel_23 ?_
    refine k_getI C f_X3_43 (L3_s (by assumption)) (fun _ _ _ => rfl) (Eq.trans (by rw [hI1, am_up_n2 (by omega)]) (PR_1 hr)) dX3_addCamel_24 ?_
    refine k_iload_n C (f := 2) (i := 2) (p := 2) rfl rfl dX3_addCamel_27 ?_
    refine k_iast C (A3_3 (by assumption)) (by first | rfl | assumption) (by omega) (by decide) dX3_addCamel_28 ?_
    obtain ⟨I2, hI2⟩ : ∃ z : am_I, z = am_up I1 (p + 2) (sp_nc r) y := ⟨_, rfl⟩
    rw [← hI2]
    refine k_aload_n C (f := 0) (i := 0) (p := 0) rfl rfl dX3_addCamel_29 ?_
    refine k_getR C f_X3_18 (L3_s (by assumption)) (fun _ _ _ => rfl) (L3_4 (by assumption)) dX3_addCamel_30 ?_
    refine k_aload_n C (f := 0) (i := 0) (p := 0) rfl rfl dX3_addCamel_33 ?_
    refine k_getI C f_X3_43 (L3_s (by assumption)) (fun _ _ _ => rfl) (Eq.trans (by rw [hI2, am_up_n2 (by omega), hI1, am_up_n2 (by omega)]) (PR_1 hr)) dX3_addCamel_34 ?_
    refine k_iload_n C (f := 3) (i := 3) (p := 3) rfl rfl dX3_addCamel_37 ?_
    refine k_iast C (A3_4 (by assumption)) (by first | rfl | assumption) (by omega) (by decide) dX3_addCamel_38 ?_
    obtain ⟨I3, hI3⟩ : ∃ z : am_I, z = am_up I2 (p + 3) (sp_nc r) w := ⟨_, rfl⟩
    rw [← hI3]
    refine k_aload_n C (f := 0) (i := 0) (p := 0) rfl rfl dX3_addCamel_39 ?_
    refine k_dup C rfl dX3_addCamel_40 ?_
    refine k_getI C f_X3_43 (L3_s (by assumption)) (fun _ _ _ => rfl) (Eq.trans (by rw [hI3, am_up_n2 (by omega), hI2, am_up_n2 (by omega), hI1, am_up_n2 (by omega)]) (PR_1 hr)) dX3_addCamel_41 ?_
    refine k_iconst C ic_1 dX3_addCamel_44 ?_
    refine k_iadd C dX3_addCamel_45 ?_
    refine k_putI C f_X3_43 (L3_s (by assumption)) rfl rfl dX3_addCamel_46 ?_
    obtain ⟨I4, hI4⟩ : ∃ z : am_I, z = am_up I3 p 1 (nI (sp_nc r) + nI 1) := ⟨_, rfl⟩
    rw [← hI4]
    exact k_vret C (Nat.le_of_ble_eq_true rfl) (Nat.le_of_ble_eq_true rfl) (⟨rfl, rfl, ⟨rfl, PR_addCamel hr hn (fun A K g1 g2 => by rw [hI4, am_up_n2 g1, hI3, am_up_n2 (fun e => g2 ⟨e.2, by omega, by omega⟩), hI2, am_up_n2 (fun e => g2 ⟨e.2, by omega, by omega⟩), hI1, am_up_n2 (fun e => g2 ⟨e.2, by omega, by omega⟩)]) (by rw [hI4, am_up_eq, nI_add1])
        (by rw [hI4, am_up_n2 (by omega), hI3, am_up_n2 (by omega), hI2, am_up_n2 (by omega), hI1, am_up_eq])
        (by rw [hI4, am_up_n2 (by omega), hI3, am_up_n2 (by omega), hI2, am_up_eq])
        (by rw [hI4, am_up_n2 (by omega), hI3, am_up_eq]), fun b hb => by rw [hI4, am_up_ne (by omega), hI3, am_up_ne (by omega), hI2, am_up_ne (by omega), hI1, am_up_ne (by omega)]⟩⟩) dX3_addCamel_49
set_option maxHeartbeats 4000000 in
set_option maxRecDepth 100000 in
theorem ct_X3_addWell {G : am_G} {Λ : am_L} {I : am_I} {J : am_J} {p : Nat} {r : Nat → Int32} {x y w : Int32} (hp : PlanLay Λ p) (hr : PlanRel I p r) (hn : sp_nw r < 8) : am_Ct G yX3_addWell cX3_addWell 4 none { frames := 0, cells := 0, slots := 0, locals := 0 } [.ref p, .int x, .int y, .int w] Λ I J (am_gen Λ J (fun v I' => v = none ∧ PlanRel I' p (sp_addWell r x y w) ∧ ∀ b : Nat, (b < p ∨ p + 10 ≤ b) → I' b = I b)) am_never := by
  refine am_ct_of (own := RX3) rfl (by decide) (Nat.le_of_ble_eq_true rfl) (fun X C => ?_)
  change am_K G X { frames := 0, cells := 0, slots := 0, locals := 0 } 4 Λ I J 0 0 0 [(0, .ref p), (1, .int x), (2, .int y), (3, .int w)] []
  refine k_aload_n C (f := 0) (i := 0) (p := 0) rfl rfl dX3_addWell_0 ?_
  refine k_getI C f_X3_46 (L3_s (by assumption)) (fun _ _ _ => rfl) (PR_5 hr) dX3_addWell_1 ?_
  refine k_bipush C bc_8 dX3_addWell_4 ?_
  refine k_icmpN_ge C (tgt := 49) (by omega) (by omega) (by decide) dX3_addWell_6 (fun hc6 => ?_) (fun hc6 => ?_)
  · skip
    exact absurd hc6 (by omega)
  · skip
    refine k_aload_n C (f := 0) (i := 0) (p := 0) rfl rfl dX3_addWell_9 ?_
    refine k_getR C f_X3_21 (L3_s (by assumption)) (fun _ _ _ => rfl) (L3_6 (by assumption)) dX3_addWell_10 ?_
    refine k_aload_n C (f := 0) (i := 0) (p := 0) rfl rfl dX3_addWell_13 ?_
    refine k_getI C f_X3_46 (L3_s (by assumption)) (fun _ _ _ => rfl) (PR_5 hr) dX3_addWell_14 ?_
    refine k_iload_n C (f := 1) (i := 1) (p := 1) rfl rfl dX3_addWell_17 ?_
    refine k_iast C (A3_6 (by assumption)) (by first | rfl | assumption) (by omega) (by decide) dX3_addWell_18 ?_
    obtain ⟨I1, hI1⟩ : ∃ z : am_I, z = am_up I (p + 4) (sp_nw r) x := ⟨_, rfl⟩
    rw [← hI1]
    refine k_aload_n C (f := 0) (i := 0) (p := 0) rfl rfl dX3_addWell_19 ?_
    refine k_getR C f_X3_24 (L3_s (by assumption)) (fun _ _ _ => rfl) (L3_7 (by assumption)) dX3_addWell_20 ?_
    refine k_aload_n C (f := 0) (i := 0) (p := 0) rfl rfl dX3_addWell_23 ?_
    refine k_getI C f_X3_46 (L3_s (by assumption)) (fun _ _ _ => rfl) (Eq.trans (by rw [hI1, am_up_n2 (by omega)]) (PR_5 hr)) dX3_addWell_24 ?_
    refine k_iload_n C (f := 2) (i := 2) (p := 2) rfl rfl dX3_addWell_27 ?_
    refine k_iast C (A3_7 (by assumption)) (by first | rfl | assumption) (by omega) (by decide) dX3_addWell_28 ?_
    obtain ⟨I2, hI2⟩ : ∃ z : am_I, z = am_up I1 (p + 5) (sp_nw r) y := ⟨_, rfl⟩
    rw [← hI2]
    refine k_aload_n C (f := 0) (i := 0) (p := 0) rfl rfl dX3_addWell_29 ?_
    refine k_getR C f_X3_27 (L3_s (by assumption)) (fun _ _ _ => rfl) (L3_8 (by assumption)) dX3_addWell_30 ?_
    refine k_aload_n C (f := 0) (i := 0) (p := 0) rfl rfl dX3_addWell_33 ?_
    refine k_getI C f_X3_46 (L3_s (by assumption)) (fun _ _ _ => rfl) (Eq.trans (by rw [hI2, am_up_n2 (by omega), hI1, am_up_n2 (by omega)]) (PR_5 hr)) dX3_addWell_34 ?_
    refine k_iload_n C (f := 3) (i := 3) (p := 3) rfl rfl dX3_addWell_37 ?_
    refine k_iast C (A3_8 (by assumption)) (by first | rfl | assumption) (by omega) (by decide) dX3_addWell_38 ?_
    obtain ⟨I3, hI3⟩ : ∃ z : am_I, z = am_up I2 (p + 6) (sp_nw r) w := ⟨_, rfl⟩
    rw [← hI3]
    refine k_aload_n C (f := 0) (i := 0) (p := 0) rfl rfl dX3_addWell_39 ?_
    refine k_dup C rfl dX3_addWell_40 ?_
    refine k_getI C f_X3_46 (L3_s (by assumption)) (fun _ _ _ => rfl) (Eq.trans (by rw [hI3, am_up_n2 (by omega), hI2, am_up_n2 (by omega), hI1, am_up_n2 (by omega)]) (PR_5 hr)) dX3_addWell_41 ?_
    refine k_iconst C ic_1 dX3_addWell_44 ?_
    refine k_iadd C dX3_addWell_45 ?_
    refine k_putI C f_X3_46 (L3_s (by assumption)) rfl rfl dX3_addWell_46 ?_
    obtain ⟨I4, hI4⟩ : ∃ z : am_I, z = am_up I3 p 5 (nI (sp_nw r) + nI 1) := ⟨_, rfl⟩
    rw [← hI4]
    exact k_vret C (Nat.le_of_ble_eq_true rfl) (Nat.le_of_ble_eq_true rfl) (⟨rfl, rfl, ⟨rfl, PR_addWell hr hn (fun A K g1 g2 => by rw [hI4, am_up_n2 g1, hI3, am_up_n2 (fun e => g2 ⟨e.2, by omega, by omega⟩), hI2, am_up_n2 (fun e => g2 ⟨e.2, by omega, by omega⟩), hI1, am_up_n2 (fun e => g2 ⟨e.2, by omega, by omega⟩)]) (by rw [hI4, am_up_eq, nI_add1])
        (by rw [hI4, am_up_n2 (by omega), hI3, am_up_n2 (by omega), hI2, am_up_n2 (by omega), hI1, am_up_eq])
        (by rw [hI4, am_up_n2 (by omega), hI3, am_up_n2 (by omega), hI2, am_up_eq])
        (by rw [hI4, am_up_n2 (by omega), hI3, am_up_eq]), fun b hb => by rw [hI4, am_up_ne (by omega), hI3, am_up_ne (by omega), hI2, am_up_ne (by omega), hI1, am_up_ne (by omega)]⟩⟩) dX3_addWell_49
set_option maxHeartbeats 4000000 in
set_option maxRecDepth 100000 in
theorem ct_X3_addStorm {G : am_G} {Λ : am_L} {I : am_I} {J : am_J} {p : Nat} {r : Nat → Int32} {x y w : Int32} (hp : PlanLay Λ p) (hr : PlanRel I p r) (hn : sp_ns r < 6) : am_Ct G yX3_addStorm cX3_addStorm 4 none { frames := 0, cells := 0, slots := 0, locals := 0 } [.ref p, .int x, .int y, .int w] Λ I J (am_gen Λ J (fun v I' => v = none ∧ PlanRel I' p (sp_addStorm r x y w) ∧ ∀ b : Nat, (b < p ∨ p + 10 ≤ b) → I' b = I b)) am_never := by
  refine am_ct_of (own := RX3) rfl (by decide) (Nat.le_of_ble_eq_true rfl) (fun X C => ?_)
  change am_K G X { frames := 0, cells := 0, slots := 0, locals := 0 } 4 Λ I J 0 0 0 [(0, .ref p), (1, .int x), (2, .int y), (3, .int w)] []
  refine k_aload_n C (f := 0) (i := 0) (p := 0) rfl rfl dX3_addStorm_0 ?_
  refine k_getI C f_X3_49 (L3_s (by assumption)) (fun _ _ _ => rfl) (PR_9 hr) dX3_addStorm_1 ?_
  refine k_bipush C bc_6 dX3_addStorm_4 ?_
  refine k_icmpN_ge C (tgt := 49) (by omega) (by omega) (by decide) dX3_addStorm_6 (fun hc6 => ?_) (fun hc6 => ?_)
  · skip
    exact absurd hc6 (by omega)
  · skip
    refine k_aload_n C (f := 0) (i := 0) (p := 0) rfl rfl dX3_addStorm_9 ?_
    refine k_getR C f_X3_30 (L3_s (by assumption)) (fun _ _ _ => rfl) (L3_10 (by assumption)) dX3_addStorm_10 ?_
    refine k_aload_n C (f := 0) (i := 0) (p := 0) rfl rfl dX3_addStorm_13 ?_
    refine k_getI C f_X3_49 (L3_s (by assumption)) (fun _ _ _ => rfl) (PR_9 hr) dX3_addStorm_14 ?_
    refine k_iload_n C (f := 1) (i := 1) (p := 1) rfl rfl dX3_addStorm_17 ?_
    refine k_iast C (A3_10 (by assumption)) (by first | rfl | assumption) (by omega) (by decide) dX3_addStorm_18 ?_
    obtain ⟨I1, hI1⟩ : ∃ z : am_I, z = am_up I (p + 7) (sp_ns r) x := ⟨_, rfl⟩
    rw [← hI1]
    refine k_aload_n C (f := 0) (i := 0) (p := 0) rfl rfl dX3_addStorm_19 ?_
    refine k_getR C f_X3_33 (L3_s (by assumption)) (fun _ _ _ => rfl) (L3_11 (by assumption)) dX3_addStorm_20 ?_
    refine k_aload_n C (f := 0) (i := 0) (p := 0) rfl rfl dX3_addStorm_23 ?_
    refine k_getI C f_X3_49 (L3_s (by assumption)) (fun _ _ _ => rfl) (Eq.trans (by rw [hI1, am_up_n2 (by omega)]) (PR_9 hr)) dX3_addStorm_24 ?_
    refine k_iload_n C (f := 2) (i := 2) (p := 2) rfl rfl dX3_addStorm_27 ?_
    refine k_iast C (A3_11 (by assumption)) (by first | rfl | assumption) (by omega) (by decide) dX3_addStorm_28 ?_
    obtain ⟨I2, hI2⟩ : ∃ z : am_I, z = am_up I1 (p + 8) (sp_ns r) y := ⟨_, rfl⟩
    rw [← hI2]
    refine k_aload_n C (f := 0) (i := 0) (p := 0) rfl rfl dX3_addStorm_29 ?_
    refine k_getR C f_X3_36 (L3_s (by assumption)) (fun _ _ _ => rfl) (L3_12 (by assumption)) dX3_addStorm_30 ?_
    refine k_aload_n C (f := 0) (i := 0) (p := 0) rfl rfl dX3_addStorm_33 ?_
    refine k_getI C f_X3_49 (L3_s (by assumption)) (fun _ _ _ => rfl) (Eq.trans (by rw [hI2, am_up_n2 (by omega), hI1, am_up_n2 (by omega)]) (PR_9 hr)) dX3_addStorm_34 ?_
    refine k_iload_n C (f := 3) (i := 3) (p := 3) rfl rfl dX3_addStorm_37 ?_
    refine k_iast C (A3_12 (by assumption)) (by first | rfl | assumption) (by omega) (by decide) dX3_addStorm_38 ?_
    obtain ⟨I3, hI3⟩ : ∃ z : am_I, z = am_up I2 (p + 9) (sp_ns r) w := ⟨_, rfl⟩
    rw [← hI3]
    refine k_aload_n C (f := 0) (i := 0) (p := 0) rfl rfl dX3_addStorm_39 ?_
    refine k_dup C rfl dX3_addStorm_40 ?_
    refine k_getI C f_X3_49 (L3_s (by assumption)) (fun _ _ _ => rfl) (Eq.trans (by rw [hI3, am_up_n2 (by omega), hI2, am_up_n2 (by omega), hI1, am_up_n2 (by omega)]) (PR_9 hr)) dX3_addStorm_41 ?_
    refine k_iconst C ic_1 dX3_addStorm_44 ?_
    refine k_iadd C dX3_addStorm_45 ?_
    refine k_putI C f_X3_49 (L3_s (by assumption)) rfl rfl dX3_addStorm_46 ?_
    obtain ⟨I4, hI4⟩ : ∃ z : am_I, z = am_up I3 p 9 (nI (sp_ns r) + nI 1) := ⟨_, rfl⟩
    rw [← hI4]
    exact k_vret C (Nat.le_of_ble_eq_true rfl) (Nat.le_of_ble_eq_true rfl) (⟨rfl, rfl, ⟨rfl, PR_addStorm hr hn (fun A K g1 g2 => by rw [hI4, am_up_n2 g1, hI3, am_up_n2 (fun e => g2 ⟨e.2, by omega, by omega⟩), hI2, am_up_n2 (fun e => g2 ⟨e.2, by omega, by omega⟩), hI1, am_up_n2 (fun e => g2 ⟨e.2, by omega, by omega⟩)]) (by rw [hI4, am_up_eq, nI_add1])
        (by rw [hI4, am_up_n2 (by omega), hI3, am_up_n2 (by omega), hI2, am_up_n2 (by omega), hI1, am_up_eq])
        (by rw [hI4, am_up_n2 (by omega), hI3, am_up_n2 (by omega), hI2, am_up_eq])
        (by rw [hI4, am_up_n2 (by omega), hI3, am_up_eq]), fun b hb => by rw [hI4, am_up_ne (by omega), hI3, am_up_ne (by omega), hI2, am_up_ne (by omega), hI1, am_up_ne (by omega)]⟩⟩) dX3_addStorm_49
set_option maxHeartbeats 4000000 in
set_option maxRecDepth 100000 in
theorem ct_X3_copyFrom {G : am_G} {Λ : am_L} {I : am_I} {J : am_J} {p po : Nat} {r : Nat → Int32} (hp : PlanLay Λ p) (hpo : PlanLay Λ po) (hr : PlanRel I po r) (hd : p + 10 ≤ po ∨ po + 10 ≤ p) : am_Ct G yX3_copyFrom cX3_copyFrom 2 none { frames := 1, cells := 0, slots := 0, locals := 40 } [.ref p, .ref po] Λ I J (am_gen Λ J (fun v I' => v = none ∧ PlanRel I' p r ∧ ∀ b : Nat, (b < p ∨ p + 10 ≤ b) → I' b = I b)) am_never := by
  refine am_ct_of (own := RX3) rfl (by decide) (Nat.le_of_ble_eq_true rfl) (fun X C => ?_)
  change am_K G X { frames := 1, cells := 0, slots := 0, locals := 40 } 2 Λ I J 0 0 0 [(0, .ref p), (1, .ref po)] []
  refine k_aload_n C (f := 0) (i := 0) (p := 0) rfl rfl dX3_copyFrom_0 ?_
  refine k_aload_n C (f := 1) (i := 1) (p := 1) rfl rfl dX3_copyFrom_1 ?_
  refine k_getI C f_X3_39 (L3_s hpo) (fun _ _ _ => rfl) (rfl) dX3_copyFrom_2 ?_
  refine k_putI C f_X3_39 (L3_s hp) rfl rfl dX3_copyFrom_5 ?_
  obtain ⟨I1, hI1⟩ : ∃ z : am_I, z = am_up I p 0 (I po 0) := ⟨_, rfl⟩
  rw [← hI1]
  refine k_aload_n C (f := 0) (i := 0) (p := 0) rfl rfl dX3_copyFrom_8 ?_
  refine k_aload_n C (f := 1) (i := 1) (p := 1) rfl rfl dX3_copyFrom_9 ?_
  refine k_getI C f_X3_43 (L3_s hpo) (fun _ _ _ => rfl) (by rw [hI1, am_up_ne (by omega)]) dX3_copyFrom_10 ?_
  refine k_putI C f_X3_43 (L3_s hp) rfl rfl dX3_copyFrom_13 ?_
  obtain ⟨I2, hI2⟩ : ∃ z : am_I, z = am_up I1 p 1 (I po 1) := ⟨_, rfl⟩
  rw [← hI2]
  refine k_aload_n C (f := 1) (i := 1) (p := 1) rfl rfl dX3_copyFrom_16 ?_
  refine k_getR C f_X3_9 (L3_s hpo) (fun _ _ _ => rfl) (L3_2 hpo) dX3_copyFrom_17 ?_
  refine k_iconst C ic_0 dX3_copyFrom_20 ?_
  refine k_aload_n C (f := 0) (i := 0) (p := 0) rfl rfl dX3_copyFrom_21 ?_
  refine k_getR C f_X3_9 (L3_s hp) (fun _ _ _ => rfl) (L3_2 hp) dX3_copyFrom_22 ?_
  refine k_iconst C ic_0 dX3_copyFrom_25 ?_
  refine k_bipush C bc_10 dX3_copyFrom_26 ?_
  refine k_copy C (a := p + 1) (a0 := po + 1) (A3_2 hpo) (A3_2 hp) (by decide) m_X3_52 ⟨Nat.le_of_ble_eq_true rfl, Nat.le_of_ble_eq_true rfl⟩ dX3_copyFrom_28 ?_
  obtain ⟨I3, hI3⟩ : ∃ z : am_I, z = am_cp I2 (p + 1) (po + 1) 10 := ⟨_, rfl⟩
  rw [← hI3]
  refine k_aload_n C (f := 1) (i := 1) (p := 1) rfl rfl dX3_copyFrom_31 ?_
  refine k_getR C f_X3_15 (L3_s hpo) (fun _ _ _ => rfl) (L3_3 hpo) dX3_copyFrom_32 ?_
  refine k_iconst C ic_0 dX3_copyFrom_35 ?_
  refine k_aload_n C (f := 0) (i := 0) (p := 0) rfl rfl dX3_copyFrom_36 ?_
  refine k_getR C f_X3_15 (L3_s hp) (fun _ _ _ => rfl) (L3_3 hp) dX3_copyFrom_37 ?_
  refine k_iconst C ic_0 dX3_copyFrom_40 ?_
  refine k_bipush C bc_10 dX3_copyFrom_41 ?_
  refine k_copy C (a := p + 2) (a0 := po + 2) (A3_3 hpo) (A3_3 hp) (by decide) m_X3_52 ⟨Nat.le_of_ble_eq_true rfl, Nat.le_of_ble_eq_true rfl⟩ dX3_copyFrom_43 ?_
  obtain ⟨I4, hI4⟩ : ∃ z : am_I, z = am_cp I3 (p + 2) (po + 2) 10 := ⟨_, rfl⟩
  rw [← hI4]
  refine k_aload_n C (f := 1) (i := 1) (p := 1) rfl rfl dX3_copyFrom_46 ?_
  refine k_getR C f_X3_18 (L3_s hpo) (fun _ _ _ => rfl) (L3_4 hpo) dX3_copyFrom_47 ?_
  refine k_iconst C ic_0 dX3_copyFrom_50 ?_
  refine k_aload_n C (f := 0) (i := 0) (p := 0) rfl rfl dX3_copyFrom_51 ?_
  refine k_getR C f_X3_18 (L3_s hp) (fun _ _ _ => rfl) (L3_4 hp) dX3_copyFrom_52 ?_
  refine k_iconst C ic_0 dX3_copyFrom_55 ?_
  refine k_bipush C bc_10 dX3_copyFrom_56 ?_
  refine k_copy C (a := p + 3) (a0 := po + 3) (A3_4 hpo) (A3_4 hp) (by decide) m_X3_52 ⟨Nat.le_of_ble_eq_true rfl, Nat.le_of_ble_eq_true rfl⟩ dX3_copyFrom_58 ?_
  obtain ⟨I5, hI5⟩ : ∃ z : am_I, z = am_cp I4 (p + 3) (po + 3) 10 := ⟨_, rfl⟩
  rw [← hI5]
  refine k_aload_n C (f := 0) (i := 0) (p := 0) rfl rfl dX3_copyFrom_61 ?_
  refine k_aload_n C (f := 1) (i := 1) (p := 1) rfl rfl dX3_copyFrom_62 ?_
  refine k_getI C f_X3_46 (L3_s hpo) (fun _ _ _ => rfl) (by rw [hI5, am_cp_ne (by omega), hI4, am_cp_ne (by omega), hI3, am_cp_ne (by omega), hI2, am_up_ne (by omega), hI1, am_up_ne (by omega)]) dX3_copyFrom_63 ?_
  refine k_putI C f_X3_46 (L3_s hp) rfl rfl dX3_copyFrom_66 ?_
  obtain ⟨I6, hI6⟩ : ∃ z : am_I, z = am_up I5 p 5 (I po 5) := ⟨_, rfl⟩
  rw [← hI6]
  refine k_aload_n C (f := 1) (i := 1) (p := 1) rfl rfl dX3_copyFrom_69 ?_
  refine k_getR C f_X3_21 (L3_s hpo) (fun _ _ _ => rfl) (L3_6 hpo) dX3_copyFrom_70 ?_
  refine k_iconst C ic_0 dX3_copyFrom_73 ?_
  refine k_aload_n C (f := 0) (i := 0) (p := 0) rfl rfl dX3_copyFrom_74 ?_
  refine k_getR C f_X3_21 (L3_s hp) (fun _ _ _ => rfl) (L3_6 hp) dX3_copyFrom_75 ?_
  refine k_iconst C ic_0 dX3_copyFrom_78 ?_
  refine k_bipush C bc_8 dX3_copyFrom_79 ?_
  refine k_copy C (a := p + 4) (a0 := po + 4) (A3_6 hpo) (A3_6 hp) (by decide) m_X3_52 ⟨Nat.le_of_ble_eq_true rfl, Nat.le_of_ble_eq_true rfl⟩ dX3_copyFrom_81 ?_
  obtain ⟨I7, hI7⟩ : ∃ z : am_I, z = am_cp I6 (p + 4) (po + 4) 8 := ⟨_, rfl⟩
  rw [← hI7]
  refine k_aload_n C (f := 1) (i := 1) (p := 1) rfl rfl dX3_copyFrom_84 ?_
  refine k_getR C f_X3_24 (L3_s hpo) (fun _ _ _ => rfl) (L3_7 hpo) dX3_copyFrom_85 ?_
  refine k_iconst C ic_0 dX3_copyFrom_88 ?_
  refine k_aload_n C (f := 0) (i := 0) (p := 0) rfl rfl dX3_copyFrom_89 ?_
  refine k_getR C f_X3_24 (L3_s hp) (fun _ _ _ => rfl) (L3_7 hp) dX3_copyFrom_90 ?_
  refine k_iconst C ic_0 dX3_copyFrom_93 ?_
  refine k_bipush C bc_8 dX3_copyFrom_94 ?_
  refine k_copy C (a := p + 5) (a0 := po + 5) (A3_7 hpo) (A3_7 hp) (by decide) m_X3_52 ⟨Nat.le_of_ble_eq_true rfl, Nat.le_of_ble_eq_true rfl⟩ dX3_copyFrom_96 ?_
  obtain ⟨I8, hI8⟩ : ∃ z : am_I, z = am_cp I7 (p + 5) (po + 5) 8 := ⟨_, rfl⟩
  rw [← hI8]
  refine k_aload_n C (f := 1) (i := 1) (p := 1) rfl rfl dX3_copyFrom_99 ?_
  refine k_getR C f_X3_27 (L3_s hpo) (fun _ _ _ => rfl) (L3_8 hpo) dX3_copyFrom_100 ?_
  refine k_iconst C ic_0 dX3_copyFrom_103 ?_
  refine k_aload_n C (f := 0) (i := 0) (p := 0) rfl rfl dX3_copyFrom_104 ?_
  refine k_getR C f_X3_27 (L3_s hp) (fun _ _ _ => rfl) (L3_8 hp) dX3_copyFrom_105 ?_
  refine k_iconst C ic_0 dX3_copyFrom_108 ?_
  refine k_bipush C bc_8 dX3_copyFrom_109 ?_
  refine k_copy C (a := p + 6) (a0 := po + 6) (A3_8 hpo) (A3_8 hp) (by decide) m_X3_52 ⟨Nat.le_of_ble_eq_true rfl, Nat.le_of_ble_eq_true rfl⟩ dX3_copyFrom_111 ?_
  obtain ⟨I9, hI9⟩ : ∃ z : am_I, z = am_cp I8 (p + 6) (po + 6) 8 := ⟨_, rfl⟩
  rw [← hI9]
  refine k_aload_n C (f := 0) (i := 0) (p := 0) rfl rfl dX3_copyFrom_114 ?_
  refine k_aload_n C (f := 1) (i := 1) (p := 1) rfl rfl dX3_copyFrom_115 ?_
  refine k_getI C f_X3_49 (L3_s hpo) (fun _ _ _ => rfl) (by rw [hI9, am_cp_ne (by omega), hI8, am_cp_ne (by omega), hI7, am_cp_ne (by omega), hI6, am_up_ne (by omega), hI5, am_cp_ne (by omega), hI4, am_cp_ne (by omega), hI3, am_cp_ne (by omega), hI2, am_up_ne (by omega), hI1, am_up_ne (by omega)]) dX3_copyFrom_116 ?_
  refine k_putI C f_X3_49 (L3_s hp) rfl rfl dX3_copyFrom_119 ?_
  obtain ⟨I10, hI10⟩ : ∃ z : am_I, z = am_up I9 p 9 (I po 9) := ⟨_, rfl⟩
  rw [← hI10]
  refine k_aload_n C (f := 1) (i := 1) (p := 1) rfl rfl dX3_copyFrom_122 ?_
  refine k_getR C f_X3_30 (L3_s hpo) (fun _ _ _ => rfl) (L3_10 hpo) dX3_copyFrom_123 ?_
  refine k_iconst C ic_0 dX3_copyFrom_126 ?_
  refine k_aload_n C (f := 0) (i := 0) (p := 0) rfl rfl dX3_copyFrom_127 ?_
  refine k_getR C f_X3_30 (L3_s hp) (fun _ _ _ => rfl) (L3_10 hp) dX3_copyFrom_128 ?_
  refine k_iconst C ic_0 dX3_copyFrom_131 ?_
  refine k_bipush C bc_6 dX3_copyFrom_132 ?_
  refine k_copy C (a := p + 7) (a0 := po + 7) (A3_10 hpo) (A3_10 hp) (by decide) m_X3_52 ⟨Nat.le_of_ble_eq_true rfl, Nat.le_of_ble_eq_true rfl⟩ dX3_copyFrom_134 ?_
  obtain ⟨I11, hI11⟩ : ∃ z : am_I, z = am_cp I10 (p + 7) (po + 7) 6 := ⟨_, rfl⟩
  rw [← hI11]
  refine k_aload_n C (f := 1) (i := 1) (p := 1) rfl rfl dX3_copyFrom_137 ?_
  refine k_getR C f_X3_33 (L3_s hpo) (fun _ _ _ => rfl) (L3_11 hpo) dX3_copyFrom_138 ?_
  refine k_iconst C ic_0 dX3_copyFrom_141 ?_
  refine k_aload_n C (f := 0) (i := 0) (p := 0) rfl rfl dX3_copyFrom_142 ?_
  refine k_getR C f_X3_33 (L3_s hp) (fun _ _ _ => rfl) (L3_11 hp) dX3_copyFrom_143 ?_
  refine k_iconst C ic_0 dX3_copyFrom_146 ?_
  refine k_bipush C bc_6 dX3_copyFrom_147 ?_
  refine k_copy C (a := p + 8) (a0 := po + 8) (A3_11 hpo) (A3_11 hp) (by decide) m_X3_52 ⟨Nat.le_of_ble_eq_true rfl, Nat.le_of_ble_eq_true rfl⟩ dX3_copyFrom_149 ?_
  obtain ⟨I12, hI12⟩ : ∃ z : am_I, z = am_cp I11 (p + 8) (po + 8) 6 := ⟨_, rfl⟩
  rw [← hI12]
  refine k_aload_n C (f := 1) (i := 1) (p := 1) rfl rfl dX3_copyFrom_152 ?_
  refine k_getR C f_X3_36 (L3_s hpo) (fun _ _ _ => rfl) (L3_12 hpo) dX3_copyFrom_153 ?_
  refine k_iconst C ic_0 dX3_copyFrom_156 ?_
  refine k_aload_n C (f := 0) (i := 0) (p := 0) rfl rfl dX3_copyFrom_157 ?_
  refine k_getR C f_X3_36 (L3_s hp) (fun _ _ _ => rfl) (L3_12 hp) dX3_copyFrom_158 ?_
  refine k_iconst C ic_0 dX3_copyFrom_161 ?_
  refine k_bipush C bc_6 dX3_copyFrom_162 ?_
  refine k_copy C (a := p + 9) (a0 := po + 9) (A3_12 hpo) (A3_12 hp) (by decide) m_X3_52 ⟨Nat.le_of_ble_eq_true rfl, Nat.le_of_ble_eq_true rfl⟩ dX3_copyFrom_164 ?_
  obtain ⟨I13, hI13⟩ : ∃ z : am_I, z = am_cp I12 (p + 9) (po + 9) 6 := ⟨_, rfl⟩
  rw [← hI13]
  exact k_vret C (Nat.le_of_ble_eq_true rfl) (Nat.le_of_ble_eq_true rfl) (⟨rfl, rfl, ⟨rfl, PR_copy hr ⟨by rw [hI13, am_cp_ne (by omega), hI12, am_cp_ne (by omega), hI11, am_cp_ne (by omega), hI10, am_up_n2 (by omega), hI9, am_cp_ne (by omega), hI8, am_cp_ne (by omega), hI7, am_cp_ne (by omega), hI6, am_up_n2 (by omega), hI5, am_cp_ne (by omega), hI4, am_cp_ne (by omega), hI3, am_cp_ne (by omega), hI2, am_up_n2 (by omega), hI1, am_up_eq], by rw [hI13, am_cp_ne (by omega), hI12, am_cp_ne (by omega), hI11, am_cp_ne (by omega), hI10, am_up_n2 (by omega), hI9, am_cp_ne (by omega), hI8, am_cp_ne (by omega), hI7, am_cp_ne (by omega), hI6, am_up_n2 (by omega), hI5, am_cp_ne (by omega), hI4, am_cp_ne (by omega), hI3, am_cp_ne (by omega), hI2, am_up_eq], by rw [hI13, am_cp_ne (by omega), hI12, am_cp_ne (by omega), hI11, am_cp_ne (by omega), hI10, am_up_n2 (by omega), hI9, am_cp_ne (by omega), hI8, am_cp_ne (by omega), hI7, am_cp_ne (by omega), hI6, am_up_eq], by rw [hI13, am_cp_ne (by omega), hI12, am_cp_ne (by omega), hI11, am_cp_ne (by omega), hI10, am_up_eq]⟩ (fun t j ht => by
    rcases (show (t = 1 ∧ j < 10) ∨ (t = 2 ∧ j < 10) ∨ (t = 3 ∧ j < 10) ∨ (t = 4 ∧ j < 8) ∨ (t = 5 ∧ j < 8) ∨ (t = 6 ∧ j < 8) ∨ (t = 7 ∧ j < 6) ∨ (t = 8 ∧ j < 6) ∨ (t = 9 ∧ j < 6) by omega) with ⟨e, hj⟩ | ⟨e, hj⟩ | ⟨e, hj⟩ | ⟨e, hj⟩ | ⟨e, hj⟩ | ⟨e, hj⟩ | ⟨e, hj⟩ | ⟨e, hj⟩ | ⟨e, hj⟩ <;> subst e
    · rw [hI13, am_cp_ne (by omega), hI12, am_cp_ne (by omega), hI11, am_cp_ne (by omega), hI10, am_up_ne (by omega), hI9, am_cp_ne (by omega), hI8, am_cp_ne (by omega), hI7, am_cp_ne (by omega), hI6, am_up_ne (by omega), hI5, am_cp_ne (by omega), hI4, am_cp_ne (by omega), hI3, am_cp_at (by omega), hI2, am_up_ne (by omega), hI1, am_up_ne (by omega)]
    · rw [hI13, am_cp_ne (by omega), hI12, am_cp_ne (by omega), hI11, am_cp_ne (by omega), hI10, am_up_ne (by omega), hI9, am_cp_ne (by omega), hI8, am_cp_ne (by omega), hI7, am_cp_ne (by omega), hI6, am_up_ne (by omega), hI5, am_cp_ne (by omega), hI4, am_cp_at (by omega), hI3, am_cp_ne (by omega), hI2, am_up_ne (by omega), hI1, am_up_ne (by omega)]
    · rw [hI13, am_cp_ne (by omega), hI12, am_cp_ne (by omega), hI11, am_cp_ne (by omega), hI10, am_up_ne (by omega), hI9, am_cp_ne (by omega), hI8, am_cp_ne (by omega), hI7, am_cp_ne (by omega), hI6, am_up_ne (by omega), hI5, am_cp_at (by omega), hI4, am_cp_ne (by omega), hI3, am_cp_ne (by omega), hI2, am_up_ne (by omega), hI1, am_up_ne (by omega)]
    · rw [hI13, am_cp_ne (by omega), hI12, am_cp_ne (by omega), hI11, am_cp_ne (by omega), hI10, am_up_ne (by omega), hI9, am_cp_ne (by omega), hI8, am_cp_ne (by omega), hI7, am_cp_at (by omega), hI6, am_up_ne (by omega), hI5, am_cp_ne (by omega), hI4, am_cp_ne (by omega), hI3, am_cp_ne (by omega), hI2, am_up_ne (by omega), hI1, am_up_ne (by omega)]
    · rw [hI13, am_cp_ne (by omega), hI12, am_cp_ne (by omega), hI11, am_cp_ne (by omega), hI10, am_up_ne (by omega), hI9, am_cp_ne (by omega), hI8, am_cp_at (by omega), hI7, am_cp_ne (by omega), hI6, am_up_ne (by omega), hI5, am_cp_ne (by omega), hI4, am_cp_ne (by omega), hI3, am_cp_ne (by omega), hI2, am_up_ne (by omega), hI1, am_up_ne (by omega)]
    · rw [hI13, am_cp_ne (by omega), hI12, am_cp_ne (by omega), hI11, am_cp_ne (by omega), hI10, am_up_ne (by omega), hI9, am_cp_at (by omega), hI8, am_cp_ne (by omega), hI7, am_cp_ne (by omega), hI6, am_up_ne (by omega), hI5, am_cp_ne (by omega), hI4, am_cp_ne (by omega), hI3, am_cp_ne (by omega), hI2, am_up_ne (by omega), hI1, am_up_ne (by omega)]
    · rw [hI13, am_cp_ne (by omega), hI12, am_cp_ne (by omega), hI11, am_cp_at (by omega), hI10, am_up_ne (by omega), hI9, am_cp_ne (by omega), hI8, am_cp_ne (by omega), hI7, am_cp_ne (by omega), hI6, am_up_ne (by omega), hI5, am_cp_ne (by omega), hI4, am_cp_ne (by omega), hI3, am_cp_ne (by omega), hI2, am_up_ne (by omega), hI1, am_up_ne (by omega)]
    · rw [hI13, am_cp_ne (by omega), hI12, am_cp_at (by omega), hI11, am_cp_ne (by omega), hI10, am_up_ne (by omega), hI9, am_cp_ne (by omega), hI8, am_cp_ne (by omega), hI7, am_cp_ne (by omega), hI6, am_up_ne (by omega), hI5, am_cp_ne (by omega), hI4, am_cp_ne (by omega), hI3, am_cp_ne (by omega), hI2, am_up_ne (by omega), hI1, am_up_ne (by omega)]
    · rw [hI13, am_cp_at (by omega), hI12, am_cp_ne (by omega), hI11, am_cp_ne (by omega), hI10, am_up_ne (by omega), hI9, am_cp_ne (by omega), hI8, am_cp_ne (by omega), hI7, am_cp_ne (by omega), hI6, am_up_ne (by omega), hI5, am_cp_ne (by omega), hI4, am_cp_ne (by omega), hI3, am_cp_ne (by omega), hI2, am_up_ne (by omega), hI1, am_up_ne (by omega)]), fun b hb => by rw [hI13, am_cp_ne (by omega), hI12, am_cp_ne (by omega), hI11, am_cp_ne (by omega), hI10, am_up_ne (by omega), hI9, am_cp_ne (by omega), hI8, am_cp_ne (by omega), hI7, am_cp_ne (by omega), hI6, am_up_ne (by omega), hI5, am_cp_ne (by omega), hI4, am_cp_ne (by omega), hI3, am_cp_ne (by omega), hI2, am_up_ne (by omega), hI1, am_up_ne (by omega)]⟩⟩) dX3_copyFrom_167
set_option maxHeartbeats 4000000 in
set_option maxRecDepth 100000 in
theorem ct_X1_forget {G : am_G} {Λ : am_L} {I : am_I} {J : am_J} {h p ct nx : Nat} {rs : Nat → Nat → Int32} (hh : HistLay Λ h p) (hrel : HistRel I h p ct nx rs) : am_Ct G yX1_forget cX1_forget 1 none { frames := 0, cells := 0, slots := 0, locals := 0 } [.ref h] Λ I J (am_gen Λ J (fun v I' => v = none ∧ HistRel I' h p 0 nx rs ∧ ∀ b : Nat, b ≠ h → I' b = I b)) am_never := by
  refine am_ct_of (own := RX1) rfl (by decide) (Nat.le_of_ble_eq_true rfl) (fun X C => ?_)
  change am_K G X { frames := 0, cells := 0, slots := 0, locals := 0 } 1 Λ I J 0 0 0 [(0, .ref h)] []
  refine k_aload_n C (f := 0) (i := 0) (p := 0) rfl rfl dX1_forget_0 ?_
  refine k_iconst C ic_0 dX1_forget_1 ?_
  refine k_putI C f_X1_20 (L1_s (by assumption)) rfl rfl dX1_forget_2 ?_
  exact k_vret C (Nat.le_of_ble_eq_true rfl) (Nat.le_of_ble_eq_true rfl) (⟨rfl, rfl, ⟨rfl, ⟨by rw [am_up_n2 (by omega)]; exact hrel.1, am_up_eq, hrel.2.2.1, by omega, fun s hs => absurd hs (Nat.not_lt_zero s)⟩, fun b hb => am_up_ne hb⟩⟩) dX1_forget_5
set_option maxHeartbeats 4000000 in
set_option maxRecDepth 100000 in
theorem ct_X1_remember {G : am_G} {Λ : am_L} {I : am_I} {J : am_J} {h p ct nx c q : Nat} {rs : Nat → Nat → Int32} {r : Nat → Int32} (hh : HistLay Λ h p) (hrel : HistRel I h p ct nx rs) (hl : CarLay Λ c q p) (hr : CarRel I c q p r) (h3 : r 3 = 0 ∨ r 3 = 1) (hdj : (c < h ∨ h + 90 ≤ c) ∧ (q + 10 ≤ h ∨ h + 90 ≤ q) ∧ (p + 10 ≤ h ∨ h + 90 ≤ p)) : am_Ct G yX1_remember cX1_remember 2 none { frames := 2, cells := 0, slots := 0, locals := 61 } [.ref h, .ref c] Λ I J (am_gen Λ J (fun v I' => v = none ∧ HistRel I' h p (min 8 (ct + 1)) (if nx + 1 < 8 then nx + 1 else 0) (fun s => if s = 0 then r else rs (s - 1)) ∧ ∀ b : Nat, b ≠ h → (b < h + 2 ∨ h + 90 ≤ b) → I' b = I b)) am_never := by
  refine am_ct_of (own := RX1) rfl (by decide) (Nat.le_of_ble_eq_true rfl) (fun X C => ?_)
  change am_K G X { frames := 2, cells := 0, slots := 0, locals := 61 } 2 Λ I J 0 0 0 [(0, .ref h), (1, .ref c)] []
  have d1 := L0_d1 hl
  have d2 := L0_d2 hl
  have d3 := L0_d3 hl
  obtain ⟨hr1, hr2, hnx, hct, hrs⟩ := hrel
  have hrow := (L1_r hh) nx hnx
  refine k_aload_n C (f := 0) (i := 0) (p := 0) rfl rfl dX1_remember_0 ?_
  refine k_getR C f_X1_11 (L1_s (by assumption)) (fun _ _ _ => rfl) (L1_0 (by assumption)) dX1_remember_1 ?_
  refine k_aload_n C (f := 0) (i := 0) (p := 0) rfl rfl dX1_remember_4 ?_
  refine k_getI C f_X1_24 (L1_s (by assumption)) (fun _ _ _ => rfl) (hr1) dX1_remember_5 ?_
  refine k_aald C (A1_0 hh) (by first | rfl | assumption) (by omega) (by decide) (hrow.1) dX1_remember_8 ?_
  refine k_aload_n C (f := 1) (i := 1) (p := 1) rfl rfl dX1_remember_9 ?_
  refine k_callVg C s_X1_27 h_X0_copyFrom (L0_s hrow.2) rfl (ct_X0_copyFrom (r := r) hrow.2 hl hr (CR_p hr) (by omega) (by rw [CR_3 hr]; exact h3)) rfl rfl (Nat.le_of_ble_eq_true rfl) ⟨Nat.le_of_ble_eq_true rfl, Nat.le_of_ble_eq_true rfl⟩ ⟨Nat.le_of_ble_eq_true rfl, Nat.le_of_ble_eq_true rfl⟩ ⟨rfl, rfl⟩ dX1_remember_10 ?_
  intro v I1 hv
  obtain ⟨rfl, hc1, hf1⟩ := hv
  have hnx1 : I1 h 1 = nI nx := by rw [hf1 h (by omega) (by omega)]; exact hr1
  have hct1 : I1 h 2 = nI ct := by rw [hf1 h (by omega) (by omega)]; exact hr2
  refine k_aload_n C (f := 0) (i := 0) (p := 0) rfl rfl dX1_remember_13 ?_
  refine k_aload_n C (f := 0) (i := 0) (p := 0) rfl rfl dX1_remember_14 ?_
  refine k_getI C f_X1_24 (L1_s (by assumption)) (fun _ _ _ => rfl) (Eq.trans (by rw [hf1 h (by omega) (by omega)]) hr1) dX1_remember_15 ?_
  refine k_iconst C ic_1 dX1_remember_18 ?_
  refine k_iadd C dX1_remember_19 ?_
  rw [nI_add1]
  refine k_bipush C bc_8 dX1_remember_20 ?_
  first
  | refine k_icmpN_ge C (tgt := 34) (by omega) (by omega) (by decide) dX1_remember_22 (fun hc22 => ?_) (fun hc22 => ?_)
  | refine k_icmp_ge C (tgt := 34) (by decide) dX1_remember_22 (fun hc22 => ?_) (fun hc22 => ?_)
  · skip
    have hne : ¬ nx + 1 < 8 := by omega
    obtain ⟨n1, hn1⟩ : ∃ z : Nat, z = (if nx + 1 < 8 then nx + 1 else 0) := ⟨_, rfl⟩
    have hn1e : n1 = 0 := by rw [hn1, if_neg hne]
    refine k_iconst C ic_0 dX1_remember_34 ?_
    refine k_putI C f_X1_24 (L1_s (by assumption)) rfl rfl dX1_remember_35 ?_
    refine k_aload_n C (f := 0) (i := 0) (p := 0) rfl rfl dX1_remember_38 ?_
    refine k_bipush C bc_8 dX1_remember_39 ?_
    refine k_aload_n C (f := 0) (i := 0) (p := 0) rfl rfl dX1_remember_41 ?_
    refine k_getI C f_X1_20 (L1_s (by assumption)) (fun _ _ _ => rfl) (Eq.trans (by rw [am_up_n2 (by omega)]) hct1) dX1_remember_42 ?_
    refine k_iconst C ic_1 dX1_remember_45 ?_
    refine k_iadd C dX1_remember_46 ?_
    refine k_min C ((rfl : _ = sp_min _ _)) m_X1_31 ⟨Nat.le_of_ble_eq_true rfl, Nat.le_of_ble_eq_true rfl⟩ ⟨Nat.le_of_ble_eq_true rfl, Nat.le_of_ble_eq_true rfl⟩ dX1_remember_47 ?_
    refine k_putI C f_X1_20 (L1_s (by assumption)) rfl rfl dX1_remember_50 ?_
    exact k_vret C (Nat.le_of_ble_eq_true rfl) (Nat.le_of_ble_eq_true rfl) (⟨rfl, rfl, by
      have e8 : sp_min (nI 8) (nI ct + nI 1) = nI (min 8 (ct + 1)) := by rw [nI_add1, sp_min_nI (by omega) (by omega)]
      refine ⟨rfl, ⟨?_, ?_, ?_, Nat.min_le_left _ _, fun s hs => ?_⟩, fun b g1 g2 => ?_⟩
      · rw [am_up_n2 (by omega), am_up_eq, ← hn1, hn1e]
        try exact nI_add1
      · rw [am_up_eq, e8]
      · rw [← hn1, hn1e]; omega
      · have hmod : ((if nx + 1 < 8 then nx + 1 else 0) + 7 - s) % 8 = if s = 0 then nx else (nx + 7 - (s - 1)) % 8 := by
          rw [← hn1, hn1e]
          by_cases e : s = 0
          · rw [if_pos e, e]; omega
          · rw [if_neg e]; omega
        rw [hmod]
        dsimp only
        by_cases e : s = 0
        · rw [if_pos e, if_pos e]
          exact ⟨CR_agree hc1 (by rw [am_up_ne (by omega), am_up_ne (by omega)]) (fun b g1 g2 => by rw [am_up_ne (by omega), am_up_ne (by omega)]) (fun b g1 g2 => by rw [am_up_ne (by omega), am_up_ne (by omega)]), h3⟩
        · rw [if_neg e, if_neg e]
          have hk := hrs (s - 1) (by omega)
          have hm1 : (nx + 7 - (s - 1)) % 8 ≠ nx := by omega
          have hm2 : (nx + 7 - (s - 1)) % 8 < 8 := Nat.mod_lt _ (by omega)
          generalize (nx + 7 - (s - 1)) % 8 = m at hk hm1 hm2 ⊢
          exact ⟨CR_agree hk.1 (by rw [am_up_ne (by omega), am_up_ne (by omega), hf1 _ (by omega) (by omega)]) (fun b g1 g2 => by rw [am_up_ne (by omega), am_up_ne (by omega), hf1 _ (by omega) (by omega)]) (fun b g1 g2 => by rw [am_up_ne (by omega), am_up_ne (by omega), hf1 _ (by omega) (by omega)]), hk.2⟩
      · rw [am_up_ne (by omega), am_up_ne (by omega), hf1 _ (by omega) (by omega)]⟩) dX1_remember_53
  · skip
    have hne : nx + 1 < 8 := by omega
    obtain ⟨n1, hn1⟩ : ∃ z : Nat, z = (if nx + 1 < 8 then nx + 1 else 0) := ⟨_, rfl⟩
    have hn1e : n1 = nx + 1 := by rw [hn1, if_pos hne]
    refine k_aload_n C (f := 0) (i := 0) (p := 0) rfl rfl dX1_remember_25 ?_
    refine k_getI C f_X1_24 (L1_s (by assumption)) (fun _ _ _ => rfl) (hnx1) dX1_remember_26 ?_
    refine k_iconst C ic_1 dX1_remember_29 ?_
    refine k_iadd C dX1_remember_30 ?_
    refine k_goto C (tgt := 35) (by decide) dX1_remember_31 ?_
    refine k_putI C f_X1_24 (L1_s (by assumption)) rfl rfl dX1_remember_35 ?_
    refine k_aload_n C (f := 0) (i := 0) (p := 0) rfl rfl dX1_remember_38 ?_
    refine k_bipush C bc_8 dX1_remember_39 ?_
    refine k_aload_n C (f := 0) (i := 0) (p := 0) rfl rfl dX1_remember_41 ?_
    refine k_getI C f_X1_20 (L1_s (by assumption)) (fun _ _ _ => rfl) (Eq.trans (by rw [am_up_n2 (by omega)]) hct1) dX1_remember_42 ?_
    refine k_iconst C ic_1 dX1_remember_45 ?_
    refine k_iadd C dX1_remember_46 ?_
    refine k_min C ((rfl : _ = sp_min _ _)) m_X1_31 ⟨Nat.le_of_ble_eq_true rfl, Nat.le_of_ble_eq_true rfl⟩ ⟨Nat.le_of_ble_eq_true rfl, Nat.le_of_ble_eq_true rfl⟩ dX1_remember_47 ?_
    refine k_putI C f_X1_20 (L1_s (by assumption)) rfl rfl dX1_remember_50 ?_
    exact k_vret C (Nat.le_of_ble_eq_true rfl) (Nat.le_of_ble_eq_true rfl) (⟨rfl, rfl, by
      have e8 : sp_min (nI 8) (nI ct + nI 1) = nI (min 8 (ct + 1)) := by rw [nI_add1, sp_min_nI (by omega) (by omega)]
      refine ⟨rfl, ⟨?_, ?_, ?_, Nat.min_le_left _ _, fun s hs => ?_⟩, fun b g1 g2 => ?_⟩
      · rw [am_up_n2 (by omega), am_up_eq, ← hn1, hn1e]
        try exact nI_add1
      · rw [am_up_eq, e8]
      · rw [← hn1, hn1e]; omega
      · have hmod : ((if nx + 1 < 8 then nx + 1 else 0) + 7 - s) % 8 = if s = 0 then nx else (nx + 7 - (s - 1)) % 8 := by
          rw [← hn1, hn1e]
          by_cases e : s = 0
          · rw [if_pos e, e]; omega
          · rw [if_neg e]; omega
        rw [hmod]
        dsimp only
        by_cases e : s = 0
        · rw [if_pos e, if_pos e]
          exact ⟨CR_agree hc1 (by rw [am_up_ne (by omega), am_up_ne (by omega)]) (fun b g1 g2 => by rw [am_up_ne (by omega), am_up_ne (by omega)]) (fun b g1 g2 => by rw [am_up_ne (by omega), am_up_ne (by omega)]), h3⟩
        · rw [if_neg e, if_neg e]
          have hk := hrs (s - 1) (by omega)
          have hm1 : (nx + 7 - (s - 1)) % 8 ≠ nx := by omega
          have hm2 : (nx + 7 - (s - 1)) % 8 < 8 := Nat.mod_lt _ (by omega)
          generalize (nx + 7 - (s - 1)) % 8 = m at hk hm1 hm2 ⊢
          exact ⟨CR_agree hk.1 (by rw [am_up_ne (by omega), am_up_ne (by omega), hf1 _ (by omega) (by omega)]) (fun b g1 g2 => by rw [am_up_ne (by omega), am_up_ne (by omega), hf1 _ (by omega) (by omega)]) (fun b g1 g2 => by rw [am_up_ne (by omega), am_up_ne (by omega), hf1 _ (by omega) (by omega)]), hk.2⟩
      · rw [am_up_ne (by omega), am_up_ne (by omega), hf1 _ (by omega) (by omega)]⟩) dX1_remember_53
set_option maxHeartbeats 4000000 in
set_option maxRecDepth 100000 in
theorem ct_X1_takeBack {G : am_G} {Λ : am_L} {I : am_I} {J : am_J} {h p ct nx c q : Nat} {rs : Nat → Nat → Int32} (hh : HistLay Λ h p) (hrel : HistRel I h p ct nx rs) (hl : CarLay Λ c q p) (hpr : PlanRel I p (rs 0)) (hct0 : 0 < ct) (hdj : (c < h ∨ h + 90 ≤ c) ∧ (q + 10 ≤ h ∨ h + 90 ≤ q) ∧ (p + 10 ≤ h ∨ h + 90 ≤ p)) : am_Ct G yX1_takeBack cX1_takeBack 2 none { frames := 2, cells := 0, slots := 0, locals := 61 } [.ref h, .ref c] Λ I J (am_gen Λ J (fun v I' => v = none ∧ HistRel I' h p (ct - 1) (if 0 < nx then nx - 1 else 7) (fun s => rs (s + 1)) ∧ CarRel I' c q p (rs 0) ∧ ∀ b : Nat, b ≠ h → b ≠ c → (b < q ∨ q + 10 ≤ b) → I' b = I b)) am_never := by
  refine am_ct_of (own := RX1) rfl (by decide) (Nat.le_of_ble_eq_true rfl) (fun X C => ?_)
  change am_K G X { frames := 2, cells := 0, slots := 0, locals := 61 } 2 Λ I J 0 0 0 [(0, .ref h), (1, .ref c)] []
  have d1 := L0_d1 hl
  have d2 := L0_d2 hl
  have d3 := L0_d3 hl
  obtain ⟨hr1, hr2, hnx, hct, hrs⟩ := hrel
  obtain ⟨n1, hn1⟩ : ∃ z : Nat, z = (if 0 < nx then nx - 1 else 7) := ⟨_, rfl⟩
  refine k_aload_n C (f := 0) (i := 0) (p := 0) rfl rfl dX1_takeBack_0 ?_
  refine k_getI C f_X1_20 (L1_s (by assumption)) (fun _ _ _ => rfl) (hr2) dX1_takeBack_1 ?_
  refine k_if_le C (tgt := 52) (by decide) dX1_takeBack_4 (fun hc4 => ?_) (fun hc4 => ?_)
  · skip
    exact absurd ((nI_le0 (by omega)).mp hc4) (by omega)
  · skip
    refine k_aload_n C (f := 0) (i := 0) (p := 0) rfl rfl dX1_takeBack_7 ?_
    refine k_aload_n C (f := 0) (i := 0) (p := 0) rfl rfl dX1_takeBack_8 ?_
    refine k_getI C f_X1_24 (L1_s (by assumption)) (fun _ _ _ => rfl) (hr1) dX1_takeBack_9 ?_
    refine k_if_le C (tgt := 24) (by decide) dX1_takeBack_12 (fun hc12 => ?_) (fun hc12 => ?_)
    · skip
      have hz : nx = 0 := (nI_le0 (by omega)).mp hc12
      have hn1e : n1 = 7 := by rw [hn1, if_neg (by omega)]
      refine k_bipush C bc_7 dX1_takeBack_24 ?_
      refine k_putI C f_X1_24 (L1_s (by assumption)) rfl rfl dX1_takeBack_26 ?_
      first
      | (rw [hsub, ← hn1e])
      | (rw [show (7 : Nat) = n1 from hn1e.symm])
      refine k_aload_n C (f := 0) (i := 0) (p := 0) rfl rfl dX1_takeBack_29 ?_
      refine k_dup C rfl dX1_takeBack_30 ?_
      refine k_getI C f_X1_20 (L1_s (by assumption)) (fun _ _ _ => rfl) (Eq.trans (by rw [am_up_n2 (by omega)]) hr2) dX1_takeBack_31 ?_
      refine k_iconst C ic_1 dX1_takeBack_34 ?_
      refine k_isub C dX1_takeBack_35 ?_
      refine k_putI C f_X1_20 (L1_s (by assumption)) rfl rfl dX1_takeBack_36 ?_
      have hnx2 : am_up (am_up I h 1 (nI n1)) h 2 (nI ct - nI 1) h 1 = nI n1 := by rw [am_up_n2 (by omega), am_up_eq]
      have hn18 : n1 < 8 := by omega
      have hrow := (L1_r hh) n1 hn18
      obtain ⟨I2, hI2⟩ : ∃ z : am_I, z = am_up (am_up I h 1 (nI n1)) h 2 (nI ct - nI 1) := ⟨_, rfl⟩
      rw [← hI2] at hnx2 ⊢
      have hk := hrs 0 hct0
      have hm : (nx + 7 - 0) % 8 = n1 := by omega
      rw [hm] at hk
      have hk2 : CarRel I2 (h + 2 + 11 * n1) (h + 3 + 11 * n1) p (rs 0) := CR_agree hk.1 (by rw [hI2, am_up_ne (by omega), am_up_ne (by omega)]) (fun b g1 g2 => by rw [hI2, am_up_ne (by omega), am_up_ne (by omega)]) (fun b g1 g2 => by rw [hI2, am_up_ne (by omega), am_up_ne (by omega)])
      refine k_aload_n C (f := 1) (i := 1) (p := 1) rfl rfl dX1_takeBack_39 ?_
      refine k_aload_n C (f := 0) (i := 0) (p := 0) rfl rfl dX1_takeBack_40 ?_
      refine k_getR C f_X1_11 (L1_s (by assumption)) (fun _ _ _ => rfl) (L1_0 (by assumption)) dX1_takeBack_41 ?_
      refine k_aload_n C (f := 0) (i := 0) (p := 0) rfl rfl dX1_takeBack_44 ?_
      refine k_getI C f_X1_24 (L1_s (by assumption)) (fun _ _ _ => rfl) (hnx2) dX1_takeBack_45 ?_
      refine k_aald C (A1_0 hh) (by first | rfl | assumption) (hn18) (by decide) (hrow.1) dX1_takeBack_48 ?_
      refine k_callVg C s_X1_27 h_X0_copyFrom (L0_s hl) rfl (ct_X0_copyFrom (r := rs 0) hl hrow.2 hk2 (PlanRel_agree hpr (fun b g1 g2 => by rw [hI2, am_up_ne (by omega), am_up_ne (by omega)])) (by omega) (by rw [CR_3 hk2]; exact hk.2)) rfl rfl (Nat.le_of_ble_eq_true rfl) ⟨Nat.le_of_ble_eq_true rfl, Nat.le_of_ble_eq_true rfl⟩ ⟨Nat.le_of_ble_eq_true rfl, Nat.le_of_ble_eq_true rfl⟩ ⟨rfl, rfl⟩ dX1_takeBack_49 ?_
      intro v I3 hv
      obtain ⟨rfl, hc3, hf3⟩ := hv
      exact k_vret C (Nat.le_of_ble_eq_true rfl) (Nat.le_of_ble_eq_true rfl) (⟨rfl, rfl, by
        refine ⟨rfl, ⟨?_, ?_, ?_, by omega, fun s hs => ?_⟩, hc3, fun b g1 g2 g3 => ?_⟩
        · rw [hf3 h (by omega) (by omega), hnx2, hn1]
        · rw [hf3 h (by omega) (by omega), hI2, am_up_eq]; exact pk_sub (by omega)
        · rw [← hn1]; exact hn18
        · have hk := hrs (s + 1) (by omega)
          have hm : (nx + 7 - (s + 1)) % 8 = (n1 + 7 - s) % 8 := by omega
          have hm2 : (n1 + 7 - s) % 8 < 8 := Nat.mod_lt _ (by omega)
          rw [← hn1, ← hm] at *
          generalize (nx + 7 - (s + 1)) % 8 = m at hk hm2 ⊢
          exact ⟨CR_agree hk.1 (by rw [hf3 _ (by omega) (by omega), hI2, am_up_ne (by omega), am_up_ne (by omega)]) (fun b g1 g2 => by rw [hf3 _ (by omega) (by omega), hI2, am_up_ne (by omega), am_up_ne (by omega)]) (fun b g1 g2 => by rw [hf3 _ (by omega) (by omega), hI2, am_up_ne (by omega), am_up_ne (by omega)]), hk.2⟩
        · rw [hf3 b g2 g3, hI2, am_up_ne g1, am_up_ne g1]⟩) dX1_takeBack_52
    · skip
      have hz : 0 < nx := Nat.pos_of_ne_zero (fun e => hc12 ((nI_le0 (by omega)).mpr e))
      have hn1e : n1 = nx - 1 := by rw [hn1, if_pos hz]
      have hsub : nI nx - nI 1 = nI (nx - 1) := pk_sub (by omega)
      refine k_aload_n C (f := 0) (i := 0) (p := 0) rfl rfl dX1_takeBack_15 ?_
      refine k_getI C f_X1_24 (L1_s (by assumption)) (fun _ _ _ => rfl) (hr1) dX1_takeBack_16 ?_
      refine k_iconst C ic_1 dX1_takeBack_19 ?_
      refine k_isub C dX1_takeBack_20 ?_
      refine k_goto C (tgt := 26) (by decide) dX1_takeBack_21 ?_
      refine k_putI C f_X1_24 (L1_s (by assumption)) rfl rfl dX1_takeBack_26 ?_
      first
      | (rw [hsub, ← hn1e])
      | (rw [show (7 : Nat) = n1 from hn1e.symm])
      refine k_aload_n C (f := 0) (i := 0) (p := 0) rfl rfl dX1_takeBack_29 ?_
      refine k_dup C rfl dX1_takeBack_30 ?_
      refine k_getI C f_X1_20 (L1_s (by assumption)) (fun _ _ _ => rfl) (Eq.trans (by rw [am_up_n2 (by omega)]) hr2) dX1_takeBack_31 ?_
      refine k_iconst C ic_1 dX1_takeBack_34 ?_
      refine k_isub C dX1_takeBack_35 ?_
      refine k_putI C f_X1_20 (L1_s (by assumption)) rfl rfl dX1_takeBack_36 ?_
      have hnx2 : am_up (am_up I h 1 (nI n1)) h 2 (nI ct - nI 1) h 1 = nI n1 := by rw [am_up_n2 (by omega), am_up_eq]
      have hn18 : n1 < 8 := by omega
      have hrow := (L1_r hh) n1 hn18
      obtain ⟨I2, hI2⟩ : ∃ z : am_I, z = am_up (am_up I h 1 (nI n1)) h 2 (nI ct - nI 1) := ⟨_, rfl⟩
      rw [← hI2] at hnx2 ⊢
      have hk := hrs 0 hct0
      have hm : (nx + 7 - 0) % 8 = n1 := by omega
      rw [hm] at hk
      have hk2 : CarRel I2 (h + 2 + 11 * n1) (h + 3 + 11 * n1) p (rs 0) := CR_agree hk.1 (by rw [hI2, am_up_ne (by omega), am_up_ne (by omega)]) (fun b g1 g2 => by rw [hI2, am_up_ne (by omega), am_up_ne (by omega)]) (fun b g1 g2 => by rw [hI2, am_up_ne (by omega), am_up_ne (by omega)])
      refine k_aload_n C (f := 1) (i := 1) (p := 1) rfl rfl dX1_takeBack_39 ?_
      refine k_aload_n C (f := 0) (i := 0) (p := 0) rfl rfl dX1_takeBack_40 ?_
      refine k_getR C f_X1_11 (L1_s (by assumption)) (fun _ _ _ => rfl) (L1_0 (by assumption)) dX1_takeBack_41 ?_
      refine k_aload_n C (f := 0) (i := 0) (p := 0) rfl rfl dX1_takeBack_44 ?_
      refine k_getI C f_X1_24 (L1_s (by assumption)) (fun _ _ _ => rfl) (hnx2) dX1_takeBack_45 ?_
      refine k_aald C (A1_0 hh) (by first | rfl | assumption) (hn18) (by decide) (hrow.1) dX1_takeBack_48 ?_
      refine k_callVg C s_X1_27 h_X0_copyFrom (L0_s hl) rfl (ct_X0_copyFrom (r := rs 0) hl hrow.2 hk2 (PlanRel_agree hpr (fun b g1 g2 => by rw [hI2, am_up_ne (by omega), am_up_ne (by omega)])) (by omega) (by rw [CR_3 hk2]; exact hk.2)) rfl rfl (Nat.le_of_ble_eq_true rfl) ⟨Nat.le_of_ble_eq_true rfl, Nat.le_of_ble_eq_true rfl⟩ ⟨Nat.le_of_ble_eq_true rfl, Nat.le_of_ble_eq_true rfl⟩ ⟨rfl, rfl⟩ dX1_takeBack_49 ?_
      intro v I3 hv
      obtain ⟨rfl, hc3, hf3⟩ := hv
      exact k_vret C (Nat.le_of_ble_eq_true rfl) (Nat.le_of_ble_eq_true rfl) (⟨rfl, rfl, by
        refine ⟨rfl, ⟨?_, ?_, ?_, by omega, fun s hs => ?_⟩, hc3, fun b g1 g2 g3 => ?_⟩
        · rw [hf3 h (by omega) (by omega), hnx2, hn1]
        · rw [hf3 h (by omega) (by omega), hI2, am_up_eq]; exact pk_sub (by omega)
        · rw [← hn1]; exact hn18
        · have hk := hrs (s + 1) (by omega)
          have hm : (nx + 7 - (s + 1)) % 8 = (n1 + 7 - s) % 8 := by omega
          have hm2 : (n1 + 7 - s) % 8 < 8 := Nat.mod_lt _ (by omega)
          rw [← hn1, ← hm] at *
          generalize (nx + 7 - (s + 1)) % 8 = m at hk hm2 ⊢
          exact ⟨CR_agree hk.1 (by rw [hf3 _ (by omega) (by omega), hI2, am_up_ne (by omega), am_up_ne (by omega)]) (fun b g1 g2 => by rw [hf3 _ (by omega) (by omega), hI2, am_up_ne (by omega), am_up_ne (by omega)]) (fun b g1 g2 => by rw [hf3 _ (by omega) (by omega), hI2, am_up_ne (by omega), am_up_ne (by omega)]), hk.2⟩
        · rw [hf3 b g2 g3, hI2, am_up_ne g1, am_up_ne g1]⟩) dX1_takeBack_52
