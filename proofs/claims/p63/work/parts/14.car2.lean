set_option maxHeartbeats 4000000 in
set_option maxRecDepth 100000 in
theorem ct_X0_tire {G : am_G} {Λ : am_L} {I : am_I} {J : am_J} {c q p : Nat} {r : Nat → Int32} {j : Nat} {b : Int32} (hl : CarLay Λ c q p) (hr : CarRel I c q p r) (hj : j < sp_nc r) : am_Ct G yX0_tire cX0_tire 3 none { frames := 1, cells := 0, slots := 0, locals := 21 } [.ref c, .int (nI j), .int b] Λ I J (am_gen Λ J (fun v I' => v = none ∧ CarRel I' c q p (sp_limp (sp_strain r j b) j) ∧ am_fr c q I I')) am_never := by
  refine am_ct_of (own := RX0) rfl (by decide) (Nat.le_of_ble_eq_true rfl) (fun X C => ?_)
  change am_K G X { frames := 1, cells := 0, slots := 0, locals := 21 } 3 Λ I J 0 0 0 [(0, .ref c), (1, .int (nI j)), (2, .int b)] []
  have hp := L0_p hl
  have hpr := CR_p hr
  have hnc := PR_c hpr
  have hnl := CR_l hr
  refine k_iload_n C (f := 2) (i := 2) (p := 2) rfl rfl dX0_tire_0 ?_
  refine k_if_le C (tgt := 17) (by decide) dX0_tire_1 (fun hc1 => ?_) (fun hc1 => ?_)
  · skip
    refine k_aload_n C (f := 0) (i := 0) (p := 0) rfl rfl dX0_tire_17 ?_
    refine k_getR C f_X0_15 (L0_s (by assumption)) (fun _ _ _ => rfl) (L0_7 (by assumption)) dX0_tire_18 ?_
    refine k_iload_n C (f := 1) (i := 1) (p := 1) rfl rfl dX0_tire_21 ?_
    refine k_iconst C ic_0 dX0_tire_22 ?_
    refine k_aload_n C (f := 0) (i := 0) (p := 0) rfl rfl dX0_tire_23 ?_
    refine k_getR C f_X0_15 (L0_s (by assumption)) (fun _ _ _ => rfl) (L0_7 (by assumption)) dX0_tire_24 ?_
    refine k_iload_n C (f := 1) (i := 1) (p := 1) rfl rfl dX0_tire_27 ?_
    refine k_iald C (A0_7 (by assumption)) (by first | rfl | assumption) (by omega) (by decide) (by first | exact CRa_7 (by assumption) (by omega) | assumption | rfl) dX0_tire_28 ?_
    refine k_bipush C bc_10 dX0_tire_29 ?_
    refine k_isub C dX0_tire_31 ?_
    refine k_max C ((rfl : _ = sp_max _ _)) m_X0_114 ⟨Nat.le_of_ble_eq_true rfl, Nat.le_of_ble_eq_true rfl⟩ ⟨Nat.le_of_ble_eq_true rfl, Nat.le_of_ble_eq_true rfl⟩ dX0_tire_32 ?_
    refine k_iast C (A0_7 (by assumption)) (by first | rfl | assumption) (by omega) (by decide) dX0_tire_35 ?_
    have hr1 := CU_strain (x := sp_max (nI 0) (r (14 + 8 * j) - nI 10)) hl hr hj
    rw [show upd r (14 + 8 * j) (sp_max (nI 0) (r (14 + 8 * j) - nI 10)) = sp_strain r j b from (if_neg (Int32.not_lt.mpr hc1)).symm] at hr1
    have hf1 : am_fr c q I (am_up I (q + 1) (j) (sp_max (nI 0) (r (14 + 8 * j) - nI 10))) := am_fr.rf.up (Or.inr (by omega))
    generalize hgI1 : am_up I (q + 1) (j) (sp_max (nI 0) (r (14 + 8 * j) - nI 10)) = I1 at hr1 hf1 ⊢
    have hs1a := (sc_strain r j b).1
    refine k_aload_n C (f := 0) (i := 0) (p := 0) rfl rfl dX0_tire_36 ?_
    refine k_getR C f_X0_15 (L0_s (by assumption)) (fun _ _ _ => rfl) (L0_7 (by assumption)) dX0_tire_37 ?_
    refine k_iload_n C (f := 1) (i := 1) (p := 1) rfl rfl dX0_tire_40 ?_
    refine k_iald C (A0_7 (by assumption)) (by first | rfl | assumption) (by omega) (by decide) (by first | exact CRa_7 (by assumption) (by omega) | assumption | rfl) dX0_tire_41 ?_
    refine k_bipush C bc_60 dX0_tire_42 ?_
    first
    | refine k_icmpN_le C (tgt := 67) (by omega) (by omega) (by decide) dX0_tire_44 (fun hc44 => ?_) (fun hc44 => ?_)
    | refine k_icmp_le C (tgt := 67) (by decide) dX0_tire_44 (fun hc44 => ?_) (fun hc44 => ?_)
    · skip
      refine k_aload_n C (f := 0) (i := 0) (p := 0) rfl rfl dX0_tire_67 ?_
      refine k_getR C f_X0_18 (L0_s (by assumption)) (fun _ _ _ => rfl) (L0_8 (by assumption)) dX0_tire_68 ?_
      refine k_iload_n C (f := 1) (i := 1) (p := 1) rfl rfl dX0_tire_71 ?_
      refine k_iald C (A0_8 (by assumption)) (by first | rfl | assumption) (by omega) (by decide) (by first | exact CRa_8 (by assumption) (by omega) | assumption | rfl) dX0_tire_72 ?_
      refine k_if_le C (tgt := 86) (by decide) dX0_tire_73 (fun hc73 => ?_) (fun hc73 => ?_)
      · skip
        exact k_vret C (Nat.le_of_ble_eq_true rfl) (Nat.le_of_ble_eq_true rfl) (⟨rfl, rfl, by first | exact ⟨rfl, hr3, hf3⟩ | exact ⟨rfl, hr2, hf2⟩ | exact ⟨rfl, by rw [show sp_limp (sp_strain r j b) j = (sp_strain r j b) from (by unfold sp_limp; rw [if_neg (Int32.not_lt.mpr hc44), if_neg (Int32.not_lt.mpr hc73)])]; exact hr1, hf1⟩⟩) dX0_tire_86
      · skip
        refine k_aload_n C (f := 0) (i := 0) (p := 0) rfl rfl dX0_tire_76 ?_
        refine k_getR C f_X0_18 (L0_s (by assumption)) (fun _ _ _ => rfl) (L0_8 (by assumption)) dX0_tire_77 ?_
        refine k_iload_n C (f := 1) (i := 1) (p := 1) rfl rfl dX0_tire_80 ?_
        refine k_dup2 C rfl rfl dX0_tire_81 ?_
        refine k_iald C (A0_8 (by assumption)) (by first | rfl | assumption) (by omega) (by decide) (by first | exact CRa_8 (by assumption) (by omega) | assumption | rfl) dX0_tire_82 ?_
        refine k_iconst C ic_1 dX0_tire_83 ?_
        refine k_isub C dX0_tire_84 ?_
        refine k_iast C (A0_8 (by assumption)) (by first | rfl | assumption) (by omega) (by decide) dX0_tire_85 ?_
        have hr2 := CU_lame (k := j) (x := (sp_strain r j b) (15 + 8 * j) - nI 1) hl hr1 (by omega)
        rw [show upd (sp_strain r j b) (15 + 8 * j) ((sp_strain r j b) (15 + 8 * j) - nI 1) = sp_limp (sp_strain r j b) j from (by unfold sp_limp; rw [if_neg (Int32.not_lt.mpr hc44), if_pos (Int32.not_le.mp hc73)])] at hr2
        have hf2 : am_fr c q I (am_up I1 (q + 2) (j) ((sp_strain r j b) (15 + 8 * j) - nI 1)) := hf1.up (Or.inr (by omega))
        generalize hgI2 : am_up I1 (q + 2) (j) ((sp_strain r j b) (15 + 8 * j) - nI 1) = I2 at hr2 hf2 ⊢
        exact k_vret C (Nat.le_of_ble_eq_true rfl) (Nat.le_of_ble_eq_true rfl) (⟨rfl, rfl, by first | exact ⟨rfl, hr3, hf3⟩ | exact ⟨rfl, hr2, hf2⟩ | exact ⟨rfl, by rw [show sp_limp (sp_strain r j b) j = (sp_strain r j b) from (by unfold sp_limp; rw [if_neg (Int32.not_lt.mpr hc44), if_neg (Int32.not_lt.mpr hc73)])]; exact hr1, hf1⟩⟩) dX0_tire_86
    · skip
      refine k_aload_n C (f := 0) (i := 0) (p := 0) rfl rfl dX0_tire_47 ?_
      refine k_getR C f_X0_18 (L0_s (by assumption)) (fun _ _ _ => rfl) (L0_8 (by assumption)) dX0_tire_48 ?_
      refine k_iload_n C (f := 1) (i := 1) (p := 1) rfl rfl dX0_tire_51 ?_
      refine k_dup2 C rfl rfl dX0_tire_52 ?_
      refine k_iald C (A0_8 (by assumption)) (by first | rfl | assumption) (by omega) (by decide) (by first | exact CRa_8 (by assumption) (by omega) | assumption | rfl) dX0_tire_53 ?_
      refine k_iconst C ic_3 dX0_tire_54 ?_
      refine k_iadd C dX0_tire_55 ?_
      refine k_iast C (A0_8 (by assumption)) (by first | rfl | assumption) (by omega) (by decide) dX0_tire_56 ?_
      have hr2 := CU_lame (k := j) (x := (sp_strain r j b) (15 + 8 * j) + nI 3) hl hr1 (by omega)
      have hf2 : am_fr c q I (am_up I1 (q + 2) (j) ((sp_strain r j b) (15 + 8 * j) + nI 3)) := hf1.up (Or.inr (by omega))
      generalize hgI2 : am_up I1 (q + 2) (j) ((sp_strain r j b) (15 + 8 * j) + nI 3) = I2 at hr2 hf2 ⊢
      have hs2 : sp_nc (upd (sp_strain r j b) (15 + 8 * j) ((sp_strain r j b) (15 + 8 * j) + nI 3)) = sp_nc (sp_strain r j b) := sp_nc_upd (by omega)
      refine k_aload_n C (f := 0) (i := 0) (p := 0) rfl rfl dX0_tire_57 ?_
      refine k_getR C f_X0_15 (L0_s (by assumption)) (fun _ _ _ => rfl) (L0_7 (by assumption)) dX0_tire_58 ?_
      refine k_iload_n C (f := 1) (i := 1) (p := 1) rfl rfl dX0_tire_61 ?_
      refine k_iconst C ic_0 dX0_tire_62 ?_
      refine k_iast C (A0_7 (by assumption)) (by first | rfl | assumption) (by omega) (by decide) dX0_tire_63 ?_
      have hr3 := CU_strain (k := j) (x := nI 0) hl hr2 (by omega)
      rw [show upd (upd (sp_strain r j b) (15 + 8 * j) ((sp_strain r j b) (15 + 8 * j) + nI 3)) (14 + 8 * j) (nI 0) = sp_limp (sp_strain r j b) j from (if_pos (Int32.not_le.mp hc44)).symm] at hr3
      have hf3 : am_fr c q I (am_up I2 (q + 1) (j) (nI 0)) := hf2.up (Or.inr (by omega))
      generalize hgI3 : am_up I2 (q + 1) (j) (nI 0) = I3 at hr3 hf3 ⊢
      refine k_goto C (tgt := 86) (by decide) dX0_tire_64 ?_
      exact k_vret C (Nat.le_of_ble_eq_true rfl) (Nat.le_of_ble_eq_true rfl) (⟨rfl, rfl, by first | exact ⟨rfl, hr3, hf3⟩ | exact ⟨rfl, hr2, hf2⟩ | exact ⟨rfl, by rw [show sp_limp (sp_strain r j b) j = (sp_strain r j b) from (by unfold sp_limp; rw [if_neg (Int32.not_lt.mpr hc44), if_neg (Int32.not_lt.mpr hc73)])]; exact hr1, hf1⟩⟩) dX0_tire_86
  · skip
    refine k_aload_n C (f := 0) (i := 0) (p := 0) rfl rfl dX0_tire_4 ?_
    refine k_getR C f_X0_15 (L0_s (by assumption)) (fun _ _ _ => rfl) (L0_7 (by assumption)) dX0_tire_5 ?_
    refine k_iload_n C (f := 1) (i := 1) (p := 1) rfl rfl dX0_tire_8 ?_
    refine k_dup2 C rfl rfl dX0_tire_9 ?_
    refine k_iald C (A0_7 (by assumption)) (by first | rfl | assumption) (by omega) (by decide) (by first | exact CRa_7 (by assumption) (by omega) | assumption | rfl) dX0_tire_10 ?_
    refine k_iload_n C (f := 2) (i := 2) (p := 2) rfl rfl dX0_tire_11 ?_
    refine k_iadd C dX0_tire_12 ?_
    refine k_iast C (A0_7 (by assumption)) (by first | rfl | assumption) (by omega) (by decide) dX0_tire_13 ?_
    have hr1 := CU_strain (x := r (14 + 8 * j) + b) hl hr hj
    rw [show upd r (14 + 8 * j) (r (14 + 8 * j) + b) = sp_strain r j b from (if_pos (Int32.not_le.mp hc1)).symm] at hr1
    have hf1 : am_fr c q I (am_up I (q + 1) (j) (r (14 + 8 * j) + b)) := am_fr.rf.up (Or.inr (by omega))
    generalize hgI1 : am_up I (q + 1) (j) (r (14 + 8 * j) + b) = I1 at hr1 hf1 ⊢
    have hs1a := (sc_strain r j b).1
    refine k_goto C (tgt := 36) (by decide) dX0_tire_14 ?_
    refine k_aload_n C (f := 0) (i := 0) (p := 0) rfl rfl dX0_tire_36 ?_
    refine k_getR C f_X0_15 (L0_s (by assumption)) (fun _ _ _ => rfl) (L0_7 (by assumption)) dX0_tire_37 ?_
    refine k_iload_n C (f := 1) (i := 1) (p := 1) rfl rfl dX0_tire_40 ?_
    refine k_iald C (A0_7 (by assumption)) (by first | rfl | assumption) (by omega) (by decide) (by first | exact CRa_7 (by assumption) (by omega) | assumption | rfl) dX0_tire_41 ?_
    refine k_bipush C bc_60 dX0_tire_42 ?_
    first
    | refine k_icmpN_le C (tgt := 67) (by omega) (by omega) (by decide) dX0_tire_44 (fun hc44 => ?_) (fun hc44 => ?_)
    | refine k_icmp_le C (tgt := 67) (by decide) dX0_tire_44 (fun hc44 => ?_) (fun hc44 => ?_)
    · skip
      refine k_aload_n C (f := 0) (i := 0) (p := 0) rfl rfl dX0_tire_67 ?_
      refine k_getR C f_X0_18 (L0_s (by assumption)) (fun _ _ _ => rfl) (L0_8 (by assumption)) dX0_tire_68 ?_
      refine k_iload_n C (f := 1) (i := 1) (p := 1) rfl rfl dX0_tire_71 ?_
      refine k_iald C (A0_8 (by assumption)) (by first | rfl | assumption) (by omega) (by decide) (by first | exact CRa_8 (by assumption) (by omega) | assumption | rfl) dX0_tire_72 ?_
      refine k_if_le C (tgt := 86) (by decide) dX0_tire_73 (fun hc73 => ?_) (fun hc73 => ?_)
      · skip
        exact k_vret C (Nat.le_of_ble_eq_true rfl) (Nat.le_of_ble_eq_true rfl) (⟨rfl, rfl, by first | exact ⟨rfl, hr3, hf3⟩ | exact ⟨rfl, hr2, hf2⟩ | exact ⟨rfl, by rw [show sp_limp (sp_strain r j b) j = (sp_strain r j b) from (by unfold sp_limp; rw [if_neg (Int32.not_lt.mpr hc44), if_neg (Int32.not_lt.mpr hc73)])]; exact hr1, hf1⟩⟩) dX0_tire_86
      · skip
        refine k_aload_n C (f := 0) (i := 0) (p := 0) rfl rfl dX0_tire_76 ?_
        refine k_getR C f_X0_18 (L0_s (by assumption)) (fun _ _ _ => rfl) (L0_8 (by assumption)) dX0_tire_77 ?_
        refine k_iload_n C (f := 1) (i := 1) (p := 1) rfl rfl dX0_tire_80 ?_
        refine k_dup2 C rfl rfl dX0_tire_81 ?_
        refine k_iald C (A0_8 (by assumption)) (by first | rfl | assumption) (by omega) (by decide) (by first | exact CRa_8 (by assumption) (by omega) | assumption | rfl) dX0_tire_82 ?_
        refine k_iconst C ic_1 dX0_tire_83 ?_
        refine k_isub C dX0_tire_84 ?_
        refine k_iast C (A0_8 (by assumption)) (by first | rfl | assumption) (by omega) (by decide) dX0_tire_85 ?_
        have hr2 := CU_lame (k := j) (x := (sp_strain r j b) (15 + 8 * j) - nI 1) hl hr1 (by omega)
        rw [show upd (sp_strain r j b) (15 + 8 * j) ((sp_strain r j b) (15 + 8 * j) - nI 1) = sp_limp (sp_strain r j b) j from (by unfold sp_limp; rw [if_neg (Int32.not_lt.mpr hc44), if_pos (Int32.not_le.mp hc73)])] at hr2
        have hf2 : am_fr c q I (am_up I1 (q + 2) (j) ((sp_strain r j b) (15 + 8 * j) - nI 1)) := hf1.up (Or.inr (by omega))
        generalize hgI2 : am_up I1 (q + 2) (j) ((sp_strain r j b) (15 + 8 * j) - nI 1) = I2 at hr2 hf2 ⊢
        exact k_vret C (Nat.le_of_ble_eq_true rfl) (Nat.le_of_ble_eq_true rfl) (⟨rfl, rfl, by first | exact ⟨rfl, hr3, hf3⟩ | exact ⟨rfl, hr2, hf2⟩ | exact ⟨rfl, by rw [show sp_limp (sp_strain r j b) j = (sp_strain r j b) from (by unfold sp_limp; rw [if_neg (Int32.not_lt.mpr hc44), if_neg (Int32.not_lt.mpr hc73)])]; exact hr1, hf1⟩⟩) dX0_tire_86
    · skip
      refine k_aload_n C (f := 0) (i := 0) (p := 0) rfl rfl dX0_tire_47 ?_
      refine k_getR C f_X0_18 (L0_s (by assumption)) (fun _ _ _ => rfl) (L0_8 (by assumption)) dX0_tire_48 ?_
      refine k_iload_n C (f := 1) (i := 1) (p := 1) rfl rfl dX0_tire_51 ?_
      refine k_dup2 C rfl rfl dX0_tire_52 ?_
      refine k_iald C (A0_8 (by assumption)) (by first | rfl | assumption) (by omega) (by decide) (by first | exact CRa_8 (by assumption) (by omega) | assumption | rfl) dX0_tire_53 ?_
      refine k_iconst C ic_3 dX0_tire_54 ?_
      refine k_iadd C dX0_tire_55 ?_
      refine k_iast C (A0_8 (by assumption)) (by first | rfl | assumption) (by omega) (by decide) dX0_tire_56 ?_
      have hr2 := CU_lame (k := j) (x := (sp_strain r j b) (15 + 8 * j) + nI 3) hl hr1 (by omega)
      have hf2 : am_fr c q I (am_up I1 (q + 2) (j) ((sp_strain r j b) (15 + 8 * j) + nI 3)) := hf1.up (Or.inr (by omega))
      generalize hgI2 : am_up I1 (q + 2) (j) ((sp_strain r j b) (15 + 8 * j) + nI 3) = I2 at hr2 hf2 ⊢
      have hs2 : sp_nc (upd (sp_strain r j b) (15 + 8 * j) ((sp_strain r j b) (15 + 8 * j) + nI 3)) = sp_nc (sp_strain r j b) := sp_nc_upd (by omega)
      refine k_aload_n C (f := 0) (i := 0) (p := 0) rfl rfl dX0_tire_57 ?_
      refine k_getR C f_X0_15 (L0_s (by assumption)) (fun _ _ _ => rfl) (L0_7 (by assumption)) dX0_tire_58 ?_
      refine k_iload_n C (f := 1) (i := 1) (p := 1) rfl rfl dX0_tire_61 ?_
      refine k_iconst C ic_0 dX0_tire_62 ?_
      refine k_iast C (A0_7 (by assumption)) (by first | rfl | assumption) (by omega) (by decide) dX0_tire_63 ?_
      have hr3 := CU_strain (k := j) (x := nI 0) hl hr2 (by omega)
      rw [show upd (upd (sp_strain r j b) (15 + 8 * j) ((sp_strain r j b) (15 + 8 * j) + nI 3)) (14 + 8 * j) (nI 0) = sp_limp (sp_strain r j b) j from (if_pos (Int32.not_le.mp hc44)).symm] at hr3
      have hf3 : am_fr c q I (am_up I2 (q + 1) (j) (nI 0)) := hf2.up (Or.inr (by omega))
      generalize hgI3 : am_up I2 (q + 1) (j) (nI 0) = I3 at hr3 hf3 ⊢
      refine k_goto C (tgt := 86) (by decide) dX0_tire_64 ?_
      exact k_vret C (Nat.le_of_ble_eq_true rfl) (Nat.le_of_ble_eq_true rfl) (⟨rfl, rfl, by first | exact ⟨rfl, hr3, hf3⟩ | exact ⟨rfl, hr2, hf2⟩ | exact ⟨rfl, by rw [show sp_limp (sp_strain r j b) j = (sp_strain r j b) from (by unfold sp_limp; rw [if_neg (Int32.not_lt.mpr hc44), if_neg (Int32.not_lt.mpr hc73)])]; exact hr1, hf1⟩⟩) dX0_tire_86
set_option maxHeartbeats 4000000 in
set_option maxRecDepth 100000 in
theorem ct_X0_layDown {G : am_G} {Λ : am_L} {I : am_I} {J : am_J} {c q p : Nat} {r : Nat → Int32} {k : Nat} (hl : CarLay Λ c q p) (hr : CarRel I c q p r) (hk : k < sp_nl r) (hck : sp_cok r k) : am_Ct G yX0_layDown cX0_layDown 3 none { frames := 1, cells := 0, slots := 0, locals := 21 } [.ref c, .int (nI k)] Λ I J (am_gen Λ J (fun v I' => v = none ∧ CarRel I' c q p (sp_lay r k) ∧ am_fr c q I I')) am_never := by
  refine am_ct_of (own := RX0) rfl (by decide) (Nat.le_of_ble_eq_true rfl) (fun X C => ?_)
  change am_K G X { frames := 1, cells := 0, slots := 0, locals := 21 } 3 Λ I J 0 0 0 [(0, .ref c), (1, .int (nI k))] []
  have hp := L0_p hl
  have hpr := CR_p hr
  have hnc := PR_c hpr
  have hnl := CR_l hr
  have d1 := L0_d1 hl
  refine k_aload_n C (f := 0) (i := 0) (p := 0) rfl rfl dX0_layDown_0 ?_
  refine k_iload_n C (f := 1) (i := 1) (p := 1) rfl rfl dX0_layDown_1 ?_
  refine k_callVp C s_X0_123 h_X0_hasLoad (L0_s (by assumption)) rfl (ct_X0_hasLoadN (by first | assumption | omega) (by first | assumption | omega) (by first | assumption | omega)) rfl rfl (Nat.le_of_ble_eq_true rfl) ⟨Nat.le_of_ble_eq_true rfl, Nat.le_of_ble_eq_true rfl⟩ ⟨Nat.le_of_ble_eq_true rfl, Nat.le_of_ble_eq_true rfl⟩ ⟨rfl, rfl⟩ dX0_layDown_2 ?_
  first
  | refine k_ifb_eq C (tgt := 58) (by decide) dX0_layDown_5 (fun hc5 => ?_) (fun hc5 => ?_)
  | refine k_if_eq C (tgt := 58) (by decide) dX0_layDown_5 (fun hc5 => ?_) (fun hc5 => ?_)
  · skip
    exact absurd hk hc5
  · skip
    refine k_aload_n C (f := 0) (i := 0) (p := 0) rfl rfl dX0_layDown_8 ?_
    refine k_getR C f_X0_36 (L0_s (by assumption)) (fun _ _ _ => rfl) (L0_15 (by assumption)) dX0_layDown_9 ?_
    refine k_iload_n C (f := 1) (i := 1) (p := 1) rfl rfl dX0_layDown_12 ?_
    refine k_iald C (A0_15 (by assumption)) (by first | rfl | assumption) (by omega) (by decide) (by first | exact CRa_15 (by assumption) (by omega) | assumption | rfl) dX0_layDown_13 ?_
    refine k_istore_n C (f := 2) (i := 2) (lv := [(2, _), (0, _), (1, _)]) rfl (Nat.le_of_ble_eq_true rfl) rfl dX0_layDown_14 ?_
    refine k_aload_n C (f := 0) (i := 0) (p := 1) rfl rfl dX0_layDown_15 ?_
    refine k_getR C f_X0_42 (L0_s (by assumption)) (fun _ _ _ => rfl) (L0_0 (by assumption)) dX0_layDown_16 ?_
    refine k_iload_n C (f := 2) (i := 2) (p := 0) rfl rfl dX0_layDown_19 ?_
    refine k_callVp C s_X0_100 h_X3_hasCamel (L3_s (by assumption)) rfl (ct_X3_hasCamel (by first | assumption | omega)) rfl rfl (Nat.le_of_ble_eq_true rfl) ⟨Nat.le_of_ble_eq_true rfl, Nat.le_of_ble_eq_true rfl⟩ ⟨Nat.le_of_ble_eq_true rfl, Nat.le_of_ble_eq_true rfl⟩ ⟨rfl, rfl⟩ dX0_layDown_20 ?_
    first
    | refine k_ifb_eq C (tgt := 41) (by decide) dX0_layDown_23 (fun hc23 => ?_) (fun hc23 => ?_)
    | refine k_if_eq C (tgt := 41) (by decide) dX0_layDown_23 (fun hc23 => ?_) (fun hc23 => ?_)
    · skip
      have hcm : r (142 + 4 * k) = -1 := hck.resolve_right (fun ⟨m, e, hm⟩ => hc23 ⟨by rw [e]; exact nI_pos' (by omega), by rw [e, PR_1 hpr]; exact nI_lt hm (by omega)⟩)
      obtain ⟨I1, hI1⟩ : ∃ z : am_I, z = I := ⟨_, rfl⟩
      rw [← hI1]
      have hA : ∀ A K : Nat, A ≠ q + 4 → I1 A K = I A K := fun A K h => by rw [hI1]
      have h4 : ∀ m : Nat, m < sp_nc r → I1 (q + 4) m = sp_car (sp_lay r k) m := fun m hm => by
        rw [hI1, sp_car_lay hk (by omega), if_neg (fun e => nI_m1 (by omega) (e.symm.trans hcm))]
        exact CRa_10 hr hm
      refine k_aload_n C (f := 0) (i := 0) (p := 1) rfl rfl dX0_layDown_41 ?_
      refine k_getR C f_X0_36 (L0_s (by assumption)) (fun _ _ _ => rfl) (L0_15 (by assumption)) dX0_layDown_42 ?_
      refine k_iload_n C (f := 1) (i := 1) (p := 2) rfl rfl dX0_layDown_45 ?_
      refine k_iconst C ic_m1 dX0_layDown_46 ?_
      refine k_iast C (A0_15 (by assumption)) (by first | rfl | assumption) (by omega) (by decide) dX0_layDown_47 ?_
      obtain ⟨I2, hI2⟩ : ∃ z : am_I, z = am_up I1 (q + 8) k (-1) := ⟨_, rfl⟩
      rw [← hI2]
      refine k_aload_n C (f := 0) (i := 0) (p := 1) rfl rfl dX0_layDown_48 ?_
      refine k_getR C f_X0_39 (L0_s (by assumption)) (fun _ _ _ => rfl) (L0_16 (by assumption)) dX0_layDown_49 ?_
      refine k_iload_n C (f := 1) (i := 1) (p := 2) rfl rfl dX0_layDown_52 ?_
      refine k_aload_n C (f := 0) (i := 0) (p := 1) rfl rfl dX0_layDown_53 ?_
      refine k_getI C f_X0_46 (L0_s (by assumption)) (fun _ _ _ => rfl) (Eq.trans (by rw [hI2, am_up_n2 (by omega), hA _ _ (by omega)]) (CR_1 hr)) dX0_layDown_54 ?_
      refine k_iast C (A0_16 (by assumption)) (by first | rfl | assumption) (by omega) (by decide) dX0_layDown_57 ?_
      exact k_vret C (Nat.le_of_ble_eq_true rfl) (Nat.le_of_ble_eq_true rfl) (⟨rfl, rfl, ⟨rfl, CR_load hl hr hk (fun i g1 g2 => by unfold sp_lay; rw [upd_ne g2, upd_ne g1]) (fun A K g1 g2 g3 => by rw [am_up_n2 (by omega), hI2, am_up_n2 (by omega), hA _ _ g1]) (by rw [am_up_n2 (by omega), hI2, am_up_eq, sp_lay, upd_ne (by omega), upd_eq]) (fun _ => by rw [am_up_eq, sp_lay, upd_eq]) (fun K g => by rw [am_up_n2 (by omega), hI2, am_up_n2 (by omega), hA _ _ (by omega)]) (fun m hm => by rw [am_up_n2 (by omega), hI2, am_up_n2 (by omega)]; exact h4 m hm), fun b g1 g2 => by funext K; rw [am_up_n2 (by omega), hI2, am_up_n2 (by omega), hA _ _ (by omega)]⟩⟩) dX0_layDown_58
    · skip
      obtain ⟨m, hcm, hm⟩ : ∃ m : Nat, r (142 + 4 * k) = nI m ∧ m < sp_nc r := hck.resolve_left (fun e => absurd hc23.1 (by rw [e]; decide))
      refine k_aload_n C (f := 0) (i := 0) (p := 1) rfl rfl dX0_layDown_26 ?_
      refine k_getR C f_X0_24 (L0_s (by assumption)) (fun _ _ _ => rfl) (L0_10 (by assumption)) dX0_layDown_27 ?_
      refine k_iload_n C (f := 2) (i := 2) (p := 0) rfl rfl dX0_layDown_30 ?_
      refine k_dup2 C rfl rfl dX0_layDown_31 ?_
      refine k_iald C (A0_10 (by assumption)) (by first | rfl | assumption) (by omega) (by decide) (by first | exact CRa_10 (by assumption) (by omega) | assumption | rfl) dX0_layDown_32 ?_
      refine k_aload_n C (f := 0) (i := 0) (p := 1) rfl rfl dX0_layDown_33 ?_
      refine k_getR C f_X0_30 (L0_s (by assumption)) (fun _ _ _ => rfl) (L0_13 (by assumption)) dX0_layDown_34 ?_
      refine k_iload_n C (f := 1) (i := 1) (p := 2) rfl rfl dX0_layDown_37 ?_
      refine k_iald C (A0_13 (by assumption)) (by first | rfl | assumption) (by omega) (by decide) (by first | exact CRa_13 (by assumption) (by omega) | assumption | rfl) dX0_layDown_38 ?_
      refine k_isub C dX0_layDown_39 ?_
      refine k_iast C (A0_10 (by assumption)) (by first | rfl | assumption) (by omega) (by decide) dX0_layDown_40 ?_
      obtain ⟨I1, hI1⟩ : ∃ z : am_I, z = am_up I (q + 4) m (sp_car r m - r (140 + 4 * k)) := ⟨_, rfl⟩
      rw [← hI1]
      have hA : ∀ A K : Nat, A ≠ q + 4 → I1 A K = I A K := fun A K h => by rw [hI1, am_up_n2 (fun e => h e.1)]
      have h4 : ∀ i : Nat, i < sp_nc r → I1 (q + 4) i = sp_car (sp_lay r k) i := fun i hi => by
        rw [hI1, sp_car_lay hk (by omega)]
        by_cases e : i = m
        · rw [e, am_up_eq, if_pos hcm]
        · rw [am_up_n2 (fun z => e z.2), if_neg (fun z => e (nI_inj (by omega) (by omega) (z.symm.trans hcm)))]
          exact CRa_10 hr hi
      refine k_aload_n C (f := 0) (i := 0) (p := 1) rfl rfl dX0_layDown_41 ?_
      refine k_getR C f_X0_36 (L0_s (by assumption)) (fun _ _ _ => rfl) (L0_15 (by assumption)) dX0_layDown_42 ?_
      refine k_iload_n C (f := 1) (i := 1) (p := 2) rfl rfl dX0_layDown_45 ?_
      refine k_iconst C ic_m1 dX0_layDown_46 ?_
      refine k_iast C (A0_15 (by assumption)) (by first | rfl | assumption) (by omega) (by decide) dX0_layDown_47 ?_
      obtain ⟨I2, hI2⟩ : ∃ z : am_I, z = am_up I1 (q + 8) k (-1) := ⟨_, rfl⟩
      rw [← hI2]
      refine k_aload_n C (f := 0) (i := 0) (p := 1) rfl rfl dX0_layDown_48 ?_
      refine k_getR C f_X0_39 (L0_s (by assumption)) (fun _ _ _ => rfl) (L0_16 (by assumption)) dX0_layDown_49 ?_
      refine k_iload_n C (f := 1) (i := 1) (p := 2) rfl rfl dX0_layDown_52 ?_
      refine k_aload_n C (f := 0) (i := 0) (p := 1) rfl rfl dX0_layDown_53 ?_
      refine k_getI C f_X0_46 (L0_s (by assumption)) (fun _ _ _ => rfl) (Eq.trans (by rw [hI2, am_up_n2 (by omega), hA _ _ (by omega)]) (CR_1 hr)) dX0_layDown_54 ?_
      refine k_iast C (A0_16 (by assumption)) (by first | rfl | assumption) (by omega) (by decide) dX0_layDown_57 ?_
      exact k_vret C (Nat.le_of_ble_eq_true rfl) (Nat.le_of_ble_eq_true rfl) (⟨rfl, rfl, ⟨rfl, CR_load hl hr hk (fun i g1 g2 => by unfold sp_lay; rw [upd_ne g2, upd_ne g1]) (fun A K g1 g2 g3 => by rw [am_up_n2 (by omega), hI2, am_up_n2 (by omega), hA _ _ g1]) (by rw [am_up_n2 (by omega), hI2, am_up_eq, sp_lay, upd_ne (by omega), upd_eq]) (fun _ => by rw [am_up_eq, sp_lay, upd_eq]) (fun K g => by rw [am_up_n2 (by omega), hI2, am_up_n2 (by omega), hA _ _ (by omega)]) (fun m hm => by rw [am_up_n2 (by omega), hI2, am_up_n2 (by omega)]; exact h4 m hm), fun b g1 g2 => by funext K; rw [am_up_n2 (by omega), hI2, am_up_n2 (by omega), hA _ _ (by omega)]⟩⟩) dX0_layDown_58
set_option maxHeartbeats 4000000 in
set_option maxRecDepth 100000 in
theorem ct_X0_hangOn {G : am_G} {Λ : am_L} {I : am_I} {J : am_J} {c q p : Nat} {r : Nat → Int32} {k j : Nat} (hl : CarLay Λ c q p) (hr : CarRel I c q p r) (hk : k < sp_nl r) (hj : j < sp_nc r) (hcm : r (142 + 4 * k) = -1) : am_Ct G yX0_hangOn cX0_hangOn 3 none { frames := 1, cells := 0, slots := 0, locals := 21 } [.ref c, .int (nI k), .int (nI j)] Λ I J (am_gen Λ J (fun v I' => v = none ∧ CarRel I' c q p (sp_hang r k j) ∧ am_fr c q I I')) am_never := by
  refine am_ct_of (own := RX0) rfl (by decide) (Nat.le_of_ble_eq_true rfl) (fun X C => ?_)
  change am_K G X { frames := 1, cells := 0, slots := 0, locals := 21 } 3 Λ I J 0 0 0 [(0, .ref c), (1, .int (nI k)), (2, .int (nI j))] []
  have hp := L0_p hl
  have hpr := CR_p hr
  have hnc := PR_c hpr
  have hnl := CR_l hr
  have d1 := L0_d1 hl
  refine k_aload_n C (f := 0) (i := 0) (p := 0) rfl rfl dX0_hangOn_0 ?_
  refine k_iload_n C (f := 1) (i := 1) (p := 1) rfl rfl dX0_hangOn_1 ?_
  refine k_callVp C s_X0_123 h_X0_hasLoad (L0_s (by assumption)) rfl (ct_X0_hasLoadN (by first | assumption | omega) (by first | assumption | omega) (by first | assumption | omega)) rfl rfl (Nat.le_of_ble_eq_true rfl) ⟨Nat.le_of_ble_eq_true rfl, Nat.le_of_ble_eq_true rfl⟩ ⟨Nat.le_of_ble_eq_true rfl, Nat.le_of_ble_eq_true rfl⟩ ⟨rfl, rfl⟩ dX0_hangOn_2 ?_
  first
  | refine k_ifb_eq C (tgt := 41) (by decide) dX0_hangOn_5 (fun hc5 => ?_) (fun hc5 => ?_)
  | refine k_if_eq C (tgt := 41) (by decide) dX0_hangOn_5 (fun hc5 => ?_) (fun hc5 => ?_)
  · skip
    exact absurd hk hc5
  · skip
    refine k_aload_n C (f := 0) (i := 0) (p := 0) rfl rfl dX0_hangOn_8 ?_
    refine k_getR C f_X0_42 (L0_s (by assumption)) (fun _ _ _ => rfl) (L0_0 (by assumption)) dX0_hangOn_9 ?_
    refine k_iload_n C (f := 2) (i := 2) (p := 2) rfl rfl dX0_hangOn_12 ?_
    refine k_callVp C s_X0_100 h_X3_hasCamel (L3_s (by assumption)) rfl (ct_X3_hasCamelN (by first | assumption | omega) (by first | assumption | omega) (by first | assumption | omega)) rfl rfl (Nat.le_of_ble_eq_true rfl) ⟨Nat.le_of_ble_eq_true rfl, Nat.le_of_ble_eq_true rfl⟩ ⟨Nat.le_of_ble_eq_true rfl, Nat.le_of_ble_eq_true rfl⟩ ⟨rfl, rfl⟩ dX0_hangOn_13 ?_
    first
    | refine k_ifb_eq C (tgt := 41) (by decide) dX0_hangOn_16 (fun hc16 => ?_) (fun hc16 => ?_)
    | refine k_if_eq C (tgt := 41) (by decide) dX0_hangOn_16 (fun hc16 => ?_) (fun hc16 => ?_)
    · skip
      exact absurd hj hc16
    · skip
      refine k_aload_n C (f := 0) (i := 0) (p := 0) rfl rfl dX0_hangOn_19 ?_
      refine k_getR C f_X0_36 (L0_s (by assumption)) (fun _ _ _ => rfl) (L0_15 (by assumption)) dX0_hangOn_20 ?_
      refine k_iload_n C (f := 1) (i := 1) (p := 1) rfl rfl dX0_hangOn_23 ?_
      refine k_iload_n C (f := 2) (i := 2) (p := 2) rfl rfl dX0_hangOn_24 ?_
      refine k_iast C (A0_15 (by assumption)) (by first | rfl | assumption) (by omega) (by decide) dX0_hangOn_25 ?_
      obtain ⟨I1, hI1⟩ : ∃ z : am_I, z = am_up I (q + 8) k (nI j) := ⟨_, rfl⟩
      rw [← hI1]
      refine k_aload_n C (f := 0) (i := 0) (p := 0) rfl rfl dX0_hangOn_26 ?_
      refine k_getR C f_X0_24 (L0_s (by assumption)) (fun _ _ _ => rfl) (L0_10 (by assumption)) dX0_hangOn_27 ?_
      refine k_iload_n C (f := 2) (i := 2) (p := 2) rfl rfl dX0_hangOn_30 ?_
      refine k_dup2 C rfl rfl dX0_hangOn_31 ?_
      refine k_iald C (A0_10 (by assumption)) (by first | rfl | assumption) (by omega) (by decide) (Eq.trans (by rw [hI1, am_up_n2 (by omega)]) (CRa_10 hr hj)) dX0_hangOn_32 ?_
      refine k_aload_n C (f := 0) (i := 0) (p := 0) rfl rfl dX0_hangOn_33 ?_
      refine k_getR C f_X0_30 (L0_s (by assumption)) (fun _ _ _ => rfl) (L0_13 (by assumption)) dX0_hangOn_34 ?_
      refine k_iload_n C (f := 1) (i := 1) (p := 1) rfl rfl dX0_hangOn_37 ?_
      refine k_iald C (A0_13 (by assumption)) (by first | rfl | assumption) (by omega) (by decide) (Eq.trans (by rw [hI1, am_up_n2 (by omega)]) (CRa_13 hr hk)) dX0_hangOn_38 ?_
      refine k_iadd C dX0_hangOn_39 ?_
      refine k_iast C (A0_10 (by assumption)) (by first | rfl | assumption) (by omega) (by decide) dX0_hangOn_40 ?_
      exact k_vret C (Nat.le_of_ble_eq_true rfl) (Nat.le_of_ble_eq_true rfl) (⟨rfl, rfl, ⟨rfl, CR_load hl hr hk (fun i g1 g2 => by unfold sp_hang; rw [upd_ne g1]) (fun A K g1 g2 g3 => by rw [am_up_n2 (by omega), hI1, am_up_n2 (by omega)]) (by rw [am_up_n2 (by omega), hI1, am_up_eq, sp_hang, upd_eq]) (fun e => absurd e (by rw [sp_hang, upd_eq]; exact nI_pos (by omega))) (fun K g => by rw [am_up_n2 (by omega), hI1, am_up_n2 (by omega)]) (fun m hm => by
          rw [sp_car_hang hk (by omega) (by omega) hcm]
          by_cases e : m = j
          · rw [e, am_up_eq, if_pos rfl]
          · rw [am_up_n2 (fun z => e z.2), if_neg (fun z => e z.symm), hI1, am_up_n2 (by omega)]
            exact CRa_10 hr hm), fun b g1 g2 => by funext K; rw [am_up_n2 (by omega), hI1, am_up_n2 (by omega)]⟩⟩) dX0_hangOn_41
