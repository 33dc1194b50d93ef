set_option maxHeartbeats 4000000 in
set_option maxRecDepth 100000 in
theorem ct_X0_endDay {G : am_G} {Λ : am_L} {I : am_I} {J : am_J} {c q p : Nat} {r : Nat → Int32} {ld : Nat} (hl : CarLay Λ c q p) (hr : CarRel I c q p r) (hld : r 4 = nI ld) (hlc : ld < sp_nc r) : am_Ct G yX0_endDay cX0_endDay 2 none { frames := 3, cells := 0, slots := 0, locals := 66 } [.ref c] Λ I J (am_gen Λ J (fun v I' => v = none ∧ CarRel I' c q p (sp_endDay r) ∧ am_fr c q I I')) am_never := by
  refine am_ct_of (own := RX0) rfl (by decide) (Nat.le_of_ble_eq_true rfl) (fun X C => ?_)
  change am_K G X { frames := 3, cells := 0, slots := 0, locals := 66 } 2 Λ I J 0 0 0 [(0, .ref c)] []
  have hp := L0_p hl
  have hpr := CR_p hr
  have hnc := PR_c hpr
  have hnl := CR_l hr
  have hnw := PR_w hpr
  have sl := sc_lead r
  have sl2 := sl.2.1
  refine k_aload_n C (f := 0) (i := 0) (p := 0) rfl rfl dX0_endDay_0 ?_
  refine k_aload_n C (f := 0) (i := 0) (p := 0) rfl rfl dX0_endDay_1 ?_
  refine k_getI C f_X0_57 (L0_s (by assumption)) (fun _ _ _ => rfl) ((CR_4 hr).trans hld) dX0_endDay_2 ?_
  refine k_callVp C s_X0_104 h_X0_isLiving (L0_s (by assumption)) rfl (ct_X0_isLiving (by first | assumption | omega) (by first | assumption | omega) (by first | assumption | omega)) rfl rfl (Nat.le_of_ble_eq_true rfl) ⟨Nat.le_of_ble_eq_true rfl, Nat.le_of_ble_eq_true rfl⟩ ⟨Nat.le_of_ble_eq_true rfl, Nat.le_of_ble_eq_true rfl⟩ ⟨rfl, rfl⟩ dX0_endDay_5 ?_
  first
  | refine k_ifb_ne C (tgt := 33) (by decide) dX0_endDay_8 (fun hc8 => ?_) (fun hc8 => ?_)
  | refine k_if_ne C (tgt := 33) (by decide) dX0_endDay_8 (fun hc8 => ?_) (fun hc8 => ?_)
  · skip
    obtain ⟨I1, hI1⟩ : ∃ z : am_I, z = I := ⟨_, rfl⟩
    rw [← hI1]
    have hr1 : CarRel I1 c q p (sp_lead r) := by rw [hI1, lead_a hld (by omega) hc8.2]; exact hr
    have hf1 : am_fr c q I I1 := by rw [hI1]; exact am_fr.rf
    refine k_iconst C ic_0 dX0_endDay_33 ?_
    refine k_istore_n C (f := 1) (i := 1) (lv := [(1, _), (0, _)]) rfl (Nat.le_of_ble_eq_true rfl) rfl dX0_endDay_34 ?_
    have loop35 : ∀ (f : Nat) (k : Nat) (I2 : am_I), (k ≤ sp_nw r) → (CarRel I2 c q p (sp_wellsTo (sp_lead r) k)) → (am_fr c q I I2) → (sp_nw r - k) < f → am_K G X { frames := 3, cells := 0, slots := 0, locals := 66 } 2 Λ I2 J 0 0 35 [(0, .ref c), (1, .int (nI k))] [] := by
      intro f
      induction f with
      | zero => intro k I2 hk hr2 hf2 hf; exact absurd hf (Nat.not_lt_zero _)
      | succ f ih35 =>
        intro k I2 hk hr2 hf2 hf
        have hpr2 := CR_p hr2
        have s2 := (sc_wells (sp_lead r) k).2.1
        refine k_iload_n C (f := 1) (i := 1) (p := 1) rfl rfl dX0_endDay_35 ?_
        refine k_aload_n C (f := 0) (i := 0) (p := 0) rfl rfl dX0_endDay_36 ?_
        refine k_getR C f_X0_42 (L0_s (by assumption)) (fun _ _ _ => rfl) (L0_0 (by assumption)) dX0_endDay_37 ?_
        refine k_getI C f_X0_80 (L3_s (by assumption)) (fun _ _ _ => rfl) (by first | exact PR_5 (by assumption) | assumption | rfl) dX0_endDay_40 ?_
        first
        | refine k_icmpN_ge C (tgt := 86) (by omega) (by omega) (by decide) dX0_endDay_43 (fun hc43 => ?_) (fun hc43 => ?_)
        | refine k_icmp_ge C (tgt := 86) (by decide) dX0_endDay_43 (fun hc43 => ?_) (fun hc43 => ?_)
        · skip
          refine k_aload_n C (f := 0) (i := 0) (p := 0) rfl rfl dX0_endDay_86 ?_
          refine k_dup C rfl dX0_endDay_87 ?_
          refine k_getI C f_X0_50 (L0_s (by assumption)) (fun _ _ _ => rfl) (CR_2 hr2) dX0_endDay_88 ?_
          refine k_iconst C ic_1 dX0_endDay_91 ?_
          refine k_iadd C dX0_endDay_92 ?_
          refine k_putI C f_X0_50 (L0_s (by assumption)) rfl rfl dX0_endDay_93 ?_
          exact k_vret C (Nat.le_of_ble_eq_true rfl) (Nat.le_of_ble_eq_true rfl) (⟨rfl, rfl, ⟨rfl, by
              have h9 := CU_day (x := (sp_wellsTo (sp_lead r) k) 2 + nI 1) hl hr2
              rw [show k = sp_nw r by omega] at h9 ⊢
              exact h9, hf2.up (Or.inl rfl)⟩⟩) dX0_endDay_96
        · skip
          refine k_aload_n C (f := 0) (i := 0) (p := 0) rfl rfl dX0_endDay_46 ?_
          refine k_getR C f_X0_27 (L0_s (by assumption)) (fun _ _ _ => rfl) (L0_11 (by assumption)) dX0_endDay_47 ?_
          refine k_iload_n C (f := 1) (i := 1) (p := 1) rfl rfl dX0_endDay_50 ?_
          refine k_aload_n C (f := 0) (i := 0) (p := 0) rfl rfl dX0_endDay_51 ?_
          refine k_getR C f_X0_42 (L0_s (by assumption)) (fun _ _ _ => rfl) (L0_0 (by assumption)) dX0_endDay_52 ?_
          refine k_getR C f_X0_83 (L3_s (by assumption)) (fun _ _ _ => rfl) (L3_7 (by assumption)) dX0_endDay_55 ?_
          refine k_iload_n C (f := 1) (i := 1) (p := 1) rfl rfl dX0_endDay_58 ?_
          refine k_iald C (A3_7 (by assumption)) (by first | rfl | assumption) (by omega) (by decide) (by first | exact PRa_7 (by assumption) (by omega) | assumption | rfl) dX0_endDay_59 ?_
          refine k_aload_n C (f := 0) (i := 0) (p := 0) rfl rfl dX0_endDay_60 ?_
          refine k_getR C f_X0_27 (L0_s (by assumption)) (fun _ _ _ => rfl) (L0_11 (by assumption)) dX0_endDay_61 ?_
          refine k_iload_n C (f := 1) (i := 1) (p := 1) rfl rfl dX0_endDay_64 ?_
          refine k_iald C (A0_11 (by assumption)) (by first | rfl | assumption) (by omega) (by decide) (by first | exact CRa_11 (by assumption) (by omega) | assumption | rfl) dX0_endDay_65 ?_
          refine k_aload_n C (f := 0) (i := 0) (p := 0) rfl rfl dX0_endDay_66 ?_
          refine k_getR C f_X0_42 (L0_s (by assumption)) (fun _ _ _ => rfl) (L0_0 (by assumption)) dX0_endDay_67 ?_
          refine k_getR C f_X0_164 (L3_s (by assumption)) (fun _ _ _ => rfl) (L3_8 (by assumption)) dX0_endDay_70 ?_
          refine k_iload_n C (f := 1) (i := 1) (p := 1) rfl rfl dX0_endDay_73 ?_
          refine k_iald C (A3_8 (by assumption)) (by first | rfl | assumption) (by omega) (by decide) (by first | exact PRa_8 (by assumption) (by omega) | assumption | rfl) dX0_endDay_74 ?_
          refine k_iadd C dX0_endDay_75 ?_
          refine k_min C ((rfl : _ = sp_min _ _)) m_X0_129 ⟨Nat.le_of_ble_eq_true rfl, Nat.le_of_ble_eq_true rfl⟩ ⟨Nat.le_of_ble_eq_true rfl, Nat.le_of_ble_eq_true rfl⟩ dX0_endDay_76 ?_
          refine k_iast C (A0_11 (by assumption)) (by first | rfl | assumption) (by omega) (by decide) dX0_endDay_79 ?_
          have hr3 := CU_level (k := k) (x := sp_min ((sp_wellsTo (sp_lead r) k) (91 + 4 * k)) ((sp_wellsTo (sp_lead r) k) (93 + 4 * k) + (sp_wellsTo (sp_lead r) k) (92 + 4 * k))) hl hr2 (by omega)
          have hf3 : am_fr c q I (am_up I2 (q + 5) (k) (sp_min ((sp_wellsTo (sp_lead r) k) (91 + 4 * k)) ((sp_wellsTo (sp_lead r) k) (93 + 4 * k) + (sp_wellsTo (sp_lead r) k) (92 + 4 * k)))) := hf2.up (Or.inr (by omega))
          generalize hgI3 : am_up I2 (q + 5) (k) (sp_min ((sp_wellsTo (sp_lead r) k) (91 + 4 * k)) ((sp_wellsTo (sp_lead r) k) (93 + 4 * k) + (sp_wellsTo (sp_lead r) k) (92 + 4 * k))) = I3 at hr3 hf3 ⊢
          refine k_iinc C (i := 1) (p := 1) (lv := [(1, _), (0, _)]) (Nat.le_of_ble_eq_true rfl) rfl (by first | exact am_inc1 _ | rfl) rfl dX0_endDay_80 ?_
          refine k_goto C (tgt := 35) (by decide) dX0_endDay_83 ?_
          refine k_sub [1, 0] rfl ?_
          exact ih35 (k + 1) _ (by omega) hr3 hf3 (by omega)
    refine k_sub [1, 0] rfl ?_
    exact loop35 (sp_nw r + 1) 0 I1 (Nat.zero_le _) hr1 hf1 (by omega)
  · skip
    have hdead : ¬ r (16 + 8 * ld) < nI 3 := fun e => hc8 ⟨hlc, e⟩
    refine k_aload_n C (f := 0) (i := 0) (p := 0) rfl rfl dX0_endDay_11 ?_
    refine k_callVp C s_X0_161 h_X0_quickest (L0_s (by assumption)) rfl (ct_X0_quickest (by first | assumption | omega) (by first | assumption | omega)) rfl rfl (Nat.le_of_ble_eq_true rfl) ⟨Nat.le_of_ble_eq_true rfl, Nat.le_of_ble_eq_true rfl⟩ ⟨Nat.le_of_ble_eq_true rfl, Nat.le_of_ble_eq_true rfl⟩ ⟨rfl, rfl⟩ dX0_endDay_12 ?_
    refine k_istore_n C (f := 1) (i := 1) (lv := [(1, _), (0, _)]) rfl (Nat.le_of_ble_eq_true rfl) rfl dX0_endDay_15 ?_
    refine k_aload_n C (f := 0) (i := 0) (p := 1) rfl rfl dX0_endDay_16 ?_
    refine k_iload_n C (f := 1) (i := 1) (p := 0) rfl rfl dX0_endDay_17 ?_
    refine k_iconst C ic_m1 dX0_endDay_18 ?_
    refine k_icmp_ne C (tgt := 29) (by decide) dX0_endDay_19 (fun hc19 => ?_) (fun hc19 => ?_)
    · skip
      refine k_iload_n C (f := 1) (i := 1) (p := 0) rfl rfl dX0_endDay_29 ?_
      refine k_putI C f_X0_57 (L0_s (by assumption)) rfl rfl dX0_endDay_30 ?_
      first
      | (have hr1 := CU_lead (x := sp_fast r) hl hr
         rw [← lead_c hld (by omega) hdead (by
           obtain ⟨m, hm, hmk, hma⟩ := (sp_fastTo_or r (sp_nc r)).resolve_left hc19
           rw [sp_fast, hm]
           exact nI_pos (by omega))] at hr1
         have hf1 : am_fr c q I (am_up I c 4 (sp_fast r)) := am_fr.rf.up (Or.inl rfl)
         generalize am_up I c 4 (sp_fast r) = I1 at hr1 hf1 ⊢)
      | (have hr1 := CU_lead (x := nI ld) hl hr
         rw [show upd r 4 (nI ld) = sp_lead r from (by rw [lead_b hld (by omega) hdead (by rw [show sp_fast r = -1 from hc19]; decide), ← hld, upd_id])] at hr1
         have hf1 : am_fr c q I (am_up I c 4 (nI ld)) := am_fr.rf.up (Or.inl rfl)
         generalize am_up I c 4 (nI ld) = I1 at hr1 hf1 ⊢)
      refine k_iconst C ic_0 dX0_endDay_33 ?_
      refine k_istore_n C (f := 1) (i := 1) (lv := [(1, _), (0, _)]) rfl (Nat.le_of_ble_eq_true rfl) rfl dX0_endDay_34 ?_
      have loop35 : ∀ (f : Nat) (k : Nat) (I2 : am_I), (k ≤ sp_nw r) → (CarRel I2 c q p (sp_wellsTo (sp_lead r) k)) → (am_fr c q I I2) → (sp_nw r - k) < f → am_K G X { frames := 3, cells := 0, slots := 0, locals := 66 } 2 Λ I2 J 0 0 35 [(0, .ref c), (1, .int (nI k))] [] := by
        intro f
        induction f with
        | zero => intro k I2 hk hr2 hf2 hf; exact absurd hf (Nat.not_lt_zero _)
        | succ f ih35 =>
          intro k I2 hk hr2 hf2 hf
          have hpr2 := CR_p hr2
          have s2 := (sc_wells (sp_lead r) k).2.1
          refine k_iload_n C (f := 1) (i := 1) (p := 1) rfl rfl dX0_endDay_35 ?_
          refine k_aload_n C (f := 0) (i := 0) (p := 0) rfl rfl dX0_endDay_36 ?_
          refine k_getR C f_X0_42 (L0_s (by assumption)) (fun _ _ _ => rfl) (L0_0 (by assumption)) dX0_endDay_37 ?_
          refine k_getI C f_X0_80 (L3_s (by assumption)) (fun _ _ _ => rfl) (by first | exact PR_5 (by assumption) | assumption | rfl) dX0_endDay_40 ?_
          first
          | refine k_icmpN_ge C (tgt := 86) (by omega) (by omega) (by decide) dX0_endDay_43 (fun hc43 => ?_) (fun hc43 => ?_)
          | refine k_icmp_ge C (tgt := 86) (by decide) dX0_endDay_43 (fun hc43 => ?_) (fun hc43 => ?_)
          · skip
            refine k_aload_n C (f := 0) (i := 0) (p := 0) rfl rfl dX0_endDay_86 ?_
            refine k_dup C rfl dX0_endDay_87 ?_
            refine k_getI C f_X0_50 (L0_s (by assumption)) (fun _ _ _ => rfl) (CR_2 hr2) dX0_endDay_88 ?_
            refine k_iconst C ic_1 dX0_endDay_91 ?_
            refine k_iadd C dX0_endDay_92 ?_
            refine k_putI C f_X0_50 (L0_s (by assumption)) rfl rfl dX0_endDay_93 ?_
            exact k_vret C (Nat.le_of_ble_eq_true rfl) (Nat.le_of_ble_eq_true rfl) (⟨rfl, rfl, ⟨rfl, by
                have h9 := CU_day (x := (sp_wellsTo (sp_lead r) k) 2 + nI 1) hl hr2
                rw [show k = sp_nw r by omega] at h9 ⊢
                exact h9, hf2.up (Or.inl rfl)⟩⟩) dX0_endDay_96
          · skip
            refine k_aload_n C (f := 0) (i := 0) (p := 0) rfl rfl dX0_endDay_46 ?_
            refine k_getR C f_X0_27 (L0_s (by assumption)) (fun _ _ _ => rfl) (L0_11 (by assumption)) dX0_endDay_47 ?_
            refine k_iload_n C (f := 1) (i := 1) (p := 1) rfl rfl dX0_endDay_50 ?_
            refine k_aload_n C (f := 0) (i := 0) (p := 0) rfl rfl dX0_endDay_51 ?_
            refine k_getR C f_X0_42 (L0_s (by assumption)) (fun _ _ _ => rfl) (L0_0 (by assumption)) dX0_endDay_52 ?_
            refine k_getR C f_X0_83 (L3_s (by assumption)) (fun _ _ _ => rfl) (L3_7 (by assumption)) dX0_endDay_55 ?_
            refine k_iload_n C (f := 1) (i := 1) (p := 1) rfl rfl dX0_endDay_58 ?_
            refine k_iald C (A3_7 (by assumption)) (by first | rfl | assumption) (by omega) (by decide) (by first | exact PRa_7 (by assumption) (by omega) | assumption | rfl) dX0_endDay_59 ?_
            refine k_aload_n C (f := 0) (i := 0) (p := 0) rfl rfl dX0_endDay_60 ?_
            refine k_getR C f_X0_27 (L0_s (by assumption)) (fun _ _ _ => rfl) (L0_11 (by assumption)) dX0_endDay_61 ?_
            refine k_iload_n C (f := 1) (i := 1) (p := 1) rfl rfl dX0_endDay_64 ?_
            refine k_iald C (A0_11 (by assumption)) (by first | rfl | assumption) (by omega) (by decide) (by first | exact CRa_11 (by assumption) (by omega) | assumption | rfl) dX0_endDay_65 ?_
            refine k_aload_n C (f := 0) (i := 0) (p := 0) rfl rfl dX0_endDay_66 ?_
            refine k_getR C f_X0_42 (L0_s (by assumption)) (fun _ _ _ => rfl) (L0_0 (by assumption)) dX0_endDay_67 ?_
            refine k_getR C f_X0_164 (L3_s (by assumption)) (fun _ _ _ => rfl) (L3_8 (by assumption)) dX0_endDay_70 ?_
            refine k_iload_n C (f := 1) (i := 1) (p := 1) rfl rfl dX0_endDay_73 ?_
            refine k_iald C (A3_8 (by assumption)) (by first | rfl | assumption) (by omega) (by decide) (by first | exact PRa_8 (by assumption) (by omega) | assumption | rfl) dX0_endDay_74 ?_
            refine k_iadd C dX0_endDay_75 ?_
            refine k_min C ((rfl : _ = sp_min _ _)) m_X0_129 ⟨Nat.le_of_ble_eq_true rfl, Nat.le_of_ble_eq_true rfl⟩ ⟨Nat.le_of_ble_eq_true rfl, Nat.le_of_ble_eq_true rfl⟩ dX0_endDay_76 ?_
            refine k_iast C (A0_11 (by assumption)) (by first | rfl | assumption) (by omega) (by decide) dX0_endDay_79 ?_
            have hr3 := CU_level (k := k) (x := sp_min ((sp_wellsTo (sp_lead r) k) (91 + 4 * k)) ((sp_wellsTo (sp_lead r) k) (93 + 4 * k) + (sp_wellsTo (sp_lead r) k) (92 + 4 * k))) hl hr2 (by omega)
            have hf3 : am_fr c q I (am_up I2 (q + 5) (k) (sp_min ((sp_wellsTo (sp_lead r) k) (91 + 4 * k)) ((sp_wellsTo (sp_lead r) k) (93 + 4 * k) + (sp_wellsTo (sp_lead r) k) (92 + 4 * k)))) := hf2.up (Or.inr (by omega))
            generalize hgI3 : am_up I2 (q + 5) (k) (sp_min ((sp_wellsTo (sp_lead r) k) (91 + 4 * k)) ((sp_wellsTo (sp_lead r) k) (93 + 4 * k) + (sp_wellsTo (sp_lead r) k) (92 + 4 * k))) = I3 at hr3 hf3 ⊢
            refine k_iinc C (i := 1) (p := 1) (lv := [(1, _), (0, _)]) (Nat.le_of_ble_eq_true rfl) rfl (by first | exact am_inc1 _ | rfl) rfl dX0_endDay_80 ?_
            refine k_goto C (tgt := 35) (by decide) dX0_endDay_83 ?_
            refine k_sub [1, 0] rfl ?_
            exact ih35 (k + 1) _ (by omega) hr3 hf3 (by omega)
      refine k_sub [1, 0] rfl ?_
      exact loop35 (sp_nw r + 1) 0 I1 (Nat.zero_le _) hr1 hf1 (by omega)
    · skip
      refine k_aload_n C (f := 0) (i := 0) (p := 1) rfl rfl dX0_endDay_22 ?_
      refine k_getI C f_X0_57 (L0_s (by assumption)) (fun _ _ _ => rfl) ((CR_4 hr).trans hld) dX0_endDay_23 ?_
      refine k_goto C (tgt := 30) (by decide) dX0_endDay_26 ?_
      refine k_putI C f_X0_57 (L0_s (by assumption)) rfl rfl dX0_endDay_30 ?_
      first
      | (have hr1 := CU_lead (x := sp_fast r) hl hr
         rw [← lead_c hld (by omega) hdead (by
           obtain ⟨m, hm, hmk, hma⟩ := (sp_fastTo_or r (sp_nc r)).resolve_left hc19
           rw [sp_fast, hm]
           exact nI_pos (by omega))] at hr1
         have hf1 : am_fr c q I (am_up I c 4 (sp_fast r)) := am_fr.rf.up (Or.inl rfl)
         generalize am_up I c 4 (sp_fast r) = I1 at hr1 hf1 ⊢)
      | (have hr1 := CU_lead (x := nI ld) hl hr
         rw [show upd r 4 (nI ld) = sp_lead r from (by rw [lead_b hld (by omega) hdead (by rw [show sp_fast r = -1 from hc19]; decide), ← hld, upd_id])] at hr1
         have hf1 : am_fr c q I (am_up I c 4 (nI ld)) := am_fr.rf.up (Or.inl rfl)
         generalize am_up I c 4 (nI ld) = I1 at hr1 hf1 ⊢)
      refine k_iconst C ic_0 dX0_endDay_33 ?_
      refine k_istore_n C (f := 1) (i := 1) (lv := [(1, _), (0, _)]) rfl (Nat.le_of_ble_eq_true rfl) rfl dX0_endDay_34 ?_
      have loop35 : ∀ (f : Nat) (k : Nat) (I2 : am_I), (k ≤ sp_nw r) → (CarRel I2 c q p (sp_wellsTo (sp_lead r) k)) → (am_fr c q I I2) → (sp_nw r - k) < f → am_K G X { frames := 3, cells := 0, slots := 0, locals := 66 } 2 Λ I2 J 0 0 35 [(0, .ref c), (1, .int (nI k))] [] := by
        intro f
        induction f with
        | zero => intro k I2 hk hr2 hf2 hf; exact absurd hf (Nat.not_lt_zero _)
        | succ f ih35 =>
          intro k I2 hk hr2 hf2 hf
          have hpr2 := CR_p hr2
          have s2 := (sc_wells (sp_lead r) k).2.1
          refine k_iload_n C (f := 1) (i := 1) (p := 1) rfl rfl dX0_endDay_35 ?_
          refine k_aload_n C (f := 0) (i := 0) (p := 0) rfl rfl dX0_endDay_36 ?_
          refine k_getR C f_X0_42 (L0_s (by assumption)) (fun _ _ _ => rfl) (L0_0 (by assumption)) dX0_endDay_37 ?_
          refine k_getI C f_X0_80 (L3_s (by assumption)) (fun _ _ _ => rfl) (by first | exact PR_5 (by assumption) | assumption | rfl) dX0_endDay_40 ?_
          first
          | refine k_icmpN_ge C (tgt := 86) (by omega) (by omega) (by decide) dX0_endDay_43 (fun hc43 => ?_) (fun hc43 => ?_)
          | refine k_icmp_ge C (tgt := 86) (by decide) dX0_endDay_43 (fun hc43 => ?_) (fun hc43 => ?_)
          · skip
            refine k_aload_n C (f := 0) (i := 0) (p := 0) rfl rfl dX0_endDay_86 ?_
            refine k_dup C rfl dX0_endDay_87 ?_
            refine k_getI C f_X0_50 (L0_s (by assumption)) (fun _ _ _ => rfl) (CR_2 hr2) dX0_endDay_88 ?_
            refine k_iconst C ic_1 dX0_endDay_91 ?_
            refine k_iadd C dX0_endDay_92 ?_
            refine k_putI C f_X0_50 (L0_s (by assumption)) rfl rfl dX0_endDay_93 ?_
            exact k_vret C (Nat.le_of_ble_eq_true rfl) (Nat.le_of_ble_eq_true rfl) (⟨rfl, rfl, ⟨rfl, by
                have h9 := CU_day (x := (sp_wellsTo (sp_lead r) k) 2 + nI 1) hl hr2
                rw [show k = sp_nw r by omega] at h9 ⊢
                exact h9, hf2.up (Or.inl rfl)⟩⟩) dX0_endDay_96
          · skip
            refine k_aload_n C (f := 0) (i := 0) (p := 0) rfl rfl dX0_endDay_46 ?_
            refine k_getR C f_X0_27 (L0_s (by assumption)) (fun _ _ _ => rfl) (L0_11 (by assumption)) dX0_endDay_47 ?_
            refine k_iload_n C (f := 1) (i := 1) (p := 1) rfl rfl dX0_endDay_50 ?_
            refine k_aload_n C (f := 0) (i := 0) (p := 0) rfl rfl dX0_endDay_51 ?_
            refine k_getR C f_X0_42 (L0_s (by assumption)) (fun _ _ _ => rfl) (L0_0 (by assumption)) dX0_endDay_52 ?_
            refine k_getR C f_X0_83 (L3_s (by assumption)) (fun _ _ _ => rfl) (L3_7 (by assumption)) dX0_endDay_55 ?_
            refine k_iload_n C (f := 1) (i := 1) (p := 1) rfl rfl dX0_endDay_58 ?_
            refine k_iald C (A3_7 (by assumption)) (by first | rfl | assumption) (by omega) (by decide) (by first | exact PRa_7 (by assumption) (by omega) | assumption | rfl) dX0_endDay_59 ?_
            refine k_aload_n C (f := 0) (i := 0) (p := 0) rfl rfl dX0_endDay_60 ?_
            refine k_getR C f_X0_27 (L0_s (by assumption)) (fun _ _ _ => rfl) (L0_11 (by assumption)) dX0_endDay_61 ?_
            refine k_iload_n C (f := 1) (i := 1) (p := 1) rfl rfl dX0_endDay_64 ?_
            refine k_iald C (A0_11 (by assumption)) (by first | rfl | assumption) (by omega) (by decide) (by first | exact CRa_11 (by assumption) (by omega) | assumption | rfl) dX0_endDay_65 ?_
            refine k_aload_n C (f := 0) (i := 0) (p := 0) rfl rfl dX0_endDay_66 ?_
            refine k_getR C f_X0_42 (L0_s (by assumption)) (fun _ _ _ => rfl) (L0_0 (by assumption)) dX0_endDay_67 ?_
            refine k_getR C f_X0_164 (L3_s (by assumption)) (fun _ _ _ => rfl) (L3_8 (by assumption)) dX0_endDay_70 ?_
            refine k_iload_n C (f := 1) (i := 1) (p := 1) rfl rfl dX0_endDay_73 ?_
            refine k_iald C (A3_8 (by assumption)) (by first | rfl | assumption) (by omega) (by decide) (by first | exact PRa_8 (by assumption) (by omega) | assumption | rfl) dX0_endDay_74 ?_
            refine k_iadd C dX0_endDay_75 ?_
            refine k_min C ((rfl : _ = sp_min _ _)) m_X0_129 ⟨Nat.le_of_ble_eq_true rfl, Nat.le_of_ble_eq_true rfl⟩ ⟨Nat.le_of_ble_eq_true rfl, Nat.le_of_ble_eq_true rfl⟩ dX0_endDay_76 ?_
            refine k_iast C (A0_11 (by assumption)) (by first | rfl | assumption) (by omega) (by decide) dX0_endDay_79 ?_
            have hr3 := CU_level (k := k) (x := sp_min ((sp_wellsTo (sp_lead r) k) (91 + 4 * k)) ((sp_wellsTo (sp_lead r) k) (93 + 4 * k) + (sp_wellsTo (sp_lead r) k) (92 + 4 * k))) hl hr2 (by omega)
            have hf3 : am_fr c q I (am_up I2 (q + 5) (k) (sp_min ((sp_wellsTo (sp_lead r) k) (91 + 4 * k)) ((sp_wellsTo (sp_lead r) k) (93 + 4 * k) + (sp_wellsTo (sp_lead r) k) (92 + 4 * k)))) := hf2.up (Or.inr (by omega))
            generalize hgI3 : am_up I2 (q + 5) (k) (sp_min ((sp_wellsTo (sp_lead r) k) (91 + 4 * k)) ((sp_wellsTo (sp_lead r) k) (93 + 4 * k) + (sp_wellsTo (sp_lead r) k) (92 + 4 * k))) = I3 at hr3 hf3 ⊢
            refine k_iinc C (i := 1) (p := 1) (lv := [(1, _), (0, _)]) (Nat.le_of_ble_eq_true rfl) rfl (by first | exact am_inc1 _ | rfl) rfl dX0_endDay_80 ?_
            refine k_goto C (tgt := 35) (by decide) dX0_endDay_83 ?_
            refine k_sub [1, 0] rfl ?_
            exact ih35 (k + 1) _ (by omega) hr3 hf3 (by omega)
      refine k_sub [1, 0] rfl ?_
      exact loop35 (sp_nw r + 1) 0 I1 (Nat.zero_le _) hr1 hf1 (by omega)
set_option maxHeartbeats 4000000 in
set_option maxRecDepth 100000 in
theorem ct_X0_passTravelDay {G : am_G} {Λ : am_L} {I : am_I} {J : am_J} {c q p : Nat} {r : Nat → Int32} {ld : Nat} (hl : CarLay Λ c q p) (hr : CarRel I c q p r) (hld : r 4 = nI ld) (hlc : ld < sp_nc r) (h3 : r 3 = 0 ∨ r 3 = 1) (hw : ∀ k : Nat, k < sp_nw r → r (90 + 4 * k) < nI 1000) (hW : RowW r) (hlv : 0 < sp_living r) : am_Ct G yX0_passTravelDay cX0_passTravelDay 5 (some .int) { frames := 4, cells := 0, slots := 0, locals := 87 } [.ref c] Λ I J (am_gen Λ J (fun v I' => v = some (.int (sp_dist r ld)) ∧ CarRel I' c q p (sp_travel r ld) ∧ am_fr c q I I')) am_never := by
  refine am_ct_of (own := RX0) rfl (by decide) (Nat.le_of_ble_eq_true rfl) (fun X C => ?_)
  change am_K G X { frames := 4, cells := 0, slots := 0, locals := 87 } 5 Λ I J 0 0 0 [(0, .ref c)] []
  have hp := L0_p hl
  have hpr := CR_p hr
  have hnc := PR_c hpr
  have hnl := CR_l hr
  have hnb : sp_nc (upd r 1 (r 1 + sp_dist r ld)) = sp_nc r := sp_nc_upd (by omega)
  have hWb : RowW (upd r 1 (r 1 + sp_dist r ld)) := hW.up (by omega) (fun m _ => by omega)
  refine k_aload_n C (f := 0) (i := 0) (p := 0) rfl rfl dX0_passTravelDay_0 ?_
  refine k_aload_n C (f := 0) (i := 0) (p := 0) rfl rfl dX0_passTravelDay_1 ?_
  refine k_getI C f_X0_57 (L0_s (by assumption)) (fun _ _ _ => rfl) ((CR_4 hr).trans hld) dX0_passTravelDay_2 ?_
  refine k_callVp C s_X0_107 h_X0_speedOf (L0_s (by assumption)) rfl (ct_X0_speedOf hl hr hlc) rfl rfl (Nat.le_of_ble_eq_true rfl) ⟨Nat.le_of_ble_eq_true rfl, Nat.le_of_ble_eq_true rfl⟩ ⟨Nat.le_of_ble_eq_true rfl, Nat.le_of_ble_eq_true rfl⟩ ⟨rfl, rfl⟩ dX0_passTravelDay_5 ?_
  refine k_istore_n C (f := 1) (i := 1) (lv := [(1, _), (0, _)]) rfl (Nat.le_of_ble_eq_true rfl) rfl dX0_passTravelDay_8 ?_
  refine k_aload_n C (f := 0) (i := 0) (p := 1) rfl rfl dX0_passTravelDay_9 ?_
  refine k_getR C f_X0_42 (L0_s (by assumption)) (fun _ _ _ => rfl) (L0_0 (by assumption)) dX0_passTravelDay_10 ?_
  refine k_aload_n C (f := 0) (i := 0) (p := 1) rfl rfl dX0_passTravelDay_13 ?_
  refine k_getI C f_X0_50 (L0_s (by assumption)) (fun _ _ _ => rfl) (by first | exact CR_2 (by assumption) | assumption | rfl) dX0_passTravelDay_14 ?_
  refine k_callVp C s_X0_126 h_X3_greatestStorm (L3_s (by assumption)) rfl (ct_X3_greatestStorm hp hpr) rfl rfl (Nat.le_of_ble_eq_true rfl) ⟨Nat.le_of_ble_eq_true rfl, Nat.le_of_ble_eq_true rfl⟩ ⟨Nat.le_of_ble_eq_true rfl, Nat.le_of_ble_eq_true rfl⟩ ⟨rfl, rfl⟩ dX0_passTravelDay_17 ?_
  refine k_istore_n C (f := 2) (i := 2) (lv := [(2, _), (1, _), (0, _)]) rfl (Nat.le_of_ble_eq_true rfl) rfl dX0_passTravelDay_20 ?_
  refine k_aload_n C (f := 0) (i := 0) (p := 2) rfl rfl dX0_passTravelDay_21 ?_
  refine k_callVp C s_X0_138 h_X0_distanceNow (L0_s (by assumption)) rfl (ct_X0_distanceNow hl hr hld hlc h3 hw) rfl rfl (Nat.le_of_ble_eq_true rfl) ⟨Nat.le_of_ble_eq_true rfl, Nat.le_of_ble_eq_true rfl⟩ ⟨Nat.le_of_ble_eq_true rfl, Nat.le_of_ble_eq_true rfl⟩ ⟨rfl, rfl⟩ dX0_passTravelDay_22 ?_
  rw [if_neg (show ¬ sp_living r = 0 by omega)]
  refine k_istore_n C (f := 3) (i := 3) (lv := [(3, _), (2, _), (1, _), (0, _)]) rfl (Nat.le_of_ble_eq_true rfl) rfl dX0_passTravelDay_25 ?_
  refine k_aload_n C (f := 0) (i := 0) (p := 3) rfl rfl dX0_passTravelDay_26 ?_
  refine k_dup C rfl dX0_passTravelDay_27 ?_
  refine k_getI C f_X0_46 (L0_s (by assumption)) (fun _ _ _ => rfl) (by first | exact CR_1 (by assumption) | assumption | rfl) dX0_passTravelDay_28 ?_
  refine k_iload_n C (f := 3) (i := 3) (p := 0) rfl rfl dX0_passTravelDay_31 ?_
  refine k_iadd C dX0_passTravelDay_32 ?_
  refine k_putI C f_X0_46 (L0_s (by assumption)) rfl rfl dX0_passTravelDay_33 ?_
  have hr1 := CU_km (x := r 1 + sp_dist r ld) hl hr
  have hf1 : am_fr c q I (am_up I c 1 (r 1 + sp_dist r ld)) := am_fr.rf.up (Or.inl rfl)
  generalize hgI1 : am_up I c 1 (r 1 + sp_dist r ld) = I1 at hr1 hf1 ⊢
  refine k_iconst C ic_0 dX0_passTravelDay_36 ?_
  refine k_istore C (i := 4) (lv := [(4, _), (3, _), (2, _), (1, _), (0, _)]) (Nat.le_of_ble_eq_true rfl) rfl dX0_passTravelDay_37 ?_
  have loop39 : ∀ (f : Nat) (k : Nat) (I2 : am_I), (k ≤ sp_nc r) → (CarRel I2 c q p (sp_goTo (upd r 1 (r 1 + sp_dist r ld)) (sp_speed r ld) (sp_storm r (r 2)) k)) → (am_fr c q I I2) → (sp_nc r - k) < f → am_K G X { frames := 4, cells := 0, slots := 0, locals := 87 } 5 Λ I2 J 0 0 39 [(0, .ref c), (1, .int (sp_speed r ld)), (2, .int (sp_storm r (r 2))), (3, .int (sp_dist r ld)), (4, .int (nI k))] [] := by
    intro f
    induction f with
    | zero => intro k I2 hk hr2 hf2 hf; exact absurd hf (Nat.not_lt_zero _)
    | succ f ih39 =>
      intro k I2 hk hr2 hf2 hf
      have hpr2 := CR_p hr2
      have s2 := (sc_go (upd r 1 (r 1 + sp_dist r ld)) (sp_speed r ld) (sp_storm r (r 2)) k).1
      have W2 := RowW.go (ls := sp_speed r ld) (st := sp_storm r (r 2)) (k := k) hWb (by omega) (by omega)
      refine k_iload C (i := 4) (p := 4) rfl dX0_passTravelDay_39 ?_
      refine k_aload_n C (f := 0) (i := 0) (p := 0) rfl rfl dX0_passTravelDay_41 ?_
      refine k_getR C f_X0_42 (L0_s (by assumption)) (fun _ _ _ => rfl) (L0_0 (by assumption)) dX0_passTravelDay_42 ?_
      refine k_getI C f_X0_72 (L3_s (by assumption)) (fun _ _ _ => rfl) (by first | exact PR_1 (by assumption) | assumption | rfl) dX0_passTravelDay_45 ?_
      first
      | refine k_icmpN_ge C (tgt := 93) (by omega) (by omega) (by decide) dX0_passTravelDay_48 (fun hc48 => ?_) (fun hc48 => ?_)
      | refine k_icmp_ge C (tgt := 93) (by decide) dX0_passTravelDay_48 (fun hc48 => ?_) (fun hc48 => ?_)
      · skip
        refine k_aload_n C (f := 0) (i := 0) (p := 0) rfl rfl dX0_passTravelDay_93 ?_
        refine k_callVg C s_X0_151 h_X0_endDay (L0_s (by assumption)) rfl (ct_X0_endDay (ld := ld) hl hr2 (by rw [go_lo (by omega), upd_ne (by omega)]; exact hld) (by omega)) rfl rfl (Nat.le_of_ble_eq_true rfl) ⟨Nat.le_of_ble_eq_true rfl, Nat.le_of_ble_eq_true rfl⟩ ⟨Nat.le_of_ble_eq_true rfl, Nat.le_of_ble_eq_true rfl⟩ ⟨rfl, rfl⟩ dX0_passTravelDay_94 ?_
        intro v5 I5 hv5
        obtain ⟨rfl, hr5, hf5⟩ := hv5
        refine k_iload_n C (f := 3) (i := 3) (p := 3) rfl rfl dX0_passTravelDay_97 ?_
        exact k_iret C (Nat.le_of_ble_eq_true rfl) (Nat.le_of_ble_eq_true rfl) (⟨rfl, rfl, ⟨rfl, by rw [show k = sp_nc r by omega] at hr5; exact hr5, hf2.tr hf5⟩⟩) dX0_passTravelDay_98
      · skip
        refine k_aload_n C (f := 0) (i := 0) (p := 0) rfl rfl dX0_passTravelDay_51 ?_
        refine k_iload C (i := 4) (p := 4) rfl dX0_passTravelDay_52 ?_
        refine k_callVp C s_X0_104 h_X0_isLiving (L0_s (by assumption)) rfl (ct_X0_isLiving hl hr2 (by omega)) rfl rfl (Nat.le_of_ble_eq_true rfl) ⟨Nat.le_of_ble_eq_true rfl, Nat.le_of_ble_eq_true rfl⟩ ⟨Nat.le_of_ble_eq_true rfl, Nat.le_of_ble_eq_true rfl⟩ ⟨rfl, rfl⟩ dX0_passTravelDay_54 ?_
        first
        | refine k_ifb_eq C (tgt := 87) (by decide) dX0_passTravelDay_57 (fun hc57 => ?_) (fun hc57 => ?_)
        | refine k_if_eq C (tgt := 87) (by decide) dX0_passTravelDay_57 (fun hc57 => ?_) (fun hc57 => ?_)
        · skip
          refine k_iinc C (i := 4) (p := 4) (lv := [(4, _), (0, _), (1, _), (2, _), (3, _)]) (Nat.le_of_ble_eq_true rfl) rfl (by first | exact am_inc1 _ | rfl) rfl dX0_passTravelDay_87 ?_
          refine k_goto C (tgt := 39) (by decide) dX0_passTravelDay_90 ?_
          refine k_sub [1, 2, 3, 4, 0] rfl ?_
          first
          | exact ih39 (k + 1) _ (by omega) (by rw [sp_goTo_f (fun e => hc57 ⟨by omega, e⟩)]; exact hr2) hf2 (by omega)
          | exact ih39 (k + 1) _ (by omega) (by rw [sp_goTo_t hc57.2]; exact hr4) ((hf2.tr hf3).tr hf4) (by omega)
        · skip
          refine k_aload_n C (f := 0) (i := 0) (p := 0) rfl rfl dX0_passTravelDay_60 ?_
          refine k_iload C (i := 4) (p := 4) rfl dX0_passTravelDay_61 ?_
          refine k_iload_n C (f := 1) (i := 1) (p := 1) rfl rfl dX0_passTravelDay_63 ?_
          refine k_aload_n C (f := 0) (i := 0) (p := 0) rfl rfl dX0_passTravelDay_64 ?_
          refine k_iload C (i := 4) (p := 4) rfl dX0_passTravelDay_65 ?_
          refine k_callVp C s_X0_107 h_X0_speedOf (L0_s (by assumption)) rfl (ct_X0_speedOf hl hr2 (by omega)) rfl rfl (Nat.le_of_ble_eq_true rfl) ⟨Nat.le_of_ble_eq_true rfl, Nat.le_of_ble_eq_true rfl⟩ ⟨Nat.le_of_ble_eq_true rfl, Nat.le_of_ble_eq_true rfl⟩ ⟨rfl, rfl⟩ dX0_passTravelDay_67 ?_
          refine k_isub C dX0_passTravelDay_70 ?_
          refine k_callVg C s_X0_141 h_X0_tire (L0_s (by assumption)) rfl (ct_X0_tire hl hr2 (by omega)) rfl rfl (Nat.le_of_ble_eq_true rfl) ⟨Nat.le_of_ble_eq_true rfl, Nat.le_of_ble_eq_true rfl⟩ ⟨Nat.le_of_ble_eq_true rfl, Nat.le_of_ble_eq_true rfl⟩ ⟨rfl, rfl⟩ dX0_passTravelDay_71 ?_
          intro v3 I3 hv3
          obtain ⟨rfl, hr3, hf3⟩ := hv3
          have s3 := (sc_strain (sp_goTo (upd r 1 (r 1 + sp_dist r ld)) (sp_speed r ld) (sp_storm r (r 2)) k) k (sp_speed r ld - sp_speed (sp_goTo (upd r 1 (r 1 + sp_dist r ld)) (sp_speed r ld) (sp_storm r (r 2)) k) k)).1
          have s4 := (sc_limp (sp_strain (sp_goTo (upd r 1 (r 1 + sp_dist r ld)) (sp_speed r ld) (sp_storm r (r 2)) k) k (sp_speed r ld - sp_speed (sp_goTo (upd r 1 (r 1 + sp_dist r ld)) (sp_speed r ld) (sp_storm r (r 2)) k) k)) k).1
          have W3 := RowW.limp (RowW.strain (b := sp_speed r ld - sp_speed (sp_goTo (upd r 1 (r 1 + sp_dist r ld)) (sp_speed r ld) (sp_storm r (r 2)) k) k) W2 (by omega) (show k < _ by omega)) (by omega) (show k < _ by omega)
          obtain ⟨d, hd, hd2⟩ := W3.low (j := k) (by omega) (by rw [limp_at (by omega), strain_at (by omega)]; exact hc57.2)
          refine k_aload_n C (f := 0) (i := 0) (p := 0) rfl rfl dX0_passTravelDay_74 ?_
          refine k_iload C (i := 4) (p := 4) rfl dX0_passTravelDay_75 ?_
          refine k_aload_n C (f := 0) (i := 0) (p := 0) rfl rfl dX0_passTravelDay_77 ?_
          refine k_iload C (i := 4) (p := 4) rfl dX0_passTravelDay_78 ?_
          refine k_iload_n C (f := 2) (i := 2) (p := 2) rfl rfl dX0_passTravelDay_80 ?_
          refine k_callVp C s_X0_145 h_X0_needIn (L0_s (by assumption)) rfl (ct_X0_needIn hl hr3 (by omega)) rfl rfl (Nat.le_of_ble_eq_true rfl) ⟨Nat.le_of_ble_eq_true rfl, Nat.le_of_ble_eq_true rfl⟩ ⟨Nat.le_of_ble_eq_true rfl, Nat.le_of_ble_eq_true rfl⟩ ⟨rfl, rfl⟩ dX0_passTravelDay_81 ?_
          refine k_callVg C s_X0_148 h_X0_useWater (L0_s (by assumption)) rfl (ct_X0_useWater hl hr3 (by omega) hd hd2 W3.2) rfl rfl (Nat.le_of_ble_eq_true rfl) ⟨Nat.le_of_ble_eq_true rfl, Nat.le_of_ble_eq_true rfl⟩ ⟨Nat.le_of_ble_eq_true rfl, Nat.le_of_ble_eq_true rfl⟩ ⟨rfl, rfl⟩ dX0_passTravelDay_84 ?_
          intro v4 I4 hv4
          obtain ⟨rfl, hr4, hf4⟩ := hv4
          refine k_iinc C (i := 4) (p := 4) (lv := [(4, _), (0, _), (1, _), (2, _), (3, _)]) (Nat.le_of_ble_eq_true rfl) rfl (by first | exact am_inc1 _ | rfl) rfl dX0_passTravelDay_87 ?_
          refine k_goto C (tgt := 39) (by decide) dX0_passTravelDay_90 ?_
          refine k_sub [1, 2, 3, 4, 0] rfl ?_
          first
          | exact ih39 (k + 1) _ (by omega) (by rw [sp_goTo_f (fun e => hc57 ⟨by omega, e⟩)]; exact hr2) hf2 (by omega)
          | exact ih39 (k + 1) _ (by omega) (by rw [sp_goTo_t hc57.2]; exact hr4) ((hf2.tr hf3).tr hf4) (by omega)
  refine k_sub [4, 3, 2, 1, 0] rfl ?_
  exact loop39 (sp_nc r + 1) 0 I1 (Nat.zero_le _) hr1 hf1 (by omega)
set_option maxHeartbeats 4000000 in
set_option maxRecDepth 100000 in
theorem ct_X0_passRestDay {G : am_G} {Λ : am_L} {I : am_I} {J : am_J} {c q p : Nat} {r : Nat → Int32} {ld : Nat} (hl : CarLay Λ c q p) (hr : CarRel I c q p r) (hld : r 4 = nI ld) (hlc : ld < sp_nc r) (hW : RowW r) : am_Ct G yX0_passRestDay cX0_passRestDay 3 none { frames := 4, cells := 0, slots := 0, locals := 87 } [.ref c] Λ I J (am_gen Λ J (fun v I' => v = none ∧ CarRel I' c q p (sp_rest r) ∧ am_fr c q I I')) am_never := by
  refine am_ct_of (own := RX0) rfl (by decide) (Nat.le_of_ble_eq_true rfl) (fun X C => ?_)
  change am_K G X { frames := 4, cells := 0, slots := 0, locals := 87 } 3 Λ I J 0 0 0 [(0, .ref c)] []
  have hp := L0_p hl
  have hpr := CR_p hr
  have hnc := PR_c hpr
  have hnl := CR_l hr
  refine k_aload_n C (f := 0) (i := 0) (p := 0) rfl rfl dX0_passRestDay_0 ?_
  refine k_getR C f_X0_42 (L0_s (by assumption)) (fun _ _ _ => rfl) (L0_0 (by assumption)) dX0_passRestDay_1 ?_
  refine k_aload_n C (f := 0) (i := 0) (p := 0) rfl rfl dX0_passRestDay_4 ?_
  refine k_getI C f_X0_50 (L0_s (by assumption)) (fun _ _ _ => rfl) (by first | exact CR_2 (by assumption) | assumption | rfl) dX0_passRestDay_5 ?_
  refine k_callVp C s_X0_126 h_X3_greatestStorm (L3_s (by assumption)) rfl (ct_X3_greatestStorm hp hpr) rfl rfl (Nat.le_of_ble_eq_true rfl) ⟨Nat.le_of_ble_eq_true rfl, Nat.le_of_ble_eq_true rfl⟩ ⟨Nat.le_of_ble_eq_true rfl, Nat.le_of_ble_eq_true rfl⟩ ⟨rfl, rfl⟩ dX0_passRestDay_8 ?_
  refine k_istore_n C (f := 1) (i := 1) (lv := [(1, _), (0, _)]) rfl (Nat.le_of_ble_eq_true rfl) rfl dX0_passRestDay_11 ?_
  refine k_iconst C ic_0 dX0_passRestDay_12 ?_
  refine k_istore_n C (f := 2) (i := 2) (lv := [(2, _), (1, _), (0, _)]) rfl (Nat.le_of_ble_eq_true rfl) rfl dX0_passRestDay_13 ?_
  have loop14 : ∀ (f : Nat) (k : Nat) (I2 : am_I), (k ≤ sp_nc r) → (CarRel I2 c q p (sp_restTo r (sp_storm r (r 2)) k)) → (am_fr c q I I2) → (sp_nc r - k) < f → am_K G X { frames := 4, cells := 0, slots := 0, locals := 87 } 3 Λ I2 J 0 0 14 [(0, .ref c), (1, .int (sp_storm r (r 2))), (2, .int (nI k))] [] := by
    intro f
    induction f with
    | zero => intro k I2 hk hr2 hf2 hf; exact absurd hf (Nat.not_lt_zero _)
    | succ f ih14 =>
      intro k I2 hk hr2 hf2 hf
      have hpr2 := CR_p hr2
      have s2 := (sc_restTo r (sp_storm r (r 2)) k).1
      have W2 := RowW.restTo (st := sp_storm r (r 2)) (k := k) hW (by omega) (by omega)
      refine k_iload_n C (f := 2) (i := 2) (p := 2) rfl rfl dX0_passRestDay_14 ?_
      refine k_aload_n C (f := 0) (i := 0) (p := 0) rfl rfl dX0_passRestDay_15 ?_
      refine k_getR C f_X0_42 (L0_s (by assumption)) (fun _ _ _ => rfl) (L0_0 (by assumption)) dX0_passRestDay_16 ?_
      refine k_getI C f_X0_72 (L3_s (by assumption)) (fun _ _ _ => rfl) (by first | exact PR_1 (by assumption) | assumption | rfl) dX0_passRestDay_19 ?_
      first
      | refine k_icmpN_ge C (tgt := 60) (by omega) (by omega) (by decide) dX0_passRestDay_22 (fun hc22 => ?_) (fun hc22 => ?_)
      | refine k_icmp_ge C (tgt := 60) (by decide) dX0_passRestDay_22 (fun hc22 => ?_) (fun hc22 => ?_)
      · skip
        refine k_aload_n C (f := 0) (i := 0) (p := 0) rfl rfl dX0_passRestDay_60 ?_
        refine k_callVg C s_X0_151 h_X0_endDay (L0_s (by assumption)) rfl (ct_X0_endDay (ld := ld) hl hr2 (by rw [restTo_lo (by omega)]; exact hld) (by omega)) rfl rfl (Nat.le_of_ble_eq_true rfl) ⟨Nat.le_of_ble_eq_true rfl, Nat.le_of_ble_eq_true rfl⟩ ⟨Nat.le_of_ble_eq_true rfl, Nat.le_of_ble_eq_true rfl⟩ ⟨rfl, rfl⟩ dX0_passRestDay_61 ?_
        intro v5 I5 hv5
        obtain ⟨rfl, hr5, hf5⟩ := hv5
        exact k_vret C (Nat.le_of_ble_eq_true rfl) (Nat.le_of_ble_eq_true rfl) (⟨rfl, rfl, ⟨rfl, by rw [show k = sp_nc r by omega] at hr5; exact hr5, hf2.tr hf5⟩⟩) dX0_passRestDay_64
      · skip
        refine k_aload_n C (f := 0) (i := 0) (p := 0) rfl rfl dX0_passRestDay_25 ?_
        refine k_iload_n C (f := 2) (i := 2) (p := 2) rfl rfl dX0_passRestDay_26 ?_
        refine k_callVp C s_X0_104 h_X0_isLiving (L0_s (by assumption)) rfl (ct_X0_isLiving hl hr2 (by omega)) rfl rfl (Nat.le_of_ble_eq_true rfl) ⟨Nat.le_of_ble_eq_true rfl, Nat.le_of_ble_eq_true rfl⟩ ⟨Nat.le_of_ble_eq_true rfl, Nat.le_of_ble_eq_true rfl⟩ ⟨rfl, rfl⟩ dX0_passRestDay_27 ?_
        first
        | refine k_ifb_eq C (tgt := 54) (by decide) dX0_passRestDay_30 (fun hc30 => ?_) (fun hc30 => ?_)
        | refine k_if_eq C (tgt := 54) (by decide) dX0_passRestDay_30 (fun hc30 => ?_) (fun hc30 => ?_)
        · skip
          refine k_iinc C (i := 2) (p := 2) (lv := [(2, _), (0, _), (1, _)]) (Nat.le_of_ble_eq_true rfl) rfl (by first | exact am_inc1 _ | rfl) rfl dX0_passRestDay_54 ?_
          refine k_goto C (tgt := 14) (by decide) dX0_passRestDay_57 ?_
          refine k_sub [1, 2, 0] rfl ?_
          first
          | exact ih14 (k + 1) _ (by omega) (by rw [sp_restTo_f (fun e => hc30 ⟨by omega, e⟩)]; exact hr2) hf2 (by omega)
          | exact ih14 (k + 1) _ (by omega) (by rw [sp_restTo_t hc30.2]; exact hr4) ((hf2.tr hf3).tr hf4) (by omega)
        · skip
          refine k_aload_n C (f := 0) (i := 0) (p := 0) rfl rfl dX0_passRestDay_33 ?_
          refine k_iload_n C (f := 2) (i := 2) (p := 2) rfl rfl dX0_passRestDay_34 ?_
          refine k_iconst C ic_0 dX0_passRestDay_35 ?_
          refine k_callVg C s_X0_141 h_X0_tire (L0_s (by assumption)) rfl (ct_X0_tire hl hr2 (by omega)) rfl rfl (Nat.le_of_ble_eq_true rfl) ⟨Nat.le_of_ble_eq_true rfl, Nat.le_of_ble_eq_true rfl⟩ ⟨Nat.le_of_ble_eq_true rfl, Nat.le_of_ble_eq_true rfl⟩ ⟨rfl, rfl⟩ dX0_passRestDay_36 ?_
          intro v3 I3 hv3
          obtain ⟨rfl, hr3, hf3⟩ := hv3
          have s3 := (sc_strain (sp_restTo r (sp_storm r (r 2)) k) k (nI 0)).1
          have s4 := (sc_limp (sp_strain (sp_restTo r (sp_storm r (r 2)) k) k (nI 0)) k).1
          have W3 := RowW.limp (RowW.strain (b := nI 0) W2 (by omega) (show k < _ by omega)) (by omega) (show k < _ by omega)
          obtain ⟨d, hd, hd2⟩ := W3.low (j := k) (by omega) (by rw [limp_at (by omega), strain_at (by omega)]; exact hc30.2)
          refine k_aload_n C (f := 0) (i := 0) (p := 0) rfl rfl dX0_passRestDay_39 ?_
          refine k_iload_n C (f := 2) (i := 2) (p := 2) rfl rfl dX0_passRestDay_40 ?_
          refine k_aload_n C (f := 0) (i := 0) (p := 0) rfl rfl dX0_passRestDay_41 ?_
          refine k_iload_n C (f := 2) (i := 2) (p := 2) rfl rfl dX0_passRestDay_42 ?_
          refine k_iload_n C (f := 1) (i := 1) (p := 1) rfl rfl dX0_passRestDay_43 ?_
          refine k_callVp C s_X0_145 h_X0_needIn (L0_s (by assumption)) rfl (ct_X0_needIn hl hr3 (by omega)) rfl rfl (Nat.le_of_ble_eq_true rfl) ⟨Nat.le_of_ble_eq_true rfl, Nat.le_of_ble_eq_true rfl⟩ ⟨Nat.le_of_ble_eq_true rfl, Nat.le_of_ble_eq_true rfl⟩ ⟨rfl, rfl⟩ dX0_passRestDay_44 ?_
          refine k_iconst C ic_1 dX0_passRestDay_47 ?_
          refine k_iadd C dX0_passRestDay_48 ?_
          refine k_iconst C ic_2 dX0_passRestDay_49 ?_
          refine k_idiv C (by decide) dX0_passRestDay_50 ?_
          refine k_callVg C s_X0_148 h_X0_useWater (L0_s (by assumption)) rfl (ct_X0_useWater hl hr3 (by omega) hd hd2 W3.2) rfl rfl (Nat.le_of_ble_eq_true rfl) ⟨Nat.le_of_ble_eq_true rfl, Nat.le_of_ble_eq_true rfl⟩ ⟨Nat.le_of_ble_eq_true rfl, Nat.le_of_ble_eq_true rfl⟩ ⟨rfl, rfl⟩ dX0_passRestDay_51 ?_
          intro v4 I4 hv4
          obtain ⟨rfl, hr4, hf4⟩ := hv4
          refine k_iinc C (i := 2) (p := 2) (lv := [(2, _), (0, _), (1, _)]) (Nat.le_of_ble_eq_true rfl) rfl (by first | exact am_inc1 _ | rfl) rfl dX0_passRestDay_54 ?_
          refine k_goto C (tgt := 14) (by decide) dX0_passRestDay_57 ?_
          refine k_sub [1, 2, 0] rfl ?_
          first
          | exact ih14 (k + 1) _ (by omega) (by rw [sp_restTo_f (fun e => hc30 ⟨by omega, e⟩)]; exact hr2) hf2 (by omega)
          | exact ih14 (k + 1) _ (by omega) (by rw [sp_restTo_t hc30.2]; exact hr4) ((hf2.tr hf3).tr hf4) (by omega)
  refine k_sub [2, 1, 0] rfl ?_
  exact loop14 (sp_nc r + 1) 0 I (Nat.zero_le _) hr am_fr.rf (by omega)
