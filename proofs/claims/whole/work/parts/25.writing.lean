set_option maxHeartbeats 4000000 in
set_option maxRecDepth 100000 in
theorem ct_X4_put {G : am_G} {Λ : am_L} {I : am_I} {J : am_J} {w : Nat} {t : Nat × (Nat → Int32)} {m : Nat} (hw : WriLay Λ w) (ht : WriRel I w t) (hm : m < 128) (hr : t.1 < 140) : am_Ct G yX4_put cX4_put 2 none { frames := 0, cells := 0, slots := 0, locals := 0 } [.ref w, .int (nI m)] Λ I J (am_gen Λ J (fun v I' => v = none ∧ WriRel I' w (sp_pt t m) ∧ ∀ b : Nat, b ≠ w → b ≠ w + 1 → I' b = I b)) am_never := by
  refine am_ct_of (own := RX4) rfl (by decide) (Nat.le_of_ble_eq_true rfl) (fun X C => ?_)
  change am_K G X { frames := 0, cells := 0, slots := 0, locals := 0 } 2 Λ I J 0 0 0 [(0, .ref w), (1, .int (nI m))] []
  refine k_aload_n C (f := 0) (i := 0) (p := 0) rfl rfl dX4_put_0 ?_
  refine k_getI C f_X4_15 (L4_s (by assumption)) (fun _ _ _ => rfl) (ht.1) dX4_put_1 ?_
  refine k_sipush C sc_140 dX4_put_4 ?_
  first
  | refine k_icmpN_ge C (tgt := 31) (by omega) (by omega) (by decide) dX4_put_7 (fun hc7 => ?_) (fun hc7 => ?_)
  | refine k_icmp_ge C (tgt := 31) (by decide) dX4_put_7 (fun hc7 => ?_) (fun hc7 => ?_)
  · skip
    exact absurd hc7 (by omega)
  · skip
    refine k_aload_n C (f := 0) (i := 0) (p := 0) rfl rfl dX4_put_10 ?_
    refine k_getR C f_X4_9 (L4_s (by assumption)) (fun _ _ _ => rfl) (L4_0 (by assumption)) dX4_put_11 ?_
    refine k_aload_n C (f := 0) (i := 0) (p := 0) rfl rfl dX4_put_14 ?_
    refine k_getI C f_X4_15 (L4_s (by assumption)) (fun _ _ _ => rfl) (ht.1) dX4_put_15 ?_
    refine k_iload_n C (f := 1) (i := 1) (p := 1) rfl rfl dX4_put_18 ?_
    refine k_i2b C (nI_i2b hm) dX4_put_19 ?_
    refine k_bast C (A4_0 (by assumption)) (by first | rfl | assumption) (by omega) (by decide) dX4_put_20 ?_
    rw [show vp_nar FieldType.byte (nI m) = nI m from nI_i2b hm]
    obtain ⟨I1, hI1⟩ : ∃ z : am_I, z = am_up I (w + 1) t.1 (nI m) := ⟨_, rfl⟩
    rw [← hI1]
    refine k_aload_n C (f := 0) (i := 0) (p := 0) rfl rfl dX4_put_21 ?_
    refine k_dup C rfl dX4_put_22 ?_
    refine k_getI C f_X4_15 (L4_s (by assumption)) (fun _ _ _ => rfl) (Eq.trans (by rw [hI1, am_up_n2 (by omega)]) ht.1) dX4_put_23 ?_
    refine k_iconst C ic_1 dX4_put_26 ?_
    refine k_iadd C dX4_put_27 ?_
    refine k_putI C f_X4_15 (L4_s (by assumption)) rfl rfl dX4_put_28 ?_
    exact k_vret C (Nat.le_of_ble_eq_true rfl) (Nat.le_of_ble_eq_true rfl) (⟨rfl, rfl, ⟨rfl, ⟨by rw [am_up_eq, nI_add1]; rfl, TxtAt_pt ht.2 (fun j hj => by rw [am_up_n2 (by omega), hI1, am_up_n2 (fun e => hj e.2)]) (by rw [am_up_n2 (by omega), hI1, am_up_eq])⟩, fun b h1 h2 => by rw [am_up_ne h1, hI1, am_up_ne h2]⟩⟩) dX4_put_31
set_option maxHeartbeats 4000000 in
set_option maxRecDepth 100000 in
theorem ct_X4_putNumber {G : am_G} {Λ : am_L} {I : am_I} {J : am_J} {w : Nat} {t : Nat × (Nat → Int32)} {m : Nat} (hw : WriLay Λ w) (ht : WriRel I w t) (hm : m < 100) (hr : t.1 + 2 ≤ 140) : am_Ct G yX4_putNumber cX4_putNumber 2 none { frames := 1, cells := 0, slots := 0, locals := 21 } [.ref w, .int (nI m)] Λ I J (am_gen Λ J (fun v I' => v = none ∧ WriRel I' w (sp_pn t m) ∧ ∀ b : Nat, b ≠ w → b ≠ w + 1 → I' b = I b)) am_never := by
  refine am_ct_of (own := RX4) rfl (by decide) (Nat.le_of_ble_eq_true rfl) (fun X C => ?_)
  change am_K G X { frames := 1, cells := 0, slots := 0, locals := 21 } 2 Λ I J 0 0 0 [(0, .ref w), (1, .int (nI m))] []
  refine k_iload_n C (f := 1) (i := 1) (p := 1) rfl rfl dX4_putNumber_0 ?_
  refine k_bipush C bc_10 dX4_putNumber_1 ?_
  first
  | refine k_icmpN_lt C (tgt := 18) (by omega) (by omega) (by decide) dX4_putNumber_3 (fun hc3 => ?_) (fun hc3 => ?_)
  | refine k_icmp_lt C (tgt := 18) (by decide) dX4_putNumber_3 (fun hc3 => ?_) (fun hc3 => ?_)
  · skip
    refine k_aload_n C (f := 0) (i := 0) (p := 0) rfl rfl dX4_putNumber_18 ?_
    refine k_bipush C bc_48 dX4_putNumber_19 ?_
    refine k_iload_n C (f := 1) (i := 1) (p := 1) rfl rfl dX4_putNumber_21 ?_
    refine k_bipush C bc_10 dX4_putNumber_22 ?_
    refine k_irem C (by decide) dX4_putNumber_24 ?_
    refine k_iadd C dX4_putNumber_25 ?_
    rw [show nI 48 + (nI m - nI m / nI 10 * nI 10) = nI (48 + m % 10) by rw [pk_rem (by omega) (by omega) (by omega), nI_add]]
    refine k_i2c C (nI_i2c (m := 48 + m % 10) (by omega)) dX4_putNumber_26 ?_
    refine k_callVg C s_X4_37 h_X4_put (L4_s hw) rfl (ct_X4_put (m := 48 + m % 10) hw (by first | exact ht15 | exact ht) (by omega) (by first | exact (show (sp_pt t (48 + m / 10)).1 < 140 by rw [sp_pt_n]; omega) | omega)) rfl rfl (Nat.le_of_ble_eq_true rfl) ⟨Nat.le_of_ble_eq_true rfl, Nat.le_of_ble_eq_true rfl⟩ ⟨Nat.le_of_ble_eq_true rfl, Nat.le_of_ble_eq_true rfl⟩ ⟨rfl, rfl⟩ dX4_putNumber_27 ?_
    intro v I27 hv
    obtain ⟨rfl, ht27, hg27⟩ := hv
    exact k_vret C (Nat.le_of_ble_eq_true rfl) (Nat.le_of_ble_eq_true rfl) (⟨rfl, rfl, ⟨rfl, by
        unfold sp_pn
        first
        | (rw [if_neg (by omega)]; exact ht27)
        | (rw [if_pos (by omega)]; exact ht27), fun b h1 h2 => by
        first
        | exact (hg27 b h1 h2).trans (hg15 b h1 h2)
        | exact hg27 b h1 h2⟩⟩) dX4_putNumber_30
  · skip
    refine k_aload_n C (f := 0) (i := 0) (p := 0) rfl rfl dX4_putNumber_6 ?_
    refine k_bipush C bc_48 dX4_putNumber_7 ?_
    refine k_iload_n C (f := 1) (i := 1) (p := 1) rfl rfl dX4_putNumber_9 ?_
    refine k_bipush C bc_10 dX4_putNumber_10 ?_
    refine k_idiv C (by decide) dX4_putNumber_12 ?_
    refine k_iadd C dX4_putNumber_13 ?_
    rw [show nI 48 + nI m / nI 10 = nI (48 + m / 10) by rw [pk_div (by omega) (by omega) (by omega), nI_add]]
    refine k_i2c C (nI_i2c (m := 48 + m / 10) (by omega)) dX4_putNumber_14 ?_
    refine k_callVg C s_X4_37 h_X4_put (L4_s hw) rfl (ct_X4_put (m := 48 + m / 10) hw ht (by omega) (by omega)) rfl rfl (Nat.le_of_ble_eq_true rfl) ⟨Nat.le_of_ble_eq_true rfl, Nat.le_of_ble_eq_true rfl⟩ ⟨Nat.le_of_ble_eq_true rfl, Nat.le_of_ble_eq_true rfl⟩ ⟨rfl, rfl⟩ dX4_putNumber_15 ?_
    intro v I15 hv
    obtain ⟨rfl, ht15, hg15⟩ := hv
    have hf15 := hg15
    refine k_aload_n C (f := 0) (i := 0) (p := 0) rfl rfl dX4_putNumber_18 ?_
    refine k_bipush C bc_48 dX4_putNumber_19 ?_
    refine k_iload_n C (f := 1) (i := 1) (p := 1) rfl rfl dX4_putNumber_21 ?_
    refine k_bipush C bc_10 dX4_putNumber_22 ?_
    refine k_irem C (by decide) dX4_putNumber_24 ?_
    refine k_iadd C dX4_putNumber_25 ?_
    rw [show nI 48 + (nI m - nI m / nI 10 * nI 10) = nI (48 + m % 10) by rw [pk_rem (by omega) (by omega) (by omega), nI_add]]
    refine k_i2c C (nI_i2c (m := 48 + m % 10) (by omega)) dX4_putNumber_26 ?_
    refine k_callVg C s_X4_37 h_X4_put (L4_s hw) rfl (ct_X4_put (m := 48 + m % 10) hw (by first | exact ht15 | exact ht) (by omega) (by first | exact (show (sp_pt t (48 + m / 10)).1 < 140 by rw [sp_pt_n]; omega) | omega)) rfl rfl (Nat.le_of_ble_eq_true rfl) ⟨Nat.le_of_ble_eq_true rfl, Nat.le_of_ble_eq_true rfl⟩ ⟨Nat.le_of_ble_eq_true rfl, Nat.le_of_ble_eq_true rfl⟩ ⟨rfl, rfl⟩ dX4_putNumber_27 ?_
    intro v I27 hv
    obtain ⟨rfl, ht27, hg27⟩ := hv
    exact k_vret C (Nat.le_of_ble_eq_true rfl) (Nat.le_of_ble_eq_true rfl) (⟨rfl, rfl, ⟨rfl, by
        unfold sp_pn
        first
        | (rw [if_neg (by omega)]; exact ht27)
        | (rw [if_pos (by omega)]; exact ht27), fun b h1 h2 => by
        first
        | exact (hg27 b h1 h2).trans (hg15 b h1 h2)
        | exact hg27 b h1 h2⟩⟩) dX4_putNumber_30
set_option maxHeartbeats 4000000 in
set_option maxRecDepth 100000 in
theorem ct_X4_writeLine {G : am_G} {Λ : am_L} {I : am_I} {J : am_J} {w : Nat} {t : Nat × (Nat → Int32)} {c q p j : Nat} {r : Nat → Int32} (hw : WriLay Λ w) (ht : WriRel I w t) (hl : CarLay Λ c q p) (hr : CarRel I c q p r) (hj : j < sp_nc r) (hdw : (w + 1 < c ∨ c < w) ∧ (w + 1 < q ∨ q + 10 ≤ w) ∧ (w + 1 < p ∨ p + 10 ≤ w)) (hwx : ∃ x y : Nat, r (13 + 8 * j) = nI x ∧ r (12 + 8 * j) = nI y ∧ x < 100 ∧ y < 100) (hroom : t.1 + 8 + 3 * sp_hcnt r j (sp_nl r) ≤ 140) : am_Ct G yX4_writeLine cX4_writeLine 4 none { frames := 2, cells := 0, slots := 0, locals := 42 } [.ref w, .ref c, .int (nI j)] Λ I J (am_gen Λ J (fun v I' => v = none ∧ WriRel I' w (sp_line r j t) ∧ ∀ b : Nat, b ≠ w → b ≠ w + 1 → I' b = I b)) am_never := by
  refine am_ct_of (own := RX4) rfl (by decide) (Nat.le_of_ble_eq_true rfl) (fun X C => ?_)
  change am_K G X { frames := 2, cells := 0, slots := 0, locals := 42 } 4 Λ I J 0 0 0 [(0, .ref w), (1, .ref c), (2, .int (nI j))] []
  have hp := L0_p hl
  have hpr := CR_p hr
  have hnc := PR_c hpr
  have hnl := CR_l hr
  obtain ⟨x, y, hx, hy, hx9, hy9⟩ := hwx
  have ag : ∀ I1 : am_I, (∀ b : Nat, b ≠ w → b ≠ w + 1 → I1 b = I b) → CarRel I1 c q p r := fun I1 h => CR_agree hr (h c (by omega) (by omega)) (fun b g1 g2 => h b (by omega) (by omega)) (fun b g1 g2 => h b (by omega) (by omega))
  have w1n : (sp_w1 r j t).1 ≤ t.1 + 1 := by
    unfold sp_w1
    by_cases h : r 4 = nI j
    · rw [if_pos h]; exact Nat.le_refl _
    · rw [if_neg h]; omega
  have w2n := (sp_line_n r j t).2
  refine k_aload_n C (f := 1) (i := 1) (p := 1) rfl rfl dX4_writeLine_0 ?_
  refine k_getI C f_X4_34 (L0_s (by assumption)) (fun _ _ _ => rfl) (CR_4 hr) dX4_writeLine_1 ?_
  refine k_iload_n C (f := 2) (i := 2) (p := 2) rfl rfl dX4_writeLine_4 ?_
  refine k_icmp_ne C (tgt := 14) (by decide) dX4_writeLine_5 (fun hc5 => ?_) (fun hc5 => ?_)
  · skip
    obtain ⟨I1, hI1⟩ : ∃ z : am_I, z = I := ⟨_, rfl⟩
    have ht1 : WriRel I1 w (sp_w1 r j t) := by
      rw [hI1]
      unfold sp_w1
      rw [if_neg hc5]; exact ht
    have hf1 : ∀ b : Nat, b ≠ w → b ≠ w + 1 → I1 b = I b := by
      rw [hI1]
      exact fun _ _ _ => rfl
    rw [← hI1]
    clear hI1
    have hr1 := ag I1 hf1
    refine k_aload_n C (f := 0) (i := 0) (p := 0) rfl rfl dX4_writeLine_14 ?_
    refine k_aload_n C (f := 1) (i := 1) (p := 1) rfl rfl dX4_writeLine_15 ?_
    refine k_getR C f_X4_41 (L0_s (by assumption)) (fun _ _ _ => rfl) (L0_6 (by assumption)) dX4_writeLine_16 ?_
    refine k_iload_n C (f := 2) (i := 2) (p := 2) rfl rfl dX4_writeLine_19 ?_
    refine k_iald C (A0_6 (by assumption)) (by first | rfl | assumption) (by omega) (by decide) ((CRa_6 hr1 hj).trans hx) dX4_writeLine_20 ?_
    refine k_callVg C s_X4_45 h_X4_putNumber (L4_s hw) rfl (ct_X4_putNumber (m := x) hw ht1 hx9 (by omega)) rfl rfl (Nat.le_of_ble_eq_true rfl) ⟨Nat.le_of_ble_eq_true rfl, Nat.le_of_ble_eq_true rfl⟩ ⟨Nat.le_of_ble_eq_true rfl, Nat.le_of_ble_eq_true rfl⟩ ⟨rfl, rfl⟩ dX4_writeLine_21 ?_
    intro v I2 hv
    obtain ⟨rfl, ht2, hg2⟩ := hv
    have hf2 : ∀ b : Nat, b ≠ w → b ≠ w + 1 → I2 b = I b := fun b h1 h2 => (hg2 b h1 h2).trans (hf1 b h1 h2)
    have hr2 := ag I2 hf2
    refine k_aload_n C (f := 0) (i := 0) (p := 0) rfl rfl dX4_writeLine_24 ?_
    refine k_bipush C bc_47 dX4_writeLine_25 ?_
    refine k_callVg C s_X4_37 h_X4_put (L4_s hw) rfl (ct_X4_put (m := 47) hw ht2 (by decide) (by have := sp_pn_n (sp_w1 r j t) x; omega)) rfl rfl (Nat.le_of_ble_eq_true rfl) ⟨Nat.le_of_ble_eq_true rfl, Nat.le_of_ble_eq_true rfl⟩ ⟨Nat.le_of_ble_eq_true rfl, Nat.le_of_ble_eq_true rfl⟩ ⟨rfl, rfl⟩ dX4_writeLine_27 ?_
    intro v I3 hv
    obtain ⟨rfl, ht3, hg3⟩ := hv
    have hf3 : ∀ b : Nat, b ≠ w → b ≠ w + 1 → I3 b = I b := fun b h1 h2 => (hg3 b h1 h2).trans (hf2 b h1 h2)
    have hr3 := ag I3 hf3
    refine k_aload_n C (f := 0) (i := 0) (p := 0) rfl rfl dX4_writeLine_30 ?_
    refine k_aload_n C (f := 1) (i := 1) (p := 1) rfl rfl dX4_writeLine_31 ?_
    refine k_getR C f_X4_19 (L0_s (by assumption)) (fun _ _ _ => rfl) (L0_0 (by assumption)) dX4_writeLine_32 ?_
    refine k_getR C f_X4_49 (L3_s (by assumption)) (fun _ _ _ => rfl) (L3_4 (by assumption)) dX4_writeLine_35 ?_
    refine k_iload_n C (f := 2) (i := 2) (p := 2) rfl rfl dX4_writeLine_38 ?_
    refine k_iald C (A3_4 (by assumption)) (by first | rfl | assumption) (by omega) (by decide) ((PRa_4 (CR_p hr3) hj).trans hy) dX4_writeLine_39 ?_
    refine k_callVg C s_X4_45 h_X4_putNumber (L4_s hw) rfl (ct_X4_putNumber (m := y) hw ht3 hy9 (by have := sp_pn_n (sp_w1 r j t) x; rw [sp_pt_n]; omega)) rfl rfl (Nat.le_of_ble_eq_true rfl) ⟨Nat.le_of_ble_eq_true rfl, Nat.le_of_ble_eq_true rfl⟩ ⟨Nat.le_of_ble_eq_true rfl, Nat.le_of_ble_eq_true rfl⟩ ⟨rfl, rfl⟩ dX4_writeLine_40 ?_
    intro v I4 hv
    obtain ⟨rfl, ht4, hg4⟩ := hv
    have hf4 : ∀ b : Nat, b ≠ w → b ≠ w + 1 → I4 b = I b := fun b h1 h2 => (hg4 b h1 h2).trans (hf3 b h1 h2)
    have hr4 := ag I4 hf4
    have e2 : sp_pn (sp_pt (sp_pn (sp_w1 r j t) x) 47) y = sp_w2 r j t := by
      unfold sp_w2
      rw [hx, hy, nI_clamp (by omega), nI_clamp (by omega)]
    rw [e2] at ht4
    refine k_iconst C ic_0 dX4_writeLine_43 ?_
    refine k_istore_n C (f := 3) (i := 3) (lv := [(3, _), (0, _), (1, _), (2, _)]) rfl (Nat.le_of_ble_eq_true rfl) rfl dX4_writeLine_44 ?_
    have loop45 : ∀ (f : Nat) (k : Nat) (I5 : am_I), (k ≤ sp_nl r) → (WriRel I5 w (sp_wlTo r j (sp_w2 r j t) k)) → (∀ b : Nat, b ≠ w → b ≠ w + 1 → I5 b = I b) → (sp_nl r - k) < f → am_K G X { frames := 2, cells := 0, slots := 0, locals := 42 } 4 Λ I5 J 0 0 45 [(0, .ref w), (1, .ref c), (2, .int (nI j)), (3, .int (nI k))] [] := by
      intro f
      induction f with
      | zero => intro k I5 hk ht5 hf5 hf; exact absurd hf (Nat.not_lt_zero _)
      | succ f ih45 =>
        intro k I5 hk ht5 hf5 hf
        have hr5 := ag I5 hf5
        have hnl := CR_l hr
        have hn5 := sp_wlTo_n r j (sp_w2 r j t) k
        have hn6 := sp_hcnt_mono r j (show k ≤ sp_nl r from hk)
        refine k_iload_n C (f := 3) (i := 3) (p := 3) rfl rfl dX4_writeLine_45 ?_
        refine k_aload_n C (f := 1) (i := 1) (p := 1) rfl rfl dX4_writeLine_46 ?_
        refine k_getI C f_X4_52 (L0_s (by assumption)) (fun _ _ _ => rfl) (CR_12 hr5) dX4_writeLine_47 ?_
        first
        | refine k_icmpN_ge C (tgt := 80) (by omega) (by omega) (by decide) dX4_writeLine_50 (fun hc50 => ?_) (fun hc50 => ?_)
        | refine k_icmp_ge C (tgt := 80) (by decide) dX4_writeLine_50 (fun hc50 => ?_) (fun hc50 => ?_)
        · skip
          refine k_aload_n C (f := 1) (i := 1) (p := 1) rfl rfl dX4_writeLine_80 ?_
          refine k_iload_n C (f := 2) (i := 2) (p := 2) rfl rfl dX4_writeLine_81 ?_
          refine k_callVp C s_X4_58 h_X0_isLiving (L0_s (by assumption)) rfl (ct_X0_isLiving (by first | assumption | omega) (by first | assumption | omega) (by first | assumption | omega)) rfl rfl (Nat.le_of_ble_eq_true rfl) ⟨Nat.le_of_ble_eq_true rfl, Nat.le_of_ble_eq_true rfl⟩ ⟨Nat.le_of_ble_eq_true rfl, Nat.le_of_ble_eq_true rfl⟩ ⟨rfl, rfl⟩ dX4_writeLine_82 ?_
          refine k_ifb_ne C (tgt := 94) (by decide) dX4_writeLine_85 (fun hc85 => ?_) (fun hc85 => ?_)
          · skip
            refine k_aload_n C (f := 0) (i := 0) (p := 0) rfl rfl dX4_writeLine_94 ?_
            refine k_bipush C bc_10 dX4_writeLine_95 ?_
            refine k_callVg C s_X4_37 h_X4_put (L4_s hw) rfl (ct_X4_put (m := 10) hw (by first | exact ht8 | exact ht5) (by decide) (by first | (rw [sp_pt_n]; omega) | omega)) rfl rfl (Nat.le_of_ble_eq_true rfl) ⟨Nat.le_of_ble_eq_true rfl, Nat.le_of_ble_eq_true rfl⟩ ⟨Nat.le_of_ble_eq_true rfl, Nat.le_of_ble_eq_true rfl⟩ ⟨rfl, rfl⟩ dX4_writeLine_97 ?_
            intro v I9 hv
            obtain ⟨rfl, ht9, hg9⟩ := hv
            exact k_vret C (Nat.le_of_ble_eq_true rfl) (Nat.le_of_ble_eq_true rfl) (⟨rfl, rfl, ⟨rfl, by
                unfold sp_line sp_w3
                first
                | (rw [if_pos hc85.2, show sp_nl r = k by omega]; exact ht9)
                | (rw [if_neg (fun z => hc85 ⟨hj, z⟩), show sp_nl r = k by omega]; exact ht9), fun b h1 h2 => by
                first
                | exact (hg9 b h1 h2).trans ((hg8 b h1 h2).trans (hf5 b h1 h2))
                | exact (hg9 b h1 h2).trans (hf5 b h1 h2)⟩⟩) dX4_writeLine_100
          · skip
            refine k_aload_n C (f := 0) (i := 0) (p := 0) rfl rfl dX4_writeLine_88 ?_
            refine k_bipush C bc_33 dX4_writeLine_89 ?_
            refine k_callVg C s_X4_37 h_X4_put (L4_s hw) rfl (ct_X4_put (m := 33) hw ht5 (by decide) (by omega)) rfl rfl (Nat.le_of_ble_eq_true rfl) ⟨Nat.le_of_ble_eq_true rfl, Nat.le_of_ble_eq_true rfl⟩ ⟨Nat.le_of_ble_eq_true rfl, Nat.le_of_ble_eq_true rfl⟩ ⟨rfl, rfl⟩ dX4_writeLine_91 ?_
            intro v I8 hv
            obtain ⟨rfl, ht8, hg8⟩ := hv
            refine k_aload_n C (f := 0) (i := 0) (p := 0) rfl rfl dX4_writeLine_94 ?_
            refine k_bipush C bc_10 dX4_writeLine_95 ?_
            refine k_callVg C s_X4_37 h_X4_put (L4_s hw) rfl (ct_X4_put (m := 10) hw (by first | exact ht8 | exact ht5) (by decide) (by first | (rw [sp_pt_n]; omega) | omega)) rfl rfl (Nat.le_of_ble_eq_true rfl) ⟨Nat.le_of_ble_eq_true rfl, Nat.le_of_ble_eq_true rfl⟩ ⟨Nat.le_of_ble_eq_true rfl, Nat.le_of_ble_eq_true rfl⟩ ⟨rfl, rfl⟩ dX4_writeLine_97 ?_
            intro v I9 hv
            obtain ⟨rfl, ht9, hg9⟩ := hv
            exact k_vret C (Nat.le_of_ble_eq_true rfl) (Nat.le_of_ble_eq_true rfl) (⟨rfl, rfl, ⟨rfl, by
                unfold sp_line sp_w3
                first
                | (rw [if_pos hc85.2, show sp_nl r = k by omega]; exact ht9)
                | (rw [if_neg (fun z => hc85 ⟨hj, z⟩), show sp_nl r = k by omega]; exact ht9), fun b h1 h2 => by
                first
                | exact (hg9 b h1 h2).trans ((hg8 b h1 h2).trans (hf5 b h1 h2))
                | exact (hg9 b h1 h2).trans (hf5 b h1 h2)⟩⟩) dX4_writeLine_100
        · skip
          refine k_aload_n C (f := 1) (i := 1) (p := 1) rfl rfl dX4_writeLine_53 ?_
          refine k_getR C f_X4_55 (L0_s (by assumption)) (fun _ _ _ => rfl) (L0_15 (by assumption)) dX4_writeLine_54 ?_
          refine k_iload_n C (f := 3) (i := 3) (p := 3) rfl rfl dX4_writeLine_57 ?_
          refine k_iald C (A0_15 (by assumption)) (by first | rfl | assumption) (by omega) (by decide) (CRa_15 (k := k) hr5 (by omega)) dX4_writeLine_58 ?_
          refine k_iload_n C (f := 2) (i := 2) (p := 2) rfl rfl dX4_writeLine_59 ?_
          refine k_icmp_ne C (tgt := 74) (by decide) dX4_writeLine_60 (fun hc60 => ?_) (fun hc60 => ?_)
          · skip
            refine k_iinc C (i := 3) (p := 3) (lv := [(3, _), (0, _), (1, _), (2, _)]) (Nat.le_of_ble_eq_true rfl) rfl (by first | exact am_inc1 _ | rfl) rfl dX4_writeLine_74 ?_
            refine k_goto C (tgt := 45) (by decide) dX4_writeLine_77 ?_
            refine k_sub [1, 2, 3, 0] rfl ?_
            first
            | exact ih45 (k + 1) _ (by omega) (by rw [sp_wlTo_f hc60]; exact ht5) hf5 (by omega)
            | exact ih45 (k + 1) _ (by omega) (by rw [sp_wlTo_t hc60]; exact ht7) (fun b h1 h2 => (hg7 b h1 h2).trans ((hg6 b h1 h2).trans (hf5 b h1 h2))) (by omega)
          · skip
            have hn7 := sp_hcnt_mono r j (show k + 1 ≤ sp_nl r by omega)
            rw [sp_hcnt_s hc60] at hn7
            refine k_aload_n C (f := 0) (i := 0) (p := 0) rfl rfl dX4_writeLine_63 ?_
            refine k_bipush C bc_44 dX4_writeLine_64 ?_
            refine k_callVg C s_X4_37 h_X4_put (L4_s hw) rfl (ct_X4_put (m := 44) hw ht5 (by decide) (by omega)) rfl rfl (Nat.le_of_ble_eq_true rfl) ⟨Nat.le_of_ble_eq_true rfl, Nat.le_of_ble_eq_true rfl⟩ ⟨Nat.le_of_ble_eq_true rfl, Nat.le_of_ble_eq_true rfl⟩ ⟨rfl, rfl⟩ dX4_writeLine_66 ?_
            intro v I6 hv
            obtain ⟨rfl, ht6, hg6⟩ := hv
            refine k_aload_n C (f := 0) (i := 0) (p := 0) rfl rfl dX4_writeLine_69 ?_
            refine k_iload_n C (f := 3) (i := 3) (p := 3) rfl rfl dX4_writeLine_70 ?_
            refine k_callVg C s_X4_45 h_X4_putNumber (L4_s hw) rfl (ct_X4_putNumber (m := k) hw ht6 (by omega) (by rw [sp_pt_n]; omega)) rfl rfl (Nat.le_of_ble_eq_true rfl) ⟨Nat.le_of_ble_eq_true rfl, Nat.le_of_ble_eq_true rfl⟩ ⟨Nat.le_of_ble_eq_true rfl, Nat.le_of_ble_eq_true rfl⟩ ⟨rfl, rfl⟩ dX4_writeLine_71 ?_
            intro v I7 hv
            obtain ⟨rfl, ht7, hg7⟩ := hv
            refine k_iinc C (i := 3) (p := 3) (lv := [(3, _), (0, _), (1, _), (2, _)]) (Nat.le_of_ble_eq_true rfl) rfl (by first | exact am_inc1 _ | rfl) rfl dX4_writeLine_74 ?_
            refine k_goto C (tgt := 45) (by decide) dX4_writeLine_77 ?_
            refine k_sub [1, 2, 3, 0] rfl ?_
            first
            | exact ih45 (k + 1) _ (by omega) (by rw [sp_wlTo_f hc60]; exact ht5) hf5 (by omega)
            | exact ih45 (k + 1) _ (by omega) (by rw [sp_wlTo_t hc60]; exact ht7) (fun b h1 h2 => (hg7 b h1 h2).trans ((hg6 b h1 h2).trans (hf5 b h1 h2))) (by omega)
    refine k_sub [1, 2, 3, 0] rfl ?_
    exact loop45 (sp_nl r + 1) 0 I4 (Nat.zero_le _) ht4 hf4 (by omega)
  · skip
    refine k_aload_n C (f := 0) (i := 0) (p := 0) rfl rfl dX4_writeLine_8 ?_
    refine k_bipush C bc_42 dX4_writeLine_9 ?_
    refine k_callVg C s_X4_37 h_X4_put (L4_s hw) rfl (ct_X4_put (m := 42) hw ht (by decide) (by omega)) rfl rfl (Nat.le_of_ble_eq_true rfl) ⟨Nat.le_of_ble_eq_true rfl, Nat.le_of_ble_eq_true rfl⟩ ⟨Nat.le_of_ble_eq_true rfl, Nat.le_of_ble_eq_true rfl⟩ ⟨rfl, rfl⟩ dX4_writeLine_11 ?_
    intro v I11 hv
    obtain ⟨rfl, ht11, hg11⟩ := hv
    obtain ⟨I1, hI1⟩ : ∃ z : am_I, z = I11 := ⟨_, rfl⟩
    have ht1 : WriRel I1 w (sp_w1 r j t) := by
      rw [hI1]
      unfold sp_w1
      rw [if_pos hc5]; exact ht11
    have hf1 : ∀ b : Nat, b ≠ w → b ≠ w + 1 → I1 b = I b := by
      rw [hI1]
      exact hg11
    rw [← hI1]
    clear hI1
    have hr1 := ag I1 hf1
    refine k_aload_n C (f := 0) (i := 0) (p := 0) rfl rfl dX4_writeLine_14 ?_
    refine k_aload_n C (f := 1) (i := 1) (p := 1) rfl rfl dX4_writeLine_15 ?_
    refine k_getR C f_X4_41 (L0_s (by assumption)) (fun _ _ _ => rfl) (L0_6 (by assumption)) dX4_writeLine_16 ?_
    refine k_iload_n C (f := 2) (i := 2) (p := 2) rfl rfl dX4_writeLine_19 ?_
    refine k_iald C (A0_6 (by assumption)) (by first | rfl | assumption) (by omega) (by decide) ((CRa_6 hr1 hj).trans hx) dX4_writeLine_20 ?_
    refine k_callVg C s_X4_45 h_X4_putNumber (L4_s hw) rfl (ct_X4_putNumber (m := x) hw ht1 hx9 (by omega)) rfl rfl (Nat.le_of_ble_eq_true rfl) ⟨Nat.le_of_ble_eq_true rfl, Nat.le_of_ble_eq_true rfl⟩ ⟨Nat.le_of_ble_eq_true rfl, Nat.le_of_ble_eq_true rfl⟩ ⟨rfl, rfl⟩ dX4_writeLine_21 ?_
    intro v I2 hv
    obtain ⟨rfl, ht2, hg2⟩ := hv
    have hf2 : ∀ b : Nat, b ≠ w → b ≠ w + 1 → I2 b = I b := fun b h1 h2 => (hg2 b h1 h2).trans (hf1 b h1 h2)
    have hr2 := ag I2 hf2
    refine k_aload_n C (f := 0) (i := 0) (p := 0) rfl rfl dX4_writeLine_24 ?_
    refine k_bipush C bc_47 dX4_writeLine_25 ?_
    refine k_callVg C s_X4_37 h_X4_put (L4_s hw) rfl (ct_X4_put (m := 47) hw ht2 (by decide) (by have := sp_pn_n (sp_w1 r j t) x; omega)) rfl rfl (Nat.le_of_ble_eq_true rfl) ⟨Nat.le_of_ble_eq_true rfl, Nat.le_of_ble_eq_true rfl⟩ ⟨Nat.le_of_ble_eq_true rfl, Nat.le_of_ble_eq_true rfl⟩ ⟨rfl, rfl⟩ dX4_writeLine_27 ?_
    intro v I3 hv
    obtain ⟨rfl, ht3, hg3⟩ := hv
    have hf3 : ∀ b : Nat, b ≠ w → b ≠ w + 1 → I3 b = I b := fun b h1 h2 => (hg3 b h1 h2).trans (hf2 b h1 h2)
    have hr3 := ag I3 hf3
    refine k_aload_n C (f := 0) (i := 0) (p := 0) rfl rfl dX4_writeLine_30 ?_
    refine k_aload_n C (f := 1) (i := 1) (p := 1) rfl rfl dX4_writeLine_31 ?_
    refine k_getR C f_X4_19 (L0_s (by assumption)) (fun _ _ _ => rfl) (L0_0 (by assumption)) dX4_writeLine_32 ?_
    refine k_getR C f_X4_49 (L3_s (by assumption)) (fun _ _ _ => rfl) (L3_4 (by assumption)) dX4_writeLine_35 ?_
    refine k_iload_n C (f := 2) (i := 2) (p := 2) rfl rfl dX4_writeLine_38 ?_
    refine k_iald C (A3_4 (by assumption)) (by first | rfl | assumption) (by omega) (by decide) ((PRa_4 (CR_p hr3) hj).trans hy) dX4_writeLine_39 ?_
    refine k_callVg C s_X4_45 h_X4_putNumber (L4_s hw) rfl (ct_X4_putNumber (m := y) hw ht3 hy9 (by have := sp_pn_n (sp_w1 r j t) x; rw [sp_pt_n]; omega)) rfl rfl (Nat.le_of_ble_eq_true rfl) ⟨Nat.le_of_ble_eq_true rfl, Nat.le_of_ble_eq_true rfl⟩ ⟨Nat.le_of_ble_eq_true rfl, Nat.le_of_ble_eq_true rfl⟩ ⟨rfl, rfl⟩ dX4_writeLine_40 ?_
    intro v I4 hv
    obtain ⟨rfl, ht4, hg4⟩ := hv
    have hf4 : ∀ b : Nat, b ≠ w → b ≠ w + 1 → I4 b = I b := fun b h1 h2 => (hg4 b h1 h2).trans (hf3 b h1 h2)
    have hr4 := ag I4 hf4
    have e2 : sp_pn (sp_pt (sp_pn (sp_w1 r j t) x) 47) y = sp_w2 r j t := by
      unfold sp_w2
      rw [hx, hy, nI_clamp (by omega), nI_clamp (by omega)]
    rw [e2] at ht4
    refine k_iconst C ic_0 dX4_writeLine_43 ?_
    refine k_istore_n C (f := 3) (i := 3) (lv := [(3, _), (0, _), (1, _), (2, _)]) rfl (Nat.le_of_ble_eq_true rfl) rfl dX4_writeLine_44 ?_
    have loop45 : ∀ (f : Nat) (k : Nat) (I5 : am_I), (k ≤ sp_nl r) → (WriRel I5 w (sp_wlTo r j (sp_w2 r j t) k)) → (∀ b : Nat, b ≠ w → b ≠ w + 1 → I5 b = I b) → (sp_nl r - k) < f → am_K G X { frames := 2, cells := 0, slots := 0, locals := 42 } 4 Λ I5 J 0 0 45 [(0, .ref w), (1, .ref c), (2, .int (nI j)), (3, .int (nI k))] [] := by
      intro f
      induction f with
      | zero => intro k I5 hk ht5 hf5 hf; exact absurd hf (Nat.not_lt_zero _)
      | succ f ih45 =>
        intro k I5 hk ht5 hf5 hf
        have hr5 := ag I5 hf5
        have hnl := CR_l hr
        have hn5 := sp_wlTo_n r j (sp_w2 r j t) k
        have hn6 := sp_hcnt_mono r j (show k ≤ sp_nl r from hk)
        refine k_iload_n C (f := 3) (i := 3) (p := 3) rfl rfl dX4_writeLine_45 ?_
        refine k_aload_n C (f := 1) (i := 1) (p := 1) rfl rfl dX4_writeLine_46 ?_
        refine k_getI C f_X4_52 (L0_s (by assumption)) (fun _ _ _ => rfl) (CR_12 hr5) dX4_writeLine_47 ?_
        first
        | refine k_icmpN_ge C (tgt := 80) (by omega) (by omega) (by decide) dX4_writeLine_50 (fun hc50 => ?_) (fun hc50 => ?_)
        | refine k_icmp_ge C (tgt := 80) (by decide) dX4_writeLine_50 (fun hc50 => ?_) (fun hc50 => ?_)
        · skip
          refine k_aload_n C (f := 1) (i := 1) (p := 1) rfl rfl dX4_writeLine_80 ?_
          refine k_iload_n C (f := 2) (i := 2) (p := 2) rfl rfl dX4_writeLine_81 ?_
          refine k_callVp C s_X4_58 h_X0_isLiving (L0_s (by assumption)) rfl (ct_X0_isLiving (by first | assumption | omega) (by first | assumption | omega) (by first | assumption | omega)) rfl rfl (Nat.le_of_ble_eq_true rfl) ⟨Nat.le_of_ble_eq_true rfl, Nat.le_of_ble_eq_true rfl⟩ ⟨Nat.le_of_ble_eq_true rfl, Nat.le_of_ble_eq_true rfl⟩ ⟨rfl, rfl⟩ dX4_writeLine_82 ?_
          refine k_ifb_ne C (tgt := 94) (by decide) dX4_writeLine_85 (fun hc85 => ?_) (fun hc85 => ?_)
          · skip
            refine k_aload_n C (f := 0) (i := 0) (p := 0) rfl rfl dX4_writeLine_94 ?_
            refine k_bipush C bc_10 dX4_writeLine_95 ?_
            refine k_callVg C s_X4_37 h_X4_put (L4_s hw) rfl (ct_X4_put (m := 10) hw (by first | exact ht8 | exact ht5) (by decide) (by first | (rw [sp_pt_n]; omega) | omega)) rfl rfl (Nat.le_of_ble_eq_true rfl) ⟨Nat.le_of_ble_eq_true rfl, Nat.le_of_ble_eq_true rfl⟩ ⟨Nat.le_of_ble_eq_true rfl, Nat.le_of_ble_eq_true rfl⟩ ⟨rfl, rfl⟩ dX4_writeLine_97 ?_
            intro v I9 hv
            obtain ⟨rfl, ht9, hg9⟩ := hv
            exact k_vret C (Nat.le_of_ble_eq_true rfl) (Nat.le_of_ble_eq_true rfl) (⟨rfl, rfl, ⟨rfl, by
                unfold sp_line sp_w3
                first
                | (rw [if_pos hc85.2, show sp_nl r = k by omega]; exact ht9)
                | (rw [if_neg (fun z => hc85 ⟨hj, z⟩), show sp_nl r = k by omega]; exact ht9), fun b h1 h2 => by
                first
                | exact (hg9 b h1 h2).trans ((hg8 b h1 h2).trans (hf5 b h1 h2))
                | exact (hg9 b h1 h2).trans (hf5 b h1 h2)⟩⟩) dX4_writeLine_100
          · skip
            refine k_aload_n C (f := 0) (i := 0) (p := 0) rfl rfl dX4_writeLine_88 ?_
            refine k_bipush C bc_33 dX4_writeLine_89 ?_
            refine k_callVg C s_X4_37 h_X4_put (L4_s hw) rfl (ct_X4_put (m := 33) hw ht5 (by decide) (by omega)) rfl rfl (Nat.le_of_ble_eq_true rfl) ⟨Nat.le_of_ble_eq_true rfl, Nat.le_of_ble_eq_true rfl⟩ ⟨Nat.le_of_ble_eq_true rfl, Nat.le_of_ble_eq_true rfl⟩ ⟨rfl, rfl⟩ dX4_writeLine_91 ?_
            intro v I8 hv
            obtain ⟨rfl, ht8, hg8⟩ := hv
            refine k_aload_n C (f := 0) (i := 0) (p := 0) rfl rfl dX4_writeLine_94 ?_
            refine k_bipush C bc_10 dX4_writeLine_95 ?_
            refine k_callVg C s_X4_37 h_X4_put (L4_s hw) rfl (ct_X4_put (m := 10) hw (by first | exact ht8 | exact ht5) (by decide) (by first | (rw [sp_pt_n]; omega) | omega)) rfl rfl (Nat.le_of_ble_eq_true rfl) ⟨Nat.le_of_ble_eq_true rfl, Nat.le_of_ble_eq_true rfl⟩ ⟨Nat.le_of_ble_eq_true rfl, Nat.le_of_ble_eq_true rfl⟩ ⟨rfl, rfl⟩ dX4_writeLine_97 ?_
            intro v I9 hv
            obtain ⟨rfl, ht9, hg9⟩ := hv
            exact k_vret C (Nat.le_of_ble_eq_true rfl) (Nat.le_of_ble_eq_true rfl) (⟨rfl, rfl, ⟨rfl, by
                unfold sp_line sp_w3
                first
                | (rw [if_pos hc85.2, show sp_nl r = k by omega]; exact ht9)
                | (rw [if_neg (fun z => hc85 ⟨hj, z⟩), show sp_nl r = k by omega]; exact ht9), fun b h1 h2 => by
                first
                | exact (hg9 b h1 h2).trans ((hg8 b h1 h2).trans (hf5 b h1 h2))
                | exact (hg9 b h1 h2).trans (hf5 b h1 h2)⟩⟩) dX4_writeLine_100
        · skip
          refine k_aload_n C (f := 1) (i := 1) (p := 1) rfl rfl dX4_writeLine_53 ?_
          refine k_getR C f_X4_55 (L0_s (by assumption)) (fun _ _ _ => rfl) (L0_15 (by assumption)) dX4_writeLine_54 ?_
          refine k_iload_n C (f := 3) (i := 3) (p := 3) rfl rfl dX4_writeLine_57 ?_
          refine k_iald C (A0_15 (by assumption)) (by first | rfl | assumption) (by omega) (by decide) (CRa_15 (k := k) hr5 (by omega)) dX4_writeLine_58 ?_
          refine k_iload_n C (f := 2) (i := 2) (p := 2) rfl rfl dX4_writeLine_59 ?_
          refine k_icmp_ne C (tgt := 74) (by decide) dX4_writeLine_60 (fun hc60 => ?_) (fun hc60 => ?_)
          · skip
            refine k_iinc C (i := 3) (p := 3) (lv := [(3, _), (0, _), (1, _), (2, _)]) (Nat.le_of_ble_eq_true rfl) rfl (by first | exact am_inc1 _ | rfl) rfl dX4_writeLine_74 ?_
            refine k_goto C (tgt := 45) (by decide) dX4_writeLine_77 ?_
            refine k_sub [1, 2, 3, 0] rfl ?_
            first
            | exact ih45 (k + 1) _ (by omega) (by rw [sp_wlTo_f hc60]; exact ht5) hf5 (by omega)
            | exact ih45 (k + 1) _ (by omega) (by rw [sp_wlTo_t hc60]; exact ht7) (fun b h1 h2 => (hg7 b h1 h2).trans ((hg6 b h1 h2).trans (hf5 b h1 h2))) (by omega)
          · skip
            have hn7 := sp_hcnt_mono r j (show k + 1 ≤ sp_nl r by omega)
            rw [sp_hcnt_s hc60] at hn7
            refine k_aload_n C (f := 0) (i := 0) (p := 0) rfl rfl dX4_writeLine_63 ?_
            refine k_bipush C bc_44 dX4_writeLine_64 ?_
            refine k_callVg C s_X4_37 h_X4_put (L4_s hw) rfl (ct_X4_put (m := 44) hw ht5 (by decide) (by omega)) rfl rfl (Nat.le_of_ble_eq_true rfl) ⟨Nat.le_of_ble_eq_true rfl, Nat.le_of_ble_eq_true rfl⟩ ⟨Nat.le_of_ble_eq_true rfl, Nat.le_of_ble_eq_true rfl⟩ ⟨rfl, rfl⟩ dX4_writeLine_66 ?_
            intro v I6 hv
            obtain ⟨rfl, ht6, hg6⟩ := hv
            refine k_aload_n C (f := 0) (i := 0) (p := 0) rfl rfl dX4_writeLine_69 ?_
            refine k_iload_n C (f := 3) (i := 3) (p := 3) rfl rfl dX4_writeLine_70 ?_
            refine k_callVg C s_X4_45 h_X4_putNumber (L4_s hw) rfl (ct_X4_putNumber (m := k) hw ht6 (by omega) (by rw [sp_pt_n]; omega)) rfl rfl (Nat.le_of_ble_eq_true rfl) ⟨Nat.le_of_ble_eq_true rfl, Nat.le_of_ble_eq_true rfl⟩ ⟨Nat.le_of_ble_eq_true rfl, Nat.le_of_ble_eq_true rfl⟩ ⟨rfl, rfl⟩ dX4_writeLine_71 ?_
            intro v I7 hv
            obtain ⟨rfl, ht7, hg7⟩ := hv
            refine k_iinc C (i := 3) (p := 3) (lv := [(3, _), (0, _), (1, _), (2, _)]) (Nat.le_of_ble_eq_true rfl) rfl (by first | exact am_inc1 _ | rfl) rfl dX4_writeLine_74 ?_
            refine k_goto C (tgt := 45) (by decide) dX4_writeLine_77 ?_
            refine k_sub [1, 2, 3, 0] rfl ?_
            first
            | exact ih45 (k + 1) _ (by omega) (by rw [sp_wlTo_f hc60]; exact ht5) hf5 (by omega)
            | exact ih45 (k + 1) _ (by omega) (by rw [sp_wlTo_t hc60]; exact ht7) (fun b h1 h2 => (hg7 b h1 h2).trans ((hg6 b h1 h2).trans (hf5 b h1 h2))) (by omega)
    refine k_sub [1, 2, 3, 0] rfl ?_
    exact loop45 (sp_nl r + 1) 0 I4 (Nat.zero_le _) ht4 hf4 (by omega)
set_option maxHeartbeats 4000000 in
set_option maxRecDepth 100000 in
theorem ct_X4_writeAll {G : am_G} {Λ : am_L} {I : am_I} {J : am_J} {w : Nat} {t : Nat × (Nat → Int32)} {c q p : Nat} {r : Nat → Int32} (hw : WriLay Λ w) (ht : WriRel I w t) (hl : CarLay Λ c q p) (hr : CarRel I c q p r) (hdw : (w + 1 < c ∨ c < w) ∧ (w + 1 < q ∨ q + 10 ≤ w) ∧ (w + 1 < p ∨ p + 10 ≤ w)) (hwx : ∀ j : Nat, j < sp_nc r → ∃ x y : Nat, r (13 + 8 * j) = nI x ∧ r (12 + 8 * j) = nI y ∧ x < 100 ∧ y < 100) : am_Ct G yX4_writeAll cX4_writeAll 3 none { frames := 3, cells := 0, slots := 0, locals := 65 } [.ref w, .ref c] Λ I J (am_gen Λ J (fun v I' => v = none ∧ WriRel I' w (sp_text r) ∧ ∀ b : Nat, b ≠ w → b ≠ w + 1 → I' b = I b)) am_never := by
  refine am_ct_of (own := RX4) rfl (by decide) (Nat.le_of_ble_eq_true rfl) (fun X C => ?_)
  change am_K G X { frames := 3, cells := 0, slots := 0, locals := 65 } 3 Λ I J 0 0 0 [(0, .ref w), (1, .ref c)] []
  have hp := L0_p hl
  have hpr := CR_p hr
  have hnc := PR_c hpr
  have hnl := CR_l hr
  have ag : ∀ I1 : am_I, (∀ b : Nat, b ≠ w → b ≠ w + 1 → I1 b = I b) → CarRel I1 c q p r := fun I1 h => CR_agree hr (h c (by omega) (by omega)) (fun b g1 g2 => h b (by omega) (by omega)) (fun b g1 g2 => h b (by omega) (by omega))
  refine k_aload_n C (f := 0) (i := 0) (p := 0) rfl rfl dX4_writeAll_0 ?_
  refine k_iconst C ic_0 dX4_writeAll_1 ?_
  refine k_putI C f_X4_15 (L4_s (by assumption)) rfl rfl dX4_writeAll_2 ?_
  refine k_iconst C ic_0 dX4_writeAll_5 ?_
  refine k_istore_n C (f := 2) (i := 2) (lv := [(2, _), (0, _), (1, _)]) rfl (Nat.le_of_ble_eq_true rfl) rfl dX4_writeAll_6 ?_
  have loop7 : ∀ (f : Nat) (k : Nat) (I1 : am_I), (k ≤ sp_nc r) → (WriRel I1 w (sp_textTo r k)) → (∀ b : Nat, b ≠ w → b ≠ w + 1 → I1 b = I b) → (sp_nc r - k) < f → am_K G X { frames := 3, cells := 0, slots := 0, locals := 65 } 3 Λ I1 J 0 0 7 [(0, .ref w), (1, .ref c), (2, .int (nI k))] [] := by
    intro f
    induction f with
    | zero => intro k I1 hk ht1 hf1 hf; exact absurd hf (Nat.not_lt_zero _)
    | succ f ih7 =>
      intro k I1 hk ht1 hf1 hf
      have hr1 := ag I1 hf1
      have hpr1 := CR_p hr1
      refine k_iload_n C (f := 2) (i := 2) (p := 2) rfl rfl dX4_writeAll_7 ?_
      refine k_aload_n C (f := 1) (i := 1) (p := 1) rfl rfl dX4_writeAll_8 ?_
      refine k_getR C f_X4_19 (L0_s (by assumption)) (fun _ _ _ => rfl) (L0_0 (by assumption)) dX4_writeAll_9 ?_
      refine k_getI C f_X4_25 (L3_s (by assumption)) (fun _ _ _ => rfl) (by first | exact PR_1 (by assumption) | assumption | rfl) dX4_writeAll_12 ?_
      first
      | refine k_icmpN_ge C (tgt := 30) (by omega) (by omega) (by decide) dX4_writeAll_15 (fun hc15 => ?_) (fun hc15 => ?_)
      | refine k_icmp_ge C (tgt := 30) (by decide) dX4_writeAll_15 (fun hc15 => ?_) (fun hc15 => ?_)
      · skip
        exact k_vret C (Nat.le_of_ble_eq_true rfl) (Nat.le_of_ble_eq_true rfl) (⟨rfl, rfl, ⟨rfl, by rw [show sp_text r = sp_textTo r k by unfold sp_text; rw [show sp_nc r = k by omega]]; exact ht1, hf1⟩⟩) dX4_writeAll_30
      · skip
        refine k_aload_n C (f := 0) (i := 0) (p := 0) rfl rfl dX4_writeAll_18 ?_
        refine k_aload_n C (f := 1) (i := 1) (p := 1) rfl rfl dX4_writeAll_19 ?_
        refine k_iload_n C (f := 2) (i := 2) (p := 2) rfl rfl dX4_writeAll_20 ?_
        refine k_callVg C s_X4_30 h_X4_writeLine (L4_s hw) rfl (ct_X4_writeLine hw ht1 hl hr1 (by omega) hdw (hwx k (by omega)) (sp_text_room r (by omega) (CR_l hr))) rfl rfl (Nat.le_of_ble_eq_true rfl) ⟨Nat.le_of_ble_eq_true rfl, Nat.le_of_ble_eq_true rfl⟩ ⟨Nat.le_of_ble_eq_true rfl, Nat.le_of_ble_eq_true rfl⟩ ⟨rfl, rfl⟩ dX4_writeAll_21 ?_
        intro v I2 hv
        obtain ⟨rfl, ht2, hg2⟩ := hv
        refine k_iinc C (i := 2) (p := 2) (lv := [(2, _), (0, _), (1, _)]) (Nat.le_of_ble_eq_true rfl) rfl (by first | exact am_inc1 _ | rfl) rfl dX4_writeAll_24 ?_
        refine k_goto C (tgt := 7) (by decide) dX4_writeAll_27 ?_
        refine k_sub [1, 2, 0] rfl ?_
        exact ih7 (k + 1) _ (by omega) ht2 (fun b h1 h2 => (hg2 b h1 h2).trans (hf1 b h1 h2)) (by omega)
  refine k_sub [1, 2, 0] rfl ?_
  exact loop7 (sp_nc r + 1) 0 _ (Nat.zero_le _) ⟨am_up_eq, fun j hj => absurd hj (Nat.not_lt_zero j)⟩ (fun b h1 h2 => am_up_ne h1) (by omega)
