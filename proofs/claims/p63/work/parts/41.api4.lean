theorem sp_text_n (r : Nat → Int32) (h : sp_nc r ≤ 10) (hl : sp_nl r ≤ 20) : (sp_text r).1 ≤ 140 := by
  have h1 := sp_textTo_n r (sp_nc r)
  have h2 := sp_hsum_le r (sp_nl r) (sp_nc r) (by omega)
  unfold sp_text
  omega
set_option maxHeartbeats 4000000 in
set_option maxRecDepth 100000 in
theorem ct_X5_drink {G : am_G} {Λ : am_L} {I : am_I} {J : am_J} {x n ct : Nat} {tb : Nat → Nat} {err : Int32} {r : Nat → Int32} {hs : Nat → Nat → Int32} {kp : Nat → Bool} {sn : Nat → Nat → Int32} {w : Nat × (Nat → Int32)}  (hx : RouLay Λ x) (hR : RouRel I x tb n err r ct hs kp sn w) (hok : RowOk r) : am_Ct G yX5_drink cX5_drink 2 (some .int) { frames := 6, cells := 1, slots := 6, locals := 91 } [.ref x] Λ I J (am_pch (some (.int (sp_sumTo (sp_drinks r (sp_wellOn r (r 1)).toNatClampNeg) (sp_nc r)))) (if sp_wellOn r (r 1) = -1 then 1 else 0) Λ J (fun I' => RouRel I' x (tb) (n) (err) (sp_drink r (sp_drinks r (sp_wellOn r (r 1)).toNatClampNeg) (sp_wellOn r (r 1)).toNatClampNeg) ((min 8 (ct + 1))) ((sp_push r hs)) (kp) (sn) (w) ∧ RFr x I I')) (am_px1 "java/lang/IllegalStateException" (if sp_wellOn r (r 1) = -1 then 1 else 0) Λ I J) := by
  refine am_ct_of (own := RX5) rfl (by decide) (Nat.le_of_ble_eq_true rfl) (fun X C => ?_)
  change am_K G X { frames := 6, cells := 1, slots := 6, locals := 91 } 2 Λ I J 0 0 0 [(0, .ref x)] []
  have hr := RR_r hR
  have hl := L5_n hx
  have hp := L5_p hx
  have hpr := CR_p hr
  have hnc := PR_c hpr
  have hnw := PR_w hpr
  have hnl := CR_l hr
  have hhl := L5_h hx
  obtain ⟨nx, hh⟩ := RR_h hR
  have h3 := RK_3 hok
  refine k_aload_n C (f := 0) (i := 0) (p := 0) rfl rfl dX5_drink_0 ?_
  refine k_getR C f_X5_49 (L5_s (by assumption)) (fun _ _ _ => rfl) (L5_2 (by assumption)) dX5_drink_1 ?_
  refine k_getR C f_X5_37 (L0_s (by assumption)) (fun _ _ _ => rfl) (L0_0 (by assumption)) dX5_drink_4 ?_
  refine k_aload_n C (f := 0) (i := 0) (p := 0) rfl rfl dX5_drink_7 ?_
  refine k_getR C f_X5_49 (L5_s (by assumption)) (fun _ _ _ => rfl) (L5_2 (by assumption)) dX5_drink_8 ?_
  refine k_getI C f_X5_116 (L0_s (by assumption)) (fun _ _ _ => rfl) (by first | exact CR_1 (by assumption) | assumption | rfl) dX5_drink_11 ?_
  refine k_callVp C s_X5_156 h_X3_wellAt (L3_s (by assumption)) rfl (ct_X3_wellAt hp hpr) rfl rfl (Nat.le_of_ble_eq_true rfl) ⟨Nat.le_of_ble_eq_true rfl, Nat.le_of_ble_eq_true rfl⟩ ⟨Nat.le_of_ble_eq_true rfl, Nat.le_of_ble_eq_true rfl⟩ ⟨rfl, rfl⟩ dX5_drink_14 ?_
  refine k_istore_n C (f := 1) (i := 1) (lv := [(1, _), (0, _)]) rfl (Nat.le_of_ble_eq_true rfl) rfl dX5_drink_17 ?_
  refine k_iload_n C (f := 1) (i := 1) (p := 0) rfl rfl dX5_drink_18 ?_
  refine k_iconst C ic_m1 dX5_drink_19 ?_
  refine k_icmp_ne C (tgt := 34) (by decide) dX5_drink_20 (fun hc20 => ?_) (fun hc20 => ?_)
  · skip
    obtain ⟨wl, hwl, hwn⟩ := (wellOn_or r (r 1)).resolve_left hc20
    rw [hwl]
    refine k_aload_n C (f := 0) (i := 0) (p := 1) rfl rfl dX5_drink_34 ?_
    refine k_getR C f_X5_61 (L5_s (by assumption)) (fun _ _ _ => rfl) (L5_4 (by assumption)) dX5_drink_35 ?_
    refine k_aload_n C (f := 0) (i := 0) (p := 1) rfl rfl dX5_drink_38 ?_
    refine k_getR C f_X5_49 (L5_s (by assumption)) (fun _ _ _ => rfl) (L5_2 (by assumption)) dX5_drink_39 ?_
    refine k_callVg C s_X5_272 h_X1_remember (L1_s hhl) rfl (ct_X1_remember hhl hh hl hr h3 ⟨by omega, by omega, by omega⟩) rfl rfl (Nat.le_of_ble_eq_true rfl) ⟨Nat.le_of_ble_eq_true rfl, Nat.le_of_ble_eq_true rfl⟩ ⟨Nat.le_of_ble_eq_true rfl, Nat.le_of_ble_eq_true rfl⟩ ⟨rfl, rfl⟩ dX5_drink_42 ?_
    intro v42 I1 hv
    obtain ⟨rfl, hh1, g1⟩ := hv
    obtain ⟨hR1, F1⟩ := RR_his hR ⟨_, hh1⟩ g1
    have hr1 := RR_r hR1
    have hpr1 := CR_p hr1
    refine k_aload_n C (f := 0) (i := 0) (p := 1) rfl rfl dX5_drink_45 ?_
    refine k_getR C f_X5_49 (L5_s (by assumption)) (fun _ _ _ => rfl) (L5_2 (by assumption)) dX5_drink_46 ?_
    skip
    refine k_iload_n C (f := 1) (i := 1) (p := 0) rfl rfl dX5_drink_49 ?_
    refine k_aload_n C (f := 0) (i := 0) (p := 1) rfl rfl dX5_drink_50 ?_
    refine k_getR C f_X5_73 (L5_s (by assumption)) (fun _ _ _ => rfl) (L5_7 (by assumption)) dX5_drink_51 ?_
    refine k_callVg C s_X5_266 h_X0_shareOut (L0_s (by assumption)) rfl (ct_X0_shareOut hl hr1 (A5_7 hx) ⟨by omega, by omega, by omega⟩ hwn (RK_tk hok) (RK_lv hok hwn)) rfl rfl (Nat.le_of_ble_eq_true rfl) ⟨Nat.le_of_ble_eq_true rfl, Nat.le_of_ble_eq_true rfl⟩ ⟨Nat.le_of_ble_eq_true rfl, Nat.le_of_ble_eq_true rfl⟩ ⟨rfl, rfl⟩ dX5_drink_54 ?_
    intro v54 I2 hv
    obtain ⟨rfl, hsh, g2⟩ := hv
    obtain ⟨hR2, F2⟩ := RR_tri hR1 (fun b h1 h2 => g2 b h2)
    have hr2 := RR_r hR2
    refine k_aload_n C (f := 0) (i := 0) (p := 1) rfl rfl dX5_drink_57 ?_
    refine k_getR C f_X5_49 (L5_s (by assumption)) (fun _ _ _ => rfl) (L5_2 (by assumption)) dX5_drink_58 ?_
    refine k_iload_n C (f := 1) (i := 1) (p := 0) rfl rfl dX5_drink_61 ?_
    refine k_aload_n C (f := 0) (i := 0) (p := 1) rfl rfl dX5_drink_62 ?_
    refine k_getR C f_X5_73 (L5_s (by assumption)) (fun _ _ _ => rfl) (L5_7 (by assumption)) dX5_drink_63 ?_
    refine k_callVg C s_X5_283 h_X0_takeShares (L0_s (by assumption)) rfl (ct_X0_takeShares hl hr2 (A5_7 hx) ⟨by omega, by omega, by omega⟩ hwn) rfl rfl (Nat.le_of_ble_eq_true rfl) ⟨Nat.le_of_ble_eq_true rfl, Nat.le_of_ble_eq_true rfl⟩ ⟨Nat.le_of_ble_eq_true rfl, Nat.le_of_ble_eq_true rfl⟩ ⟨rfl, rfl⟩ dX5_drink_66 ?_
    intro v66 I3 hv
    obtain ⟨rfl, hr3, g3⟩ := hv
    have ec : ∀ m : Nat, m < sp_nc r → I2 (x + 170) m = sp_drinks r wl m := fun m hm => (hsh m hm).1
    rw [drink_congr ec] at hr3
    obtain ⟨hR3, F3⟩ := RR_car hR2 hr3 g3
    exact k_iret C (Nat.le_of_ble_eq_true rfl) (Nat.le_of_ble_eq_true rfl) (⟨by rw [hwl, nI_clamp (by omega), sumTo_congr _ ec], if_neg hc20, rfl, rfl, by rw [hwl, nI_clamp (by omega)]; exact hR3, (F1.tr F2).tr F3⟩) dX5_drink_69
  · skip
    exact k_throwSW C tw_X5_87 (si := 21) rfl (Nat.le_of_ble_eq_true rfl) (Nat.le_of_ble_eq_true rfl) (⟨rfl, if_pos hc20, rfl, rfl, rfl⟩) ⟨Nat.le_of_ble_eq_true rfl, Nat.le_of_ble_eq_true rfl⟩ ⟨Nat.le_of_ble_eq_true rfl, Nat.le_of_ble_eq_true rfl⟩ dX5_drink_23 dX5_drink_26 dX5_drink_27 dX5_drink_30 dX5_drink_33
set_option maxHeartbeats 4000000 in
set_option maxRecDepth 100000 in
theorem ct_X5_wouldDrink {G : am_G} {Λ : am_L} {I : am_I} {J : am_J} {x n ct : Nat} {tb : Nat → Nat} {err : Int32} {r : Nat → Int32} {hs : Nat → Nat → Int32} {kp : Nat → Bool} {sn : Nat → Nat → Int32} {w : Nat × (Nat → Int32)} {c : Int32} (hx : RouLay Λ x) (hR : RouRel I x tb n err r ct hs kp sn w) (hok : RowOk r) : am_Ct G yX5_wouldDrink cX5_wouldDrink 3 (some .int) { frames := 7, cells := 2, slots := 12, locals := 111 } [.ref x, .int c] Λ I J (am_pch (some (.int (if r (16 + 8 * c.toNatClampNeg) < nI 3 then sp_drinks r (sp_wellOn r (r 1)).toNatClampNeg c.toNatClampNeg else nI 0))) (if cdI (sp_nc r) c = 0 then (if sp_wellOn r (r 1) = -1 then 2 else 0) else 1) Λ J (fun I' => RouRel I' x (tb) (n) (err) (r) (ct) (hs) (kp) (sn) (w) ∧ RFr x I I')) (am_px2 "java/lang/IndexOutOfBoundsException" "java/lang/IllegalStateException" (if cdI (sp_nc r) c = 0 then (if sp_wellOn r (r 1) = -1 then 2 else 0) else 1) Λ I J) := by
  refine am_ct_of (own := RX5) rfl (by decide) (Nat.le_of_ble_eq_true rfl) (fun X C => ?_)
  change am_K G X { frames := 7, cells := 2, slots := 12, locals := 111 } 3 Λ I J 0 0 0 [(0, .ref x), (1, .int c)] []
  have hr := RR_r hR
  have hl := L5_n hx
  have hp := L5_p hx
  have hpr := CR_p hr
  have hnc := PR_c hpr
  have hnw := PR_w hpr
  have hnl := CR_l hr
  have hhl := L5_h hx
  obtain ⟨nx, hh⟩ := RR_h hR
  have h3 := RK_3 hok
  refine k_aload_n C (f := 0) (i := 0) (p := 0) rfl rfl dX5_wouldDrink_0 ?_
  refine k_iload_n C (f := 1) (i := 1) (p := 1) rfl rfl dX5_wouldDrink_1 ?_
  refine k_callV C s_X5_181 h_X5_requireCamel (L5_s hx) rfl (ct_X5_requireCamel hx hr) rfl rfl (Nat.le_of_ble_eq_true rfl) ⟨Nat.le_of_ble_eq_true rfl, Nat.le_of_ble_eq_true rfl⟩ ⟨Nat.le_of_ble_eq_true rfl, Nat.le_of_ble_eq_true rfl⟩ dX5_wouldDrink_2 ?_ ?_
  · skip
    intro v2 Λ1 I1 J1 hv
    obtain ⟨rfl, hcd, rfl, rfl, rfl⟩ := hv
    obtain ⟨j, hj, rfl⟩ := cdI_0 hcd (by omega)
    refine k_aload_n C (f := 0) (i := 0) (p := 0) rfl rfl dX5_wouldDrink_5 ?_
    refine k_getR C f_X5_49 (L5_s (by assumption)) (fun _ _ _ => rfl) (L5_2 (by assumption)) dX5_wouldDrink_6 ?_
    refine k_getR C f_X5_37 (L0_s (by assumption)) (fun _ _ _ => rfl) (L0_0 (by assumption)) dX5_wouldDrink_9 ?_
    refine k_aload_n C (f := 0) (i := 0) (p := 0) rfl rfl dX5_wouldDrink_12 ?_
    refine k_getR C f_X5_49 (L5_s (by assumption)) (fun _ _ _ => rfl) (L5_2 (by assumption)) dX5_wouldDrink_13 ?_
    refine k_getI C f_X5_116 (L0_s (by assumption)) (fun _ _ _ => rfl) (by first | exact CR_1 (by assumption) | assumption | rfl) dX5_wouldDrink_16 ?_
    refine k_callVp C s_X5_156 h_X3_wellAt (L3_s (by assumption)) rfl (ct_X3_wellAt hp hpr) rfl rfl (Nat.le_of_ble_eq_true rfl) ⟨Nat.le_of_ble_eq_true rfl, Nat.le_of_ble_eq_true rfl⟩ ⟨Nat.le_of_ble_eq_true rfl, Nat.le_of_ble_eq_true rfl⟩ ⟨rfl, rfl⟩ dX5_wouldDrink_19 ?_
    refine k_istore_n C (f := 2) (i := 2) (lv := [(2, _), (0, _), (1, _)]) rfl (Nat.le_of_ble_eq_true rfl) rfl dX5_wouldDrink_22 ?_
    refine k_iload_n C (f := 2) (i := 2) (p := 0) rfl rfl dX5_wouldDrink_23 ?_
    refine k_iconst C ic_m1 dX5_wouldDrink_24 ?_
    refine k_icmp_ne C (tgt := 39) (by decide) dX5_wouldDrink_25 (fun hc25 => ?_) (fun hc25 => ?_)
    · skip
      obtain ⟨wl, hwl, hwn⟩ := (wellOn_or r (r 1)).resolve_left hc25
      rw [hwl]
      refine k_aload_n C (f := 0) (i := 0) (p := 1) rfl rfl dX5_wouldDrink_39 ?_
      refine k_getR C f_X5_49 (L5_s (by assumption)) (fun _ _ _ => rfl) (L5_2 (by assumption)) dX5_wouldDrink_40 ?_
      refine k_iload_n C (f := 2) (i := 2) (p := 0) rfl rfl dX5_wouldDrink_43 ?_
      refine k_aload_n C (f := 0) (i := 0) (p := 1) rfl rfl dX5_wouldDrink_44 ?_
      refine k_getR C f_X5_73 (L5_s (by assumption)) (fun _ _ _ => rfl) (L5_7 (by assumption)) dX5_wouldDrink_45 ?_
      refine k_callVg C s_X5_266 h_X0_shareOut (L0_s (by assumption)) rfl (ct_X0_shareOut hl hr (A5_7 hx) ⟨by omega, by omega, by omega⟩ hwn (RK_tk hok) (RK_lv hok hwn)) rfl rfl (Nat.le_of_ble_eq_true rfl) ⟨Nat.le_of_ble_eq_true rfl, Nat.le_of_ble_eq_true rfl⟩ ⟨Nat.le_of_ble_eq_true rfl, Nat.le_of_ble_eq_true rfl⟩ ⟨rfl, rfl⟩ dX5_wouldDrink_48 ?_
      intro v48 I2 hv
      obtain ⟨rfl, hsh, g2⟩ := hv
      obtain ⟨hR2, F2⟩ := RR_tri hR (fun b h1 h2 => g2 b h2)
      have hr2 := RR_r hR2
      refine k_aload_n C (f := 0) (i := 0) (p := 1) rfl rfl dX5_wouldDrink_51 ?_
      refine k_getR C f_X5_49 (L5_s (by assumption)) (fun _ _ _ => rfl) (L5_2 (by assumption)) dX5_wouldDrink_52 ?_
      refine k_iload_n C (f := 1) (i := 1) (p := 2) rfl rfl dX5_wouldDrink_55 ?_
      refine k_callVp C s_X5_184 h_X0_isLiving (L0_s (by assumption)) rfl (ct_X0_isLiving hl hr2 (by omega)) rfl rfl (Nat.le_of_ble_eq_true rfl) ⟨Nat.le_of_ble_eq_true rfl, Nat.le_of_ble_eq_true rfl⟩ ⟨Nat.le_of_ble_eq_true rfl, Nat.le_of_ble_eq_true rfl⟩ ⟨rfl, rfl⟩ dX5_wouldDrink_56 ?_
      refine k_ifb_eq C (tgt := 71) (by decide) dX5_wouldDrink_59 (fun hc59 => ?_) (fun hc59 => ?_)
      · skip
        refine k_iconst C ic_0 dX5_wouldDrink_71 ?_
        exact k_iret C (Nat.le_of_ble_eq_true rfl) (Nat.le_of_ble_eq_true rfl) (by
            first
            | exact ⟨by rw [nI_clamp (by omega), if_pos hc59.2, hwl, nI_clamp (by omega)], by rw [if_pos hcd, if_neg hc25], rfl, rfl, hR2, F2⟩
            | exact ⟨by rw [nI_clamp (by omega), if_neg (fun z => hc59 ⟨hj, z⟩)], by rw [if_pos hcd, if_neg hc25], rfl, rfl, hR2, F2⟩) dX5_wouldDrink_72
      · skip
        refine k_aload_n C (f := 0) (i := 0) (p := 1) rfl rfl dX5_wouldDrink_62 ?_
        refine k_getR C f_X5_73 (L5_s (by assumption)) (fun _ _ _ => rfl) (L5_7 (by assumption)) dX5_wouldDrink_63 ?_
        refine k_iload_n C (f := 1) (i := 1) (p := 2) rfl rfl dX5_wouldDrink_66 ?_
        refine k_iald C (A5_7 hx) (by first | rfl | assumption) (by omega) (by decide) ((hsh j hj).1) dX5_wouldDrink_67 ?_
        refine k_goto C (tgt := 72) (by decide) dX5_wouldDrink_68 ?_
        exact k_iret C (Nat.le_of_ble_eq_true rfl) (Nat.le_of_ble_eq_true rfl) (by
            first
            | exact ⟨by rw [nI_clamp (by omega), if_pos hc59.2, hwl, nI_clamp (by omega)], by rw [if_pos hcd, if_neg hc25], rfl, rfl, hR2, F2⟩
            | exact ⟨by rw [nI_clamp (by omega), if_neg (fun z => hc59 ⟨hj, z⟩)], by rw [if_pos hcd, if_neg hc25], rfl, rfl, hR2, F2⟩) dX5_wouldDrink_72
    · skip
      exact k_throwSW C tw_X5_87 (si := 21) rfl (Nat.le_of_ble_eq_true rfl) (Nat.le_of_ble_eq_true rfl) (⟨Or.inr ⟨rfl, by rw [if_pos hcd, if_pos hc25]⟩, rfl, rfl, rfl⟩) ⟨Nat.le_of_ble_eq_true rfl, Nat.le_of_ble_eq_true rfl⟩ ⟨Nat.le_of_ble_eq_true rfl, Nat.le_of_ble_eq_true rfl⟩ dX5_wouldDrink_28 dX5_wouldDrink_31 dX5_wouldDrink_32 dX5_wouldDrink_35 dX5_wouldDrink_38
  · skip
    intro E Λ1 I1 J1 hv
    obtain ⟨rfl, hcd, rfl, rfl, rfl⟩ := hv
    exact k_out C rfl (Nat.le_of_ble_eq_true rfl) (Nat.le_of_ble_eq_true rfl) (⟨Or.inl ⟨rfl, by rw [hcd]; rfl⟩, rfl, rfl, rfl⟩)
set_option maxHeartbeats 4000000 in
set_option maxRecDepth 100000 in
theorem ct_X5_putOn {G : am_G} {Λ : am_L} {I : am_I} {J : am_J} {x n ct : Nat} {tb : Nat → Nat} {err : Int32} {r : Nat → Int32} {hs : Nat → Nat → Int32} {kp : Nat → Bool} {sn : Nat → Nat → Int32} {w : Nat × (Nat → Int32)} {a c : Int32} (hx : RouLay Λ x) (hR : RouRel I x tb n err r ct hs kp sn w) (hok : RowOk r) : am_Ct G yX5_putOn cX5_putOn 3 (some .int) { frames := 7, cells := 5, slots := 30, locals := 111 } [.ref x, .int a, .int c] Λ I J (am_pch (some (.int (sp_free (sp_hang (sp_lay r a.toNatClampNeg) a.toNatClampNeg c.toNatClampNeg) c.toNatClampNeg))) (if cdI (sp_nl r) a = 0 ∧ cdI (sp_nc r) c = 0 then (if (r (16 + 8 * c.toNatClampNeg) < nI 3 ∧ ¬ r (142 + 4 * a.toNatClampNeg) = c ∧ (if r (142 + 4 * a.toNatClampNeg) = -1 then r (143 + 4 * a.toNatClampNeg) else r 1) = r 1 ∧ ¬ sp_free r c.toNatClampNeg < r (140 + 4 * a.toNatClampNeg)) then 0 else 2) else 1) Λ J (fun I' => RouRel I' x (tb) (n) (err) (sp_hang (sp_lay r a.toNatClampNeg) a.toNatClampNeg c.toNatClampNeg) ((min 8 (ct + 1))) ((sp_push r hs)) (kp) (sn) (w) ∧ RFr x I I')) (am_px2 "java/lang/IndexOutOfBoundsException" "java/lang/IllegalStateException" (if cdI (sp_nl r) a = 0 ∧ cdI (sp_nc r) c = 0 then (if (r (16 + 8 * c.toNatClampNeg) < nI 3 ∧ ¬ r (142 + 4 * a.toNatClampNeg) = c ∧ (if r (142 + 4 * a.toNatClampNeg) = -1 then r (143 + 4 * a.toNatClampNeg) else r 1) = r 1 ∧ ¬ sp_free r c.toNatClampNeg < r (140 + 4 * a.toNatClampNeg)) then 0 else 2) else 1) Λ I J) := by
  refine am_ct_of (own := RX5) rfl (by decide) (Nat.le_of_ble_eq_true rfl) (fun X C => ?_)
  change am_K G X { frames := 7, cells := 5, slots := 30, locals := 111 } 3 Λ I J 0 0 0 [(0, .ref x), (1, .int a), (2, .int c)] []
  have hr := RR_r hR
  have hl := L5_n hx
  have hp := L5_p hx
  have hpr := CR_p hr
  have hnc := PR_c hpr
  have hnw := PR_w hpr
  have hnl := CR_l hr
  have hhl := L5_h hx
  obtain ⟨nx, hh⟩ := RR_h hR
  have h3 := RK_3 hok
  refine k_aload_n C (f := 0) (i := 0) (p := 0) rfl rfl dX5_putOn_0 ?_
  refine k_iload_n C (f := 1) (i := 1) (p := 1) rfl rfl dX5_putOn_1 ?_
  refine k_callV C s_X5_230 h_X5_requireLoad (L5_s hx) rfl (ct_X5_requireLoad hx hr) rfl rfl (Nat.le_of_ble_eq_true rfl) ⟨Nat.le_of_ble_eq_true rfl, Nat.le_of_ble_eq_true rfl⟩ ⟨Nat.le_of_ble_eq_true rfl, Nat.le_of_ble_eq_true rfl⟩ dX5_putOn_2 ?_ ?_
  · skip
    intro v2 Λ1 I1 J1 hv
    obtain ⟨rfl, hca, rfl, rfl, rfl⟩ := hv
    obtain ⟨l, hl2, rfl⟩ := cdI_0 hca (by omega)
    refine k_aload_n C (f := 0) (i := 0) (p := 0) rfl rfl dX5_putOn_5 ?_
    refine k_iload_n C (f := 2) (i := 2) (p := 2) rfl rfl dX5_putOn_6 ?_
    refine k_callV C s_X5_181 h_X5_requireCamel (L5_s hx) rfl (ct_X5_requireCamel hx hr) rfl rfl (Nat.le_of_ble_eq_true rfl) ⟨Nat.le_of_ble_eq_true rfl, Nat.le_of_ble_eq_true rfl⟩ ⟨Nat.le_of_ble_eq_true rfl, Nat.le_of_ble_eq_true rfl⟩ dX5_putOn_7 ?_ ?_
    · skip
      intro v7 Λ1 I1 J1 hv
      obtain ⟨rfl, hcd, rfl, rfl, rfl⟩ := hv
      obtain ⟨j, hj, rfl⟩ := cdI_0 hcd (by omega)
      refine k_aload_n C (f := 0) (i := 0) (p := 0) rfl rfl dX5_putOn_10 ?_
      refine k_getR C f_X5_49 (L5_s (by assumption)) (fun _ _ _ => rfl) (L5_2 (by assumption)) dX5_putOn_11 ?_
      refine k_iload_n C (f := 2) (i := 2) (p := 2) rfl rfl dX5_putOn_14 ?_
      refine k_callVp C s_X5_184 h_X0_isLiving (L0_s (by assumption)) rfl (ct_X0_isLiving hl hr (by omega)) rfl rfl (Nat.le_of_ble_eq_true rfl) ⟨Nat.le_of_ble_eq_true rfl, Nat.le_of_ble_eq_true rfl⟩ ⟨Nat.le_of_ble_eq_true rfl, Nat.le_of_ble_eq_true rfl⟩ ⟨rfl, rfl⟩ dX5_putOn_15 ?_
      refine k_ifb_eq C (tgt := 34) (by decide) dX5_putOn_18 (fun hc18 => ?_) (fun hc18 => ?_)
      · skip
        exact k_throwSW C tw_X5_87 (si := 25) rfl (Nat.le_of_ble_eq_true rfl) (Nat.le_of_ble_eq_true rfl) (⟨Or.inr ⟨rfl, by
          rw [if_pos ⟨hca, hcd⟩, nI_clamp (by omega), nI_clamp (by omega)]
          exact if_neg (fun z => by first | exact hc18 ⟨hj, z.1⟩ | exact z.2.1 hc31)⟩, rfl, rfl, rfl⟩) ⟨Nat.le_of_ble_eq_true rfl, Nat.le_of_ble_eq_true rfl⟩ ⟨Nat.le_of_ble_eq_true rfl, Nat.le_of_ble_eq_true rfl⟩ dX5_putOn_34 dX5_putOn_37 dX5_putOn_38 dX5_putOn_41 dX5_putOn_44
      · skip
        refine k_aload_n C (f := 0) (i := 0) (p := 0) rfl rfl dX5_putOn_21 ?_
        refine k_getR C f_X5_49 (L5_s (by assumption)) (fun _ _ _ => rfl) (L5_2 (by assumption)) dX5_putOn_22 ?_
        refine k_getR C f_X5_239 (L0_s (by assumption)) (fun _ _ _ => rfl) (L0_15 (by assumption)) dX5_putOn_25 ?_
        refine k_iload_n C (f := 1) (i := 1) (p := 1) rfl rfl dX5_putOn_28 ?_
        refine k_iald C (A0_15 (by assumption)) (by first | rfl | assumption) (by omega) (by decide) (by first | exact CRa_15 (by assumption) (by omega) | assumption | rfl) dX5_putOn_29 ?_
        refine k_iload_n C (f := 2) (i := 2) (p := 2) rfl rfl dX5_putOn_30 ?_
        refine k_icmp_ne C (tgt := 45) (by decide) dX5_putOn_31 (fun hc31 => ?_) (fun hc31 => ?_)
        · skip
          refine k_aload_n C (f := 0) (i := 0) (p := 0) rfl rfl dX5_putOn_45 ?_
          refine k_getR C f_X5_49 (L5_s (by assumption)) (fun _ _ _ => rfl) (L5_2 (by assumption)) dX5_putOn_46 ?_
          refine k_iload_n C (f := 1) (i := 1) (p := 1) rfl rfl dX5_putOn_49 ?_
          refine k_callVp C s_X5_244 h_X0_whereIs (L0_s (by assumption)) rfl (ct_X0_whereIs hl hr hl2) rfl rfl (Nat.le_of_ble_eq_true rfl) ⟨Nat.le_of_ble_eq_true rfl, Nat.le_of_ble_eq_true rfl⟩ ⟨Nat.le_of_ble_eq_true rfl, Nat.le_of_ble_eq_true rfl⟩ ⟨rfl, rfl⟩ dX5_putOn_50 ?_
          refine k_aload_n C (f := 0) (i := 0) (p := 0) rfl rfl dX5_putOn_53 ?_
          refine k_getR C f_X5_49 (L5_s (by assumption)) (fun _ _ _ => rfl) (L5_2 (by assumption)) dX5_putOn_54 ?_
          refine k_getI C f_X5_116 (L0_s (by assumption)) (fun _ _ _ => rfl) (by first | exact CR_1 (by assumption) | assumption | rfl) dX5_putOn_57 ?_
          refine k_icmp_eq C (tgt := 74) (by decide) dX5_putOn_60 (fun hc60 => ?_) (fun hc60 => ?_)
          · skip
            refine k_aload_n C (f := 0) (i := 0) (p := 0) rfl rfl dX5_putOn_74 ?_
            refine k_getR C f_X5_49 (L5_s (by assumption)) (fun _ _ _ => rfl) (L5_2 (by assumption)) dX5_putOn_75 ?_
            refine k_getR C f_X5_233 (L0_s (by assumption)) (fun _ _ _ => rfl) (L0_13 (by assumption)) dX5_putOn_78 ?_
            refine k_iload_n C (f := 1) (i := 1) (p := 1) rfl rfl dX5_putOn_81 ?_
            refine k_iald C (A0_13 (by assumption)) (by first | rfl | assumption) (by omega) (by decide) (by first | exact CRa_13 (by assumption) (by omega) | assumption | rfl) dX5_putOn_82 ?_
            refine k_aload_n C (f := 0) (i := 0) (p := 0) rfl rfl dX5_putOn_83 ?_
            refine k_getR C f_X5_49 (L5_s (by assumption)) (fun _ _ _ => rfl) (L5_2 (by assumption)) dX5_putOn_84 ?_
            refine k_iload_n C (f := 2) (i := 2) (p := 2) rfl rfl dX5_putOn_87 ?_
            refine k_callVp C s_X5_211 h_X0_freeOn (L0_s (by assumption)) rfl (ct_X0_freeOn hl hr (by omega)) rfl rfl (Nat.le_of_ble_eq_true rfl) ⟨Nat.le_of_ble_eq_true rfl, Nat.le_of_ble_eq_true rfl⟩ ⟨Nat.le_of_ble_eq_true rfl, Nat.le_of_ble_eq_true rfl⟩ ⟨rfl, rfl⟩ dX5_putOn_88 ?_
            refine k_icmp_le C (tgt := 105) (by decide) dX5_putOn_91 (fun hc91 => ?_) (fun hc91 => ?_)
            · skip
              refine k_aload_n C (f := 0) (i := 0) (p := 0) rfl rfl dX5_putOn_105 ?_
              refine k_getR C f_X5_61 (L5_s (by assumption)) (fun _ _ _ => rfl) (L5_4 (by assumption)) dX5_putOn_106 ?_
              refine k_aload_n C (f := 0) (i := 0) (p := 0) rfl rfl dX5_putOn_109 ?_
              refine k_getR C f_X5_49 (L5_s (by assumption)) (fun _ _ _ => rfl) (L5_2 (by assumption)) dX5_putOn_110 ?_
              refine k_callVg C s_X5_272 h_X1_remember (L1_s hhl) rfl (ct_X1_remember hhl hh hl hr h3 ⟨by omega, by omega, by omega⟩) rfl rfl (Nat.le_of_ble_eq_true rfl) ⟨Nat.le_of_ble_eq_true rfl, Nat.le_of_ble_eq_true rfl⟩ ⟨Nat.le_of_ble_eq_true rfl, Nat.le_of_ble_eq_true rfl⟩ ⟨rfl, rfl⟩ dX5_putOn_113 ?_
              intro v113 I1 hv
              obtain ⟨rfl, hh1, g1⟩ := hv
              obtain ⟨hR1, F1⟩ := RR_his hR ⟨_, hh1⟩ g1
              have hr1 := RR_r hR1
              have hpr1 := CR_p hr1
              refine k_aload_n C (f := 0) (i := 0) (p := 0) rfl rfl dX5_putOn_116 ?_
              refine k_getR C f_X5_49 (L5_s (by assumption)) (fun _ _ _ => rfl) (L5_2 (by assumption)) dX5_putOn_117 ?_
              refine k_iload_n C (f := 1) (i := 1) (p := 1) rfl rfl dX5_putOn_120 ?_
              refine k_callVg C s_X5_295 h_X0_layDown (L0_s (by assumption)) rfl (ct_X0_layDown hl hr1 hl2 ((RK_W hok).2 l hl2)) rfl rfl (Nat.le_of_ble_eq_true rfl) ⟨Nat.le_of_ble_eq_true rfl, Nat.le_of_ble_eq_true rfl⟩ ⟨Nat.le_of_ble_eq_true rfl, Nat.le_of_ble_eq_true rfl⟩ ⟨rfl, rfl⟩ dX5_putOn_121 ?_
              intro v121 I2 hv
              obtain ⟨rfl, hr2, g2⟩ := hv
              obtain ⟨hR2, F2⟩ := RR_car hR1 hr2 g2
              have sc := sc_lay r l
              refine k_aload_n C (f := 0) (i := 0) (p := 0) rfl rfl dX5_putOn_124 ?_
              refine k_getR C f_X5_49 (L5_s (by assumption)) (fun _ _ _ => rfl) (L5_2 (by assumption)) dX5_putOn_125 ?_
              refine k_iload_n C (f := 1) (i := 1) (p := 1) rfl rfl dX5_putOn_128 ?_
              refine k_iload_n C (f := 2) (i := 2) (p := 2) rfl rfl dX5_putOn_129 ?_
              refine k_callVg C s_X5_298 h_X0_hangOn (L0_s (by assumption)) rfl (ct_X0_hangOn (k := l) (j := j) hl hr2 (by rw [sc.2.2.2]; exact hl2) (by rw [sc.1]; exact hj) (by unfold sp_lay; rw [upd_ne (by omega), upd_eq])) rfl rfl (Nat.le_of_ble_eq_true rfl) ⟨Nat.le_of_ble_eq_true rfl, Nat.le_of_ble_eq_true rfl⟩ ⟨Nat.le_of_ble_eq_true rfl, Nat.le_of_ble_eq_true rfl⟩ ⟨rfl, rfl⟩ dX5_putOn_130 ?_
              intro v130 I3 hv
              obtain ⟨rfl, hr3, g3⟩ := hv
              obtain ⟨hR3, F3⟩ := RR_car hR2 hr3 g3
              have hnc3 : j < sp_nc (sp_hang (sp_lay r l) l j) := by
                unfold sp_hang
                rw [sp_nc_upd (by omega), sc.1]; exact hj
              refine k_aload_n C (f := 0) (i := 0) (p := 0) rfl rfl dX5_putOn_133 ?_
              refine k_getR C f_X5_49 (L5_s (by assumption)) (fun _ _ _ => rfl) (L5_2 (by assumption)) dX5_putOn_134 ?_
              refine k_iload_n C (f := 2) (i := 2) (p := 2) rfl rfl dX5_putOn_137 ?_
              refine k_callVp C s_X5_211 h_X0_freeOn (L0_s (by assumption)) rfl (ct_X0_freeOn hl hr3 (by omega)) rfl rfl (Nat.le_of_ble_eq_true rfl) ⟨Nat.le_of_ble_eq_true rfl, Nat.le_of_ble_eq_true rfl⟩ ⟨Nat.le_of_ble_eq_true rfl, Nat.le_of_ble_eq_true rfl⟩ ⟨rfl, rfl⟩ dX5_putOn_138 ?_
              exact k_iret C (Nat.le_of_ble_eq_true rfl) (Nat.le_of_ble_eq_true rfl) (by
                  refine ⟨by rw [nI_clamp (by omega), nI_clamp (by omega), if_pos hnc3], ?_, rfl, rfl, by rw [nI_clamp (by omega), nI_clamp (by omega)]; exact hR3, (F1.tr F2).tr F3⟩
                  rw [if_pos ⟨hca, hcd⟩, nI_clamp (by omega), nI_clamp (by omega)]
                  rw [if_pos hj] at hc91
                  exact if_pos ⟨hc18.2, hc31, hc60, Int32.not_lt.mpr hc91⟩) dX5_putOn_141
            · skip
              exact k_throwSW C tw_X5_87 (si := 27) rfl (Nat.le_of_ble_eq_true rfl) (Nat.le_of_ble_eq_true rfl) (⟨Or.inr ⟨rfl, by
                rw [if_pos ⟨hca, hcd⟩, nI_clamp (by omega), nI_clamp (by omega)]
                exact if_neg (fun z => by rw [if_pos hj] at hc91; exact hc91 (Int32.not_lt.mp z.2.2.2))⟩, rfl, rfl, rfl⟩) ⟨Nat.le_of_ble_eq_true rfl, Nat.le_of_ble_eq_true rfl⟩ ⟨Nat.le_of_ble_eq_true rfl, Nat.le_of_ble_eq_true rfl⟩ dX5_putOn_94 dX5_putOn_97 dX5_putOn_98 dX5_putOn_101 dX5_putOn_104
          · skip
            exact k_throwSW C tw_X5_87 (si := 26) rfl (Nat.le_of_ble_eq_true rfl) (Nat.le_of_ble_eq_true rfl) (⟨Or.inr ⟨rfl, by
              rw [if_pos ⟨hca, hcd⟩, nI_clamp (by omega), nI_clamp (by omega)]
              exact if_neg (fun z => hc60 z.2.2.1)⟩, rfl, rfl, rfl⟩) ⟨Nat.le_of_ble_eq_true rfl, Nat.le_of_ble_eq_true rfl⟩ ⟨Nat.le_of_ble_eq_true rfl, Nat.le_of_ble_eq_true rfl⟩ dX5_putOn_63 dX5_putOn_66 dX5_putOn_67 dX5_putOn_70 dX5_putOn_73
        · skip
          exact k_throwSW C tw_X5_87 (si := 25) rfl (Nat.le_of_ble_eq_true rfl) (Nat.le_of_ble_eq_true rfl) (⟨Or.inr ⟨rfl, by
            rw [if_pos ⟨hca, hcd⟩, nI_clamp (by omega), nI_clamp (by omega)]
            exact if_neg (fun z => by first | exact hc18 ⟨hj, z.1⟩ | exact z.2.1 hc31)⟩, rfl, rfl, rfl⟩) ⟨Nat.le_of_ble_eq_true rfl, Nat.le_of_ble_eq_true rfl⟩ ⟨Nat.le_of_ble_eq_true rfl, Nat.le_of_ble_eq_true rfl⟩ dX5_putOn_34 dX5_putOn_37 dX5_putOn_38 dX5_putOn_41 dX5_putOn_44
    · skip
      intro E Λ1 I1 J1 hv
      obtain ⟨rfl, hcd, rfl, rfl, rfl⟩ := hv
      exact k_out C rfl (Nat.le_of_ble_eq_true rfl) (Nat.le_of_ble_eq_true rfl) (⟨Or.inl ⟨rfl, if_neg (fun z => by rw [hcd] at z; cases z.2)⟩, rfl, rfl, rfl⟩)
  · skip
    intro E Λ1 I1 J1 hv
    obtain ⟨rfl, hcd, rfl, rfl, rfl⟩ := hv
    exact k_out C rfl (Nat.le_of_ble_eq_true rfl) (Nat.le_of_ble_eq_true rfl) (⟨Or.inl ⟨rfl, if_neg (fun z => by rw [hcd] at z; cases z.1)⟩, rfl, rfl, rfl⟩)
set_option maxHeartbeats 4000000 in
set_option maxRecDepth 100000 in
theorem ct_X5_shorten {G : am_G} {Λ : am_L} {I : am_I} {J : am_J} {x n ct : Nat} {tb : Nat → Nat} {err : Int32} {r : Nat → Int32} {hs : Nat → Nat → Int32} {kp : Nat → Bool} {sn : Nat → Nat → Int32} {w : Nat × (Nat → Int32)} {a : Int32} (hx : RouLay Λ x) (hR : RouRel I x tb n err r ct hs kp sn w) : am_Ct G yX5_shorten cX5_shorten 2 (some .int) { frames := 6, cells := 1, slots := 6, locals := 90 } [.ref x, .int a] Λ I J (am_pch (some (.int a)) (if a < 0 ∨ nI n < a then 1 else 0) Λ J (fun I' => RouRel I' x (tb) (a.toNatClampNeg) (err) (r) (ct) (hs) (kp) (sn) (w) ∧ RFr x I I')) (am_px1 "java/lang/IllegalArgumentException" (if a < 0 ∨ nI n < a then 1 else 0) Λ I J) := by
  refine am_ct_of (own := RX5) rfl (by decide) (Nat.le_of_ble_eq_true rfl) (fun X C => ?_)
  change am_K G X { frames := 6, cells := 1, slots := 6, locals := 90 } 2 Λ I J 0 0 0 [(0, .ref x), (1, .int a)] []
  have hi := L5_i hx
  have hxx := RR_x hR
  have hn7 := hxx.2.1
  refine k_iload_n C (f := 1) (i := 1) (p := 1) rfl rfl dX5_shorten_0 ?_
  refine k_if_lt C (tgt := 15) (by decide) dX5_shorten_1 (fun hc1 => ?_) (fun hc1 => ?_)
  · skip
    exact k_throwS C tw_X5_97 (si := 8) rfl (Nat.le_of_ble_eq_true rfl) (Nat.le_of_ble_eq_true rfl) (⟨rfl, if_pos (by first | exact Or.inl hc1 | exact Or.inr (Int32.not_le.mp hc12)), rfl, rfl, rfl⟩) ⟨Nat.le_of_ble_eq_true rfl, Nat.le_of_ble_eq_true rfl⟩ ⟨Nat.le_of_ble_eq_true rfl, Nat.le_of_ble_eq_true rfl⟩ dX5_shorten_15 dX5_shorten_18 dX5_shorten_19 dX5_shorten_21 dX5_shorten_24
  · skip
    refine k_iload_n C (f := 1) (i := 1) (p := 1) rfl rfl dX5_shorten_4 ?_
    refine k_aload_n C (f := 0) (i := 0) (p := 0) rfl rfl dX5_shorten_5 ?_
    refine k_getR C f_X5_12 (L5_s (by assumption)) (fun _ _ _ => rfl) (L5_0 (by assumption)) dX5_shorten_6 ?_
    refine k_getI C f_X5_84 (L2_s hi) (fun _ _ _ => rfl) (hxx.1) dX5_shorten_9 ?_
    refine k_icmp_le C (tgt := 25) (by decide) dX5_shorten_12 (fun hc12 => ?_) (fun hc12 => ?_)
    · skip
      refine k_aload_n C (f := 0) (i := 0) (p := 0) rfl rfl dX5_shorten_25 ?_
      refine k_getR C f_X5_12 (L5_s (by assumption)) (fun _ _ _ => rfl) (L5_0 (by assumption)) dX5_shorten_26 ?_
      refine k_iload_n C (f := 1) (i := 1) (p := 1) rfl rfl dX5_shorten_29 ?_
      refine k_putI C f_X5_84 (L2_s hi) rfl rfl dX5_shorten_30 ?_
      refine k_iload_n C (f := 1) (i := 1) (p := 1) rfl rfl dX5_shorten_33 ?_
      exact k_iret C (Nat.le_of_ble_eq_true rfl) (Nat.le_of_ble_eq_true rfl) (by
          obtain ⟨m, hm, rfl⟩ := nI_of hc1
          have hmn : m ≤ n := (nI_leI hm (by omega)).mp hc12
          obtain ⟨hR2, F2⟩ := RR_inp (tb' := tb) (n' := m) (err' := err) (I' := am_up I (x + 1) 1 (nI m)) hR ⟨am_up_eq, by omega, fun k hk => by rw [am_up_n2 (by omega)]; exact hxx.2.2 k (by omega)⟩ (by rw [am_up_n2 (by omega)]; exact RR_e hR) (fun b hb => am_up_ne (by omega))
          exact ⟨rfl, if_neg (fun z => z.elim hc1 (fun z2 => absurd hc12 (Int32.not_le.mpr z2))), rfl, rfl, by rw [nI_clamp hm]; exact hR2, F2⟩) dX5_shorten_34
    · skip
      exact k_throwS C tw_X5_97 (si := 8) rfl (Nat.le_of_ble_eq_true rfl) (Nat.le_of_ble_eq_true rfl) (⟨rfl, if_pos (by first | exact Or.inl hc1 | exact Or.inr (Int32.not_le.mp hc12)), rfl, rfl, rfl⟩) ⟨Nat.le_of_ble_eq_true rfl, Nat.le_of_ble_eq_true rfl⟩ ⟨Nat.le_of_ble_eq_true rfl, Nat.le_of_ble_eq_true rfl⟩ dX5_shorten_15 dX5_shorten_18 dX5_shorten_19 dX5_shorten_21 dX5_shorten_24
set_option maxHeartbeats 4000000 in
set_option maxRecDepth 100000 in
theorem ct_X5_append {G : am_G} {Λ : am_L} {I : am_I} {J : am_J} {x n ct : Nat} {tb : Nat → Nat} {err : Int32} {r : Nat → Int32} {hs : Nat → Nat → Int32} {kp : Nat → Bool} {sn : Nat → Nat → Int32} {w : Nat × (Nat → Int32)} {a b c d e : Int32} (hx : RouLay Λ x) (hR : RouRel I x tb n err r ct hs kp sn w) : am_Ct G yX5_append cX5_append 6 (some .int) { frames := 6, cells := 1, slots := 6, locals := 90 } [.ref x, .int a, .int b, .int c, .int d, .int e] Λ I J (am_pch (some (.int (nI (n + 20)))) (if 700 < n + 20 then 1 else 0) Λ J (fun I' => RouRel I' x ((sp_tbs (sp_tbs (sp_tbs (sp_tbs (sp_tbs tb n a 4) (n + 4) b 4) (n + 8) c 4) (n + 12) d 4) (n + 16) e 4)) (n + 20) (err) (r) (ct) (hs) (kp) (sn) (w) ∧ RFr x I I')) (am_px1 "java/lang/IllegalStateException" (if 700 < n + 20 then 1 else 0) Λ I J) := by
  refine am_ct_of (own := RX5) rfl (by decide) (Nat.le_of_ble_eq_true rfl) (fun X C => ?_)
  change am_K G X { frames := 6, cells := 1, slots := 6, locals := 90 } 6 Λ I J 0 0 0 [(0, .ref x), (1, .int a), (2, .int b), (3, .int c), (4, .int d), (5, .int e)] []
  have hi := L5_i hx
  have hxx := RR_x hR
  have hn7 := hxx.2.1
  refine k_aload_n C (f := 0) (i := 0) (p := 0) rfl rfl dX5_append_0 ?_
  refine k_getR C f_X5_12 (L5_s (by assumption)) (fun _ _ _ => rfl) (L5_0 (by assumption)) dX5_append_1 ?_
  refine k_getI C f_X5_84 (L2_s hi) (fun _ _ _ => rfl) (hxx.1) dX5_append_4 ?_
  refine k_bipush C bc_20 dX5_append_7 ?_
  refine k_iadd C dX5_append_9 ?_
  rw [nI_add]
  refine k_sipush C sc_700 dX5_append_10 ?_
  first
  | refine k_icmpN_le C (tgt := 26) (by omega) (by omega) (by decide) dX5_append_13 (fun hc13 => ?_) (fun hc13 => ?_)
  | refine k_icmp_le C (tgt := 26) (by decide) dX5_append_13 (fun hc13 => ?_) (fun hc13 => ?_)
  · skip
    refine k_aload_n C (f := 0) (i := 0) (p := 0) rfl rfl dX5_append_26 ?_
    refine k_getR C f_X5_12 (L5_s (by assumption)) (fun _ _ _ => rfl) (L5_0 (by assumption)) dX5_append_27 ?_
    refine k_iload_n C (f := 1) (i := 1) (p := 1) rfl rfl dX5_append_30 ?_
    refine k_callVg C s_X5_93 h_X2_takeFour (L2_s hi) rfl (ct_X2_takeFour hi hxx (by omega)) rfl rfl (Nat.le_of_ble_eq_true rfl) ⟨Nat.le_of_ble_eq_true rfl, Nat.le_of_ble_eq_true rfl⟩ ⟨Nat.le_of_ble_eq_true rfl, Nat.le_of_ble_eq_true rfl⟩ ⟨rfl, rfl⟩ dX5_append_31 ?_
    intro v31 I31 hv
    obtain ⟨rfl, hx31, g31⟩ := hv
    refine k_aload_n C (f := 0) (i := 0) (p := 0) rfl rfl dX5_append_34 ?_
    refine k_getR C f_X5_12 (L5_s (by assumption)) (fun _ _ _ => rfl) (L5_0 (by assumption)) dX5_append_35 ?_
    refine k_iload_n C (f := 2) (i := 2) (p := 2) rfl rfl dX5_append_38 ?_
    refine k_callVg C s_X5_93 h_X2_takeFour (L2_s hi) rfl (ct_X2_takeFour hi hx31 (by omega)) rfl rfl (Nat.le_of_ble_eq_true rfl) ⟨Nat.le_of_ble_eq_true rfl, Nat.le_of_ble_eq_true rfl⟩ ⟨Nat.le_of_ble_eq_true rfl, Nat.le_of_ble_eq_true rfl⟩ ⟨rfl, rfl⟩ dX5_append_39 ?_
    intro v39 I39 hv
    obtain ⟨rfl, hx39, g39⟩ := hv
    refine k_aload_n C (f := 0) (i := 0) (p := 0) rfl rfl dX5_append_42 ?_
    refine k_getR C f_X5_12 (L5_s (by assumption)) (fun _ _ _ => rfl) (L5_0 (by assumption)) dX5_append_43 ?_
    refine k_iload_n C (f := 3) (i := 3) (p := 3) rfl rfl dX5_append_46 ?_
    refine k_callVg C s_X5_93 h_X2_takeFour (L2_s hi) rfl (ct_X2_takeFour hi hx39 (by omega)) rfl rfl (Nat.le_of_ble_eq_true rfl) ⟨Nat.le_of_ble_eq_true rfl, Nat.le_of_ble_eq_true rfl⟩ ⟨Nat.le_of_ble_eq_true rfl, Nat.le_of_ble_eq_true rfl⟩ ⟨rfl, rfl⟩ dX5_append_47 ?_
    intro v47 I47 hv
    obtain ⟨rfl, hx47, g47⟩ := hv
    refine k_aload_n C (f := 0) (i := 0) (p := 0) rfl rfl dX5_append_50 ?_
    refine k_getR C f_X5_12 (L5_s (by assumption)) (fun _ _ _ => rfl) (L5_0 (by assumption)) dX5_append_51 ?_
    refine k_iload C (i := 4) (p := 4) rfl dX5_append_54 ?_
    refine k_callVg C s_X5_93 h_X2_takeFour (L2_s hi) rfl (ct_X2_takeFour hi hx47 (by omega)) rfl rfl (Nat.le_of_ble_eq_true rfl) ⟨Nat.le_of_ble_eq_true rfl, Nat.le_of_ble_eq_true rfl⟩ ⟨Nat.le_of_ble_eq_true rfl, Nat.le_of_ble_eq_true rfl⟩ ⟨rfl, rfl⟩ dX5_append_56 ?_
    intro v56 I56 hv
    obtain ⟨rfl, hx56, g56⟩ := hv
    refine k_aload_n C (f := 0) (i := 0) (p := 0) rfl rfl dX5_append_59 ?_
    refine k_getR C f_X5_12 (L5_s (by assumption)) (fun _ _ _ => rfl) (L5_0 (by assumption)) dX5_append_60 ?_
    refine k_iload C (i := 5) (p := 5) rfl dX5_append_63 ?_
    refine k_callVg C s_X5_93 h_X2_takeFour (L2_s hi) rfl (ct_X2_takeFour hi hx56 (by omega)) rfl rfl (Nat.le_of_ble_eq_true rfl) ⟨Nat.le_of_ble_eq_true rfl, Nat.le_of_ble_eq_true rfl⟩ ⟨Nat.le_of_ble_eq_true rfl, Nat.le_of_ble_eq_true rfl⟩ ⟨rfl, rfl⟩ dX5_append_65 ?_
    intro v65 I65 hv
    obtain ⟨rfl, hx65, g65⟩ := hv
    refine k_aload_n C (f := 0) (i := 0) (p := 0) rfl rfl dX5_append_68 ?_
    refine k_getR C f_X5_12 (L5_s (by assumption)) (fun _ _ _ => rfl) (L5_0 (by assumption)) dX5_append_69 ?_
    refine k_getI C f_X5_84 (L2_s hi) (fun _ _ _ => rfl) (hx65.1) dX5_append_72 ?_
    exact k_iret C (Nat.le_of_ble_eq_true rfl) (Nat.le_of_ble_eq_true rfl) (by
        have gg : ∀ b' K : Nat, ¬ (b' = x + 1 ∧ K = 1) → b' ≠ x + 1 + 1 → I65 b' K = I b' K := fun b' K h1 h2 => (g65 b' K h1 h2).trans ((g56 b' K h1 h2).trans ((g47 b' K h1 h2).trans ((g39 b' K h1 h2).trans (g31 b' K h1 h2))))
        obtain ⟨hR2, F2⟩ := RR_inp (err' := err) hR hx65 (by rw [gg x 1 (by omega) (by omega)]; exact RR_e hR) (fun b' hb => funext fun K => gg b' K (by omega) (by omega))
        exact ⟨rfl, if_neg (by omega), rfl, rfl, hR2, F2⟩) dX5_append_75
  · skip
    exact k_throwS C tw_X5_87 (si := 7) rfl (Nat.le_of_ble_eq_true rfl) (Nat.le_of_ble_eq_true rfl) (⟨rfl, if_pos (by omega), rfl, rfl, rfl⟩) ⟨Nat.le_of_ble_eq_true rfl, Nat.le_of_ble_eq_true rfl⟩ ⟨Nat.le_of_ble_eq_true rfl, Nat.le_of_ble_eq_true rfl⟩ dX5_append_16 dX5_append_19 dX5_append_20 dX5_append_22 dX5_append_25
