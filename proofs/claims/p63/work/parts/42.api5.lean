theorem am_b_eq {a b : Bool} (h : a = b) : am_b (a = true) = am_b (b = true) := by subst h; rfl
set_option maxHeartbeats 4000000 in
set_option maxRecDepth 100000 in
theorem ct_X5_saveSnapshot {G : am_G} {Λ : am_L} {I : am_I} {J : am_J} {x n ct : Nat} {tb : Nat → Nat} {err : Int32} {r : Nat → Int32} {hs : Nat → Nat → Int32} {kp : Nat → Bool} {sn : Nat → Nat → Int32} {w : Nat × (Nat → Int32)} {c : Int32} (hx : RouLay Λ x) (hR : RouRel I x tb n err r ct hs kp sn w) (hok : RowOk r) : am_Ct G yX5_saveSnapshot cX5_saveSnapshot 2 (some .int) { frames := 7, cells := 1, slots := 6, locals := 111 } [.ref x, .int c] Λ I J (am_pch (some (.int (r 1))) (cdI 2 c) Λ J (fun I' => RouRel I' x (tb) (n) (err) (r) (ct) (hs) (fun i => if i = c.toNatClampNeg then true else kp i) (fun i => if i = c.toNatClampNeg then r else sn i) (w) ∧ RFr x I I')) (am_px1 "java/lang/IndexOutOfBoundsException" (cdI 2 c) Λ I J) := by
  refine am_ct_of (own := RX5) rfl (by decide) (Nat.le_of_ble_eq_true rfl) (fun X C => ?_)
  change am_K G X { frames := 7, cells := 1, slots := 6, locals := 111 } 2 Λ I J 0 0 0 [(0, .ref x), (1, .int c)] []
  have hr := RR_r hR
  have hl := L5_n hx
  have hp := L5_p hx
  have hpr := CR_p hr
  have hnc := PR_c hpr
  have hnw := PR_w hpr
  have hnl := CR_l hr
  have hhl := L5_h hx
  obtain ⟨nx, hh⟩ := RR_h hR
  have h3 := RK_3 hok
  refine k_aload_n C (f := 0) (i := 0) (p := 0) rfl rfl dX5_saveSnapshot_0 ?_
  refine k_iload_n C (f := 1) (i := 1) (p := 1) rfl rfl dX5_saveSnapshot_1 ?_
  refine k_callV C s_X5_321 h_X5_requireSlot (L5_s hx) rfl (ct_X5_requireSlot ) rfl rfl (Nat.le_of_ble_eq_true rfl) ⟨Nat.le_of_ble_eq_true rfl, Nat.le_of_ble_eq_true rfl⟩ ⟨Nat.le_of_ble_eq_true rfl, Nat.le_of_ble_eq_true rfl⟩ dX5_saveSnapshot_2 ?_ ?_
  · skip
    intro v2 Λ1 I1 J1 hv
    obtain ⟨rfl, hcd, rfl, rfl, rfl⟩ := hv
    obtain ⟨j, hj, rfl⟩ := cdI_0 hcd (by omega)
    obtain ⟨hk1, hk2⟩ := (L5_k hx) j hj
    refine k_aload_n C (f := 0) (i := 0) (p := 0) rfl rfl dX5_saveSnapshot_5 ?_
    refine k_getR C f_X5_65 (L5_s (by assumption)) (fun _ _ _ => rfl) (L5_5 (by assumption)) dX5_saveSnapshot_6 ?_
    refine k_iload_n C (f := 1) (i := 1) (p := 1) rfl rfl dX5_saveSnapshot_9 ?_
    refine k_aald C (A5_5 hx) (by first | rfl | assumption) (by omega) (by decide) (hk1) dX5_saveSnapshot_10 ?_
    refine k_aload_n C (f := 0) (i := 0) (p := 0) rfl rfl dX5_saveSnapshot_11 ?_
    refine k_getR C f_X5_49 (L5_s (by assumption)) (fun _ _ _ => rfl) (L5_2 (by assumption)) dX5_saveSnapshot_12 ?_
    refine k_callVg C s_X5_52 h_X0_copyFrom (L0_s hk2) rfl (ct_X0_copyFrom hk2 hl hr hpr ⟨by omega, by omega, by omega, by omega⟩ (by rw [CR_3 hr]; exact h3)) rfl rfl (Nat.le_of_ble_eq_true rfl) ⟨Nat.le_of_ble_eq_true rfl, Nat.le_of_ble_eq_true rfl⟩ ⟨Nat.le_of_ble_eq_true rfl, Nat.le_of_ble_eq_true rfl⟩ ⟨rfl, rfl⟩ dX5_saveSnapshot_15 ?_
    intro v15 I2 hv
    obtain ⟨rfl, hc2, g2⟩ := hv
    have hr2 : CarRel I2 (x + 34) (x + 35) (x + 24) r := CR_agree hr (g2 _ (by omega) (by omega)) (fun b g1 g3 => g2 b (by omega) (by omega)) (fun b g1 g3 => g2 b (by omega) (by omega))
    refine k_aload_n C (f := 0) (i := 0) (p := 0) rfl rfl dX5_saveSnapshot_18 ?_
    refine k_getR C f_X5_69 (L5_s (by assumption)) (fun _ _ _ => rfl) (L5_6 (by assumption)) dX5_saveSnapshot_19 ?_
    refine k_iload_n C (f := 1) (i := 1) (p := 1) rfl rfl dX5_saveSnapshot_22 ?_
    refine k_iconst C ic_1 dX5_saveSnapshot_23 ?_
    refine k_zast C (A5_6 (by assumption)) (by first | rfl | assumption) (by omega) (by decide) dX5_saveSnapshot_24 ?_
    rw [show vp_nar FieldType.boolean (nI 1) = nI 1 from rfl]
    refine k_aload_n C (f := 0) (i := 0) (p := 0) rfl rfl dX5_saveSnapshot_25 ?_
    refine k_getR C f_X5_49 (L5_s (by assumption)) (fun _ _ _ => rfl) (L5_2 (by assumption)) dX5_saveSnapshot_26 ?_
    refine k_getI C f_X5_116 (L0_s (by assumption)) (fun _ _ _ => rfl) (Eq.trans (congrFun (am_up_ne (by omega)) 1) (CR_1 hr2)) dX5_saveSnapshot_29 ?_
    exact k_iret C (Nat.le_of_ble_eq_true rfl) (Nat.le_of_ble_eq_true rfl) (by
        rw [nI_clamp (by omega)]
        have hf : ∀ b : Nat, b ≠ x + 169 → b ≠ x + 147 + 11 * j → (b < x + 148 + 11 * j ∨ x + 148 + 11 * j + 10 ≤ b) → am_up I2 (x + 169) j (nI 1) b = I1 b := fun b h1 h2 h4 => (am_up_ne h1).trans (g2 b h2 h4)
        obtain ⟨a1, a2, a3, ⟨nx2, a4⟩, a5, a6, a7⟩ := hR
        refine ⟨rfl, hcd, rfl, rfl, ⟨a1.row (hf _ (by omega) (by omega) (by omega)) (hf _ (by omega) (by omega) (by omega)), by rw [hf x (by omega) (by omega) (by omega)]; exact a2, CR_agree hr2 (am_up_ne (by omega)) (fun b h1 h2 => am_up_ne (by omega)) (fun b h1 h2 => am_up_ne (by omega)), ⟨nx2, HistRel_agree a4 (hf _ (by omega) (by omega) (by omega)) (fun b h1 h2 => hf b (by omega) (by omega) (by omega)) (fun b h1 h2 => hf b (by omega) (by omega) (by omega))⟩, fun i hi => ?_, a6.row (hf _ (by omega) (by omega) (by omega)) (hf _ (by omega) (by omega) (by omega)), a7⟩, fun b hb => hf b (by omega) (by omega) (by omega)⟩
        by_cases e : i = j
        · subst e
          dsimp only
          exact ⟨by rw [am_up_eq]; exact am_bt (if_pos rfl), fun _ => by rw [if_pos rfl]; exact ⟨CR_agree hc2 (am_up_ne (by omega)) (fun b h1 h2 => am_up_ne (by omega)) (fun b h1 h2 => am_up_ne (by omega)), h3⟩⟩
        · dsimp only
          have a := a5 i hi
          refine ⟨by rw [am_up_n2 (fun z => e z.2), g2 (x + 169) (by omega) (by omega)]; exact a.1.trans (am_b_eq (if_neg e).symm), fun hk => ?_⟩
          rw [if_neg e] at hk ⊢
          exact ⟨CR_agree (a.2 hk).1 (hf _ (by omega) (by omega) (by omega)) (fun b h1 h2 => hf b (by omega) (by omega) (by omega)) (fun b h1 h2 => hf b (by omega) (by omega) (by omega)), (a.2 hk).2⟩) dX5_saveSnapshot_32
  · skip
    intro E Λ1 I1 J1 hv
    obtain ⟨rfl, hcd, rfl, rfl, rfl⟩ := hv
    exact k_out C rfl (Nat.le_of_ble_eq_true rfl) (Nat.le_of_ble_eq_true rfl) (⟨rfl, hcd, rfl, rfl, rfl⟩)
set_option maxHeartbeats 4000000 in
set_option maxRecDepth 100000 in
theorem ct_X5_restoreSnapshot {G : am_G} {Λ : am_L} {I : am_I} {J : am_J} {x n ct : Nat} {tb : Nat → Nat} {err : Int32} {r : Nat → Int32} {hs : Nat → Nat → Int32} {kp : Nat → Bool} {sn : Nat → Nat → Int32} {w : Nat × (Nat → Int32)} {c : Int32} (hx : RouLay Λ x) (hR : RouRel I x tb n err r ct hs kp sn w) (hok : RowOk r) : am_Ct G yX5_restoreSnapshot cX5_restoreSnapshot 2 (some .int) { frames := 7, cells := 2, slots := 12, locals := 111 } [.ref x, .int c] Λ I J (am_pch (some (.int (sn c.toNatClampNeg 1))) (if cdI 2 c = 0 then (if kp c.toNatClampNeg = true then 0 else 2) else 1) Λ J (fun I' => RouRel I' x (tb) (n) (err) (sn c.toNatClampNeg) ((min 8 (ct + 1))) ((sp_push r hs)) (kp) (sn) (w) ∧ RFr x I I')) (am_px2 "java/lang/IndexOutOfBoundsException" "java/util/NoSuchElementException" (if cdI 2 c = 0 then (if kp c.toNatClampNeg = true then 0 else 2) else 1) Λ I J) := by
  refine am_ct_of (own := RX5) rfl (by decide) (Nat.le_of_ble_eq_true rfl) (fun X C => ?_)
  change am_K G X { frames := 7, cells := 2, slots := 12, locals := 111 } 2 Λ I J 0 0 0 [(0, .ref x), (1, .int c)] []
  have hr := RR_r hR
  have hl := L5_n hx
  have hp := L5_p hx
  have hpr := CR_p hr
  have hnc := PR_c hpr
  have hnw := PR_w hpr
  have hnl := CR_l hr
  have hhl := L5_h hx
  obtain ⟨nx, hh⟩ := RR_h hR
  have h3 := RK_3 hok
  refine k_aload_n C (f := 0) (i := 0) (p := 0) rfl rfl dX5_restoreSnapshot_0 ?_
  refine k_iload_n C (f := 1) (i := 1) (p := 1) rfl rfl dX5_restoreSnapshot_1 ?_
  refine k_callV C s_X5_321 h_X5_requireSlot (L5_s hx) rfl (ct_X5_requireSlot ) rfl rfl (Nat.le_of_ble_eq_true rfl) ⟨Nat.le_of_ble_eq_true rfl, Nat.le_of_ble_eq_true rfl⟩ ⟨Nat.le_of_ble_eq_true rfl, Nat.le_of_ble_eq_true rfl⟩ dX5_restoreSnapshot_2 ?_ ?_
  · skip
    intro v2 Λ1 I1 J1 hv
    obtain ⟨rfl, hcd, rfl, rfl, rfl⟩ := hv
    obtain ⟨j, hj, rfl⟩ := cdI_0 hcd (by omega)
    obtain ⟨hk1, hk2⟩ := (L5_k hx) j hj
    refine k_aload_n C (f := 0) (i := 0) (p := 0) rfl rfl dX5_restoreSnapshot_5 ?_
    refine k_getR C f_X5_69 (L5_s (by assumption)) (fun _ _ _ => rfl) (L5_6 (by assumption)) dX5_restoreSnapshot_6 ?_
    refine k_iload_n C (f := 1) (i := 1) (p := 1) rfl rfl dX5_restoreSnapshot_9 ?_
    refine k_zald C (A5_6 hx) (by first | rfl | assumption) (by omega) (by decide) (((RR_s hR) j hj).1) dX5_restoreSnapshot_10 ?_
    refine k_ifb_ne C (tgt := 25) (by decide) dX5_restoreSnapshot_11 (fun hc11 => ?_) (fun hc11 => ?_)
    · skip
      refine k_aload_n C (f := 0) (i := 0) (p := 0) rfl rfl dX5_restoreSnapshot_25 ?_
      refine k_getR C f_X5_61 (L5_s (by assumption)) (fun _ _ _ => rfl) (L5_4 (by assumption)) dX5_restoreSnapshot_26 ?_
      refine k_aload_n C (f := 0) (i := 0) (p := 0) rfl rfl dX5_restoreSnapshot_29 ?_
      refine k_getR C f_X5_49 (L5_s (by assumption)) (fun _ _ _ => rfl) (L5_2 (by assumption)) dX5_restoreSnapshot_30 ?_
      refine k_callVg C s_X5_272 h_X1_remember (L1_s hhl) rfl (ct_X1_remember hhl hh hl hr h3 ⟨by omega, by omega, by omega⟩) rfl rfl (Nat.le_of_ble_eq_true rfl) ⟨Nat.le_of_ble_eq_true rfl, Nat.le_of_ble_eq_true rfl⟩ ⟨Nat.le_of_ble_eq_true rfl, Nat.le_of_ble_eq_true rfl⟩ ⟨rfl, rfl⟩ dX5_restoreSnapshot_33 ?_
      intro v33 I1 hv
      obtain ⟨rfl, hh1, g1⟩ := hv
      obtain ⟨hR1, F1⟩ := RR_his hR ⟨_, hh1⟩ g1
      have hr1 := RR_r hR1
      have hpr1 := CR_p hr1
      refine k_aload_n C (f := 0) (i := 0) (p := 0) rfl rfl dX5_restoreSnapshot_36 ?_
      refine k_getR C f_X5_49 (L5_s (by assumption)) (fun _ _ _ => rfl) (L5_2 (by assumption)) dX5_restoreSnapshot_37 ?_
      refine k_aload_n C (f := 0) (i := 0) (p := 0) rfl rfl dX5_restoreSnapshot_40 ?_
      refine k_getR C f_X5_65 (L5_s (by assumption)) (fun _ _ _ => rfl) (L5_5 (by assumption)) dX5_restoreSnapshot_41 ?_
      refine k_iload_n C (f := 1) (i := 1) (p := 1) rfl rfl dX5_restoreSnapshot_44 ?_
      refine k_aald C (A5_5 hx) (by first | rfl | assumption) (by omega) (by decide) (hk1) dX5_restoreSnapshot_45 ?_
      refine k_callVg C s_X5_52 h_X0_copyFrom (L0_s hl) rfl (ct_X0_copyFrom hl hk2 (((RR_s hR1) j hj).2 hc11).1 (((RR_s hR1) j hj).2 hc11).1.1 ⟨by omega, by omega, by omega, by omega⟩ (by rw [CR_3 (((RR_s hR1) j hj).2 hc11).1]; exact (((RR_s hR1) j hj).2 hc11).2)) rfl rfl (Nat.le_of_ble_eq_true rfl) ⟨Nat.le_of_ble_eq_true rfl, Nat.le_of_ble_eq_true rfl⟩ ⟨Nat.le_of_ble_eq_true rfl, Nat.le_of_ble_eq_true rfl⟩ ⟨rfl, rfl⟩ dX5_restoreSnapshot_46 ?_
      intro v46 I2 hv
      obtain ⟨rfl, hr2, g2⟩ := hv
      obtain ⟨hR2, F2⟩ := RR_car hR1 hr2 g2
      refine k_aload_n C (f := 0) (i := 0) (p := 0) rfl rfl dX5_restoreSnapshot_49 ?_
      refine k_getR C f_X5_49 (L5_s (by assumption)) (fun _ _ _ => rfl) (L5_2 (by assumption)) dX5_restoreSnapshot_50 ?_
      refine k_getI C f_X5_116 (L0_s (by assumption)) (fun _ _ _ => rfl) (CR_1 hr2) dX5_restoreSnapshot_53 ?_
      exact k_iret C (Nat.le_of_ble_eq_true rfl) (Nat.le_of_ble_eq_true rfl) (⟨by rw [nI_clamp (by omega)], by rw [if_pos hcd, nI_clamp (by omega), if_pos hc11], rfl, rfl, by rw [nI_clamp (by omega)]; exact hR2, F1.tr F2⟩) dX5_restoreSnapshot_56
    · skip
      exact k_throwNW C tw_X5_110 (si := 33) rfl (Nat.le_of_ble_eq_true rfl) (Nat.le_of_ble_eq_true rfl) (⟨Or.inr ⟨rfl, by rw [if_pos hcd, nI_clamp (by omega), if_neg hc11]⟩, rfl, rfl, rfl⟩) ⟨Nat.le_of_ble_eq_true rfl, Nat.le_of_ble_eq_true rfl⟩ ⟨Nat.le_of_ble_eq_true rfl, Nat.le_of_ble_eq_true rfl⟩ dX5_restoreSnapshot_14 dX5_restoreSnapshot_17 dX5_restoreSnapshot_18 dX5_restoreSnapshot_21 dX5_restoreSnapshot_24
  · skip
    intro E Λ1 I1 J1 hv
    obtain ⟨rfl, hcd, rfl, rfl, rfl⟩ := hv
    exact k_out C rfl (Nat.le_of_ble_eq_true rfl) (Nat.le_of_ble_eq_true rfl) (⟨Or.inl ⟨rfl, by rw [hcd]; rfl⟩, rfl, rfl, rfl⟩)
set_option maxHeartbeats 4000000 in
set_option maxRecDepth 100000 in
theorem ct_X1_forget0 {G : am_G} {Λ : am_L} {I : am_I} {J : am_J} {h p nx : Nat} {rs : Nat → Nat → Int32} (hh : HistLay Λ h p) (h1 : I h 1 = nI nx) (hnx : nx < 8) : am_Ct G yX1_forget cX1_forget 1 none { frames := 0, cells := 0, slots := 0, locals := 0 } [.ref h] Λ I J (am_gen Λ J (fun v I' => v = none ∧ HistRel I' h p 0 nx rs ∧ ∀ b : Nat, b ≠ h → I' b = I b)) am_never := by
  refine am_ct_of (own := RX1) rfl (by decide) (Nat.le_of_ble_eq_true rfl) (fun X C => ?_)
  change am_K G X { frames := 0, cells := 0, slots := 0, locals := 0 } 1 Λ I J 0 0 0 [(0, .ref h)] []
  refine k_aload_n C (f := 0) (i := 0) (p := 0) rfl rfl dX1_forget_0 ?_
  refine k_iconst C ic_0 dX1_forget_1 ?_
  refine k_putI C f_X1_20 (L1_s (by assumption)) rfl rfl dX1_forget_2 ?_
  exact k_vret C (Nat.le_of_ble_eq_true rfl) (Nat.le_of_ble_eq_true rfl) (⟨rfl, rfl, ⟨rfl, ⟨by rw [am_up_n2 (by omega)]; exact h1, am_up_eq, hnx, by omega, fun s hs => absurd hs (Nat.not_lt_zero s)⟩, fun b hb => am_up_ne hb⟩⟩) dX1_forget_5
theorem sp_parse_3 {tb : Nat → Nat} {n : Nat} {r : Nat → Int32} {I : am_I} {c q p : Nat} (h : CarRel I c q p r) (h3 : r 3 = 0 ∨ r 3 = 1) : I c 3 = 0 ∨ I c 3 = 1 := by rw [CR_3 h]; exact h3
set_option maxHeartbeats 4000000 in
set_option maxRecDepth 100000 in
theorem ct_X5_load {G : am_G} {Λ : am_L} {I : am_I} {J : am_J} {x n ct : Nat} {tb : Nat → Nat} {err : Int32} {r : Nat → Int32} {hs : Nat → Nat → Int32} {kp : Nat → Bool} {sn : Nat → Nat → Int32} {w : Nat × (Nat → Int32)}  (hx : RouLay Λ x) (hR : RouRel I x tb n err r ct hs kp sn w) (hp3 : ∀ r1, sp_parse tb n = .ok r1 → (r1 3 = 0 ∨ r1 3 = 1)) : am_Ct G yX5_load cX5_load 2 (some .int) { frames := 8, cells := 1, slots := 6, locals := 172 } [.ref x] Λ I J (fun v Λ' I' J' => (∃ r' : Nat → Int32, sp_parse tb n = .ok r' ∧ v = some (.int (nI (sp_nc r'))) ∧ RouRel I' x tb 0 (-1) r' 0 hs (fun _ => false) sn w) ∧ Λ' = Λ ∧ J' = J ∧ RFr x I I') (fun E Λ' I' J' => E = "java/lang/IllegalArgumentException" ∧ (∃ e : Nat, sp_parse tb n = .error e ∧ e ≤ 700 ∧ RouRel I' x tb 0 (nI e) r ct hs kp sn w) ∧ Λ' = Λ ∧ J' = J ∧ RFr x I I') := by
  refine am_ct_of (own := RX5) rfl (by decide) (Nat.le_of_ble_eq_true rfl) (fun X C => ?_)
  change am_K G X { frames := 8, cells := 1, slots := 6, locals := 172 } 2 Λ I J 0 0 0 [(0, .ref x)] []
  have hi := L5_i hx
  have hxx := RR_x hR
  have hn7 := hxx.2.1
  have hl := L5_n hx
  have hp := L5_p hx
  have hhl := L5_h hx
  obtain ⟨nx, hh⟩ := RR_h hR
  have hcd := L2_c hi
  have hpd := L0_p hcd
  refine k_aload_n C (f := 0) (i := 0) (p := 0) rfl rfl dX5_load_0 ?_
  refine k_aload_n C (f := 0) (i := 0) (p := 0) rfl rfl dX5_load_1 ?_
  refine k_getR C f_X5_12 (L5_s (by assumption)) (fun _ _ _ => rfl) (L5_0 (by assumption)) dX5_load_2 ?_
  refine k_callVg C s_X5_22 h_X2_findError (L2_s hi) rfl (ct_X2_findError hi hxx) rfl rfl (Nat.le_of_ble_eq_true rfl) ⟨Nat.le_of_ble_eq_true rfl, Nat.le_of_ble_eq_true rfl⟩ ⟨Nat.le_of_ble_eq_true rfl, Nat.le_of_ble_eq_true rfl⟩ ⟨rfl, rfl⟩ dX5_load_5 ?_
  intro v5 I2 hv
  obtain ⟨rfl, hn2, hok2, her2, g2⟩ := hv
  obtain ⟨I3, hI3⟩ : ∃ z : am_I, z = am_up I2 x 1 (sp_err (sp_parse tb n)) := ⟨_, rfl⟩
  refine k_putI C f_X5_26 (L5_s (by assumption)) rfl rfl dX5_load_8 ?_
  rw [← hI3]
  have f3 : ∀ b : Nat, (b < x ∨ x + 24 ≤ b) → I3 b = I b := fun b hb => by rw [hI3, am_up_ne (by omega), g2 b (by omega)]
  refine k_aload_n C (f := 0) (i := 0) (p := 0) rfl rfl dX5_load_11 ?_
  refine k_getI C f_X5_26 (L5_s hx) (fun _ _ _ => rfl) ((by rw [hI3, am_up_eq] : _ = sp_err (sp_parse tb n))) dX5_load_12 ?_
  refine k_iconst C ic_m1 dX5_load_15 ?_
  refine k_icmp_eq C (tgt := 29) (by decide) dX5_load_16 (fun hc16 => ?_) (fun hc16 => ?_)
  · skip
    obtain ⟨r1, hr1⟩ : ∃ r1, sp_parse tb n = .ok r1 := by
      cases hq : sp_parse tb n with
      | ok s => exact ⟨s, rfl⟩
      | error e =>
        rw [hq] at hc16
        have := her2 e hq
        exact absurd hc16 (nI_m1 (by omega))
    have hz3 := hp3 r1 hr1
    have hd0 := hok2 r1 hr1
    have hd : CarRel I3 (x + 1 + 2) (x + 1 + 13) (x + 1 + 3) r1 := CR_agree hd0 (by rw [hI3, am_up_ne (by omega)]) (fun b q1 q2 => by rw [hI3, am_up_ne (by omega)]) (fun b q1 q2 => by rw [hI3, am_up_ne (by omega)])
    refine k_aload_n C (f := 0) (i := 0) (p := 0) rfl rfl dX5_load_29 ?_
    refine k_getR C f_X5_49 (L5_s (by assumption)) (fun _ _ _ => rfl) (L5_2 (by assumption)) dX5_load_30 ?_
    refine k_getR C f_X5_37 (L0_s (by assumption)) (fun _ _ _ => rfl) (L0_0 (by assumption)) dX5_load_33 ?_
    refine k_aload_n C (f := 0) (i := 0) (p := 0) rfl rfl dX5_load_36 ?_
    refine k_getR C f_X5_12 (L5_s (by assumption)) (fun _ _ _ => rfl) (L5_0 (by assumption)) dX5_load_37 ?_
    refine k_getR C f_X5_33 (L2_s (by assumption)) (fun _ _ _ => rfl) (L2_2 (by assumption)) dX5_load_40 ?_
    refine k_getR C f_X5_37 (L0_s (by assumption)) (fun _ _ _ => rfl) (L0_0 (by assumption)) dX5_load_43 ?_
    refine k_callVg C s_X5_43 h_X3_copyFrom (L3_s (by assumption)) rfl (ct_X3_copyFrom hp hpd (CR_p hd) (by omega)) rfl rfl (Nat.le_of_ble_eq_true rfl) ⟨Nat.le_of_ble_eq_true rfl, Nat.le_of_ble_eq_true rfl⟩ ⟨Nat.le_of_ble_eq_true rfl, Nat.le_of_ble_eq_true rfl⟩ ⟨rfl, rfl⟩ dX5_load_46 ?_
    intro v46 I4 hv
    obtain ⟨rfl, hp4, g4⟩ := hv
    have hd4 : CarRel I4 (x + 1 + 2) (x + 1 + 13) (x + 1 + 3) r1 := CR_agree hd (g4 _ (by omega)) (fun b q1 q2 => g4 b (by omega)) (fun b q1 q2 => g4 b (by omega))
    refine k_aload_n C (f := 0) (i := 0) (p := 0) rfl rfl dX5_load_49 ?_
    refine k_getR C f_X5_49 (L5_s (by assumption)) (fun _ _ _ => rfl) (L5_2 (by assumption)) dX5_load_50 ?_
    refine k_aload_n C (f := 0) (i := 0) (p := 0) rfl rfl dX5_load_53 ?_
    refine k_getR C f_X5_12 (L5_s (by assumption)) (fun _ _ _ => rfl) (L5_0 (by assumption)) dX5_load_54 ?_
    refine k_getR C f_X5_33 (L2_s (by assumption)) (fun _ _ _ => rfl) (L2_2 (by assumption)) dX5_load_57 ?_
    refine k_callVg C s_X5_52 h_X0_copyFrom (L0_s hl) rfl (ct_X0_copyFrom hl hcd hd4 hp4 ⟨by omega, by omega, by omega, by omega⟩ (sp_parse_3 (tb := tb) (n := n) hd4 hz3)) rfl rfl (Nat.le_of_ble_eq_true rfl) ⟨Nat.le_of_ble_eq_true rfl, Nat.le_of_ble_eq_true rfl⟩ ⟨Nat.le_of_ble_eq_true rfl, Nat.le_of_ble_eq_true rfl⟩ ⟨rfl, rfl⟩ dX5_load_60 ?_
    intro v60 I5 hv
    obtain ⟨rfl, hr5, g5⟩ := hv
    refine k_aload_n C (f := 0) (i := 0) (p := 0) rfl rfl dX5_load_63 ?_
    refine k_getR C f_X5_61 (L5_s (by assumption)) (fun _ _ _ => rfl) (L5_4 (by assumption)) dX5_load_64 ?_
    refine k_callVg C s_X5_104 h_X1_forget (L1_s hhl) rfl (ct_X1_forget0 (p := x + 24) (nx := nx) (rs := hs) hhl (by rw [g5 _ (by omega) (by omega), g4 _ (by omega), hI3, am_up_ne (by omega), g2 _ (by omega)]; exact hh.1) hh.2.2.1) rfl rfl (Nat.le_of_ble_eq_true rfl) ⟨Nat.le_of_ble_eq_true rfl, Nat.le_of_ble_eq_true rfl⟩ ⟨Nat.le_of_ble_eq_true rfl, Nat.le_of_ble_eq_true rfl⟩ ⟨rfl, rfl⟩ dX5_load_67 ?_
    intro v67 I6 hv
    obtain ⟨rfl, hh6, g6⟩ := hv
    have hr6 : CarRel I6 (x + 34) (x + 35) (x + 24) r1 := CR_agree hr5 (g6 _ (by omega)) (fun b q1 q2 => g6 b (by omega)) (fun b q1 q2 => g6 b (by omega))
    have fr6 : ∀ b : Nat, b ≠ x + 56 → b ≠ x + 34 → (b < x + 24 ∨ x + 45 ≤ b) → (b < x ∨ x + 24 ≤ b) → I6 b = I b := fun b q1 q2 q3 q4 => by rw [g6 b q1, g5 b q2 (by omega), g4 b (by omega), hI3, am_up_ne (by omega), g2 b (by omega)]
    refine k_iconst C ic_0 dX5_load_70 ?_
    refine k_istore_n C (f := 1) (i := 1) (lv := [(1, _), (0, _)]) rfl (Nat.le_of_ble_eq_true rfl) rfl dX5_load_71 ?_
    have loop72 : ∀ (f : Nat) (k : Nat) (I7 : am_I), (k ≤ 2) → (∀ m : Nat, m < k → I7 (x + 169) m = nI 0) → (∀ b : Nat, b ≠ x + 169 → I7 b = I6 b) → (2 - k) < f → am_K G X { frames := 8, cells := 1, slots := 6, locals := 172 } 2 Λ I7 J 0 0 72 [(0, .ref x), (1, .int (nI k))] [] := by
      intro f
      induction f with
      | zero => intro k I7 hk hz h7 hf; exact absurd hf (Nat.not_lt_zero _)
      | succ f ih72 =>
        intro k I7 hk hz h7 hf
        have hr7 : CarRel I7 (x + 34) (x + 35) (x + 24) r1 := CR_agree hr6 (h7 _ (by omega)) (fun b q1 q2 => h7 b (by omega)) (fun b q1 q2 => h7 b (by omega))
        refine k_iload_n C (f := 1) (i := 1) (p := 1) rfl rfl dX5_load_72 ?_
        refine k_iconst C ic_2 dX5_load_73 ?_
        first
        | refine k_icmpN_ge C (tgt := 90) (by omega) (by omega) (by decide) dX5_load_74 (fun hc74 => ?_) (fun hc74 => ?_)
        | refine k_icmp_ge C (tgt := 90) (by decide) dX5_load_74 (fun hc74 => ?_) (fun hc74 => ?_)
        · skip
          refine k_aload_n C (f := 0) (i := 0) (p := 0) rfl rfl dX5_load_90 ?_
          refine k_getR C f_X5_49 (L5_s (by assumption)) (fun _ _ _ => rfl) (L5_2 (by assumption)) dX5_load_91 ?_
          refine k_getR C f_X5_37 (L0_s (by assumption)) (fun _ _ _ => rfl) (L0_0 hl) dX5_load_94 ?_
          refine k_getI C f_X5_107 (L3_s (by assumption)) (fun _ _ _ => rfl) (PR_1 (CR_p hr7)) dX5_load_97 ?_
          exact k_iret C (Nat.le_of_ble_eq_true rfl) (Nat.le_of_ble_eq_true rfl) (by
              have hf : ∀ b : Nat, b ≠ x + 169 → b ≠ x + 56 → b ≠ x + 34 → (b < x + 24 ∨ x + 45 ≤ b) → (b < x ∨ x + 24 ≤ b) → I7 b = I b := fun b q0 q1 q2 q3 q4 => (h7 b q0).trans (fr6 b q1 q2 q3 q4)
              have h73 : ∀ b : Nat, x ≤ b → b < x + 24 → I7 b = I3 b := fun b q1 q2 => by rw [h7 b (by omega), g6 b (by omega), g5 b (by omega) (by omega), g4 b (by omega)]
              obtain ⟨a1, a2, a3, a4, a5, a6, a7⟩ := hR
              refine ⟨⟨r1, hr1, rfl, ⟨by rw [h73 (x + 1) (by omega) (by omega), hI3, am_up_ne (by omega)]; exact hn2, Nat.zero_le _, fun j hj => absurd hj (Nat.not_lt_zero j)⟩, by rw [h73 x (by omega) (by omega), hI3, am_up_eq, hr1]; rfl, hr7, ⟨nx, HistRel_agree hh6 (h7 _ (by omega)) (fun b q1 q2 => h7 b (by omega)) (fun b q1 q2 => h7 b (by omega))⟩, fun j hj => ⟨by rw [hz j (by omega)]; rfl, fun z => by cases z⟩, a6.row (hf _ (by omega) (by omega) (by omega) (by omega) (by omega)) (hf _ (by omega) (by omega) (by omega) (by omega) (by omega)), a7⟩, rfl, rfl, fun b hb => hf b (by omega) (by omega) (by omega) (by omega) (by omega)⟩) dX5_load_100
        · skip
          refine k_aload_n C (f := 0) (i := 0) (p := 0) rfl rfl dX5_load_77 ?_
          refine k_getR C f_X5_69 (L5_s (by assumption)) (fun _ _ _ => rfl) (L5_6 (by assumption)) dX5_load_78 ?_
          refine k_iload_n C (f := 1) (i := 1) (p := 1) rfl rfl dX5_load_81 ?_
          refine k_iconst C ic_0 dX5_load_82 ?_
          refine k_zast C (A5_6 hx) (by first | rfl | assumption) (by omega) (by decide) dX5_load_83 ?_
          refine k_iinc C (i := 1) (p := 1) (lv := [(1, _), (0, _)]) (Nat.le_of_ble_eq_true rfl) rfl (by first | exact am_inc1 _ | rfl) rfl dX5_load_84 ?_
          refine k_goto C (tgt := 72) (by decide) dX5_load_87 ?_
          refine k_sub [1, 0] rfl ?_
          exact ih72 (k + 1) _ (by omega) (fun m hm => by
            by_cases e : m = k
            · rw [e, am_up_eq]; rfl
            · rw [am_up_n2 (fun z => e z.2)]; exact hz m (by omega)) (fun b hb => by rw [am_up_ne hb]; exact h7 b hb) (by omega)
    refine k_sub [1, 0] rfl ?_
    exact loop72 3 0 I6 (Nat.zero_le _) (fun m h => absurd h (Nat.not_lt_zero m)) (fun _ _ => rfl) (by omega)
  · skip
    obtain ⟨e1, he1⟩ : ∃ e1, sp_parse tb n = .error e1 := by
      cases hq : sp_parse tb n with
      | ok s => exact absurd (by rw [hq]; rfl) hc16
      | error e => exact ⟨e, rfl⟩
    have hel := her2 e1 he1
    have hRe := RR_inp (tb' := tb) (n' := 0) (err' := nI e1) (I' := I3) hR ⟨by rw [hI3, am_up_ne (by omega)]; exact hn2, Nat.zero_le _, fun j hj => absurd hj (Nat.not_lt_zero j)⟩ (by rw [hI3, am_up_eq, he1]; rfl) f3
    exact k_throwS C tw_X5_97 (si := 9) rfl (Nat.le_of_ble_eq_true rfl) (Nat.le_of_ble_eq_true rfl) (⟨rfl, ⟨e1, he1, by omega, hRe.1⟩, rfl, rfl, hRe.2⟩) ⟨Nat.le_of_ble_eq_true rfl, Nat.le_of_ble_eq_true rfl⟩ ⟨Nat.le_of_ble_eq_true rfl, Nat.le_of_ble_eq_true rfl⟩ dX5_load_19 dX5_load_22 dX5_load_23 dX5_load_25 dX5_load_28
