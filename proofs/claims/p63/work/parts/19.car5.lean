set_option maxHeartbeats 4000000 in
set_option maxRecDepth 100000 in
theorem ct_X0_bringLoad {G : am_G} {Λ : am_L} {I : am_I} {J : am_J} {c q p : Nat} {r : Nat → Int32} {x y : Int32} (hl : CarLay Λ c q p) (hr : CarRel I c q p r) (hn : sp_nl r < 20) : am_Ct G yX0_bringLoad cX0_bringLoad 4 (some .int) { frames := 0, cells := 0, slots := 0, locals := 0 } [.ref c, .int x, .int y] Λ I J (am_gen Λ J (fun v I' => v = some (.int (nI (sp_nl r))) ∧ CarRel I' c q p (sp_bring r x y) ∧ am_fr c q I I')) am_never := by
  refine am_ct_of (own := RX0) rfl (by decide) (Nat.le_of_ble_eq_true rfl) (fun X C => ?_)
  change am_K G X { frames := 0, cells := 0, slots := 0, locals := 0 } 4 Λ I J 0 0 0 [(0, .ref c), (1, .int x), (2, .int y)] []
  have hp := L0_p hl
  have hpr := CR_p hr
  have hnc := PR_c hpr
  have hnl := CR_l hr
  have d1 := L0_d1 hl
  refine k_aload_n C (f := 0) (i := 0) (p := 0) rfl rfl dX0_bringLoad_0 ?_
  refine k_getI C f_X0_69 (L0_s (by assumption)) (fun _ _ _ => rfl) (by first | exact CR_12 (by assumption) | assumption | rfl) dX0_bringLoad_1 ?_
  refine k_bipush C bc_20 dX0_bringLoad_4 ?_
  first
  | refine k_icmpN_lt C (tgt := 11) (by omega) (by omega) (by decide) dX0_bringLoad_6 (fun hc6 => ?_) (fun hc6 => ?_)
  | refine k_icmp_lt C (tgt := 11) (by decide) dX0_bringLoad_6 (fun hc6 => ?_) (fun hc6 => ?_)
  · skip
    refine k_aload_n C (f := 0) (i := 0) (p := 0) rfl rfl dX0_bringLoad_11 ?_
    refine k_getI C f_X0_69 (L0_s (by assumption)) (fun _ _ _ => rfl) (by first | exact CR_12 (by assumption) | assumption | rfl) dX0_bringLoad_12 ?_
    refine k_istore_n C (f := 3) (i := 3) (lv := [(3, _), (0, _), (1, _), (2, _)]) rfl (Nat.le_of_ble_eq_true rfl) rfl dX0_bringLoad_15 ?_
    refine k_aload_n C (f := 0) (i := 0) (p := 1) rfl rfl dX0_bringLoad_16 ?_
    refine k_getR C f_X0_30 (L0_s (by assumption)) (fun _ _ _ => rfl) (L0_13 (by assumption)) dX0_bringLoad_17 ?_
    refine k_iload_n C (f := 3) (i := 3) (p := 0) rfl rfl dX0_bringLoad_20 ?_
    refine k_iload_n C (f := 1) (i := 1) (p := 2) rfl rfl dX0_bringLoad_21 ?_
    refine k_iast C (A0_13 (by assumption)) (by first | rfl | assumption) (by omega) (by decide) dX0_bringLoad_22 ?_
    obtain ⟨I1, hI1⟩ : ∃ z : am_I, z = am_up I (q + 6) (sp_nl r) x := ⟨_, rfl⟩
    rw [← hI1]
    refine k_aload_n C (f := 0) (i := 0) (p := 1) rfl rfl dX0_bringLoad_23 ?_
    refine k_getR C f_X0_33 (L0_s (by assumption)) (fun _ _ _ => rfl) (L0_14 (by assumption)) dX0_bringLoad_24 ?_
    refine k_iload_n C (f := 3) (i := 3) (p := 0) rfl rfl dX0_bringLoad_27 ?_
    refine k_iload_n C (f := 2) (i := 2) (p := 3) rfl rfl dX0_bringLoad_28 ?_
    refine k_iast C (A0_14 (by assumption)) (by first | rfl | assumption) (by omega) (by decide) dX0_bringLoad_29 ?_
    obtain ⟨I2, hI2⟩ : ∃ z : am_I, z = am_up I1 (q + 7) (sp_nl r) y := ⟨_, rfl⟩
    rw [← hI2]
    refine k_aload_n C (f := 0) (i := 0) (p := 1) rfl rfl dX0_bringLoad_30 ?_
    refine k_getR C f_X0_36 (L0_s (by assumption)) (fun _ _ _ => rfl) (L0_15 (by assumption)) dX0_bringLoad_31 ?_
    refine k_iload_n C (f := 3) (i := 3) (p := 0) rfl rfl dX0_bringLoad_34 ?_
    refine k_iconst C ic_m1 dX0_bringLoad_35 ?_
    refine k_iast C (A0_15 (by assumption)) (by first | rfl | assumption) (by omega) (by decide) dX0_bringLoad_36 ?_
    obtain ⟨I3, hI3⟩ : ∃ z : am_I, z = am_up I2 (q + 8) (sp_nl r) (-1) := ⟨_, rfl⟩
    rw [← hI3]
    refine k_aload_n C (f := 0) (i := 0) (p := 1) rfl rfl dX0_bringLoad_37 ?_
    refine k_getR C f_X0_39 (L0_s (by assumption)) (fun _ _ _ => rfl) (L0_16 (by assumption)) dX0_bringLoad_38 ?_
    refine k_iload_n C (f := 3) (i := 3) (p := 0) rfl rfl dX0_bringLoad_41 ?_
    refine k_aload_n C (f := 0) (i := 0) (p := 1) rfl rfl dX0_bringLoad_42 ?_
    refine k_getI C f_X0_46 (L0_s (by assumption)) (fun _ _ _ => rfl) (Eq.trans (by rw [hI3, am_up_n2 (by omega), hI2, am_up_n2 (by omega), hI1, am_up_n2 (by omega)]) (CR_1 hr)) dX0_bringLoad_43 ?_
    refine k_iast C (A0_16 (by assumption)) (by first | rfl | assumption) (by omega) (by decide) dX0_bringLoad_46 ?_
    obtain ⟨I4, hI4⟩ : ∃ z : am_I, z = am_up I3 (q + 9) (sp_nl r) (r 1) := ⟨_, rfl⟩
    rw [← hI4]
    refine k_aload_n C (f := 0) (i := 0) (p := 1) rfl rfl dX0_bringLoad_47 ?_
    refine k_dup C rfl dX0_bringLoad_48 ?_
    refine k_getI C f_X0_69 (L0_s (by assumption)) (fun _ _ _ => rfl) (Eq.trans (by rw [hI4, am_up_n2 (by omega), hI3, am_up_n2 (by omega), hI2, am_up_n2 (by omega), hI1, am_up_n2 (by omega)]) (CR_12 hr)) dX0_bringLoad_49 ?_
    refine k_iconst C ic_1 dX0_bringLoad_52 ?_
    refine k_iadd C dX0_bringLoad_53 ?_
    refine k_putI C f_X0_69 (L0_s (by assumption)) rfl rfl dX0_bringLoad_54 ?_
    obtain ⟨I5, hI5⟩ : ∃ z : am_I, z = am_up I4 c 12 (nI (sp_nl r) + nI 1) := ⟨_, rfl⟩
    rw [← hI5]
    refine k_iload_n C (f := 3) (i := 3) (p := 0) rfl rfl dX0_bringLoad_57 ?_
    exact k_iret C (Nat.le_of_ble_eq_true rfl) (Nat.le_of_ble_eq_true rfl) (⟨rfl, rfl, ⟨rfl, CR_bring hl hr hn (fun A K g1 g2 => by
        rw [hI5, am_up_n2 g1, hI4, am_up_n2 (fun e => g2 ⟨e.2, by omega, by omega⟩), hI3, am_up_n2 (fun e => g2 ⟨e.2, by omega, by omega⟩), hI2, am_up_n2 (fun e => g2 ⟨e.2, by omega, by omega⟩), hI1, am_up_n2 (fun e => g2 ⟨e.2, by omega, by omega⟩)]) (by rw [hI5, am_up_eq, nI_add1])
        (by rw [hI5, am_up_n2 (by omega), hI4, am_up_n2 (by omega), hI3, am_up_n2 (by omega), hI2, am_up_n2 (by omega), hI1, am_up_eq])
        (by rw [hI5, am_up_n2 (by omega), hI4, am_up_n2 (by omega), hI3, am_up_n2 (by omega), hI2, am_up_eq])
        (by rw [hI5, am_up_n2 (by omega), hI4, am_up_n2 (by omega), hI3, am_up_eq])
        (by rw [hI5, am_up_n2 (by omega), hI4, am_up_eq]), fun b g1 g2 => by
        rw [hI5, am_up_ne (by omega), hI4, am_up_ne (by omega), hI3, am_up_ne (by omega), hI2, am_up_ne (by omega), hI1, am_up_ne (by omega)]⟩⟩) dX0_bringLoad_58
  · skip
    exact absurd hn hc6
set_option maxHeartbeats 4000000 in
set_option maxRecDepth 100000 in
theorem ct_X0_copyFrom {G : am_G} {Λ : am_L} {I : am_I} {J : am_J} {c q p co qo po : Nat} {r : Nat → Int32} (hl : CarLay Λ c q p) (hlo : CarLay Λ co qo po) (ho : CarRel I co qo po r) (hpo : PlanRel I p r) (hd1 : co ≠ c ∧ (co < q ∨ q + 10 ≤ co) ∧ (c < qo ∨ qo + 10 ≤ c) ∧ (q + 10 ≤ qo ∨ qo + 10 ≤ q)) (hz : I co 3 = 0 ∨ I co 3 = 1) : am_Ct G yX0_copyFrom cX0_copyFrom 2 none { frames := 1, cells := 0, slots := 0, locals := 40 } [.ref c, .ref co] Λ I J (am_gen Λ J (fun v I' => v = none ∧ CarRel I' c q p r ∧ am_fr c q I I')) am_never := by
  refine am_ct_of (own := RX0) rfl (by decide) (Nat.le_of_ble_eq_true rfl) (fun X C => ?_)
  change am_K G X { frames := 1, cells := 0, slots := 0, locals := 40 } 2 Λ I J 0 0 0 [(0, .ref c), (1, .ref co)] []
  have d1 := L0_d1 hl
  have d2 := L0_d2 hl
  have d3 := L0_d3 hl
  refine k_aload_n C (f := 0) (i := 0) (p := 0) rfl rfl dX0_copyFrom_0 ?_
  refine k_aload_n C (f := 1) (i := 1) (p := 1) rfl rfl dX0_copyFrom_1 ?_
  refine k_getI C f_X0_46 (L0_s hlo) (fun _ _ _ => rfl) (rfl) dX0_copyFrom_2 ?_
  refine k_putI C f_X0_46 (L0_s hl) rfl rfl dX0_copyFrom_5 ?_
  obtain ⟨I1, hI1⟩ : ∃ z : am_I, z = am_up I c 1 (I co 1) := ⟨_, rfl⟩
  rw [← hI1]
  refine k_aload_n C (f := 0) (i := 0) (p := 0) rfl rfl dX0_copyFrom_8 ?_
  refine k_aload_n C (f := 1) (i := 1) (p := 1) rfl rfl dX0_copyFrom_9 ?_
  refine k_getI C f_X0_50 (L0_s hlo) (fun _ _ _ => rfl) (by rw [hI1, am_up_ne (by omega)]) dX0_copyFrom_10 ?_
  refine k_putI C f_X0_50 (L0_s hl) rfl rfl dX0_copyFrom_13 ?_
  obtain ⟨I2, hI2⟩ : ∃ z : am_I, z = am_up I1 c 2 (I co 2) := ⟨_, rfl⟩
  rw [← hI2]
  refine k_aload_n C (f := 0) (i := 0) (p := 0) rfl rfl dX0_copyFrom_16 ?_
  refine k_aload_n C (f := 1) (i := 1) (p := 1) rfl rfl dX0_copyFrom_17 ?_
  refine k_getI C f_X0_53 (L0_s hlo) (fun _ _ _ => rfl) (by rw [hI2, am_up_ne (by omega), hI1, am_up_ne (by omega)]) dX0_copyFrom_18 ?_
  refine k_putZ C f_X0_53 (L0_s hl) rfl rfl (hz) dX0_copyFrom_21 ?_
  obtain ⟨I3, hI3⟩ : ∃ z : am_I, z = am_up I2 c 3 (I co 3) := ⟨_, rfl⟩
  rw [← hI3]
  refine k_aload_n C (f := 0) (i := 0) (p := 0) rfl rfl dX0_copyFrom_24 ?_
  refine k_aload_n C (f := 1) (i := 1) (p := 1) rfl rfl dX0_copyFrom_25 ?_
  refine k_getI C f_X0_57 (L0_s hlo) (fun _ _ _ => rfl) (by rw [hI3, am_up_ne (by omega), hI2, am_up_ne (by omega), hI1, am_up_ne (by omega)]) dX0_copyFrom_26 ?_
  refine k_putI C f_X0_57 (L0_s hl) rfl rfl dX0_copyFrom_29 ?_
  obtain ⟨I4, hI4⟩ : ∃ z : am_I, z = am_up I3 c 4 (I co 4) := ⟨_, rfl⟩
  rw [← hI4]
  refine k_aload_n C (f := 0) (i := 0) (p := 0) rfl rfl dX0_copyFrom_32 ?_
  refine k_aload_n C (f := 1) (i := 1) (p := 1) rfl rfl dX0_copyFrom_33 ?_
  refine k_getI C f_X0_60 (L0_s hlo) (fun _ _ _ => rfl) (by rw [hI4, am_up_ne (by omega), hI3, am_up_ne (by omega), hI2, am_up_ne (by omega), hI1, am_up_ne (by omega)]) dX0_copyFrom_34 ?_
  refine k_putI C f_X0_60 (L0_s hl) rfl rfl dX0_copyFrom_37 ?_
  obtain ⟨I5, hI5⟩ : ∃ z : am_I, z = am_up I4 c 5 (I co 5) := ⟨_, rfl⟩
  rw [← hI5]
  refine k_aload_n C (f := 1) (i := 1) (p := 1) rfl rfl dX0_copyFrom_40 ?_
  refine k_getR C f_X0_9 (L0_s hlo) (fun _ _ _ => rfl) (L0_6 hlo) dX0_copyFrom_41 ?_
  refine k_iconst C ic_0 dX0_copyFrom_44 ?_
  refine k_aload_n C (f := 0) (i := 0) (p := 0) rfl rfl dX0_copyFrom_45 ?_
  refine k_getR C f_X0_9 (L0_s hl) (fun _ _ _ => rfl) (L0_6 hl) dX0_copyFrom_46 ?_
  refine k_iconst C ic_0 dX0_copyFrom_49 ?_
  refine k_bipush C bc_10 dX0_copyFrom_50 ?_
  refine k_copy C (a := q) (a0 := qo) (A0_6 hlo) (A0_6 hl) (by decide) m_X0_63 ⟨Nat.le_of_ble_eq_true rfl, Nat.le_of_ble_eq_true rfl⟩ dX0_copyFrom_52 ?_
  obtain ⟨I6, hI6⟩ : ∃ z : am_I, z = am_cp I5 (q) (qo) 10 := ⟨_, rfl⟩
  rw [← hI6]
  refine k_aload_n C (f := 1) (i := 1) (p := 1) rfl rfl dX0_copyFrom_55 ?_
  refine k_getR C f_X0_15 (L0_s hlo) (fun _ _ _ => rfl) (L0_7 hlo) dX0_copyFrom_56 ?_
  refine k_iconst C ic_0 dX0_copyFrom_59 ?_
  refine k_aload_n C (f := 0) (i := 0) (p := 0) rfl rfl dX0_copyFrom_60 ?_
  refine k_getR C f_X0_15 (L0_s hl) (fun _ _ _ => rfl) (L0_7 hl) dX0_copyFrom_61 ?_
  refine k_iconst C ic_0 dX0_copyFrom_64 ?_
  refine k_bipush C bc_10 dX0_copyFrom_65 ?_
  refine k_copy C (a := q + 1) (a0 := qo + 1) (A0_7 hlo) (A0_7 hl) (by decide) m_X0_63 ⟨Nat.le_of_ble_eq_true rfl, Nat.le_of_ble_eq_true rfl⟩ dX0_copyFrom_67 ?_
  obtain ⟨I7, hI7⟩ : ∃ z : am_I, z = am_cp I6 (q + 1) (qo + 1) 10 := ⟨_, rfl⟩
  rw [← hI7]
  refine k_aload_n C (f := 1) (i := 1) (p := 1) rfl rfl dX0_copyFrom_70 ?_
  refine k_getR C f_X0_18 (L0_s hlo) (fun _ _ _ => rfl) (L0_8 hlo) dX0_copyFrom_71 ?_
  refine k_iconst C ic_0 dX0_copyFrom_74 ?_
  refine k_aload_n C (f := 0) (i := 0) (p := 0) rfl rfl dX0_copyFrom_75 ?_
  refine k_getR C f_X0_18 (L0_s hl) (fun _ _ _ => rfl) (L0_8 hl) dX0_copyFrom_76 ?_
  refine k_iconst C ic_0 dX0_copyFrom_79 ?_
  refine k_bipush C bc_10 dX0_copyFrom_80 ?_
  refine k_copy C (a := q + 2) (a0 := qo + 2) (A0_8 hlo) (A0_8 hl) (by decide) m_X0_63 ⟨Nat.le_of_ble_eq_true rfl, Nat.le_of_ble_eq_true rfl⟩ dX0_copyFrom_82 ?_
  obtain ⟨I8, hI8⟩ : ∃ z : am_I, z = am_cp I7 (q + 2) (qo + 2) 10 := ⟨_, rfl⟩
  rw [← hI8]
  refine k_aload_n C (f := 1) (i := 1) (p := 1) rfl rfl dX0_copyFrom_85 ?_
  refine k_getR C f_X0_21 (L0_s hlo) (fun _ _ _ => rfl) (L0_9 hlo) dX0_copyFrom_86 ?_
  refine k_iconst C ic_0 dX0_copyFrom_89 ?_
  refine k_aload_n C (f := 0) (i := 0) (p := 0) rfl rfl dX0_copyFrom_90 ?_
  refine k_getR C f_X0_21 (L0_s hl) (fun _ _ _ => rfl) (L0_9 hl) dX0_copyFrom_91 ?_
  refine k_iconst C ic_0 dX0_copyFrom_94 ?_
  refine k_bipush C bc_10 dX0_copyFrom_95 ?_
  refine k_copy C (a := q + 3) (a0 := qo + 3) (A0_9 hlo) (A0_9 hl) (by decide) m_X0_63 ⟨Nat.le_of_ble_eq_true rfl, Nat.le_of_ble_eq_true rfl⟩ dX0_copyFrom_97 ?_
  obtain ⟨I9, hI9⟩ : ∃ z : am_I, z = am_cp I8 (q + 3) (qo + 3) 10 := ⟨_, rfl⟩
  rw [← hI9]
  refine k_aload_n C (f := 1) (i := 1) (p := 1) rfl rfl dX0_copyFrom_100 ?_
  refine k_getR C f_X0_24 (L0_s hlo) (fun _ _ _ => rfl) (L0_10 hlo) dX0_copyFrom_101 ?_
  refine k_iconst C ic_0 dX0_copyFrom_104 ?_
  refine k_aload_n C (f := 0) (i := 0) (p := 0) rfl rfl dX0_copyFrom_105 ?_
  refine k_getR C f_X0_24 (L0_s hl) (fun _ _ _ => rfl) (L0_10 hl) dX0_copyFrom_106 ?_
  refine k_iconst C ic_0 dX0_copyFrom_109 ?_
  refine k_bipush C bc_10 dX0_copyFrom_110 ?_
  refine k_copy C (a := q + 4) (a0 := qo + 4) (A0_10 hlo) (A0_10 hl) (by decide) m_X0_63 ⟨Nat.le_of_ble_eq_true rfl, Nat.le_of_ble_eq_true rfl⟩ dX0_copyFrom_112 ?_
  obtain ⟨I10, hI10⟩ : ∃ z : am_I, z = am_cp I9 (q + 4) (qo + 4) 10 := ⟨_, rfl⟩
  rw [← hI10]
  refine k_aload_n C (f := 1) (i := 1) (p := 1) rfl rfl dX0_copyFrom_115 ?_
  refine k_getR C f_X0_27 (L0_s hlo) (fun _ _ _ => rfl) (L0_11 hlo) dX0_copyFrom_116 ?_
  refine k_iconst C ic_0 dX0_copyFrom_119 ?_
  refine k_aload_n C (f := 0) (i := 0) (p := 0) rfl rfl dX0_copyFrom_120 ?_
  refine k_getR C f_X0_27 (L0_s hl) (fun _ _ _ => rfl) (L0_11 hl) dX0_copyFrom_121 ?_
  refine k_iconst C ic_0 dX0_copyFrom_124 ?_
  refine k_bipush C bc_8 dX0_copyFrom_125 ?_
  refine k_copy C (a := q + 5) (a0 := qo + 5) (A0_11 hlo) (A0_11 hl) (by decide) m_X0_63 ⟨Nat.le_of_ble_eq_true rfl, Nat.le_of_ble_eq_true rfl⟩ dX0_copyFrom_127 ?_
  obtain ⟨I11, hI11⟩ : ∃ z : am_I, z = am_cp I10 (q + 5) (qo + 5) 8 := ⟨_, rfl⟩
  rw [← hI11]
  refine k_aload_n C (f := 0) (i := 0) (p := 0) rfl rfl dX0_copyFrom_130 ?_
  refine k_aload_n C (f := 1) (i := 1) (p := 1) rfl rfl dX0_copyFrom_131 ?_
  refine k_getI C f_X0_69 (L0_s hlo) (fun _ _ _ => rfl) (by rw [hI11, am_cp_ne (by omega), hI10, am_cp_ne (by omega), hI9, am_cp_ne (by omega), hI8, am_cp_ne (by omega), hI7, am_cp_ne (by omega), hI6, am_cp_ne (by omega), hI5, am_up_ne (by omega), hI4, am_up_ne (by omega), hI3, am_up_ne (by omega), hI2, am_up_ne (by omega), hI1, am_up_ne (by omega)]) dX0_copyFrom_132 ?_
  refine k_putI C f_X0_69 (L0_s hl) rfl rfl dX0_copyFrom_135 ?_
  obtain ⟨I12, hI12⟩ : ∃ z : am_I, z = am_up I11 c 12 (I co 12) := ⟨_, rfl⟩
  rw [← hI12]
  refine k_aload_n C (f := 1) (i := 1) (p := 1) rfl rfl dX0_copyFrom_138 ?_
  refine k_getR C f_X0_30 (L0_s hlo) (fun _ _ _ => rfl) (L0_13 hlo) dX0_copyFrom_139 ?_
  refine k_iconst C ic_0 dX0_copyFrom_142 ?_
  refine k_aload_n C (f := 0) (i := 0) (p := 0) rfl rfl dX0_copyFrom_143 ?_
  refine k_getR C f_X0_30 (L0_s hl) (fun _ _ _ => rfl) (L0_13 hl) dX0_copyFrom_144 ?_
  refine k_iconst C ic_0 dX0_copyFrom_147 ?_
  refine k_bipush C bc_20 dX0_copyFrom_148 ?_
  refine k_copy C (a := q + 6) (a0 := qo + 6) (A0_13 hlo) (A0_13 hl) (by decide) m_X0_63 ⟨Nat.le_of_ble_eq_true rfl, Nat.le_of_ble_eq_true rfl⟩ dX0_copyFrom_150 ?_
  obtain ⟨I13, hI13⟩ : ∃ z : am_I, z = am_cp I12 (q + 6) (qo + 6) 20 := ⟨_, rfl⟩
  rw [← hI13]
  refine k_aload_n C (f := 1) (i := 1) (p := 1) rfl rfl dX0_copyFrom_153 ?_
  refine k_getR C f_X0_33 (L0_s hlo) (fun _ _ _ => rfl) (L0_14 hlo) dX0_copyFrom_154 ?_
  refine k_iconst C ic_0 dX0_copyFrom_157 ?_
  refine k_aload_n C (f := 0) (i := 0) (p := 0) rfl rfl dX0_copyFrom_158 ?_
  refine k_getR C f_X0_33 (L0_s hl) (fun _ _ _ => rfl) (L0_14 hl) dX0_copyFrom_159 ?_
  refine k_iconst C ic_0 dX0_copyFrom_162 ?_
  refine k_bipush C bc_20 dX0_copyFrom_163 ?_
  refine k_copy C (a := q + 7) (a0 := qo + 7) (A0_14 hlo) (A0_14 hl) (by decide) m_X0_63 ⟨Nat.le_of_ble_eq_true rfl, Nat.le_of_ble_eq_true rfl⟩ dX0_copyFrom_165 ?_
  obtain ⟨I14, hI14⟩ : ∃ z : am_I, z = am_cp I13 (q + 7) (qo + 7) 20 := ⟨_, rfl⟩
  rw [← hI14]
  refine k_aload_n C (f := 1) (i := 1) (p := 1) rfl rfl dX0_copyFrom_168 ?_
  refine k_getR C f_X0_36 (L0_s hlo) (fun _ _ _ => rfl) (L0_15 hlo) dX0_copyFrom_169 ?_
  refine k_iconst C ic_0 dX0_copyFrom_172 ?_
  refine k_aload_n C (f := 0) (i := 0) (p := 0) rfl rfl dX0_copyFrom_173 ?_
  refine k_getR C f_X0_36 (L0_s hl) (fun _ _ _ => rfl) (L0_15 hl) dX0_copyFrom_174 ?_
  refine k_iconst C ic_0 dX0_copyFrom_177 ?_
  refine k_bipush C bc_20 dX0_copyFrom_178 ?_
  refine k_copy C (a := q + 8) (a0 := qo + 8) (A0_15 hlo) (A0_15 hl) (by decide) m_X0_63 ⟨Nat.le_of_ble_eq_true rfl, Nat.le_of_ble_eq_true rfl⟩ dX0_copyFrom_180 ?_
  obtain ⟨I15, hI15⟩ : ∃ z : am_I, z = am_cp I14 (q + 8) (qo + 8) 20 := ⟨_, rfl⟩
  rw [← hI15]
  refine k_aload_n C (f := 1) (i := 1) (p := 1) rfl rfl dX0_copyFrom_183 ?_
  refine k_getR C f_X0_39 (L0_s hlo) (fun _ _ _ => rfl) (L0_16 hlo) dX0_copyFrom_184 ?_
  refine k_iconst C ic_0 dX0_copyFrom_187 ?_
  refine k_aload_n C (f := 0) (i := 0) (p := 0) rfl rfl dX0_copyFrom_188 ?_
  refine k_getR C f_X0_39 (L0_s hl) (fun _ _ _ => rfl) (L0_16 hl) dX0_copyFrom_189 ?_
  refine k_iconst C ic_0 dX0_copyFrom_192 ?_
  refine k_bipush C bc_20 dX0_copyFrom_193 ?_
  refine k_copy C (a := q + 9) (a0 := qo + 9) (A0_16 hlo) (A0_16 hl) (by decide) m_X0_63 ⟨Nat.le_of_ble_eq_true rfl, Nat.le_of_ble_eq_true rfl⟩ dX0_copyFrom_195 ?_
  obtain ⟨I16, hI16⟩ : ∃ z : am_I, z = am_cp I15 (q + 9) (qo + 9) 20 := ⟨_, rfl⟩
  rw [← hI16]
  exact k_vret C (Nat.le_of_ble_eq_true rfl) (Nat.le_of_ble_eq_true rfl) (⟨rfl, rfl, ⟨rfl, CR_copy ho (PlanRel_agree hpo (fun b g1 g2 => by rw [hI16, am_cp_ne (by omega), hI15, am_cp_ne (by omega), hI14, am_cp_ne (by omega), hI13, am_cp_ne (by omega), hI12, am_up_ne (by omega), hI11, am_cp_ne (by omega), hI10, am_cp_ne (by omega), hI9, am_cp_ne (by omega), hI8, am_cp_ne (by omega), hI7, am_cp_ne (by omega), hI6, am_cp_ne (by omega), hI5, am_up_ne (by omega), hI4, am_up_ne (by omega), hI3, am_up_ne (by omega), hI2, am_up_ne (by omega), hI1, am_up_ne (by omega)])) ⟨by rw [hI16, am_cp_ne (by omega), hI15, am_cp_ne (by omega), hI14, am_cp_ne (by omega), hI13, am_cp_ne (by omega), hI12, am_up_n2 (by omega), hI11, am_cp_ne (by omega), hI10, am_cp_ne (by omega), hI9, am_cp_ne (by omega), hI8, am_cp_ne (by omega), hI7, am_cp_ne (by omega), hI6, am_cp_ne (by omega), hI5, am_up_n2 (by omega), hI4, am_up_n2 (by omega), hI3, am_up_n2 (by omega), hI2, am_up_n2 (by omega), hI1, am_up_eq], by rw [hI16, am_cp_ne (by omega), hI15, am_cp_ne (by omega), hI14, am_cp_ne (by omega), hI13, am_cp_ne (by omega), hI12, am_up_n2 (by omega), hI11, am_cp_ne (by omega), hI10, am_cp_ne (by omega), hI9, am_cp_ne (by omega), hI8, am_cp_ne (by omega), hI7, am_cp_ne (by omega), hI6, am_cp_ne (by omega), hI5, am_up_n2 (by omega), hI4, am_up_n2 (by omega), hI3, am_up_n2 (by omega), hI2, am_up_eq], by rw [hI16, am_cp_ne (by omega), hI15, am_cp_ne (by omega), hI14, am_cp_ne (by omega), hI13, am_cp_ne (by omega), hI12, am_up_n2 (by omega), hI11, am_cp_ne (by omega), hI10, am_cp_ne (by omega), hI9, am_cp_ne (by omega), hI8, am_cp_ne (by omega), hI7, am_cp_ne (by omega), hI6, am_cp_ne (by omega), hI5, am_up_n2 (by omega), hI4, am_up_n2 (by omega), hI3, am_up_eq], by rw [hI16, am_cp_ne (by omega), hI15, am_cp_ne (by omega), hI14, am_cp_ne (by omega), hI13, am_cp_ne (by omega), hI12, am_up_n2 (by omega), hI11, am_cp_ne (by omega), hI10, am_cp_ne (by omega), hI9, am_cp_ne (by omega), hI8, am_cp_ne (by omega), hI7, am_cp_ne (by omega), hI6, am_cp_ne (by omega), hI5, am_up_n2 (by omega), hI4, am_up_eq], by rw [hI16, am_cp_ne (by omega), hI15, am_cp_ne (by omega), hI14, am_cp_ne (by omega), hI13, am_cp_ne (by omega), hI12, am_up_n2 (by omega), hI11, am_cp_ne (by omega), hI10, am_cp_ne (by omega), hI9, am_cp_ne (by omega), hI8, am_cp_ne (by omega), hI7, am_cp_ne (by omega), hI6, am_cp_ne (by omega), hI5, am_up_eq], by rw [hI16, am_cp_ne (by omega), hI15, am_cp_ne (by omega), hI14, am_cp_ne (by omega), hI13, am_cp_ne (by omega), hI12, am_up_eq]⟩ (fun t j ht => by
    rcases (show (t = 0 ∧ j < 10) ∨ (t = 1 ∧ j < 10) ∨ (t = 2 ∧ j < 10) ∨ (t = 3 ∧ j < 10) ∨ (t = 4 ∧ j < 10) ∨ (t = 5 ∧ j < 8) ∨ (t = 6 ∧ j < 20) ∨ (t = 7 ∧ j < 20) ∨ (t = 8 ∧ j < 20) ∨ (t = 9 ∧ j < 20) by omega) with ⟨e, hj⟩ | ⟨e, hj⟩ | ⟨e, hj⟩ | ⟨e, hj⟩ | ⟨e, hj⟩ | ⟨e, hj⟩ | ⟨e, hj⟩ | ⟨e, hj⟩ | ⟨e, hj⟩ | ⟨e, hj⟩ <;> subst e
    · show I16 (q + 0) j = I (qo + 0) j
      rw [Nat.add_zero, Nat.add_zero]
      rw [hI16, am_cp_ne (by omega), hI15, am_cp_ne (by omega), hI14, am_cp_ne (by omega), hI13, am_cp_ne (by omega), hI12, am_up_ne (by omega), hI11, am_cp_ne (by omega), hI10, am_cp_ne (by omega), hI9, am_cp_ne (by omega), hI8, am_cp_ne (by omega), hI7, am_cp_ne (by omega), hI6, am_cp_at (by omega), hI5, am_up_ne (by omega), hI4, am_up_ne (by omega), hI3, am_up_ne (by omega), hI2, am_up_ne (by omega), hI1, am_up_ne (by omega)]
    · rw [hI16, am_cp_ne (by omega), hI15, am_cp_ne (by omega), hI14, am_cp_ne (by omega), hI13, am_cp_ne (by omega), hI12, am_up_ne (by omega), hI11, am_cp_ne (by omega), hI10, am_cp_ne (by omega), hI9, am_cp_ne (by omega), hI8, am_cp_ne (by omega), hI7, am_cp_at (by omega), hI6, am_cp_ne (by omega), hI5, am_up_ne (by omega), hI4, am_up_ne (by omega), hI3, am_up_ne (by omega), hI2, am_up_ne (by omega), hI1, am_up_ne (by omega)]
    · rw [hI16, am_cp_ne (by omega), hI15, am_cp_ne (by omega), hI14, am_cp_ne (by omega), hI13, am_cp_ne (by omega), hI12, am_up_ne (by omega), hI11, am_cp_ne (by omega), hI10, am_cp_ne (by omega), hI9, am_cp_ne (by omega), hI8, am_cp_at (by omega), hI7, am_cp_ne (by omega), hI6, am_cp_ne (by omega), hI5, am_up_ne (by omega), hI4, am_up_ne (by omega), hI3, am_up_ne (by omega), hI2, am_up_ne (by omega), hI1, am_up_ne (by omega)]
    · rw [hI16, am_cp_ne (by omega), hI15, am_cp_ne (by omega), hI14, am_cp_ne (by omega), hI13, am_cp_ne (by omega), hI12, am_up_ne (by omega), hI11, am_cp_ne (by omega), hI10, am_cp_ne (by omega), hI9, am_cp_at (by omega), hI8, am_cp_ne (by omega), hI7, am_cp_ne (by omega), hI6, am_cp_ne (by omega), hI5, am_up_ne (by omega), hI4, am_up_ne (by omega), hI3, am_up_ne (by omega), hI2, am_up_ne (by omega), hI1, am_up_ne (by omega)]
    · rw [hI16, am_cp_ne (by omega), hI15, am_cp_ne (by omega), hI14, am_cp_ne (by omega), hI13, am_cp_ne (by omega), hI12, am_up_ne (by omega), hI11, am_cp_ne (by omega), hI10, am_cp_at (by omega), hI9, am_cp_ne (by omega), hI8, am_cp_ne (by omega), hI7, am_cp_ne (by omega), hI6, am_cp_ne (by omega), hI5, am_up_ne (by omega), hI4, am_up_ne (by omega), hI3, am_up_ne (by omega), hI2, am_up_ne (by omega), hI1, am_up_ne (by omega)]
    · rw [hI16, am_cp_ne (by omega), hI15, am_cp_ne (by omega), hI14, am_cp_ne (by omega), hI13, am_cp_ne (by omega), hI12, am_up_ne (by omega), hI11, am_cp_at (by omega), hI10, am_cp_ne (by omega), hI9, am_cp_ne (by omega), hI8, am_cp_ne (by omega), hI7, am_cp_ne (by omega), hI6, am_cp_ne (by omega), hI5, am_up_ne (by omega), hI4, am_up_ne (by omega), hI3, am_up_ne (by omega), hI2, am_up_ne (by omega), hI1, am_up_ne (by omega)]
    · rw [hI16, am_cp_ne (by omega), hI15, am_cp_ne (by omega), hI14, am_cp_ne (by omega), hI13, am_cp_at (by omega), hI12, am_up_ne (by omega), hI11, am_cp_ne (by omega), hI10, am_cp_ne (by omega), hI9, am_cp_ne (by omega), hI8, am_cp_ne (by omega), hI7, am_cp_ne (by omega), hI6, am_cp_ne (by omega), hI5, am_up_ne (by omega), hI4, am_up_ne (by omega), hI3, am_up_ne (by omega), hI2, am_up_ne (by omega), hI1, am_up_ne (by omega)]
    · rw [hI16, am_cp_ne (by omega), hI15, am_cp_ne (by omega), hI14, am_cp_at (by omega), hI13, am_cp_ne (by omega), hI12, am_up_ne (by omega), hI11, am_cp_ne (by omega), hI10, am_cp_ne (by omega), hI9, am_cp_ne (by omega), hI8, am_cp_ne (by omega), hI7, am_cp_ne (by omega), hI6, am_cp_ne (by omega), hI5, am_up_ne (by omega), hI4, am_up_ne (by omega), hI3, am_up_ne (by omega), hI2, am_up_ne (by omega), hI1, am_up_ne (by omega)]
    · rw [hI16, am_cp_ne (by omega), hI15, am_cp_at (by omega), hI14, am_cp_ne (by omega), hI13, am_cp_ne (by omega), hI12, am_up_ne (by omega), hI11, am_cp_ne (by omega), hI10, am_cp_ne (by omega), hI9, am_cp_ne (by omega), hI8, am_cp_ne (by omega), hI7, am_cp_ne (by omega), hI6, am_cp_ne (by omega), hI5, am_up_ne (by omega), hI4, am_up_ne (by omega), hI3, am_up_ne (by omega), hI2, am_up_ne (by omega), hI1, am_up_ne (by omega)]
    · rw [hI16, am_cp_at (by omega), hI15, am_cp_ne (by omega), hI14, am_cp_ne (by omega), hI13, am_cp_ne (by omega), hI12, am_up_ne (by omega), hI11, am_cp_ne (by omega), hI10, am_cp_ne (by omega), hI9, am_cp_ne (by omega), hI8, am_cp_ne (by omega), hI7, am_cp_ne (by omega), hI6, am_cp_ne (by omega), hI5, am_up_ne (by omega), hI4, am_up_ne (by omega), hI3, am_up_ne (by omega), hI2, am_up_ne (by omega), hI1, am_up_ne (by omega)]), fun b g1 g2 => by rw [hI16, am_cp_ne (by omega), hI15, am_cp_ne (by omega), hI14, am_cp_ne (by omega), hI13, am_cp_ne (by omega), hI12, am_up_ne (by omega), hI11, am_cp_ne (by omega), hI10, am_cp_ne (by omega), hI9, am_cp_ne (by omega), hI8, am_cp_ne (by omega), hI7, am_cp_ne (by omega), hI6, am_cp_ne (by omega), hI5, am_up_ne (by omega), hI4, am_up_ne (by omega), hI3, am_up_ne (by omega), hI2, am_up_ne (by omega), hI1, am_up_ne (by omega)]⟩⟩) dX0_copyFrom_198
