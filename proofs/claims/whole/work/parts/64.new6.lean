/-! ===== the model's constructor ===== -/
def md_q0 : Nat → Int32 := upd (fun _ => nI 0) 0 (nI 200)
def md_q1 : Nat → Int32 := sp_addCamel md_q0 (nI 40) (nI 3) (nI 60)
def md_q2 : Nat → Int32 := sp_addCamel md_q1 (nI 30) (nI 5) (nI 80)
def md_q3 : Nat → Int32 := sp_addCamel md_q2 (nI 50) (nI 2) (nI 40)
def md_q4 : Nat → Int32 := sp_addWell md_q3 (nI 30) (nI 100) (nI 10)
def md_q5 : Nat → Int32 := sp_addWell md_q4 (nI 90) (nI 50) (nI 5)
def md_q6 : Nat → Int32 := sp_addStorm md_q5 (nI 2) (nI 3) (nI 4)
def md_q7 : Nat → Int32 := sp_bring md_q6 (nI 30) (nI 20)
def md_q8 : Nat → Int32 := upd md_q7 142 (nI 1)
def md_q9 : Nat → Int32 := sp_bring md_q8 (nI 45) (nI 50)
def md_q10 : Nat → Int32 := upd md_q9 146 (nI 1)
def md_q11 : Nat → Int32 := sp_bring md_q10 (nI 15) (nI 9)
theorem md_qc : sp_nc md_q0 = 0 ∧ sp_nc md_q1 = 1 ∧ sp_nc md_q2 = 2 ∧ sp_nw md_q3 = 0 ∧ sp_nw md_q4 = 1 ∧ sp_ns md_q5 = 0 ∧ sp_nl md_q6 = 0 ∧ sp_nl md_q8 = 1 ∧ sp_nl md_q10 = 2 := by decide +kernel
theorem md_qB : RowB md_q0 ∧ RowB md_q1 ∧ RowB md_q2 ∧ RowB md_q3 ∧ RowB md_q4 ∧ RowB md_q5 ∧ RowB md_q6 ∧ RowB md_q7 ∧ RowB md_q8 ∧ RowB md_q9 ∧ RowB md_q10 := by
  obtain ⟨c0, c1, c2, c3, c4, c5, c6, c8, c10⟩ := md_qc
  have b0 : RowB md_q0 := md_zero_B.up (by decide)
  have b1 : RowB md_q1 := b0.camel (by omega)
  have b2 : RowB md_q2 := b1.camel (by omega)
  have b3 : RowB md_q3 := b2.camel (by omega)
  have b4 : RowB md_q4 := b3.well (by omega)
  have b5 : RowB md_q5 := b4.well (by omega)
  have b6 : RowB md_q6 := b5.storm (by omega)
  have b7 : RowB md_q7 := b6.bring (by omega)
  have b8 : RowB md_q8 := b7.up (by decide)
  have b9 : RowB md_q9 := b8.bring (by omega)
  exact ⟨b0, b1, b2, b3, b4, b5, b6, b7, b8, b9, b9.up (by decide)⟩
set_option maxRecDepth 100000 in
theorem fr_row0 : (match sp_parse fr_tb 134 with | .ok r => (List.range 220).all (fun k => decide (md_q11 k = r k)) | .error _ => false) = true := by decide +kernel
theorem fr_row {r : Nat → Int32} (h : sp_parse fr_tb 134 = .ok r) : ∀ k : Nat, k < 220 → md_q11 k = r k := fun k hk => by
  have z := fr_row0
  rw [h] at z
  exact of_decide_eq_true (List.all_eq_true.mp z k (List.mem_range.mpr hk))
set_option maxHeartbeats 8000000 in
set_option maxRecDepth 100000 in
theorem ct_X6_init {G : am_G} {Λ : am_L} {I : am_I} {J : am_J} {y : Nat} {r0 : Nat → Int32} (hs : Λ.1 y = (1, 6)) (hI0 : I y = fun _ => 0) (hr0 : sp_parse fr_tb 134 = .ok r0) : am_CtN G yX6_init cX6_init 3 { frames := 2, cells := 9, slots := 3872, locals := 53 } [.ref y] Λ I J (y + 1) (fun v Λ' I' J' => v = none ∧ ModLay Λ' y ∧ am_exL y (y + 1) 9 Λ J Λ' J' ∧ (∀ b : Nat, (b < y ∨ y + 10 ≤ b) → I' b = I b) ∧ ModRel I' y (fun _ => 0) 0 (-1) r0 0 (fun _ _ => 0) (fun _ => false) (fun _ _ => 0) (0, fun _ => 0)) am_never := by
  refine am_ctN_of (own := RX6) rfl (by decide) (Nat.le_of_ble_eq_true rfl) (fun X C hz hin hO => ?_)
  change am_K G X { frames := 2, cells := 9, slots := 3872, locals := 53 } 3 Λ I J 0 0 0 [(0, .ref y)] []
  refine k_aload_n C (f := 0) (i := 0) (p := 0) rfl rfl dX6_init_0 ?_
  refine k_objInit C m_X6_1 ⟨Nat.le_of_ble_eq_true rfl, Nat.le_of_ble_eq_true rfl⟩ dX6_init_1 ?_
  refine k_aload_n C (f := 0) (i := 0) (p := 0) rfl rfl dX6_init_4 ?_
  refine k_sipush C sc_220 dX6_init_5 ?_
  refine k_newA C (h := y + 1) (N := 220) (kd := 2) hz (Or.inl rfl) (show y + 1 = y + 1 + 0 by omega) am_ar_i rfl (by decide) (Or.inl ⟨rfl, rfl⟩) ⟨Nat.le_of_ble_eq_true rfl, Nat.le_of_ble_eq_true rfl⟩ dX6_init_8 ?_
  obtain ⟨Λa1, Ia, Ja, g1, g2, g3⟩ : ∃ (a : am_L) (b : am_I) (c : am_J), a = am_nS Λ (y + 1) (2, 220) ∧ b = am_nI I (y + 1) ∧ c = am_nJ J (y + 1) := ⟨_, _, _, rfl, rfl, rfl⟩
  have ea : am_ext (y + 1) (y + 1 + 1) 0 (am_nS Λ (y + 1) (2, 220)) (am_nI I (y + 1)) (am_nJ J (y + 1)) Λa1 Ia Ja := by rw [g1, g2, g3]; exact am_ext.rf
  have qa : Λa1.1 (y + 1) = (2, 220) := by rw [g1]; exact nS_eq
  rw [← g1, ← g2, ← g3]
  clear g1 g2 g3
  obtain ⟨Λa, hΛa⟩ : ∃ a : am_L, a = (Λa1.1, am_ur Λa1.2 y 0 (some (y + 1))) := ⟨_, rfl⟩
  obtain ⟨Oa, Za, Ra, Xa, Na⟩ := am_stp (x := y) (by omega) ea hΛa
  refine k_putF C (b := y + 1) hin f_X6_7 ((ea.1 y (Or.inl (by omega))).1.trans ((nS_ne (by omega)).trans hs)) rfl rfl (Or.inl rfl) dX6_init_10 ?_
  rw [← hΛa]
  clear hΛa
  have sa : Λa.1 (y + 1) = (2, 220) := (Na _ (by omega)).1.trans qa
  have sx_a : Λa.1 y = (1, 6) := (Oa _ (Or.inl (by omega))).1.trans hs
  have z0_a : Ia y = fun _ => 0 := (Oa _ (Or.inl (by omega))).2.2.1.trans hI0
  refine k_aload_n C (f := 0) (i := 0) (p := 0) rfl rfl dX6_init_13 ?_
  refine k_sipush C sc_220 dX6_init_14 ?_
  refine k_newA C (h := y + 2) (N := 220) (kd := 2) hz (show am_low Λa (y + 1) 1 from Or.inr ⟨y + 1, by rw [sa]; decide, by omega⟩) (show y + 2 = y + 1 + 1 by omega) am_ar_i rfl (by decide) (Or.inl ⟨rfl, rfl⟩) ⟨Nat.le_of_ble_eq_true rfl, Nat.le_of_ble_eq_true rfl⟩ dX6_init_17 ?_
  obtain ⟨Λb1, Ib, Jb, g1, g2, g3⟩ : ∃ (a : am_L) (b : am_I) (c : am_J), a = am_nS Λa (y + 2) (2, 220) ∧ b = am_nI Ia (y + 2) ∧ c = am_nJ Ja (y + 2) := ⟨_, _, _, rfl, rfl, rfl⟩
  have eb : am_ext (y + 2) (y + 2 + 1) 0 (am_nS Λa (y + 2) (2, 220)) (am_nI Ia (y + 2)) (am_nJ Ja (y + 2)) Λb1 Ib Jb := by rw [g1, g2, g3]; exact am_ext.rf
  have qb : Λb1.1 (y + 2) = (2, 220) := by rw [g1]; exact nS_eq
  rw [← g1, ← g2, ← g3]
  clear g1 g2 g3
  obtain ⟨Λb, hΛb⟩ : ∃ a : am_L, a = (Λb1.1, am_ur Λb1.2 y 1 (some (y + 2))) := ⟨_, rfl⟩
  obtain ⟨Ob, Zb, Rb, Xb, Nb⟩ := am_stp (x := y) (by omega) eb hΛb
  refine k_putF C (b := y + 2) hin f_X6_13 ((eb.1 y (Or.inl (by omega))).1.trans ((nS_ne (by omega)).trans sx_a)) rfl rfl (Or.inl rfl) dX6_init_19 ?_
  rw [← hΛb]
  clear hΛb
  have sb : Λb.1 (y + 2) = (2, 220) := (Nb _ (by omega)).1.trans qb
  have sx_b : Λb.1 y = (1, 6) := (Ob _ (Or.inl (by omega))).1.trans sx_a
  have z0_b : Ib y = fun _ => 0 := (Ob _ (Or.inl (by omega))).2.2.1.trans z0_a
  have r0_b : Λb.2 y 0 = some (y + 1) := (Xb 0 (by decide)).trans Ra
  have sh1_b : Λb.1 (y + 1) = (2, 220) := (Ob _ (Or.inl (by omega))).1.trans sa
  have za1_b : Ib (y + 1) = fun _ => 0 := (Ob _ (Or.inl (by omega))).2.2.1.trans (Za (y + 1) (by omega) (by omega))
  refine k_aload_n C (f := 0) (i := 0) (p := 0) rfl rfl dX6_init_22 ?_
  refine k_sipush C sc_220 dX6_init_23 ?_
  refine k_newA C (h := y + 3) (N := 220) (kd := 2) hz (show am_low Λb (y + 1) 2 from Or.inr ⟨y + 2, by rw [sb]; decide, by omega⟩) (show y + 3 = y + 1 + 2 by omega) am_ar_i rfl (by decide) (Or.inl ⟨rfl, rfl⟩) ⟨Nat.le_of_ble_eq_true rfl, Nat.le_of_ble_eq_true rfl⟩ dX6_init_26 ?_
  obtain ⟨Λc1, Ic, Jc, g1, g2, g3⟩ : ∃ (a : am_L) (b : am_I) (c : am_J), a = am_nS Λb (y + 3) (2, 220) ∧ b = am_nI Ib (y + 3) ∧ c = am_nJ Jb (y + 3) := ⟨_, _, _, rfl, rfl, rfl⟩
  have ec : am_ext (y + 3) (y + 3 + 1) 0 (am_nS Λb (y + 3) (2, 220)) (am_nI Ib (y + 3)) (am_nJ Jb (y + 3)) Λc1 Ic Jc := by rw [g1, g2, g3]; exact am_ext.rf
  have qc : Λc1.1 (y + 3) = (2, 220) := by rw [g1]; exact nS_eq
  rw [← g1, ← g2, ← g3]
  clear g1 g2 g3
  obtain ⟨Λc, hΛc⟩ : ∃ a : am_L, a = (Λc1.1, am_ur Λc1.2 y 2 (some (y + 3))) := ⟨_, rfl⟩
  obtain ⟨Oc, Zc, Rc, Xc, Nc⟩ := am_stp (x := y) (by omega) ec hΛc
  refine k_putF C (b := y + 3) hin f_X6_16 ((ec.1 y (Or.inl (by omega))).1.trans ((nS_ne (by omega)).trans sx_b)) rfl rfl (Or.inl rfl) dX6_init_28 ?_
  rw [← hΛc]
  clear hΛc
  have sc : Λc.1 (y + 3) = (2, 220) := (Nc _ (by omega)).1.trans qc
  have sx_c : Λc.1 y = (1, 6) := (Oc _ (Or.inl (by omega))).1.trans sx_b
  have z0_c : Ic y = fun _ => 0 := (Oc _ (Or.inl (by omega))).2.2.1.trans z0_b
  have r0_c : Λc.2 y 0 = some (y + 1) := (Xc 0 (by decide)).trans r0_b
  have sh1_c : Λc.1 (y + 1) = (2, 220) := (Oc _ (Or.inl (by omega))).1.trans sh1_b
  have za1_c : Ic (y + 1) = fun _ => 0 := (Oc _ (Or.inl (by omega))).2.2.1.trans za1_b
  have r1_c : Λc.2 y 1 = some (y + 2) := (Xc 1 (by decide)).trans Rb
  have sh2_c : Λc.1 (y + 2) = (2, 220) := (Oc _ (Or.inl (by omega))).1.trans sb
  have za2_c : Ic (y + 2) = fun _ => 0 := (Oc _ (Or.inl (by omega))).2.2.1.trans (Zb (y + 2) (by omega) (by omega))
  refine k_aload_n C (f := 0) (i := 0) (p := 0) rfl rfl dX6_init_31 ?_
  refine k_sipush C sc_1760 dX6_init_32 ?_
  refine k_newA C (h := y + 4) (N := 1760) (kd := 2) hz (show am_low Λc (y + 1) 3 from Or.inr ⟨y + 3, by rw [sc]; decide, by omega⟩) (show y + 4 = y + 1 + 3 by omega) am_ar_i rfl (by decide) (Or.inl ⟨rfl, rfl⟩) ⟨Nat.le_of_ble_eq_true rfl, Nat.le_of_ble_eq_true rfl⟩ dX6_init_35 ?_
  obtain ⟨Λd1, Id, Jd, g1, g2, g3⟩ : ∃ (a : am_L) (b : am_I) (c : am_J), a = am_nS Λc (y + 4) (2, 1760) ∧ b = am_nI Ic (y + 4) ∧ c = am_nJ Jc (y + 4) := ⟨_, _, _, rfl, rfl, rfl⟩
  have ed : am_ext (y + 4) (y + 4 + 1) 0 (am_nS Λc (y + 4) (2, 1760)) (am_nI Ic (y + 4)) (am_nJ Jc (y + 4)) Λd1 Id Jd := by rw [g1, g2, g3]; exact am_ext.rf
  have qd : Λd1.1 (y + 4) = (2, 1760) := by rw [g1]; exact nS_eq
  rw [← g1, ← g2, ← g3]
  clear g1 g2 g3
  obtain ⟨Λd, hΛd⟩ : ∃ a : am_L, a = (Λd1.1, am_ur Λd1.2 y 3 (some (y + 4))) := ⟨_, rfl⟩
  obtain ⟨Od, Zd, Rd, Xd, Nd⟩ := am_stp (x := y) (by omega) ed hΛd
  refine k_putF C (b := y + 4) hin f_X6_19 ((ed.1 y (Or.inl (by omega))).1.trans ((nS_ne (by omega)).trans sx_c)) rfl rfl (Or.inl rfl) dX6_init_37 ?_
  rw [← hΛd]
  clear hΛd
  have sd : Λd.1 (y + 4) = (2, 1760) := (Nd _ (by omega)).1.trans qd
  have sx_d : Λd.1 y = (1, 6) := (Od _ (Or.inl (by omega))).1.trans sx_c
  have z0_d : Id y = fun _ => 0 := (Od _ (Or.inl (by omega))).2.2.1.trans z0_c
  have r0_d : Λd.2 y 0 = some (y + 1) := (Xd 0 (by decide)).trans r0_c
  have sh1_d : Λd.1 (y + 1) = (2, 220) := (Od _ (Or.inl (by omega))).1.trans sh1_c
  have za1_d : Id (y + 1) = fun _ => 0 := (Od _ (Or.inl (by omega))).2.2.1.trans za1_c
  have r1_d : Λd.2 y 1 = some (y + 2) := (Xd 1 (by decide)).trans r1_c
  have sh2_d : Λd.1 (y + 2) = (2, 220) := (Od _ (Or.inl (by omega))).1.trans sh2_c
  have za2_d : Id (y + 2) = fun _ => 0 := (Od _ (Or.inl (by omega))).2.2.1.trans za2_c
  have r2_d : Λd.2 y 2 = some (y + 3) := (Xd 2 (by decide)).trans Rc
  have sh3_d : Λd.1 (y + 3) = (2, 220) := (Od _ (Or.inl (by omega))).1.trans sc
  have za3_d : Id (y + 3) = fun _ => 0 := (Od _ (Or.inl (by omega))).2.2.1.trans (Zc (y + 3) (by omega) (by omega))
  refine k_aload_n C (f := 0) (i := 0) (p := 0) rfl rfl dX6_init_40 ?_
  refine k_sipush C sc_440 dX6_init_41 ?_
  refine k_newA C (h := y + 5) (N := 440) (kd := 2) hz (show am_low Λd (y + 1) 4 from Or.inr ⟨y + 4, by rw [sd]; decide, by omega⟩) (show y + 5 = y + 1 + 4 by omega) am_ar_i rfl (by decide) (Or.inl ⟨rfl, rfl⟩) ⟨Nat.le_of_ble_eq_true rfl, Nat.le_of_ble_eq_true rfl⟩ dX6_init_44 ?_
  obtain ⟨Λe1, Ie, Je, g1, g2, g3⟩ : ∃ (a : am_L) (b : am_I) (c : am_J), a = am_nS Λd (y + 5) (2, 440) ∧ b = am_nI Id (y + 5) ∧ c = am_nJ Jd (y + 5) := ⟨_, _, _, rfl, rfl, rfl⟩
  have ee : am_ext (y + 5) (y + 5 + 1) 0 (am_nS Λd (y + 5) (2, 440)) (am_nI Id (y + 5)) (am_nJ Jd (y + 5)) Λe1 Ie Je := by rw [g1, g2, g3]; exact am_ext.rf
  have qe : Λe1.1 (y + 5) = (2, 440) := by rw [g1]; exact nS_eq
  rw [← g1, ← g2, ← g3]
  clear g1 g2 g3
  obtain ⟨Λe, hΛe⟩ : ∃ a : am_L, a = (Λe1.1, am_ur Λe1.2 y 4 (some (y + 5))) := ⟨_, rfl⟩
  obtain ⟨Oe, Ze, Re, Xe, Ne⟩ := am_stp (x := y) (by omega) ee hΛe
  refine k_putF C (b := y + 5) hin f_X6_22 ((ee.1 y (Or.inl (by omega))).1.trans ((nS_ne (by omega)).trans sx_d)) rfl rfl (Or.inl rfl) dX6_init_46 ?_
  rw [← hΛe]
  clear hΛe
  have se : Λe.1 (y + 5) = (2, 440) := (Ne _ (by omega)).1.trans qe
  have sx_e : Λe.1 y = (1, 6) := (Oe _ (Or.inl (by omega))).1.trans sx_d
  have z0_e : Ie y = fun _ => 0 := (Oe _ (Or.inl (by omega))).2.2.1.trans z0_d
  have r0_e : Λe.2 y 0 = some (y + 1) := (Xe 0 (by decide)).trans r0_d
  have sh1_e : Λe.1 (y + 1) = (2, 220) := (Oe _ (Or.inl (by omega))).1.trans sh1_d
  have za1_e : Ie (y + 1) = fun _ => 0 := (Oe _ (Or.inl (by omega))).2.2.1.trans za1_d
  have r1_e : Λe.2 y 1 = some (y + 2) := (Xe 1 (by decide)).trans r1_d
  have sh2_e : Λe.1 (y + 2) = (2, 220) := (Oe _ (Or.inl (by omega))).1.trans sh2_d
  have za2_e : Ie (y + 2) = fun _ => 0 := (Oe _ (Or.inl (by omega))).2.2.1.trans za2_d
  have r2_e : Λe.2 y 2 = some (y + 3) := (Xe 2 (by decide)).trans r2_d
  have sh3_e : Λe.1 (y + 3) = (2, 220) := (Oe _ (Or.inl (by omega))).1.trans sh3_d
  have za3_e : Ie (y + 3) = fun _ => 0 := (Oe _ (Or.inl (by omega))).2.2.1.trans za3_d
  have r3_e : Λe.2 y 3 = some (y + 4) := (Xe 3 (by decide)).trans Rd
  have sh4_e : Λe.1 (y + 4) = (2, 1760) := (Oe _ (Or.inl (by omega))).1.trans sd
  have za4_e : Ie (y + 4) = fun _ => 0 := (Oe _ (Or.inl (by omega))).2.2.1.trans (Zd (y + 4) (by omega) (by omega))
  refine k_aload_n C (f := 0) (i := 0) (p := 0) rfl rfl dX6_init_49 ?_
  refine k_iconst C ic_2 dX6_init_50 ?_
  refine k_newA C (h := y + 6) (N := 2) (kd := 4) hz (show am_low Λe (y + 1) 5 from Or.inr ⟨y + 5, by rw [se]; decide, by omega⟩) (show y + 6 = y + 1 + 5 by omega) am_ar_z rfl (by decide) (Or.inr (Or.inr (Or.inl ⟨rfl, rfl⟩))) ⟨Nat.le_of_ble_eq_true rfl, Nat.le_of_ble_eq_true rfl⟩ dX6_init_51 ?_
  obtain ⟨Λf1, If, Jf, g1, g2, g3⟩ : ∃ (a : am_L) (b : am_I) (c : am_J), a = am_nS Λe (y + 6) (4, 2) ∧ b = am_nI Ie (y + 6) ∧ c = am_nJ Je (y + 6) := ⟨_, _, _, rfl, rfl, rfl⟩
  have ef : am_ext (y + 6) (y + 6 + 1) 0 (am_nS Λe (y + 6) (4, 2)) (am_nI Ie (y + 6)) (am_nJ Je (y + 6)) Λf1 If Jf := by rw [g1, g2, g3]; exact am_ext.rf
  have qf : Λf1.1 (y + 6) = (4, 2) := by rw [g1]; exact nS_eq
  rw [← g1, ← g2, ← g3]
  clear g1 g2 g3
  obtain ⟨Λf, hΛf⟩ : ∃ a : am_L, a = (Λf1.1, am_ur Λf1.2 y 5 (some (y + 6))) := ⟨_, rfl⟩
  obtain ⟨Of, Zf, Rf, Xf, Nf⟩ := am_stp (x := y) (by omega) ef hΛf
  refine k_putF C (b := y + 6) hin f_X6_25 ((ef.1 y (Or.inl (by omega))).1.trans ((nS_ne (by omega)).trans sx_e)) rfl rfl (Or.inr (Or.inr (Or.inl rfl))) dX6_init_53 ?_
  rw [← hΛf]
  clear hΛf
  have sf : Λf.1 (y + 6) = (4, 2) := (Nf _ (by omega)).1.trans qf
  have sx_f : Λf.1 y = (1, 6) := (Of _ (Or.inl (by omega))).1.trans sx_e
  have z0_f : If y = fun _ => 0 := (Of _ (Or.inl (by omega))).2.2.1.trans z0_e
  have r0_f : Λf.2 y 0 = some (y + 1) := (Xf 0 (by decide)).trans r0_e
  have sh1_f : Λf.1 (y + 1) = (2, 220) := (Of _ (Or.inl (by omega))).1.trans sh1_e
  have za1_f : If (y + 1) = fun _ => 0 := (Of _ (Or.inl (by omega))).2.2.1.trans za1_e
  have r1_f : Λf.2 y 1 = some (y + 2) := (Xf 1 (by decide)).trans r1_e
  have sh2_f : Λf.1 (y + 2) = (2, 220) := (Of _ (Or.inl (by omega))).1.trans sh2_e
  have za2_f : If (y + 2) = fun _ => 0 := (Of _ (Or.inl (by omega))).2.2.1.trans za2_e
  have r2_f : Λf.2 y 2 = some (y + 3) := (Xf 2 (by decide)).trans r2_e
  have sh3_f : Λf.1 (y + 3) = (2, 220) := (Of _ (Or.inl (by omega))).1.trans sh3_e
  have za3_f : If (y + 3) = fun _ => 0 := (Of _ (Or.inl (by omega))).2.2.1.trans za3_e
  have r3_f : Λf.2 y 3 = some (y + 4) := (Xf 3 (by decide)).trans r3_e
  have sh4_f : Λf.1 (y + 4) = (2, 1760) := (Of _ (Or.inl (by omega))).1.trans sh4_e
  have za4_f : If (y + 4) = fun _ => 0 := (Of _ (Or.inl (by omega))).2.2.1.trans za4_e
  have r4_f : Λf.2 y 4 = some (y + 5) := (Xf 4 (by decide)).trans Re
  have sh5_f : Λf.1 (y + 5) = (2, 440) := (Of _ (Or.inl (by omega))).1.trans se
  have za5_f : If (y + 5) = fun _ => 0 := (Of _ (Or.inl (by omega))).2.2.1.trans (Ze (y + 5) (by omega) (by omega))
  refine k_aload_n C (f := 0) (i := 0) (p := 0) rfl rfl dX6_init_56 ?_
  refine k_sipush C sc_700 dX6_init_57 ?_
  refine k_newA C (h := y + 7) (N := 700) (kd := 2) hz (show am_low Λf (y + 1) 6 from Or.inr ⟨y + 6, by rw [sf]; decide, by omega⟩) (show y + 7 = y + 1 + 6 by omega) am_ar_i rfl (by decide) (Or.inl ⟨rfl, rfl⟩) ⟨Nat.le_of_ble_eq_true rfl, Nat.le_of_ble_eq_true rfl⟩ dX6_init_60 ?_
  obtain ⟨Λg1, Ig, Jg, g1, g2, g3⟩ : ∃ (a : am_L) (b : am_I) (c : am_J), a = am_nS Λf (y + 7) (2, 700) ∧ b = am_nI If (y + 7) ∧ c = am_nJ Jf (y + 7) := ⟨_, _, _, rfl, rfl, rfl⟩
  have eg : am_ext (y + 7) (y + 7 + 1) 0 (am_nS Λf (y + 7) (2, 700)) (am_nI If (y + 7)) (am_nJ Jf (y + 7)) Λg1 Ig Jg := by rw [g1, g2, g3]; exact am_ext.rf
  have qg : Λg1.1 (y + 7) = (2, 700) := by rw [g1]; exact nS_eq
  rw [← g1, ← g2, ← g3]
  clear g1 g2 g3
  obtain ⟨Λg, hΛg⟩ : ∃ a : am_L, a = (Λg1.1, am_ur Λg1.2 y 7 (some (y + 7))) := ⟨_, rfl⟩
  obtain ⟨Og, Zg, Rg, Xg, Ng⟩ := am_stp (x := y) (by omega) eg hΛg
  refine k_putF C (b := y + 7) hin f_X6_29 ((eg.1 y (Or.inl (by omega))).1.trans ((nS_ne (by omega)).trans sx_f)) rfl rfl (Or.inl rfl) dX6_init_62 ?_
  rw [← hΛg]
  clear hΛg
  have sg : Λg.1 (y + 7) = (2, 700) := (Ng _ (by omega)).1.trans qg
  have sx_g : Λg.1 y = (1, 6) := (Og _ (Or.inl (by omega))).1.trans sx_f
  have z0_g : Ig y = fun _ => 0 := (Og _ (Or.inl (by omega))).2.2.1.trans z0_f
  have r0_g : Λg.2 y 0 = some (y + 1) := (Xg 0 (by decide)).trans r0_f
  have sh1_g : Λg.1 (y + 1) = (2, 220) := (Og _ (Or.inl (by omega))).1.trans sh1_f
  have za1_g : Ig (y + 1) = fun _ => 0 := (Og _ (Or.inl (by omega))).2.2.1.trans za1_f
  have r1_g : Λg.2 y 1 = some (y + 2) := (Xg 1 (by decide)).trans r1_f
  have sh2_g : Λg.1 (y + 2) = (2, 220) := (Og _ (Or.inl (by omega))).1.trans sh2_f
  have za2_g : Ig (y + 2) = fun _ => 0 := (Og _ (Or.inl (by omega))).2.2.1.trans za2_f
  have r2_g : Λg.2 y 2 = some (y + 3) := (Xg 2 (by decide)).trans r2_f
  have sh3_g : Λg.1 (y + 3) = (2, 220) := (Og _ (Or.inl (by omega))).1.trans sh3_f
  have za3_g : Ig (y + 3) = fun _ => 0 := (Og _ (Or.inl (by omega))).2.2.1.trans za3_f
  have r3_g : Λg.2 y 3 = some (y + 4) := (Xg 3 (by decide)).trans r3_f
  have sh4_g : Λg.1 (y + 4) = (2, 1760) := (Og _ (Or.inl (by omega))).1.trans sh4_f
  have za4_g : Ig (y + 4) = fun _ => 0 := (Og _ (Or.inl (by omega))).2.2.1.trans za4_f
  have r4_g : Λg.2 y 4 = some (y + 5) := (Xg 4 (by decide)).trans r4_f
  have sh5_g : Λg.1 (y + 5) = (2, 440) := (Og _ (Or.inl (by omega))).1.trans sh5_f
  have za5_g : Ig (y + 5) = fun _ => 0 := (Og _ (Or.inl (by omega))).2.2.1.trans za5_f
  have r5_g : Λg.2 y 5 = some (y + 6) := (Xg 5 (by decide)).trans Rf
  have sh6_g : Λg.1 (y + 6) = (4, 2) := (Og _ (Or.inl (by omega))).1.trans sf
  have za6_g : Ig (y + 6) = fun _ => 0 := (Og _ (Or.inl (by omega))).2.2.1.trans (Zf (y + 6) (by omega) (by omega))
  refine k_aload_n C (f := 0) (i := 0) (p := 0) rfl rfl dX6_init_65 ?_
  refine k_iconst C ic_m1 dX6_init_66 ?_
  refine k_putI C f_X6_32 sx_g rfl rfl dX6_init_67 ?_
  obtain ⟨Iz, hIz⟩ : ∃ z : am_I, z = am_up Ig y 9 (-1) := ⟨_, rfl⟩
  rw [← hIz]
  have Oz : ∀ b : Nat, b ≠ y → Iz b = Ig b := fun b hb => by rw [hIz]; exact am_up_ne hb
  have z6 : Iz y 6 = nI 0 ∧ Iz y 8 = nI 0 ∧ Iz y 9 = -1 ∧ Iz y 19 = nI 0 := by
    rw [hIz, am_up_n2 (by omega), am_up_n2 (by omega), am_up_eq, am_up_n2 (by omega), z0_g]
    exact ⟨rfl, rfl, rfl, rfl⟩
  clear hIz
  have za1_z : Iz (y + 1) = fun _ => 0 := (Oz _ (by omega)).trans za1_g
  have za2_z : Iz (y + 2) = fun _ => 0 := (Oz _ (by omega)).trans za2_g
  have za3_z : Iz (y + 3) = fun _ => 0 := (Oz _ (by omega)).trans za3_g
  have za4_z : Iz (y + 4) = fun _ => 0 := (Oz _ (by omega)).trans za4_g
  have za5_z : Iz (y + 5) = fun _ => 0 := (Oz _ (by omega)).trans za5_g
  have za6_z : Iz (y + 6) = fun _ => 0 := (Oz _ (by omega)).trans za6_g
  have za7_z : Iz (y + 7) = fun _ => 0 := (Oz _ (by omega)).trans (Zg (y + 7) (by omega) (by omega))
  refine k_aload_n C (f := 0) (i := 0) (p := 0) rfl rfl dX6_init_70 ?_
  refine k_bipush C bc_10 dX6_init_71 ?_
  refine k_newA C (h := y + 8) (N := 10) (kd := 2) hz (show am_low Λg (y + 1) 7 from Or.inr ⟨y + 7, by rw [sg]; decide, by omega⟩) (show y + 8 = y + 1 + 7 by omega) am_ar_i rfl (by decide) (Or.inl ⟨rfl, rfl⟩) ⟨Nat.le_of_ble_eq_true rfl, Nat.le_of_ble_eq_true rfl⟩ dX6_init_73 ?_
  obtain ⟨Λh1, Ih, Jh, g1, g2, g3⟩ : ∃ (a : am_L) (b : am_I) (c : am_J), a = am_nS Λg (y + 8) (2, 10) ∧ b = am_nI Iz (y + 8) ∧ c = am_nJ Jg (y + 8) := ⟨_, _, _, rfl, rfl, rfl⟩
  have eh : am_ext (y + 8) (y + 8 + 1) 0 (am_nS Λg (y + 8) (2, 10)) (am_nI Iz (y + 8)) (am_nJ Jg (y + 8)) Λh1 Ih Jh := by rw [g1, g2, g3]; exact am_ext.rf
  have qh : Λh1.1 (y + 8) = (2, 10) := by rw [g1]; exact nS_eq
  rw [← g1, ← g2, ← g3]
  clear g1 g2 g3
  obtain ⟨Λh, hΛh⟩ : ∃ a : am_L, a = (Λh1.1, am_ur Λh1.2 y 11 (some (y + 8))) := ⟨_, rfl⟩
  obtain ⟨Oh, Zh, Rh, Xh, Nh⟩ := am_stp (x := y) (by omega) eh hΛh
  refine k_putF C (b := y + 8) hin f_X6_36 ((eh.1 y (Or.inl (by omega))).1.trans ((nS_ne (by omega)).trans sx_g)) rfl rfl (Or.inl rfl) dX6_init_75 ?_
  rw [← hΛh]
  clear hΛh
  have sh : Λh.1 (y + 8) = (2, 10) := (Nh _ (by omega)).1.trans qh
  have sx_h : Λh.1 y = (1, 6) := (Oh _ (Or.inl (by omega))).1.trans sx_g
  have r0_h : Λh.2 y 0 = some (y + 1) := (Xh 0 (by decide)).trans r0_g
  have sh1_h : Λh.1 (y + 1) = (2, 220) := (Oh _ (Or.inl (by omega))).1.trans sh1_g
  have za1_h : Ih (y + 1) = fun _ => 0 := (Oh _ (Or.inl (by omega))).2.2.1.trans za1_z
  have r1_h : Λh.2 y 1 = some (y + 2) := (Xh 1 (by decide)).trans r1_g
  have sh2_h : Λh.1 (y + 2) = (2, 220) := (Oh _ (Or.inl (by omega))).1.trans sh2_g
  have za2_h : Ih (y + 2) = fun _ => 0 := (Oh _ (Or.inl (by omega))).2.2.1.trans za2_z
  have r2_h : Λh.2 y 2 = some (y + 3) := (Xh 2 (by decide)).trans r2_g
  have sh3_h : Λh.1 (y + 3) = (2, 220) := (Oh _ (Or.inl (by omega))).1.trans sh3_g
  have za3_h : Ih (y + 3) = fun _ => 0 := (Oh _ (Or.inl (by omega))).2.2.1.trans za3_z
  have r3_h : Λh.2 y 3 = some (y + 4) := (Xh 3 (by decide)).trans r3_g
  have sh4_h : Λh.1 (y + 4) = (2, 1760) := (Oh _ (Or.inl (by omega))).1.trans sh4_g
  have za4_h : Ih (y + 4) = fun _ => 0 := (Oh _ (Or.inl (by omega))).2.2.1.trans za4_z
  have r4_h : Λh.2 y 4 = some (y + 5) := (Xh 4 (by decide)).trans r4_g
  have sh5_h : Λh.1 (y + 5) = (2, 440) := (Oh _ (Or.inl (by omega))).1.trans sh5_g
  have za5_h : Ih (y + 5) = fun _ => 0 := (Oh _ (Or.inl (by omega))).2.2.1.trans za5_z
  have r5_h : Λh.2 y 5 = some (y + 6) := (Xh 5 (by decide)).trans r5_g
  have sh6_h : Λh.1 (y + 6) = (4, 2) := (Oh _ (Or.inl (by omega))).1.trans sh6_g
  have za6_h : Ih (y + 6) = fun _ => 0 := (Oh _ (Or.inl (by omega))).2.2.1.trans za6_z
  have r7_h : Λh.2 y 7 = some (y + 7) := (Xh 7 (by decide)).trans Rg
  have sh7_h : Λh.1 (y + 7) = (2, 700) := (Oh _ (Or.inl (by omega))).1.trans sg
  have za7_h : Ih (y + 7) = fun _ => 0 := (Oh _ (Or.inl (by omega))).2.2.1.trans za7_z
  have i6_h : Ih y 6 = nI 0 := (congrFun (Oh _ (Or.inl (by omega))).2.2.1 _).trans z6.1
  have i8_h : Ih y 8 = nI 0 := (congrFun (Oh _ (Or.inl (by omega))).2.2.1 _).trans z6.2.1
  have i9_h : Ih y 9 = -1 := (congrFun (Oh _ (Or.inl (by omega))).2.2.1 _).trans z6.2.2.1
  have i19_h : Ih y 19 = nI 0 := (congrFun (Oh _ (Or.inl (by omega))).2.2.1 _).trans z6.2.2.2
  refine k_aload_n C (f := 0) (i := 0) (p := 0) rfl rfl dX6_init_78 ?_
  refine k_sipush C sc_300 dX6_init_79 ?_
  refine k_newA C (h := y + 9) (N := 300) (kd := 2) hz (show am_low Λh (y + 1) 8 from Or.inr ⟨y + 8, by rw [sh]; decide, by omega⟩) (show y + 9 = y + 1 + 8 by omega) am_ar_i rfl (by decide) (Or.inl ⟨rfl, rfl⟩) ⟨Nat.le_of_ble_eq_true rfl, Nat.le_of_ble_eq_true rfl⟩ dX6_init_82 ?_
  obtain ⟨Λi1, Ii, Ji, g1, g2, g3⟩ : ∃ (a : am_L) (b : am_I) (c : am_J), a = am_nS Λh (y + 9) (2, 300) ∧ b = am_nI Ih (y + 9) ∧ c = am_nJ Jh (y + 9) := ⟨_, _, _, rfl, rfl, rfl⟩
  have ei : am_ext (y + 9) (y + 9 + 1) 0 (am_nS Λh (y + 9) (2, 300)) (am_nI Ih (y + 9)) (am_nJ Jh (y + 9)) Λi1 Ii Ji := by rw [g1, g2, g3]; exact am_ext.rf
  have qi : Λi1.1 (y + 9) = (2, 300) := by rw [g1]; exact nS_eq
  rw [← g1, ← g2, ← g3]
  clear g1 g2 g3
  obtain ⟨Λi, hΛi⟩ : ∃ a : am_L, a = (Λi1.1, am_ur Λi1.2 y 18 (some (y + 9))) := ⟨_, rfl⟩
  obtain ⟨Oi, Zi, Ri, Xi, Ni⟩ := am_stp (x := y) (by omega) ei hΛi
  refine k_putF C (b := y + 9) hin f_X6_39 ((ei.1 y (Or.inl (by omega))).1.trans ((nS_ne (by omega)).trans sx_h)) rfl rfl (Or.inl rfl) dX6_init_84 ?_
  rw [← hΛi]
  clear hΛi
  have si : Λi.1 (y + 9) = (2, 300) := (Ni _ (by omega)).1.trans qi
  have sx_i : Λi.1 y = (1, 6) := (Oi _ (Or.inl (by omega))).1.trans sx_h
  have r0_i : Λi.2 y 0 = some (y + 1) := (Xi 0 (by decide)).trans r0_h
  have sh1_i : Λi.1 (y + 1) = (2, 220) := (Oi _ (Or.inl (by omega))).1.trans sh1_h
  have za1_i : Ii (y + 1) = fun _ => 0 := (Oi _ (Or.inl (by omega))).2.2.1.trans za1_h
  have r1_i : Λi.2 y 1 = some (y + 2) := (Xi 1 (by decide)).trans r1_h
  have sh2_i : Λi.1 (y + 2) = (2, 220) := (Oi _ (Or.inl (by omega))).1.trans sh2_h
  have za2_i : Ii (y + 2) = fun _ => 0 := (Oi _ (Or.inl (by omega))).2.2.1.trans za2_h
  have r2_i : Λi.2 y 2 = some (y + 3) := (Xi 2 (by decide)).trans r2_h
  have sh3_i : Λi.1 (y + 3) = (2, 220) := (Oi _ (Or.inl (by omega))).1.trans sh3_h
  have za3_i : Ii (y + 3) = fun _ => 0 := (Oi _ (Or.inl (by omega))).2.2.1.trans za3_h
  have r3_i : Λi.2 y 3 = some (y + 4) := (Xi 3 (by decide)).trans r3_h
  have sh4_i : Λi.1 (y + 4) = (2, 1760) := (Oi _ (Or.inl (by omega))).1.trans sh4_h
  have za4_i : Ii (y + 4) = fun _ => 0 := (Oi _ (Or.inl (by omega))).2.2.1.trans za4_h
  have r4_i : Λi.2 y 4 = some (y + 5) := (Xi 4 (by decide)).trans r4_h
  have sh5_i : Λi.1 (y + 5) = (2, 440) := (Oi _ (Or.inl (by omega))).1.trans sh5_h
  have za5_i : Ii (y + 5) = fun _ => 0 := (Oi _ (Or.inl (by omega))).2.2.1.trans za5_h
  have r5_i : Λi.2 y 5 = some (y + 6) := (Xi 5 (by decide)).trans r5_h
  have sh6_i : Λi.1 (y + 6) = (4, 2) := (Oi _ (Or.inl (by omega))).1.trans sh6_h
  have za6_i : Ii (y + 6) = fun _ => 0 := (Oi _ (Or.inl (by omega))).2.2.1.trans za6_h
  have r7_i : Λi.2 y 7 = some (y + 7) := (Xi 7 (by decide)).trans r7_h
  have sh7_i : Λi.1 (y + 7) = (2, 700) := (Oi _ (Or.inl (by omega))).1.trans sh7_h
  have za7_i : Ii (y + 7) = fun _ => 0 := (Oi _ (Or.inl (by omega))).2.2.1.trans za7_h
  have i6_i : Ii y 6 = nI 0 := (congrFun (Oi _ (Or.inl (by omega))).2.2.1 _).trans i6_h
  have i8_i : Ii y 8 = nI 0 := (congrFun (Oi _ (Or.inl (by omega))).2.2.1 _).trans i8_h
  have i9_i : Ii y 9 = -1 := (congrFun (Oi _ (Or.inl (by omega))).2.2.1 _).trans i9_h
  have i19_i : Ii y 19 = nI 0 := (congrFun (Oi _ (Or.inl (by omega))).2.2.1 _).trans i19_h
  have r11_i : Λi.2 y 11 = some (y + 8) := (Xi 11 (by decide)).trans Rh
  have sh8_i : Λi.1 (y + 8) = (2, 10) := (Oi _ (Or.inl (by omega))).1.trans sh
  have za8_i : Ii (y + 8) = fun _ => 0 := (Oi _ (Or.inl (by omega))).2.2.1.trans (Zh (y + 8) (by omega) (by omega))
  have hx : ModLay Λi y := ⟨sx_i, r0_i, sh1_i, r1_i, sh2_i, r2_i, sh3_i, r3_i, sh4_i, r4_i, sh5_i, r5_i, sh6_i, r7_i, sh7_i, r11_i, sh8_i, Ri, si⟩
  have hsl := A6_0 hx
  obtain ⟨b0, b1, b2, b3, b4, b5, b6, b7, b8, b9, b10⟩ := md_qB
  obtain ⟨c0, c1, c2, c3, c4, c5, c6, c8, c10⟩ := md_qc
  have hm : MRow Ii (y + 1) 0 (fun _ => nI 0) := fun k hk => by rw [za1_i]; rfl
  have hg : am_f1 (y + 1) Ii Ii := am_f1.rf
  refine k_aload_n C (f := 0) (i := 0) (p := 0) rfl rfl dX6_init_87 ?_
  refine k_getR C f_X6_7 sx_i (fun _ _ _ => rfl) r0_i dX6_init_88 ?_
  refine k_iconst C ic_0 dX6_init_91 ?_
  refine k_sipush C sc_200 dX6_init_92 ?_
  refine k_rst C (i := 0) hsl rfl rfl (by decide) hm hg dX6_init_95 (fun I9 hm hg => ?_)
  replace hm : MRow I9 (y + 1) 0 md_q0 := hm
  refine k_aload_n C (f := 0) (i := 0) (p := 0) rfl rfl dX6_init_96 ?_
  refine k_getR C f_X6_7 sx_i (fun _ _ _ => rfl) r0_i dX6_init_97 ?_
  refine k_bipush C bc_40 dX6_init_100 ?_
  refine k_iconst C ic_3 dX6_init_102 ?_
  refine k_bipush C bc_60 dX6_init_103 ?_
  refine k_callSg C s_X6_42 h_X6_addsCamel (ct_X6_addsCamel hsl hm b0 (by omega)) rfl rfl (Nat.le_of_ble_eq_true rfl) ⟨Nat.le_of_ble_eq_true rfl, Nat.le_of_ble_eq_true rfl⟩ ⟨Nat.le_of_ble_eq_true rfl, Nat.le_of_ble_eq_true rfl⟩ ⟨rfl, rfl⟩ dX6_init_105 ?_
  intro v I8 hv
  obtain ⟨rfl, hm, g9⟩ := hv
  replace hm : MRow I8 (y + 1) 0 md_q1 := hm
  replace hg := hg.tr g9
  refine k_aload_n C (f := 0) (i := 0) (p := 0) rfl rfl dX6_init_108 ?_
  refine k_getR C f_X6_7 sx_i (fun _ _ _ => rfl) r0_i dX6_init_109 ?_
  refine k_bipush C bc_30 dX6_init_112 ?_
  refine k_iconst C ic_5 dX6_init_114 ?_
  refine k_bipush C bc_80 dX6_init_115 ?_
  refine k_callSg C s_X6_42 h_X6_addsCamel (ct_X6_addsCamel hsl hm b1 (by omega)) rfl rfl (Nat.le_of_ble_eq_true rfl) ⟨Nat.le_of_ble_eq_true rfl, Nat.le_of_ble_eq_true rfl⟩ ⟨Nat.le_of_ble_eq_true rfl, Nat.le_of_ble_eq_true rfl⟩ ⟨rfl, rfl⟩ dX6_init_117 ?_
  intro v I8 hv
  obtain ⟨rfl, hm, g9⟩ := hv
  replace hm : MRow I8 (y + 1) 0 md_q2 := hm
  replace hg := hg.tr g9
  refine k_aload_n C (f := 0) (i := 0) (p := 0) rfl rfl dX6_init_120 ?_
  refine k_getR C f_X6_7 sx_i (fun _ _ _ => rfl) r0_i dX6_init_121 ?_
  refine k_bipush C bc_50 dX6_init_124 ?_
  refine k_iconst C ic_2 dX6_init_126 ?_
  refine k_bipush C bc_40 dX6_init_127 ?_
  refine k_callSg C s_X6_42 h_X6_addsCamel (ct_X6_addsCamel hsl hm b2 (by omega)) rfl rfl (Nat.le_of_ble_eq_true rfl) ⟨Nat.le_of_ble_eq_true rfl, Nat.le_of_ble_eq_true rfl⟩ ⟨Nat.le_of_ble_eq_true rfl, Nat.le_of_ble_eq_true rfl⟩ ⟨rfl, rfl⟩ dX6_init_129 ?_
  intro v I8 hv
  obtain ⟨rfl, hm, g9⟩ := hv
  replace hm : MRow I8 (y + 1) 0 md_q3 := hm
  replace hg := hg.tr g9
  refine k_aload_n C (f := 0) (i := 0) (p := 0) rfl rfl dX6_init_132 ?_
  refine k_getR C f_X6_7 sx_i (fun _ _ _ => rfl) r0_i dX6_init_133 ?_
  refine k_bipush C bc_30 dX6_init_136 ?_
  refine k_bipush C bc_100 dX6_init_138 ?_
  refine k_bipush C bc_10 dX6_init_140 ?_
  refine k_callSg C s_X6_46 h_X6_addsWell (ct_X6_addsWell hsl hm b3 (by omega)) rfl rfl (Nat.le_of_ble_eq_true rfl) ⟨Nat.le_of_ble_eq_true rfl, Nat.le_of_ble_eq_true rfl⟩ ⟨Nat.le_of_ble_eq_true rfl, Nat.le_of_ble_eq_true rfl⟩ ⟨rfl, rfl⟩ dX6_init_142 ?_
  intro v I8 hv
  obtain ⟨rfl, hm, g9⟩ := hv
  replace hm : MRow I8 (y + 1) 0 md_q4 := hm
  replace hg := hg.tr g9
  refine k_aload_n C (f := 0) (i := 0) (p := 0) rfl rfl dX6_init_145 ?_
  refine k_getR C f_X6_7 sx_i (fun _ _ _ => rfl) r0_i dX6_init_146 ?_
  refine k_bipush C bc_90 dX6_init_149 ?_
  refine k_bipush C bc_50 dX6_init_151 ?_
  refine k_iconst C ic_5 dX6_init_153 ?_
  refine k_callSg C s_X6_46 h_X6_addsWell (ct_X6_addsWell hsl hm b4 (by omega)) rfl rfl (Nat.le_of_ble_eq_true rfl) ⟨Nat.le_of_ble_eq_true rfl, Nat.le_of_ble_eq_true rfl⟩ ⟨Nat.le_of_ble_eq_true rfl, Nat.le_of_ble_eq_true rfl⟩ ⟨rfl, rfl⟩ dX6_init_154 ?_
  intro v I8 hv
  obtain ⟨rfl, hm, g9⟩ := hv
  replace hm : MRow I8 (y + 1) 0 md_q5 := hm
  replace hg := hg.tr g9
  refine k_aload_n C (f := 0) (i := 0) (p := 0) rfl rfl dX6_init_157 ?_
  refine k_getR C f_X6_7 sx_i (fun _ _ _ => rfl) r0_i dX6_init_158 ?_
  refine k_iconst C ic_2 dX6_init_161 ?_
  refine k_iconst C ic_3 dX6_init_162 ?_
  refine k_iconst C ic_4 dX6_init_163 ?_
  refine k_callSg C s_X6_49 h_X6_addsStorm (ct_X6_addsStorm hsl hm b5 (by omega)) rfl rfl (Nat.le_of_ble_eq_true rfl) ⟨Nat.le_of_ble_eq_true rfl, Nat.le_of_ble_eq_true rfl⟩ ⟨Nat.le_of_ble_eq_true rfl, Nat.le_of_ble_eq_true rfl⟩ ⟨rfl, rfl⟩ dX6_init_164 ?_
  intro v I8 hv
  obtain ⟨rfl, hm, g9⟩ := hv
  replace hm : MRow I8 (y + 1) 0 md_q6 := hm
  replace hg := hg.tr g9
  refine k_aload_n C (f := 0) (i := 0) (p := 0) rfl rfl dX6_init_167 ?_
  refine k_getR C f_X6_7 sx_i (fun _ _ _ => rfl) r0_i dX6_init_168 ?_
  refine k_bipush C bc_30 dX6_init_171 ?_
  refine k_bipush C bc_20 dX6_init_173 ?_
  refine k_callSg C s_X6_52 h_X6_addsLoad (ct_X6_addsLoad hsl hm b6 (by omega)) rfl rfl (Nat.le_of_ble_eq_true rfl) ⟨Nat.le_of_ble_eq_true rfl, Nat.le_of_ble_eq_true rfl⟩ ⟨Nat.le_of_ble_eq_true rfl, Nat.le_of_ble_eq_true rfl⟩ ⟨rfl, rfl⟩ dX6_init_175 ?_
  intro v I8 hv
  obtain ⟨rfl, hm, g9⟩ := hv
  replace hm : MRow I8 (y + 1) 0 md_q7 := hm
  replace hg := hg.tr g9
  refine k_istore_n C (f := 1) (i := 1) (lv := [(1, _), (0, _)]) rfl (Nat.le_of_ble_eq_true rfl) rfl dX6_init_178 ?_
  refine k_aload_n C (f := 0) (i := 0) (p := 1) rfl rfl dX6_init_179 ?_
  refine k_getR C f_X6_7 sx_i (fun _ _ _ => rfl) r0_i dX6_init_180 ?_
  refine k_iload_n C (f := 1) (i := 1) (p := 0) rfl rfl dX6_init_183 ?_
  refine k_iconst C ic_2 dX6_init_184 ?_
  refine k_callSp C s_X6_56 h_X6_loadAt (ct_X6_loadAt) rfl rfl (Nat.le_of_ble_eq_true rfl) ⟨Nat.le_of_ble_eq_true rfl, Nat.le_of_ble_eq_true rfl⟩ ⟨Nat.le_of_ble_eq_true rfl, Nat.le_of_ble_eq_true rfl⟩ ⟨rfl, rfl⟩ dX6_init_185 ?_
  refine k_iconst C ic_1 dX6_init_188 ?_
  refine k_rst C (i := 142) hsl rfl (by rw [c6]) (by decide) hm hg dX6_init_189 (fun I9 hm hg => ?_)
  replace hm : MRow I9 (y + 1) 0 md_q8 := hm
  refine k_aload_n C (f := 0) (i := 0) (p := 1) rfl rfl dX6_init_190 ?_
  refine k_getR C f_X6_7 sx_i (fun _ _ _ => rfl) r0_i dX6_init_191 ?_
  refine k_bipush C bc_45 dX6_init_194 ?_
  refine k_bipush C bc_50 dX6_init_196 ?_
  refine k_callSg C s_X6_52 h_X6_addsLoad (ct_X6_addsLoad hsl hm b8 (by omega)) rfl rfl (Nat.le_of_ble_eq_true rfl) ⟨Nat.le_of_ble_eq_true rfl, Nat.le_of_ble_eq_true rfl⟩ ⟨Nat.le_of_ble_eq_true rfl, Nat.le_of_ble_eq_true rfl⟩ ⟨rfl, rfl⟩ dX6_init_198 ?_
  intro v I8 hv
  obtain ⟨rfl, hm, g9⟩ := hv
  replace hm : MRow I8 (y + 1) 0 md_q9 := hm
  replace hg := hg.tr g9
  refine k_istore_n C (f := 2) (i := 2) (lv := [(2, _), (1, _), (0, _)]) rfl (Nat.le_of_ble_eq_true rfl) rfl dX6_init_201 ?_
  refine k_aload_n C (f := 0) (i := 0) (p := 2) rfl rfl dX6_init_202 ?_
  refine k_getR C f_X6_7 sx_i (fun _ _ _ => rfl) r0_i dX6_init_203 ?_
  refine k_iload_n C (f := 2) (i := 2) (p := 0) rfl rfl dX6_init_206 ?_
  refine k_iconst C ic_2 dX6_init_207 ?_
  refine k_callSp C s_X6_56 h_X6_loadAt (ct_X6_loadAt) rfl rfl (Nat.le_of_ble_eq_true rfl) ⟨Nat.le_of_ble_eq_true rfl, Nat.le_of_ble_eq_true rfl⟩ ⟨Nat.le_of_ble_eq_true rfl, Nat.le_of_ble_eq_true rfl⟩ ⟨rfl, rfl⟩ dX6_init_208 ?_
  refine k_iconst C ic_1 dX6_init_211 ?_
  refine k_rst C (i := 146) hsl rfl (by rw [c8]) (by decide) hm hg dX6_init_212 (fun I9 hm hg => ?_)
  replace hm : MRow I9 (y + 1) 0 md_q10 := hm
  refine k_aload_n C (f := 0) (i := 0) (p := 2) rfl rfl dX6_init_213 ?_
  refine k_getR C f_X6_7 sx_i (fun _ _ _ => rfl) r0_i dX6_init_214 ?_
  refine k_bipush C bc_15 dX6_init_217 ?_
  refine k_bipush C bc_9 dX6_init_219 ?_
  refine k_callSg C s_X6_52 h_X6_addsLoad (ct_X6_addsLoad hsl hm b10 (by omega)) rfl rfl (Nat.le_of_ble_eq_true rfl) ⟨Nat.le_of_ble_eq_true rfl, Nat.le_of_ble_eq_true rfl⟩ ⟨Nat.le_of_ble_eq_true rfl, Nat.le_of_ble_eq_true rfl⟩ ⟨rfl, rfl⟩ dX6_init_221 ?_
  intro v I8 hv
  obtain ⟨rfl, hm, g9⟩ := hv
  replace hm : MRow I8 (y + 1) 0 md_q11 := hm
  replace hg := hg.tr g9
  refine k_pop C rfl dX6_init_224 ?_
  have hout1 : ∀ b : Nat, (b < y + 1 ∨ y + 10 ≤ b) → Λi.1 b = Λ.1 b ∧ Ji b = J b := fun b hb => ⟨(Oi b (by omega)).1.trans ((Oh b (by omega)).1.trans ((Og b (by omega)).1.trans ((Of b (by omega)).1.trans ((Oe b (by omega)).1.trans ((Od b (by omega)).1.trans ((Oc b (by omega)).1.trans ((Ob b (by omega)).1.trans ((Oa b (by omega)).1)))))))), (Oi b (by omega)).2.2.2.trans ((Oh b (by omega)).2.2.2.trans ((Og b (by omega)).2.2.2.trans ((Of b (by omega)).2.2.2.trans ((Oe b (by omega)).2.2.2.trans ((Od b (by omega)).2.2.2.trans ((Oc b (by omega)).2.2.2.trans ((Ob b (by omega)).2.2.2.trans ((Oa b (by omega)).2.2.2))))))))⟩
  have hout2 : ∀ b : Nat, (b < y ∨ y + 10 ≤ b) → Λi.2 b = Λ.2 b := fun b hb => ((Oi b (by omega)).2.1 (by omega)).trans (((Oh b (by omega)).2.1 (by omega)).trans (((Og b (by omega)).2.1 (by omega)).trans (((Of b (by omega)).2.1 (by omega)).trans (((Oe b (by omega)).2.1 (by omega)).trans (((Od b (by omega)).2.1 (by omega)).trans (((Oc b (by omega)).2.1 (by omega)).trans (((Ob b (by omega)).2.1 (by omega)).trans (((Oa b (by omega)).2.1 (by omega))))))))))
  have hout3 : ∀ b : Nat, (b < y ∨ y + 10 ≤ b) → I8 b = I b := fun b hb => (hg b (by omega)).trans ((Oi b (by omega)).2.2.1.trans ((Oh b (by omega)).2.2.1.trans ((Oz b (by omega)).trans ((Og b (by omega)).2.2.1.trans ((Of b (by omega)).2.2.1.trans ((Oe b (by omega)).2.2.1.trans ((Od b (by omega)).2.2.1.trans ((Oc b (by omega)).2.2.1.trans ((Ob b (by omega)).2.2.1.trans ((Oa b (by omega)).2.2.1))))))))))
  have hy8 : I8 y = Ii y := hg y (by omega)
  exact k_vret C (Nat.le_of_ble_eq_true rfl) (Nat.le_of_ble_eq_true rfl) (⟨rfl, hx, ⟨fun b hb => hout1 b (by unfold am_out at hb; omega), fun b hb hbo => hout2 b (by unfold am_out at hb; omega)⟩, hout3, ⟨⟨by rw [hy8]; exact i8_i, by decide, fun j hj => absurd hj (Nat.not_lt_zero j)⟩, by rw [hy8]; exact i9_i, fun k hk => (hm k hk).trans (fr_row hr0 k hk), ⟨by rw [hy8]; exact i6_i, by decide, fun s hs2 => absurd hs2 (Nat.not_lt_zero s)⟩, (fun j hj => ⟨by rw [hg _ (by omega), za6_i]; exact am_bf (fun z => by cases z), fun z => by cases z⟩), by rw [hy8]; exact i19_i, by decide, fun j hj => absurd hj (Nat.not_lt_zero j)⟩⟩) dX6_init_225
