def am_osd (x o m : Nat) (Λ : am_L) (I : am_I) (J : am_J) (Λ' : am_L) (I' : am_I) (J' : am_J) : Prop := ∀ b : Nat, (b < o ∨ o + 1 + m ≤ b) → Λ'.1 b = Λ.1 b ∧ (b ≠ x → Λ'.2 b = Λ.2 b) ∧ I' b = I b ∧ J' b = J b
theorem am_stp0 {x o m : Nat} {s : Nat × Nat} {Λ Λ2 : am_L} {I I2 : am_I} {J J2 : am_J} (e2 : am_ext o (o + 1) m (am_nS Λ o s) (am_nI I o) (am_nJ J o) Λ2 I2 J2) : am_osd x o m Λ I J Λ2 I2 J2 ∧ (∀ b : Nat, o ≤ b → b < o + 1 + m → I2 b = fun _ => 0) ∧ (∀ kf : Nat, x < o → Λ2.2 x kf = Λ.2 x kf) := by
  have hO : ∀ b : Nat, (b < o ∨ o + 1 + m ≤ b) → Λ2.1 b = Λ.1 b ∧ Λ2.2 b = Λ.2 b ∧ I2 b = I b ∧ J2 b = J b := fun b hb => by
    have g1 := e2.1 b (by unfold am_out; omega)
    have g2 := e2.2.1 b (by unfold am_out; omega) (by omega)
    exact ⟨g1.1.trans (nS_ne (by omega)), g2.trans (nR_ne (by omega)), g1.2.1.trans (nI_old (by omega)), g1.2.2.trans (nJ_old (by omega))⟩
  refine ⟨fun b hb => ⟨(hO b hb).1, fun _ => (hO b hb).2.1, (hO b hb).2.2⟩, fun b h1 h2 => ?_, fun kf hx => congrFun (hO x (Or.inl hx)).2.1 kf⟩
  rcases Nat.lt_or_ge b (o + 1) with q | q
  · have g : b = o := by omega
    rw [g, (e2.1 o (Or.inl (by omega))).2.1]
    exact nI_new
  · exact e2.2.2 b q (by omega)
theorem am_stp {x o m kf : Nat} {s : Nat × Nat} {Λ Λ2 Λ3 : am_L} {I I2 : am_I} {J J2 : am_J} (hx : x < o) (e2 : am_ext o (o + 1) m (am_nS Λ o s) (am_nI I o) (am_nJ J o) Λ2 I2 J2) (h3 : Λ3 = (Λ2.1, am_ur Λ2.2 x kf (some o))) :
    am_osd x o m Λ I J Λ3 I2 J2 ∧ (∀ b : Nat, o ≤ b → b < o + 1 + m → I2 b = fun _ => 0) ∧ Λ3.2 x kf = some o ∧ (∀ kf' : Nat, kf' ≠ kf → Λ3.2 x kf' = Λ.2 x kf') ∧ ∀ b : Nat, b ≠ x → Λ3.1 b = Λ2.1 b ∧ Λ3.2 b = Λ2.2 b := by
  obtain ⟨O, Z, X⟩ := am_stp0 (x := x) e2
  subst h3
  refine ⟨fun b hb => ⟨(O b hb).1, fun q => (am_ur_ne q).trans ((O b hb).2.1 q), (O b hb).2.2⟩, Z, by simp [am_ur], fun kf' hk => ?_, fun b hb => ⟨rfl, am_ur_ne hb⟩⟩
  have g : am_ur Λ2.2 x kf (some o) x kf' = Λ2.2 x kf' := by simp [am_ur, hk]
  exact g.trans (X kf' hx)
set_option maxRecDepth 100000 in
theorem fr_3 : (match sp_parse fr_tb 134 with | .ok r => decide (r 3 = 0) | .error _ => false) = true := by decide +kernel
/-- the shapes and references alone, behind a constructor -/
def am_exL (o z m : Nat) (Λ : am_L) (J : am_J) (Λ' : am_L) (J' : am_J) : Prop := (∀ b : Nat, am_out z m b → Λ'.1 b = Λ.1 b ∧ J' b = J b) ∧ ∀ b : Nat, am_out z m b → b ≠ o → Λ'.2 b = Λ.2 b
set_option maxHeartbeats 8000000 in
set_option maxRecDepth 100000 in
theorem ct_X5_init {G : am_G} {Λ : am_L} {I : am_I} {J : am_J} {x : Nat} (hs : Λ.1 x = (1, 5)) : am_CtN G yX5_init cX5_init 3 { frames := 8, cells := 172, slots := 3060, locals := 172 } [.ref x] Λ I J (x + 1) (fun v Λ' I' J' => v = none ∧ RouLay Λ' x ∧ am_exL x (x + 1) 172 Λ J Λ' J' ∧ (∀ b : Nat, (b < x ∨ x + 173 ≤ b) → I' b = I b) ∧ ∃ r0 : Nat → Int32, sp_parse fr_tb 134 = .ok r0 ∧ RouRel I' x (fun _ => 0) 0 (-1) r0 0 (fun _ _ => 0) (fun _ => false) (fun _ _ => 0) (0, fun _ => 0)) am_never := by
  refine am_ctN_of (own := RX5) rfl (by decide) (Nat.le_of_ble_eq_true rfl) (fun X C hz hin hO => ?_)
  change am_K G X { frames := 8, cells := 172, slots := 3060, locals := 172 } 3 Λ I J 0 0 0 [(0, .ref x)] []
  refine k_aload_n C (f := 0) (i := 0) (p := 0) rfl rfl dX5_init_0 ?_
  refine k_objInit C m_X5_3 ⟨Nat.le_of_ble_eq_true rfl, Nat.le_of_ble_eq_true rfl⟩ dX5_init_1 ?_
  refine k_aload_n C (f := 0) (i := 0) (p := 0) rfl rfl dX5_init_4 ?_
  refine k_newC C (h := x + 1) hz (Or.inl rfl) (by omega) (ci := 2) (q := (RX2, TX2, 8)) rfl am_cl_RX5_9 am_in_2 am_it_2 ⟨Nat.le_of_ble_eq_true rfl, Nat.le_of_ble_eq_true rfl⟩ dX5_init_5 ?_
  refine k_dup C rfl dX5_init_8 ?_
  refine k_callNz C (h := x + 1 + 1) hz (show am_low (am_nS Λ (x + 1) (1, 2)) (x + 1) 1 from Or.inr ⟨x + 1, by rw [nS_eq]; decide, by omega⟩) (show x + 1 + 1 = x + 1 + 1 from rfl) hO am_nest_X5_11 am_im_X2 am_it_2 rfl ⟨by decide, by decide, by decide +kernel⟩ h_X2_init (ct_X2_init (i := x + 1) nS_eq) rfl rfl (Nat.le_of_ble_eq_true rfl) ⟨Nat.le_of_ble_eq_true rfl, Nat.le_of_ble_eq_true rfl⟩ ⟨Nat.le_of_ble_eq_true rfl, Nat.le_of_ble_eq_true rfl⟩ dX5_init_9 ?_
  rintro Λ1 I1 J1 ⟨hL1, e1⟩
  refine k_putF C (b := x + 1) hin f_X5_12 (((e1.1 x (Or.inl (by omega))).1.trans (nS_ne (by omega))).trans hs) rfl rfl (Or.inr (Or.inr (Or.inr (Or.inr ⟨_, rfl⟩)))) dX5_init_12 ?_
  obtain ⟨Λa, hΛa⟩ : ∃ a : am_L, a = (Λ1.1, am_ur Λ1.2 x 0 (some (x + 1))) := ⟨_, rfl⟩
  rw [← hΛa]
  obtain ⟨Oa, Za, Ra, -, Na⟩ := am_stp (by omega) e1 hΛa
  clear hΛa
  have sa : Λa.1 x = (1, 5) := (Oa x (Or.inl (by omega))).1.trans hs
  have La : InLay Λa (x + 1) := InLay_agree hL1 (fun b h1 h2 => Na b (by omega))
  refine k_aload_n C (f := 0) (i := 0) (p := 0) rfl rfl dX5_init_15 ?_
  refine k_getR C f_X5_12 sa (fun _ _ _ => rfl) Ra dX5_init_16 ?_
  refine k_ldcS C 0 (by rfl) dX5_init_19 ?_
  have hx0 : InTxt I1 (x + 1) (fun _ => 0) 0 := ⟨by rw [Za (x + 1) (by omega) (by omega)]; rfl, by decide, fun j hj => absurd hj (Nat.not_lt_zero j)⟩
  refine k_callVg C s_X5_18 h_X2_takeText La.1 rfl (ct_X2_takeText (si := 0) La hx0 (by decide) (by decide)) rfl rfl (Nat.le_of_ble_eq_true rfl) ⟨Nat.le_of_ble_eq_true rfl, Nat.le_of_ble_eq_true rfl⟩ ⟨Nat.le_of_ble_eq_true rfl, Nat.le_of_ble_eq_true rfl⟩ ⟨rfl, rfl⟩ dX5_init_21 ?_
  intro v I2 hv
  obtain ⟨rfl, t2, f2⟩ := hv
  have t3 : InTxt I2 (x + 1) fr_tb 134 := by
    rw [fr_tbt] at t2
    exact t2
  have o2 : ∀ b : Nat, b ≠ x + 1 → b ≠ x + 2 → I2 b = I1 b := fun b h1 h2 => funext (fun K => f2 b K (by omega) (by omega))
  refine k_aload_n C (f := 0) (i := 0) (p := 0) rfl rfl dX5_init_24 ?_
  refine k_aload_n C (f := 0) (i := 0) (p := 0) rfl rfl dX5_init_25 ?_
  refine k_getR C f_X5_12 sa (fun _ _ _ => rfl) Ra dX5_init_26 ?_
  refine k_callVg C s_X5_22 h_X2_findError La.1 rfl (ct_X2_findError La t3) rfl rfl (Nat.le_of_ble_eq_true rfl) ⟨Nat.le_of_ble_eq_true rfl, Nat.le_of_ble_eq_true rfl⟩ ⟨Nat.le_of_ble_eq_true rfl, Nat.le_of_ble_eq_true rfl⟩ ⟨rfl, rfl⟩ dX5_init_29 ?_
  intro v I3 hv
  obtain ⟨rfl, p3, c3, -, o3⟩ := hv
  obtain ⟨r0, hr0⟩ := fr_ex
  have hc3 := c3 r0 hr0
  have hr3 : r0 3 = 0 := by
    have z := fr_3
    rw [hr0] at z
    exact of_decide_eq_true z
  rw [hr0]
  refine k_putI C f_X5_26 sa rfl rfl dX5_init_32 ?_
  obtain ⟨I4, hI4⟩ : ∃ z : am_I, z = am_up I3 x 1 (sp_err (Except.ok r0)) := ⟨_, rfl⟩
  rw [← hI4]
  have u4 : ∀ b : Nat, b ≠ x → I4 b = I3 b := fun b hb => by rw [hI4]; exact am_up_ne hb
  have v4 : I4 x 1 = -1 := by rw [hI4, am_up_eq]; rfl
  have w4 : ∀ b : Nat, (b < x ∨ x + 24 ≤ b) → I4 b = I1 b := fun b hb => (u4 b (by omega)).trans ((o3 b (by omega)).trans (o2 b (by omega) (by omega)))
  clear hI4
  have Da := L2_c La
  have low23 : am_low Λa (x + 1) 23 := Or.inr ⟨x + 23, by rw [show x + 23 = x + 1 + 13 + 9 by omega, A0_16 Da]; decide, by omega⟩
  refine k_newC C (h := x + 24) hz low23 (show x + 24 = x + 1 + 23 by omega) (ci := 3) (q := (RX3, TX3, 13)) rfl am_cl_RX5_30 am_in_3 am_it_3 ⟨Nat.le_of_ble_eq_true rfl, Nat.le_of_ble_eq_true rfl⟩ dX5_init_35 ?_
  refine k_dup C rfl dX5_init_38 ?_
  refine k_callNz C (h := x + 24 + 1) hz (show am_low (am_nS Λa (x + 24) (1, 3)) (x + 1) 24 from Or.inr ⟨x + 24, by rw [nS_eq]; decide, by omega⟩) (show x + 24 + 1 = x + 1 + 24 by omega) hO am_nest_X5_32 am_im_X3 am_it_3 rfl ⟨by decide, by decide, by decide +kernel⟩ h_X3_init (ct_X3_init (p := x + 24) nS_eq) rfl rfl (Nat.le_of_ble_eq_true rfl) ⟨Nat.le_of_ble_eq_true rfl, Nat.le_of_ble_eq_true rfl⟩ ⟨Nat.le_of_ble_eq_true rfl, Nat.le_of_ble_eq_true rfl⟩ dX5_init_39 ?_
  rintro Λb I5 J5 ⟨Pb, e5⟩
  have Db : CarRel I4 (x + 1 + 2) (x + 1 + 13) (x + 1 + 3) r0 := CR_agree hc3 (u4 _ (by omega)) (fun b h1 h2 => u4 b (by omega)) (fun b h1 h2 => u4 b (by omega))
  have tx4 : I4 (x + 1) 1 = nI 0 := (congrFun (u4 _ (by omega)) 1).trans p3
  have Q5 := am_stp0 (x := x) (show am_ext (x + 24) (x + 24 + 1) 9 (am_nS Λa (x + 24) (1, 3)) (am_nI I4 (x + 24)) (am_nJ J1 (x + 24)) Λb I5 J5 from e5)
  obtain ⟨Ob, Zb, X0⟩ := Q5
  have sx_b : Λb.1 x = (1, 5) := (Ob _ (Or.inl (by omega))).1.trans sa
  have r0f_b : Λb.2 x 0 = some (x + 1) := (X0 0 (by omega)).trans Ra
  have pin_b : InLay Λb (x + 1) := InLay_agree La (fun b h1 h2 => ⟨(Ob b (Or.inl (by omega))).1, (Ob b (Or.inl (by omega))).2.1 (by omega)⟩)
  have dc_b : CarRel I5 (x + 1 + 2) (x + 1 + 13) (x + 1 + 3) r0 := CR_agree Db ((Ob _ (Or.inl (by omega))).2.2.1) (fun b h1 h2 => (Ob b (Or.inl (by omega))).2.2.1) (fun b h1 h2 => (Ob b (Or.inl (by omega))).2.2.1)
  have ie_b : I5 x 1 = -1 := (congrFun (Ob _ (Or.inl (by omega))).2.2.1 _).trans v4
  have it_b : I5 (x + 1) 1 = nI 0 := (congrFun (Ob _ (Or.inl (by omega))).2.2.1 _).trans tx4
  refine k_astore_n C (f := 1) (i := 1) (lv := [(1, _), (0, _)]) rfl (Nat.le_of_ble_eq_true rfl) rfl dX5_init_42 ?_
  refine k_aload_n C (f := 1) (i := 1) (p := 0) rfl rfl dX5_init_43 ?_
  refine k_aload_n C (f := 0) (i := 0) (p := 1) rfl rfl dX5_init_44 ?_
  refine k_getR C f_X5_12 sx_b (fun _ _ _ => rfl) r0f_b dX5_init_45 ?_
  refine k_getR C f_X5_33 (L2_s pin_b) (fun _ _ _ => rfl) (L2_2 pin_b) dX5_init_48 ?_
  refine k_getR C f_X5_37 (L0_s (L2_c pin_b)) (fun _ _ _ => rfl) (L0_0 (L2_c pin_b)) dX5_init_51 ?_
  refine k_callVg C s_X5_43 h_X3_copyFrom (L3_s Pb) rfl (ct_X3_copyFrom (p := x + 24) (po := x + 1 + 3) (r := r0) Pb (L0_p (L2_c pin_b)) (CR_p dc_b) (by omega)) rfl rfl (Nat.le_of_ble_eq_true rfl) ⟨Nat.le_of_ble_eq_true rfl, Nat.le_of_ble_eq_true rfl⟩ ⟨Nat.le_of_ble_eq_true rfl, Nat.le_of_ble_eq_true rfl⟩ ⟨rfl, rfl⟩ dX5_init_54 ?_
  intro v I6 hv
  obtain ⟨rfl, pr6, o6⟩ := hv
  have Q6 : am_osd x (x + 24) 9 Λb I5 J5 Λb I6 J5 := fun b hb => ⟨rfl, fun _ => rfl, o6 b (by omega), rfl⟩
  have dc_c : CarRel I6 (x + 1 + 2) (x + 1 + 13) (x + 1 + 3) r0 := CR_agree dc_b ((Q6 _ (Or.inl (by omega))).2.2.1) (fun b h1 h2 => (Q6 b (Or.inl (by omega))).2.2.1) (fun b h1 h2 => (Q6 b (Or.inl (by omega))).2.2.1)
  have ie_c : I6 x 1 = -1 := (congrFun (Q6 _ (Or.inl (by omega))).2.2.1 _).trans ie_b
  have it_c : I6 (x + 1) 1 = nI 0 := (congrFun (Q6 _ (Or.inl (by omega))).2.2.1 _).trans it_b
  refine k_aload_n C (f := 0) (i := 0) (p := 1) rfl rfl dX5_init_57 ?_
  refine k_newC C (h := x + 34) hz (show am_low Λb (x + 1) 33 from Or.inr ⟨x + 33, by rw [show x + 33 = x + 24 + 9 by omega, A3_12 Pb]; decide, by omega⟩) (show x + 34 = x + 1 + 33 by omega) (ci := 0) (q := (RX0, TX0, 17)) rfl am_cl_RX5_38 am_in_0 am_it_0 ⟨Nat.le_of_ble_eq_true rfl, Nat.le_of_ble_eq_true rfl⟩ dX5_init_58 ?_
  refine k_dup C rfl dX5_init_61 ?_
  refine k_aload_n C (f := 1) (i := 1) (p := 0) rfl rfl dX5_init_62 ?_
  have pn34 : PlanLay (am_nS Λb (x + 34) (1, 0)) (x + 24) := PlanLay_agree Pb (fun b h1 h2 => nS_ne (by omega)) (nR_ne (by omega))
  refine k_callIz C (h := x + 34 + 1) hz (show am_low (am_nS Λb (x + 34) (1, 0)) (x + 1) 34 from Or.inr ⟨x + 34, by rw [nS_eq]; decide, by omega⟩) (show x + 34 + 1 = x + 1 + 34 by omega) hO s_X5_47 h_X0_init (ct_X0_init (c := x + 34) (p := x + 24) (z := x + 34 + 1) nS_eq pn34 (by omega) (by omega) (by omega)) rfl rfl (Nat.le_of_ble_eq_true rfl) ⟨Nat.le_of_ble_eq_true rfl, Nat.le_of_ble_eq_true rfl⟩ ⟨Nat.le_of_ble_eq_true rfl, Nat.le_of_ble_eq_true rfl⟩ dX5_init_63 ?_
  rintro Λd1 Id Jd ⟨Wd, ed⟩
  obtain ⟨Λd, hΛd⟩ : ∃ a : am_L, a = (Λd1.1, am_ur Λd1.2 x 2 (some (x + 34))) := ⟨_, rfl⟩
  obtain ⟨Od, Zd, Rd, Xd, Nd⟩ := am_stp (by omega) ed hΛd
  refine k_putF C (b := x + 34) hin f_X5_49 ((ed.1 x (Or.inl (by omega))).1.trans ((nS_ne (by omega)).trans sx_b)) rfl rfl (Or.inr (Or.inr (Or.inr (Or.inr ⟨_, rfl⟩)))) dX5_init_66 ?_
  rw [← hΛd]
  clear hΛd
  have sx_d : Λd.1 x = (1, 5) := (Od _ (Or.inl (by omega))).1.trans sx_b
  have r0f_d : Λd.2 x 0 = some (x + 1) := (Xd 0 (by decide)).trans r0f_b
  have pin_d : InLay Λd (x + 1) := InLay_agree pin_b (fun b h1 h2 => ⟨(Od b (Or.inl (by omega))).1, (Od b (Or.inl (by omega))).2.1 (by omega)⟩)
  have dc_d : CarRel Id (x + 1 + 2) (x + 1 + 13) (x + 1 + 3) r0 := CR_agree dc_c ((Od _ (Or.inl (by omega))).2.2.1) (fun b h1 h2 => (Od b (Or.inl (by omega))).2.2.1) (fun b h1 h2 => (Od b (Or.inl (by omega))).2.2.1)
  have ie_d : Id x 1 = -1 := (congrFun (Od _ (Or.inl (by omega))).2.2.1 _).trans ie_c
  have it_d : Id (x + 1) 1 = nI 0 := (congrFun (Od _ (Or.inl (by omega))).2.2.1 _).trans it_c
  have pl_d : PlanLay Λd (x + 24) := PlanLay_agree Pb (fun b h1 h2 => (Od b (Or.inl (by omega))).1) ((Od (x + 24) (Or.inl (by omega))).2.1 (by omega))
  have pr_d : PlanRel Id (x + 24) r0 := PlanRel_agree pr6 (fun b h1 h2 => (Od b (Or.inl (by omega))).2.2.1)
  have Cd : CarLay Λd (x + 34) (x + 34 + 1) (x + 24) := CarLay_agree Wd (fun b hb => Nd b (by omega))
  refine k_aload_n C (f := 0) (i := 0) (p := 1) rfl rfl dX5_init_69 ?_
  refine k_getR C f_X5_49 sx_d (fun _ _ _ => rfl) Rd dX5_init_70 ?_
  refine k_aload_n C (f := 0) (i := 0) (p := 1) rfl rfl dX5_init_73 ?_
  refine k_getR C f_X5_12 sx_d (fun _ _ _ => rfl) r0f_d dX5_init_74 ?_
  refine k_getR C f_X5_33 (L2_s pin_d) (fun _ _ _ => rfl) (L2_2 pin_d) dX5_init_77 ?_
  refine k_callVg C s_X5_52 h_X0_copyFrom (L0_s Cd) rfl (ct_X0_copyFrom (c := x + 34) (q := x + 34 + 1) (p := x + 24) (co := x + 1 + 2) (qo := x + 1 + 13) (po := x + 1 + 3) (r := r0) Cd (L2_c pin_d) dc_d pr_d ⟨by omega, by omega, by omega, by omega⟩ (Or.inl ((CR_3 dc_d).trans hr3))) rfl rfl (Nat.le_of_ble_eq_true rfl) ⟨Nat.le_of_ble_eq_true rfl, Nat.le_of_ble_eq_true rfl⟩ ⟨Nat.le_of_ble_eq_true rfl, Nat.le_of_ble_eq_true rfl⟩ ⟨rfl, rfl⟩ dX5_init_80 ?_
  intro v Ie hv
  obtain ⟨rfl, cr8, o8⟩ := hv
  have Q8 : am_osd x (x + 34) 10 Λd Id Jd Λd Ie Jd := fun b hb => ⟨rfl, fun _ => rfl, o8 b (by omega) (by omega), rfl⟩
  have ie_e : Ie x 1 = -1 := (congrFun (Q8 _ (Or.inl (by omega))).2.2.1 _).trans ie_d
  have it_e : Ie (x + 1) 1 = nI 0 := (congrFun (Q8 _ (Or.inl (by omega))).2.2.1 _).trans it_d
  have pr_e : PlanRel Ie (x + 24) r0 := PlanRel_agree pr_d (fun b h1 h2 => (Q8 b (Or.inl (by omega))).2.2.1)
  refine k_aload_n C (f := 0) (i := 0) (p := 1) rfl rfl dX5_init_83 ?_
  refine k_newC C (h := x + 45) hz (show am_low Λd (x + 1) 44 from Or.inr ⟨x + 44, by rw [show x + 44 = x + 34 + 1 + 9 by omega, A0_16 Cd]; decide, by omega⟩) (show x + 45 = x + 1 + 44 by omega) (ci := 0) (q := (RX0, TX0, 17)) rfl am_cl_RX5_38 am_in_0 am_it_0 ⟨Nat.le_of_ble_eq_true rfl, Nat.le_of_ble_eq_true rfl⟩ dX5_init_84 ?_
  refine k_dup C rfl dX5_init_87 ?_
  refine k_aload_n C (f := 1) (i := 1) (p := 0) rfl rfl dX5_init_88 ?_
  have pn45 : PlanLay (am_nS Λd (x + 45) (1, 0)) (x + 24) := PlanLay_agree pl_d (fun b h1 h2 => nS_ne (by omega)) (nR_ne (by omega))
  refine k_callIz C (h := x + 45 + 1) hz (show am_low (am_nS Λd (x + 45) (1, 0)) (x + 1) 45 from Or.inr ⟨x + 45, by rw [nS_eq]; decide, by omega⟩) (show x + 45 + 1 = x + 1 + 45 by omega) hO s_X5_47 h_X0_init (ct_X0_init (c := x + 45) (p := x + 24) (z := x + 45 + 1) nS_eq pn45 (by omega) (by omega) (by omega)) rfl rfl (Nat.le_of_ble_eq_true rfl) ⟨Nat.le_of_ble_eq_true rfl, Nat.le_of_ble_eq_true rfl⟩ ⟨Nat.le_of_ble_eq_true rfl, Nat.le_of_ble_eq_true rfl⟩ dX5_init_89 ?_
  rintro Λf1 If Jf ⟨Wf, ef⟩
  obtain ⟨Λf, hΛf⟩ : ∃ a : am_L, a = (Λf1.1, am_ur Λf1.2 x 3 (some (x + 45))) := ⟨_, rfl⟩
  obtain ⟨Of, Zf, Rf, Xf, Nf⟩ := am_stp (by omega) ef hΛf
  refine k_putF C (b := x + 45) hin f_X5_55 ((ef.1 x (Or.inl (by omega))).1.trans ((nS_ne (by omega)).trans sx_d)) rfl rfl (Or.inr (Or.inr (Or.inr (Or.inr ⟨_, rfl⟩)))) dX5_init_92 ?_
  rw [← hΛf]
  clear hΛf
  have sx_f : Λf.1 x = (1, 5) := (Of _ (Or.inl (by omega))).1.trans sx_d
  have r0f_f : Λf.2 x 0 = some (x + 1) := (Xf 0 (by decide)).trans r0f_d
  have pin_f : InLay Λf (x + 1) := InLay_agree pin_d (fun b h1 h2 => ⟨(Of b (Or.inl (by omega))).1, (Of b (Or.inl (by omega))).2.1 (by omega)⟩)
  have ie_f : If x 1 = -1 := (congrFun (Of _ (Or.inl (by omega))).2.2.1 _).trans ie_e
  have it_f : If (x + 1) 1 = nI 0 := (congrFun (Of _ (Or.inl (by omega))).2.2.1 _).trans it_e
  have pl_f : PlanLay Λf (x + 24) := PlanLay_agree pl_d (fun b h1 h2 => (Of b (Or.inl (by omega))).1) ((Of (x + 24) (Or.inl (by omega))).2.1 (by omega))
  have pr_f : PlanRel If (x + 24) r0 := PlanRel_agree pr_e (fun b h1 h2 => (Of b (Or.inl (by omega))).2.2.1)
  have r2f_f : Λf.2 x 2 = some (x + 34) := (Xf 2 (by decide)).trans Rd
  have cn_f : CarLay Λf (x + 34) (x + 34 + 1) (x + 24) := CarLay_agree Cd (fun b hb => ⟨(Of b (Or.inl (by omega))).1, (Of b (Or.inl (by omega))).2.1 (by omega)⟩)
  have cr_f : CarRel If (x + 34) (x + 34 + 1) (x + 24) r0 := CR_agree cr8 ((Of _ (Or.inl (by omega))).2.2.1) (fun b h1 h2 => (Of b (Or.inl (by omega))).2.2.1) (fun b h1 h2 => (Of b (Or.inl (by omega))).2.2.1)
  have Cf : CarLay Λf (x + 45) (x + 45 + 1) (x + 24) := CarLay_agree Wf (fun b hb => Nf b (by omega))
  refine k_aload_n C (f := 0) (i := 0) (p := 1) rfl rfl dX5_init_95 ?_
  refine k_newC C (h := x + 56) hz (show am_low Λf (x + 1) 55 from Or.inr ⟨x + 55, by rw [show x + 55 = x + 45 + 1 + 9 by omega, A0_16 Cf]; decide, by omega⟩) (show x + 56 = x + 1 + 55 by omega) (ci := 1) (q := (RX1, TX1, 3)) rfl am_cl_RX5_58 am_in_1 am_it_1 ⟨Nat.le_of_ble_eq_true rfl, Nat.le_of_ble_eq_true rfl⟩ dX5_init_96 ?_
  refine k_dup C rfl dX5_init_99 ?_
  refine k_aload_n C (f := 1) (i := 1) (p := 0) rfl rfl dX5_init_100 ?_
  have pn56 : PlanLay (am_nS Λf (x + 56) (1, 1)) (x + 24) := PlanLay_agree pl_f (fun b h1 h2 => nS_ne (by omega)) (nR_ne (by omega))
  refine k_callIz C (h := x + 56 + 1) hz (show am_low (am_nS Λf (x + 56) (1, 1)) (x + 1) 56 from Or.inr ⟨x + 56, by rw [nS_eq]; decide, by omega⟩) (show x + 56 + 1 = x + 1 + 56 by omega) hO s_X5_60 h_X1_init (ct_X1_init (h := x + 56) (p := x + 24) nS_eq pn56 (by omega)) rfl rfl (Nat.le_of_ble_eq_true rfl) ⟨Nat.le_of_ble_eq_true rfl, Nat.le_of_ble_eq_true rfl⟩ ⟨Nat.le_of_ble_eq_true rfl, Nat.le_of_ble_eq_true rfl⟩ dX5_init_101 ?_
  rintro Λg1 Ig Jg ⟨Wg, eg⟩
  obtain ⟨Λg, hΛg⟩ : ∃ a : am_L, a = (Λg1.1, am_ur Λg1.2 x 4 (some (x + 56))) := ⟨_, rfl⟩
  obtain ⟨Og, Zg, Rg, Xg, Ng⟩ := am_stp (by omega) eg hΛg
  refine k_putF C (b := x + 56) hin f_X5_61 ((eg.1 x (Or.inl (by omega))).1.trans ((nS_ne (by omega)).trans sx_f)) rfl rfl (Or.inr (Or.inr (Or.inr (Or.inr ⟨_, rfl⟩)))) dX5_init_104 ?_
  rw [← hΛg]
  clear hΛg
  have sx_g : Λg.1 x = (1, 5) := (Og _ (Or.inl (by omega))).1.trans sx_f
  have r0f_g : Λg.2 x 0 = some (x + 1) := (Xg 0 (by decide)).trans r0f_f
  have pin_g : InLay Λg (x + 1) := InLay_agree pin_f (fun b h1 h2 => ⟨(Og b (Or.inl (by omega))).1, (Og b (Or.inl (by omega))).2.1 (by omega)⟩)
  have ie_g : Ig x 1 = -1 := (congrFun (Og _ (Or.inl (by omega))).2.2.1 _).trans ie_f
  have it_g : Ig (x + 1) 1 = nI 0 := (congrFun (Og _ (Or.inl (by omega))).2.2.1 _).trans it_f
  have pl_g : PlanLay Λg (x + 24) := PlanLay_agree pl_f (fun b h1 h2 => (Og b (Or.inl (by omega))).1) ((Og (x + 24) (Or.inl (by omega))).2.1 (by omega))
  have pr_g : PlanRel Ig (x + 24) r0 := PlanRel_agree pr_f (fun b h1 h2 => (Og b (Or.inl (by omega))).2.2.1)
  have r2f_g : Λg.2 x 2 = some (x + 34) := (Xg 2 (by decide)).trans r2f_f
  have cn_g : CarLay Λg (x + 34) (x + 34 + 1) (x + 24) := CarLay_agree cn_f (fun b hb => ⟨(Og b (Or.inl (by omega))).1, (Og b (Or.inl (by omega))).2.1 (by omega)⟩)
  have cr_g : CarRel Ig (x + 34) (x + 34 + 1) (x + 24) r0 := CR_agree cr_f ((Og _ (Or.inl (by omega))).2.2.1) (fun b h1 h2 => (Og b (Or.inl (by omega))).2.2.1) (fun b h1 h2 => (Og b (Or.inl (by omega))).2.2.1)
  have r3f_g : Λg.2 x 3 = some (x + 45) := (Xg 3 (by decide)).trans Rf
  have cf_g : CarLay Λg (x + 45) (x + 45 + 1) (x + 24) := CarLay_agree Cf (fun b hb => ⟨(Og b (Or.inl (by omega))).1, (Og b (Or.inl (by omega))).2.1 (by omega)⟩)
  have Hg : HistLay Λg (x + 56) (x + 24) := HistLay_agree Wg (fun b hb => Ng b (by omega))
  have zg : Ig (x + 56) = fun _ => 0 := Zg _ (by omega) (by omega)
  refine k_aload_n C (f := 0) (i := 0) (p := 1) rfl rfl dX5_init_107 ?_
  refine k_iconst C ic_2 dX5_init_108 ?_
  refine k_newQ C (h := x + 146) (N := 2) hz (show am_low Λg (x + 1) 145 from Or.inr ⟨x + 145, by rw [show x + 145 = x + 56 + 3 + 11 * 7 + 9 by omega, A0_16 (Hg.2.2.2 7 (by decide)).2]; decide, by omega⟩) (show x + 146 = x + 1 + 145 by omega) am_cl_RX5_38 hO rfl (by decide) ⟨Nat.le_of_ble_eq_true rfl, Nat.le_of_ble_eq_true rfl⟩ dX5_init_109 ?_
  obtain ⟨Λh1, Ih, Jh, g1, g2, g3⟩ : ∃ (a : am_L) (b : am_I) (c : am_J), a = am_nS Λg (x + 146) (6, 2) ∧ b = am_nI Ig (x + 146) ∧ c = am_nJ Jg (x + 146) := ⟨_, _, _, rfl, rfl, rfl⟩
  have eh : am_ext (x + 146) (x + 146 + 1) 0 (am_nS Λg (x + 146) (6, 2)) (am_nI Ig (x + 146)) (am_nJ Jg (x + 146)) Λh1 Ih Jh := by rw [g1, g2, g3]; exact am_ext.rf
  have qh : Λh1.1 (x + 146) = (6, 2) := by rw [g1]; exact nS_eq
  rw [← g1, ← g2, ← g3]
  clear g1 g2 g3
  obtain ⟨Λh, hΛh⟩ : ∃ a : am_L, a = (Λh1.1, am_ur Λh1.2 x 5 (some (x + 146))) := ⟨_, rfl⟩
  obtain ⟨Oh, Zh, Rh, Xh, Nh⟩ := am_stp (by omega) eh hΛh
  refine k_putF C (b := x + 146) hin f_X5_65 ((eh.1 x (Or.inl (by omega))).1.trans ((nS_ne (by omega)).trans sx_g)) rfl rfl (Or.inr (Or.inr (Or.inr (Or.inl rfl)))) dX5_init_112 ?_
  rw [← hΛh]
  clear hΛh
  have sh : Λh.1 (x + 146) = (6, 2) := (Nh _ (by omega)).1.trans qh
  have sx_h : Λh.1 x = (1, 5) := (Oh _ (Or.inl (by omega))).1.trans sx_g
  have r0f_h : Λh.2 x 0 = some (x + 1) := (Xh 0 (by decide)).trans r0f_g
  have pin_h : InLay Λh (x + 1) := InLay_agree pin_g (fun b h1 h2 => ⟨(Oh b (Or.inl (by omega))).1, (Oh b (Or.inl (by omega))).2.1 (by omega)⟩)
  have ie_h : Ih x 1 = -1 := (congrFun (Oh _ (Or.inl (by omega))).2.2.1 _).trans ie_g
  have it_h : Ih (x + 1) 1 = nI 0 := (congrFun (Oh _ (Or.inl (by omega))).2.2.1 _).trans it_g
  have pl_h : PlanLay Λh (x + 24) := PlanLay_agree pl_g (fun b h1 h2 => (Oh b (Or.inl (by omega))).1) ((Oh (x + 24) (Or.inl (by omega))).2.1 (by omega))
  have pr_h : PlanRel Ih (x + 24) r0 := PlanRel_agree pr_g (fun b h1 h2 => (Oh b (Or.inl (by omega))).2.2.1)
  have r2f_h : Λh.2 x 2 = some (x + 34) := (Xh 2 (by decide)).trans r2f_g
  have cn_h : CarLay Λh (x + 34) (x + 34 + 1) (x + 24) := CarLay_agree cn_g (fun b hb => ⟨(Oh b (Or.inl (by omega))).1, (Oh b (Or.inl (by omega))).2.1 (by omega)⟩)
  have cr_h : CarRel Ih (x + 34) (x + 34 + 1) (x + 24) r0 := CR_agree cr_g ((Oh _ (Or.inl (by omega))).2.2.1) (fun b h1 h2 => (Oh b (Or.inl (by omega))).2.2.1) (fun b h1 h2 => (Oh b (Or.inl (by omega))).2.2.1)
  have r3f_h : Λh.2 x 3 = some (x + 45) := (Xh 3 (by decide)).trans r3f_g
  have cf_h : CarLay Λh (x + 45) (x + 45 + 1) (x + 24) := CarLay_agree cf_g (fun b hb => ⟨(Oh b (Or.inl (by omega))).1, (Oh b (Or.inl (by omega))).2.1 (by omega)⟩)
  have r4f_h : Λh.2 x 4 = some (x + 56) := (Xh 4 (by decide)).trans Rg
  have hl_h : HistLay Λh (x + 56) (x + 24) := HistLay_agree Hg (fun b hb => ⟨(Oh b (Or.inl (by omega))).1, (Oh b (Or.inl (by omega))).2.1 (by omega)⟩)
  have zh_h : Ih (x + 56) = fun _ => 0 := (Oh _ (Or.inl (by omega))).2.2.1.trans zg
  refine k_iconst C ic_0 dX5_init_115 ?_
  refine k_istore_n C (f := 2) (i := 2) (lv := [(2, _), (1, _), (0, _)]) rfl (Nat.le_of_ble_eq_true rfl) rfl dX5_init_116 ?_
  refine k_iload_n C (f := 2) (i := 2) (p := 0) rfl rfl dX5_init_117 ?_
  refine k_iconst C ic_2 dX5_init_118 ?_
  refine k_icmpN_ge C (tgt := 142) (by omega) (by omega) (by decide) dX5_init_119 (fun hc => absurd hc (by decide)) (fun _ => ?_)
  refine k_aload_n C (f := 0) (i := 0) (p := 2) rfl rfl dX5_init_122 ?_
  refine k_getR C f_X5_65 sx_h (fun _ _ _ => rfl) Rh dX5_init_123 ?_
  refine k_iload_n C (f := 2) (i := 2) (p := 0) rfl rfl dX5_init_126 ?_
  refine k_newC C (h := x + 147) hz (show am_low Λh (x + 1) 146 from Or.inr ⟨x + 146, by rw [sh]; decide, by omega⟩) (show x + 147 = x + 1 + 146 by omega) (ci := 0) (q := (RX0, TX0, 17)) rfl am_cl_RX5_38 am_in_0 am_it_0 ⟨Nat.le_of_ble_eq_true rfl, Nat.le_of_ble_eq_true rfl⟩ dX5_init_127 ?_
  refine k_dup C rfl dX5_init_130 ?_
  refine k_aload_n C (f := 1) (i := 1) (p := 1) rfl rfl dX5_init_131 ?_
  have pn147 : PlanLay (am_nS Λh (x + 147) (1, 0)) (x + 24) := PlanLay_agree pl_h (fun b h1 h2 => nS_ne (by omega)) (nR_ne (by omega))
  refine k_callIz C (h := x + 147 + 1) hz (show am_low (am_nS Λh (x + 147) (1, 0)) (x + 1) 147 from Or.inr ⟨x + 147, by rw [nS_eq]; decide, by omega⟩) (show x + 147 + 1 = x + 1 + 147 by omega) hO s_X5_47 h_X0_init (ct_X0_init (c := x + 147) (p := x + 24) (z := x + 147 + 1) nS_eq pn147 (by omega) (by omega) (by omega)) rfl rfl (Nat.le_of_ble_eq_true rfl) ⟨Nat.le_of_ble_eq_true rfl, Nat.le_of_ble_eq_true rfl⟩ ⟨Nat.le_of_ble_eq_true rfl, Nat.le_of_ble_eq_true rfl⟩ dX5_init_132 ?_
  rintro Λm1 Im Jm ⟨Wm, em⟩
  obtain ⟨Om1, Zm, Xm1⟩ := am_stp0 (x := x) em
  refine k_aast C (a := x + 146) (b := x + 147) ((Om1 _ (Or.inl (by omega))).1.trans sh) Wm.1 rfl (by decide) (by decide) dX5_init_135 ?_
  obtain ⟨Λm, hΛm⟩ : ∃ a : am_L, a = (Λm1.1, am_ur Λm1.2 (x + 146) 0 (some (x + 147))) := ⟨_, rfl⟩
  rw [← hΛm]
  have Om : ∀ b : Nat, (b < x + 147 ∨ x + 147 + 1 + 10 ≤ b) → Λm.1 b = Λh.1 b ∧ (b ≠ x + 146 → Λm.2 b = Λh.2 b) ∧ Im b = Ih b ∧ Jm b = Jh b := fun b hb => by
    have g := Om1 b hb
    refine ⟨by rw [hΛm]; exact g.1, fun q => ?_, g.2.2⟩
    rw [hΛm]
    refine (am_ur_ne q).trans ?_
    by_cases w : b = x
    · rw [w]; funext kf; exact Xm1 kf (by omega)
    · exact g.2.1 w
  have Am : Λm.2 (x + 146) 0 = some (x + 147) := by rw [hΛm]; simp [am_ur]
  have Cm : CarLay Λm (x + 147) (x + 147 + 1) (x + 24) := CarLay_agree Wm (fun b hb => by rw [hΛm]; exact ⟨rfl, am_ur_ne (by omega)⟩)
  have Xm : ∀ kf : Nat, kf ≠ 99 → Λm.2 x kf = Λh.2 x kf := fun kf _ => congrFun ((Om x (Or.inl (by omega))).2.1 (by omega)) kf
  clear hΛm
  have sx_m : Λm.1 x = (1, 5) := (Om _ (Or.inl (by omega))).1.trans sx_h
  have r0f_m : Λm.2 x 0 = some (x + 1) := (Xm 0 (by decide)).trans r0f_h
  have pin_m : InLay Λm (x + 1) := InLay_agree pin_h (fun b h1 h2 => ⟨(Om b (Or.inl (by omega))).1, (Om b (Or.inl (by omega))).2.1 (by omega)⟩)
  have ie_m : Im x 1 = -1 := (congrFun (Om _ (Or.inl (by omega))).2.2.1 _).trans ie_h
  have it_m : Im (x + 1) 1 = nI 0 := (congrFun (Om _ (Or.inl (by omega))).2.2.1 _).trans it_h
  have pl_m : PlanLay Λm (x + 24) := PlanLay_agree pl_h (fun b h1 h2 => (Om b (Or.inl (by omega))).1) ((Om (x + 24) (Or.inl (by omega))).2.1 (by omega))
  have pr_m : PlanRel Im (x + 24) r0 := PlanRel_agree pr_h (fun b h1 h2 => (Om b (Or.inl (by omega))).2.2.1)
  have r2f_m : Λm.2 x 2 = some (x + 34) := (Xm 2 (by decide)).trans r2f_h
  have cn_m : CarLay Λm (x + 34) (x + 34 + 1) (x + 24) := CarLay_agree cn_h (fun b hb => ⟨(Om b (Or.inl (by omega))).1, (Om b (Or.inl (by omega))).2.1 (by omega)⟩)
  have cr_m : CarRel Im (x + 34) (x + 34 + 1) (x + 24) r0 := CR_agree cr_h ((Om _ (Or.inl (by omega))).2.2.1) (fun b h1 h2 => (Om b (Or.inl (by omega))).2.2.1) (fun b h1 h2 => (Om b (Or.inl (by omega))).2.2.1)
  have r3f_m : Λm.2 x 3 = some (x + 45) := (Xm 3 (by decide)).trans r3f_h
  have cf_m : CarLay Λm (x + 45) (x + 45 + 1) (x + 24) := CarLay_agree cf_h (fun b hb => ⟨(Om b (Or.inl (by omega))).1, (Om b (Or.inl (by omega))).2.1 (by omega)⟩)
  have r4f_m : Λm.2 x 4 = some (x + 56) := (Xm 4 (by decide)).trans r4f_h
  have hl_m : HistLay Λm (x + 56) (x + 24) := HistLay_agree hl_h (fun b hb => ⟨(Om b (Or.inl (by omega))).1, (Om b (Or.inl (by omega))).2.1 (by omega)⟩)
  have zh_m : Im (x + 56) = fun _ => 0 := (Om _ (Or.inl (by omega))).2.2.1.trans zh_h
  have r5f_m : Λm.2 x 5 = some (x + 146) := (Xm 5 (by decide)).trans Rh
  have sh146_m : Λm.1 (x + 146) = (6, 2) := (Om _ (Or.inl (by omega))).1.trans sh
  refine k_iinc C (i := 2) (p := 0) (lv := [(2, _), (1, _), (0, _)]) (Nat.le_of_ble_eq_true rfl) rfl (am_inc1 _) rfl dX5_init_136 ?_
  refine k_goto C (tgt := 117) (by decide) dX5_init_139 ?_
  refine k_iload_n C (f := 2) (i := 2) (p := 0) rfl rfl dX5_init_117 ?_
  refine k_iconst C ic_2 dX5_init_118 ?_
  refine k_icmpN_ge C (tgt := 142) (by omega) (by omega) (by decide) dX5_init_119 (fun hc => absurd hc (by decide)) (fun _ => ?_)
  refine k_aload_n C (f := 0) (i := 0) (p := 2) rfl rfl dX5_init_122 ?_
  refine k_getR C f_X5_65 sx_m (fun _ _ _ => rfl) r5f_m dX5_init_123 ?_
  refine k_iload_n C (f := 2) (i := 2) (p := 0) rfl rfl dX5_init_126 ?_
  refine k_newC C (h := x + 158) hz (show am_low Λm (x + 1) 157 from Or.inr ⟨x + 157, by rw [show x + 157 = x + 147 + 1 + 9 by omega, A0_16 Cm]; decide, by omega⟩) (show x + 158 = x + 1 + 157 by omega) (ci := 0) (q := (RX0, TX0, 17)) rfl am_cl_RX5_38 am_in_0 am_it_0 ⟨Nat.le_of_ble_eq_true rfl, Nat.le_of_ble_eq_true rfl⟩ dX5_init_127 ?_
  refine k_dup C rfl dX5_init_130 ?_
  refine k_aload_n C (f := 1) (i := 1) (p := 1) rfl rfl dX5_init_131 ?_
  have pn158 : PlanLay (am_nS Λm (x + 158) (1, 0)) (x + 24) := PlanLay_agree pl_m (fun b h1 h2 => nS_ne (by omega)) (nR_ne (by omega))
  refine k_callIz C (h := x + 158 + 1) hz (show am_low (am_nS Λm (x + 158) (1, 0)) (x + 1) 158 from Or.inr ⟨x + 158, by rw [nS_eq]; decide, by omega⟩) (show x + 158 + 1 = x + 1 + 158 by omega) hO s_X5_47 h_X0_init (ct_X0_init (c := x + 158) (p := x + 24) (z := x + 158 + 1) nS_eq pn158 (by omega) (by omega) (by omega)) rfl rfl (Nat.le_of_ble_eq_true rfl) ⟨Nat.le_of_ble_eq_true rfl, Nat.le_of_ble_eq_true rfl⟩ ⟨Nat.le_of_ble_eq_true rfl, Nat.le_of_ble_eq_true rfl⟩ dX5_init_132 ?_
  rintro Λn1 In Jn ⟨Wn, en⟩
  obtain ⟨On1, Zn, Xn1⟩ := am_stp0 (x := x) en
  refine k_aast C (a := x + 146) (b := x + 158) ((On1 _ (Or.inl (by omega))).1.trans sh146_m) Wn.1 rfl (by decide) (by decide) dX5_init_135 ?_
  obtain ⟨Λn, hΛn⟩ : ∃ a : am_L, a = (Λn1.1, am_ur Λn1.2 (x + 146) 1 (some (x + 158))) := ⟨_, rfl⟩
  rw [← hΛn]
  have On : ∀ b : Nat, (b < x + 158 ∨ x + 158 + 1 + 10 ≤ b) → Λn.1 b = Λm.1 b ∧ (b ≠ x + 146 → Λn.2 b = Λm.2 b) ∧ In b = Im b ∧ Jn b = Jm b := fun b hb => by
    have g := On1 b hb
    refine ⟨by rw [hΛn]; exact g.1, fun q => ?_, g.2.2⟩
    rw [hΛn]
    refine (am_ur_ne q).trans ?_
    by_cases w : b = x
    · rw [w]; funext kf; exact Xn1 kf (by omega)
    · exact g.2.1 w
  have An : Λn.2 (x + 146) 1 = some (x + 158) := by rw [hΛn]; simp [am_ur]
  have Cn : CarLay Λn (x + 158) (x + 158 + 1) (x + 24) := CarLay_agree Wn (fun b hb => by rw [hΛn]; exact ⟨rfl, am_ur_ne (by omega)⟩)
  have Xn : ∀ kf : Nat, kf ≠ 99 → Λn.2 x kf = Λm.2 x kf := fun kf _ => congrFun ((On x (Or.inl (by omega))).2.1 (by omega)) kf
  have A0n : Λn.2 (x + 146) 0 = some (x + 147) := by
    rw [hΛn]
    have g : am_ur Λn1.2 (x + 146) 1 (some (x + 158)) (x + 146) 0 = Λn1.2 (x + 146) 0 := by simp [am_ur]
    exact g.trans ((congrFun ((On1 (x + 146) (Or.inl (by omega))).2.1 (by omega)) 0).trans Am)
  clear hΛn
  have sx_n : Λn.1 x = (1, 5) := (On _ (Or.inl (by omega))).1.trans sx_m
  have r0f_n : Λn.2 x 0 = some (x + 1) := (Xn 0 (by decide)).trans r0f_m
  have pin_n : InLay Λn (x + 1) := InLay_agree pin_m (fun b h1 h2 => ⟨(On b (Or.inl (by omega))).1, (On b (Or.inl (by omega))).2.1 (by omega)⟩)
  have ie_n : In x 1 = -1 := (congrFun (On _ (Or.inl (by omega))).2.2.1 _).trans ie_m
  have it_n : In (x + 1) 1 = nI 0 := (congrFun (On _ (Or.inl (by omega))).2.2.1 _).trans it_m
  have pl_n : PlanLay Λn (x + 24) := PlanLay_agree pl_m (fun b h1 h2 => (On b (Or.inl (by omega))).1) ((On (x + 24) (Or.inl (by omega))).2.1 (by omega))
  have pr_n : PlanRel In (x + 24) r0 := PlanRel_agree pr_m (fun b h1 h2 => (On b (Or.inl (by omega))).2.2.1)
  have r2f_n : Λn.2 x 2 = some (x + 34) := (Xn 2 (by decide)).trans r2f_m
  have cn_n : CarLay Λn (x + 34) (x + 34 + 1) (x + 24) := CarLay_agree cn_m (fun b hb => ⟨(On b (Or.inl (by omega))).1, (On b (Or.inl (by omega))).2.1 (by omega)⟩)
  have cr_n : CarRel In (x + 34) (x + 34 + 1) (x + 24) r0 := CR_agree cr_m ((On _ (Or.inl (by omega))).2.2.1) (fun b h1 h2 => (On b (Or.inl (by omega))).2.2.1) (fun b h1 h2 => (On b (Or.inl (by omega))).2.2.1)
  have r3f_n : Λn.2 x 3 = some (x + 45) := (Xn 3 (by decide)).trans r3f_m
  have cf_n : CarLay Λn (x + 45) (x + 45 + 1) (x + 24) := CarLay_agree cf_m (fun b hb => ⟨(On b (Or.inl (by omega))).1, (On b (Or.inl (by omega))).2.1 (by omega)⟩)
  have r4f_n : Λn.2 x 4 = some (x + 56) := (Xn 4 (by decide)).trans r4f_m
  have hl_n : HistLay Λn (x + 56) (x + 24) := HistLay_agree hl_m (fun b hb => ⟨(On b (Or.inl (by omega))).1, (On b (Or.inl (by omega))).2.1 (by omega)⟩)
  have zh_n : In (x + 56) = fun _ => 0 := (On _ (Or.inl (by omega))).2.2.1.trans zh_m
  have r5f_n : Λn.2 x 5 = some (x + 146) := (Xn 5 (by decide)).trans r5f_m
  have sh146_n : Λn.1 (x + 146) = (6, 2) := (On _ (Or.inl (by omega))).1.trans sh146_m
  have c147_n : CarLay Λn (x + 147) (x + 147 + 1) (x + 24) := CarLay_agree Cm (fun b hb => ⟨(On b (Or.inl (by omega))).1, (On b (Or.inl (by omega))).2.1 (by omega)⟩)
  refine k_iinc C (i := 2) (p := 0) (lv := [(2, _), (1, _), (0, _)]) (Nat.le_of_ble_eq_true rfl) rfl (am_inc1 _) rfl dX5_init_136 ?_
  refine k_goto C (tgt := 117) (by decide) dX5_init_139 ?_
  refine k_iload_n C (f := 2) (i := 2) (p := 0) rfl rfl dX5_init_117 ?_
  refine k_iconst C ic_2 dX5_init_118 ?_
  refine k_icmpN_ge C (tgt := 142) (by omega) (by omega) (by decide) dX5_init_119 (fun _ => ?_) (fun hc => absurd hc (by decide))
  refine k_aload_n C (f := 0) (i := 0) (p := 2) rfl rfl dX5_init_142 ?_
  refine k_iconst C ic_2 dX5_init_143 ?_
  refine k_newA C (h := x + 169) (N := 2) (kd := 4) hz (show am_low Λn (x + 1) 168 from Or.inr ⟨x + 168, by rw [show x + 168 = x + 158 + 1 + 9 by omega, A0_16 Cn]; decide, by omega⟩) (show x + 169 = x + 1 + 168 by omega) am_ar_z rfl (by decide) (Or.inr (Or.inr ⟨rfl, rfl⟩)) ⟨Nat.le_of_ble_eq_true rfl, Nat.le_of_ble_eq_true rfl⟩ dX5_init_144 ?_
  obtain ⟨Λo1, Io, Jo, g1, g2, g3⟩ : ∃ (a : am_L) (b : am_I) (c : am_J), a = am_nS Λn (x + 169) (4, 2) ∧ b = am_nI In (x + 169) ∧ c = am_nJ Jn (x + 169) := ⟨_, _, _, rfl, rfl, rfl⟩
  have eo : am_ext (x + 169) (x + 169 + 1) 0 (am_nS Λn (x + 169) (4, 2)) (am_nI In (x + 169)) (am_nJ Jn (x + 169)) Λo1 Io Jo := by rw [g1, g2, g3]; exact am_ext.rf
  have qo : Λo1.1 (x + 169) = (4, 2) := by rw [g1]; exact nS_eq
  rw [← g1, ← g2, ← g3]
  clear g1 g2 g3
  obtain ⟨Λo, hΛo⟩ : ∃ a : am_L, a = (Λo1.1, am_ur Λo1.2 x 6 (some (x + 169))) := ⟨_, rfl⟩
  obtain ⟨Oo, Zo, Ro, Xo, No⟩ := am_stp (by omega) eo hΛo
  refine k_putF C (b := x + 169) hin f_X5_69 ((eo.1 x (Or.inl (by omega))).1.trans ((nS_ne (by omega)).trans sx_n)) rfl rfl (Or.inr (Or.inr (Or.inl rfl))) dX5_init_146 ?_
  rw [← hΛo]
  clear hΛo
  have so : Λo.1 (x + 169) = (4, 2) := (No _ (by omega)).1.trans qo
  have sx_o : Λo.1 x = (1, 5) := (Oo _ (Or.inl (by omega))).1.trans sx_n
  have r0f_o : Λo.2 x 0 = some (x + 1) := (Xo 0 (by decide)).trans r0f_n
  have pin_o : InLay Λo (x + 1) := InLay_agree pin_n (fun b h1 h2 => ⟨(Oo b (Or.inl (by omega))).1, (Oo b (Or.inl (by omega))).2.1 (by omega)⟩)
  have ie_o : Io x 1 = -1 := (congrFun (Oo _ (Or.inl (by omega))).2.2.1 _).trans ie_n
  have it_o : Io (x + 1) 1 = nI 0 := (congrFun (Oo _ (Or.inl (by omega))).2.2.1 _).trans it_n
  have pl_o : PlanLay Λo (x + 24) := PlanLay_agree pl_n (fun b h1 h2 => (Oo b (Or.inl (by omega))).1) ((Oo (x + 24) (Or.inl (by omega))).2.1 (by omega))
  have pr_o : PlanRel Io (x + 24) r0 := PlanRel_agree pr_n (fun b h1 h2 => (Oo b (Or.inl (by omega))).2.2.1)
  have r2f_o : Λo.2 x 2 = some (x + 34) := (Xo 2 (by decide)).trans r2f_n
  have cn_o : CarLay Λo (x + 34) (x + 34 + 1) (x + 24) := CarLay_agree cn_n (fun b hb => ⟨(Oo b (Or.inl (by omega))).1, (Oo b (Or.inl (by omega))).2.1 (by omega)⟩)
  have cr_o : CarRel Io (x + 34) (x + 34 + 1) (x + 24) r0 := CR_agree cr_n ((Oo _ (Or.inl (by omega))).2.2.1) (fun b h1 h2 => (Oo b (Or.inl (by omega))).2.2.1) (fun b h1 h2 => (Oo b (Or.inl (by omega))).2.2.1)
  have r3f_o : Λo.2 x 3 = some (x + 45) := (Xo 3 (by decide)).trans r3f_n
  have cf_o : CarLay Λo (x + 45) (x + 45 + 1) (x + 24) := CarLay_agree cf_n (fun b hb => ⟨(Oo b (Or.inl (by omega))).1, (Oo b (Or.inl (by omega))).2.1 (by omega)⟩)
  have r4f_o : Λo.2 x 4 = some (x + 56) := (Xo 4 (by decide)).trans r4f_n
  have hl_o : HistLay Λo (x + 56) (x + 24) := HistLay_agree hl_n (fun b hb => ⟨(Oo b (Or.inl (by omega))).1, (Oo b (Or.inl (by omega))).2.1 (by omega)⟩)
  have zh_o : Io (x + 56) = fun _ => 0 := (Oo _ (Or.inl (by omega))).2.2.1.trans zh_n
  have r5f_o : Λo.2 x 5 = some (x + 146) := (Xo 5 (by decide)).trans r5f_n
  have sh146_o : Λo.1 (x + 146) = (6, 2) := (Oo _ (Or.inl (by omega))).1.trans sh146_n
  have c147_o : CarLay Λo (x + 147) (x + 147 + 1) (x + 24) := CarLay_agree c147_n (fun b hb => ⟨(Oo b (Or.inl (by omega))).1, (Oo b (Or.inl (by omega))).2.1 (by omega)⟩)
  have c158_o : CarLay Λo (x + 158) (x + 158 + 1) (x + 24) := CarLay_agree Cn (fun b hb => ⟨(Oo b (Or.inl (by omega))).1, (Oo b (Or.inl (by omega))).2.1 (by omega)⟩)
  have a0_o : Λo.2 (x + 146) 0 = some (x + 147) := (congrFun ((Oo _ (Or.inl (by omega))).2.1 (by omega)) _).trans A0n
  have a1_o : Λo.2 (x + 146) 1 = some (x + 158) := (congrFun ((Oo _ (Or.inl (by omega))).2.1 (by omega)) _).trans An
  refine k_aload_n C (f := 0) (i := 0) (p := 2) rfl rfl dX5_init_149 ?_
  refine k_bipush C bc_10 dX5_init_150 ?_
  refine k_newA C (h := x + 170) (N := 10) (kd := 2) hz (show am_low Λo (x + 1) 169 from Or.inr ⟨x + 169, by rw [so]; decide, by omega⟩) (show x + 170 = x + 1 + 169 by omega) am_ar_i rfl (by decide) (Or.inl ⟨rfl, rfl⟩) ⟨Nat.le_of_ble_eq_true rfl, Nat.le_of_ble_eq_true rfl⟩ dX5_init_152 ?_
  obtain ⟨Λp1, Ip, Jp, g1, g2, g3⟩ : ∃ (a : am_L) (b : am_I) (c : am_J), a = am_nS Λo (x + 170) (2, 10) ∧ b = am_nI Io (x + 170) ∧ c = am_nJ Jo (x + 170) := ⟨_, _, _, rfl, rfl, rfl⟩
  have ep : am_ext (x + 170) (x + 170 + 1) 0 (am_nS Λo (x + 170) (2, 10)) (am_nI Io (x + 170)) (am_nJ Jo (x + 170)) Λp1 Ip Jp := by rw [g1, g2, g3]; exact am_ext.rf
  have qp : Λp1.1 (x + 170) = (2, 10) := by rw [g1]; exact nS_eq
  rw [← g1, ← g2, ← g3]
  clear g1 g2 g3
  obtain ⟨Λp, hΛp⟩ : ∃ a : am_L, a = (Λp1.1, am_ur Λp1.2 x 7 (some (x + 170))) := ⟨_, rfl⟩
  obtain ⟨Op, Zp, Rp, Xp, Np⟩ := am_stp (by omega) ep hΛp
  refine k_putF C (b := x + 170) hin f_X5_73 ((ep.1 x (Or.inl (by omega))).1.trans ((nS_ne (by omega)).trans sx_o)) rfl rfl (Or.inl rfl) dX5_init_154 ?_
  rw [← hΛp]
  clear hΛp
  have sp : Λp.1 (x + 170) = (2, 10) := (Np _ (by omega)).1.trans qp
  have sx_p : Λp.1 x = (1, 5) := (Op _ (Or.inl (by omega))).1.trans sx_o
  have r0f_p : Λp.2 x 0 = some (x + 1) := (Xp 0 (by decide)).trans r0f_o
  have pin_p : InLay Λp (x + 1) := InLay_agree pin_o (fun b h1 h2 => ⟨(Op b (Or.inl (by omega))).1, (Op b (Or.inl (by omega))).2.1 (by omega)⟩)
  have ie_p : Ip x 1 = -1 := (congrFun (Op _ (Or.inl (by omega))).2.2.1 _).trans ie_o
  have it_p : Ip (x + 1) 1 = nI 0 := (congrFun (Op _ (Or.inl (by omega))).2.2.1 _).trans it_o
  have pl_p : PlanLay Λp (x + 24) := PlanLay_agree pl_o (fun b h1 h2 => (Op b (Or.inl (by omega))).1) ((Op (x + 24) (Or.inl (by omega))).2.1 (by omega))
  have pr_p : PlanRel Ip (x + 24) r0 := PlanRel_agree pr_o (fun b h1 h2 => (Op b (Or.inl (by omega))).2.2.1)
  have r2f_p : Λp.2 x 2 = some (x + 34) := (Xp 2 (by decide)).trans r2f_o
  have cn_p : CarLay Λp (x + 34) (x + 34 + 1) (x + 24) := CarLay_agree cn_o (fun b hb => ⟨(Op b (Or.inl (by omega))).1, (Op b (Or.inl (by omega))).2.1 (by omega)⟩)
  have cr_p : CarRel Ip (x + 34) (x + 34 + 1) (x + 24) r0 := CR_agree cr_o ((Op _ (Or.inl (by omega))).2.2.1) (fun b h1 h2 => (Op b (Or.inl (by omega))).2.2.1) (fun b h1 h2 => (Op b (Or.inl (by omega))).2.2.1)
  have r3f_p : Λp.2 x 3 = some (x + 45) := (Xp 3 (by decide)).trans r3f_o
  have cf_p : CarLay Λp (x + 45) (x + 45 + 1) (x + 24) := CarLay_agree cf_o (fun b hb => ⟨(Op b (Or.inl (by omega))).1, (Op b (Or.inl (by omega))).2.1 (by omega)⟩)
  have r4f_p : Λp.2 x 4 = some (x + 56) := (Xp 4 (by decide)).trans r4f_o
  have hl_p : HistLay Λp (x + 56) (x + 24) := HistLay_agree hl_o (fun b hb => ⟨(Op b (Or.inl (by omega))).1, (Op b (Or.inl (by omega))).2.1 (by omega)⟩)
  have zh_p : Ip (x + 56) = fun _ => 0 := (Op _ (Or.inl (by omega))).2.2.1.trans zh_o
  have r5f_p : Λp.2 x 5 = some (x + 146) := (Xp 5 (by decide)).trans r5f_o
  have sh146_p : Λp.1 (x + 146) = (6, 2) := (Op _ (Or.inl (by omega))).1.trans sh146_o
  have c147_p : CarLay Λp (x + 147) (x + 147 + 1) (x + 24) := CarLay_agree c147_o (fun b hb => ⟨(Op b (Or.inl (by omega))).1, (Op b (Or.inl (by omega))).2.1 (by omega)⟩)
  have c158_p : CarLay Λp (x + 158) (x + 158 + 1) (x + 24) := CarLay_agree c158_o (fun b hb => ⟨(Op b (Or.inl (by omega))).1, (Op b (Or.inl (by omega))).2.1 (by omega)⟩)
  have a0_p : Λp.2 (x + 146) 0 = some (x + 147) := (congrFun ((Op _ (Or.inl (by omega))).2.1 (by omega)) _).trans a0_o
  have a1_p : Λp.2 (x + 146) 1 = some (x + 158) := (congrFun ((Op _ (Or.inl (by omega))).2.1 (by omega)) _).trans a1_o
  have r6f_p : Λp.2 x 6 = some (x + 169) := (Xp 6 (by decide)).trans Ro
  have sh169_p : Λp.1 (x + 169) = (4, 2) := (Op _ (Or.inl (by omega))).1.trans so
  have zk_p : Ip (x + 169) = fun _ => 0 := (Op _ (Or.inl (by omega))).2.2.1.trans (Zo (x + 169) (by omega) (by omega))
  refine k_aload_n C (f := 0) (i := 0) (p := 2) rfl rfl dX5_init_157 ?_
  refine k_newC C (h := x + 171) hz (show am_low Λp (x + 1) 170 from Or.inr ⟨x + 170, by rw [sp]; decide, by omega⟩) (show x + 171 = x + 1 + 170 by omega) (ci := 4) (q := (RX4, TX4, 2)) rfl am_cl_RX5_77 am_in_4 am_it_4 ⟨Nat.le_of_ble_eq_true rfl, Nat.le_of_ble_eq_true rfl⟩ dX5_init_158 ?_
  refine k_dup C rfl dX5_init_161 ?_
  refine k_callNz C (h := x + 171 + 1) hz (show am_low (am_nS Λp (x + 171) (1, 4)) (x + 1) 171 from Or.inr ⟨x + 171, by rw [nS_eq]; decide, by omega⟩) (show x + 171 + 1 = x + 1 + 171 by omega) hO am_nest_X5_79 am_im_X4 am_it_4 rfl ⟨by decide, by decide, by decide +kernel⟩ h_X4_init (ct_X4_init (w := x + 171) nS_eq) rfl rfl (Nat.le_of_ble_eq_true rfl) ⟨Nat.le_of_ble_eq_true rfl, Nat.le_of_ble_eq_true rfl⟩ ⟨Nat.le_of_ble_eq_true rfl, Nat.le_of_ble_eq_true rfl⟩ dX5_init_162 ?_
  rintro Λq1 Iq Jq ⟨Wq, eq⟩
  obtain ⟨Λq, hΛq⟩ : ∃ a : am_L, a = (Λq1.1, am_ur Λq1.2 x 8 (some (x + 171))) := ⟨_, rfl⟩
  obtain ⟨Oq, Zq, Rq, Xq, Nq⟩ := am_stp (by omega) eq hΛq
  refine k_putF C (b := x + 171) hin f_X5_80 ((eq.1 x (Or.inl (by omega))).1.trans ((nS_ne (by omega)).trans sx_p)) rfl rfl (Or.inr (Or.inr (Or.inr (Or.inr ⟨_, rfl⟩)))) dX5_init_165 ?_
  rw [← hΛq]
  clear hΛq
  have sx_q : Λq.1 x = (1, 5) := (Oq _ (Or.inl (by omega))).1.trans sx_p
  have r0f_q : Λq.2 x 0 = some (x + 1) := (Xq 0 (by decide)).trans r0f_p
  have pin_q : InLay Λq (x + 1) := InLay_agree pin_p (fun b h1 h2 => ⟨(Oq b (Or.inl (by omega))).1, (Oq b (Or.inl (by omega))).2.1 (by omega)⟩)
  have ie_q : Iq x 1 = -1 := (congrFun (Oq _ (Or.inl (by omega))).2.2.1 _).trans ie_p
  have it_q : Iq (x + 1) 1 = nI 0 := (congrFun (Oq _ (Or.inl (by omega))).2.2.1 _).trans it_p
  have pl_q : PlanLay Λq (x + 24) := PlanLay_agree pl_p (fun b h1 h2 => (Oq b (Or.inl (by omega))).1) ((Oq (x + 24) (Or.inl (by omega))).2.1 (by omega))
  have pr_q : PlanRel Iq (x + 24) r0 := PlanRel_agree pr_p (fun b h1 h2 => (Oq b (Or.inl (by omega))).2.2.1)
  have r2f_q : Λq.2 x 2 = some (x + 34) := (Xq 2 (by decide)).trans r2f_p
  have cn_q : CarLay Λq (x + 34) (x + 34 + 1) (x + 24) := CarLay_agree cn_p (fun b hb => ⟨(Oq b (Or.inl (by omega))).1, (Oq b (Or.inl (by omega))).2.1 (by omega)⟩)
  have cr_q : CarRel Iq (x + 34) (x + 34 + 1) (x + 24) r0 := CR_agree cr_p ((Oq _ (Or.inl (by omega))).2.2.1) (fun b h1 h2 => (Oq b (Or.inl (by omega))).2.2.1) (fun b h1 h2 => (Oq b (Or.inl (by omega))).2.2.1)
  have r3f_q : Λq.2 x 3 = some (x + 45) := (Xq 3 (by decide)).trans r3f_p
  have cf_q : CarLay Λq (x + 45) (x + 45 + 1) (x + 24) := CarLay_agree cf_p (fun b hb => ⟨(Oq b (Or.inl (by omega))).1, (Oq b (Or.inl (by omega))).2.1 (by omega)⟩)
  have r4f_q : Λq.2 x 4 = some (x + 56) := (Xq 4 (by decide)).trans r4f_p
  have hl_q : HistLay Λq (x + 56) (x + 24) := HistLay_agree hl_p (fun b hb => ⟨(Oq b (Or.inl (by omega))).1, (Oq b (Or.inl (by omega))).2.1 (by omega)⟩)
  have zh_q : Iq (x + 56) = fun _ => 0 := (Oq _ (Or.inl (by omega))).2.2.1.trans zh_p
  have r5f_q : Λq.2 x 5 = some (x + 146) := (Xq 5 (by decide)).trans r5f_p
  have sh146_q : Λq.1 (x + 146) = (6, 2) := (Oq _ (Or.inl (by omega))).1.trans sh146_p
  have c147_q : CarLay Λq (x + 147) (x + 147 + 1) (x + 24) := CarLay_agree c147_p (fun b hb => ⟨(Oq b (Or.inl (by omega))).1, (Oq b (Or.inl (by omega))).2.1 (by omega)⟩)
  have c158_q : CarLay Λq (x + 158) (x + 158 + 1) (x + 24) := CarLay_agree c158_p (fun b hb => ⟨(Oq b (Or.inl (by omega))).1, (Oq b (Or.inl (by omega))).2.1 (by omega)⟩)
  have a0_q : Λq.2 (x + 146) 0 = some (x + 147) := (congrFun ((Oq _ (Or.inl (by omega))).2.1 (by omega)) _).trans a0_p
  have a1_q : Λq.2 (x + 146) 1 = some (x + 158) := (congrFun ((Oq _ (Or.inl (by omega))).2.1 (by omega)) _).trans a1_p
  have r6f_q : Λq.2 x 6 = some (x + 169) := (Xq 6 (by decide)).trans r6f_p
  have sh169_q : Λq.1 (x + 169) = (4, 2) := (Oq _ (Or.inl (by omega))).1.trans sh169_p
  have zk_q : Iq (x + 169) = fun _ => 0 := (Oq _ (Or.inl (by omega))).2.2.1.trans zk_p
  have r7f_q : Λq.2 x 7 = some (x + 170) := (Xq 7 (by decide)).trans Rp
  have sh170_q : Λq.1 (x + 170) = (2, 10) := (Oq _ (Or.inl (by omega))).1.trans sp
  have Wl : WriLay Λq (x + 171) := WriLay_agree Wq (fun b h1 h2 => Nq b (by omega))
  have hout1 : ∀ b : Nat, (b < x + 1 ∨ x + 173 ≤ b) → Λq.1 b = Λ.1 b ∧ Jq b = J b := fun b hb => ⟨(Oq b (by omega)).1.trans ((Op b (by omega)).1.trans ((Oo b (by omega)).1.trans ((On b (by omega)).1.trans ((Om b (by omega)).1.trans ((Oh b (by omega)).1.trans ((Og b (by omega)).1.trans ((Of b (by omega)).1.trans ((Od b (by omega)).1.trans ((Ob b (by omega)).1.trans ((Oa b (by omega)).1)))))))))), (Oq b (by omega)).2.2.2.trans ((Op b (by omega)).2.2.2.trans ((Oo b (by omega)).2.2.2.trans ((On b (by omega)).2.2.2.trans ((Om b (by omega)).2.2.2.trans ((Oh b (by omega)).2.2.2.trans ((Og b (by omega)).2.2.2.trans ((Of b (by omega)).2.2.2.trans ((Od b (by omega)).2.2.2.trans ((Ob b (by omega)).2.2.2.trans ((Oa b (by omega)).2.2.2))))))))))⟩
  have hout2 : ∀ b : Nat, (b < x ∨ x + 173 ≤ b) → Λq.2 b = Λ.2 b := fun b hb => ((Oq b (by omega)).2.1 (by omega)).trans (((Op b (by omega)).2.1 (by omega)).trans (((Oo b (by omega)).2.1 (by omega)).trans (((On b (by omega)).2.1 (by omega)).trans (((Om b (by omega)).2.1 (by omega)).trans (((Oh b (by omega)).2.1 (by omega)).trans (((Og b (by omega)).2.1 (by omega)).trans (((Of b (by omega)).2.1 (by omega)).trans (((Od b (by omega)).2.1 (by omega)).trans (((Ob b (by omega)).2.1 (by omega)).trans (((Oa b (by omega)).2.1 (by omega))))))))))))
  have hout3 : ∀ b : Nat, (b < x ∨ x + 173 ≤ b) → Iq b = I b := fun b hb => (Oq b (by omega)).2.2.1.trans ((Op b (by omega)).2.2.1.trans ((Oo b (by omega)).2.2.1.trans ((On b (by omega)).2.2.1.trans ((Om b (by omega)).2.2.1.trans ((Oh b (by omega)).2.2.1.trans ((Og b (by omega)).2.2.1.trans ((Of b (by omega)).2.2.1.trans ((o8 b (by omega) (by omega)).trans ((Od b (by omega)).2.2.1.trans ((o6 b (by omega)).trans ((Ob b (by omega)).2.2.1.trans ((w4 b (by omega)).trans ((Oa b (by omega)).2.2.1)))))))))))))
  exact k_vret C (Nat.le_of_ble_eq_true rfl) (Nat.le_of_ble_eq_true rfl) (⟨rfl, ⟨sx_q, r0f_q, r2f_q, r3f_q, r4f_q, r5f_q, sh146_q, r6f_q, sh169_q, r7f_q, sh170_q, Rq, pin_q, pl_q, cn_q, cf_q, hl_q, (fun j hj => by
      rcases Nat.lt_or_ge j 1 with h | h
      · obtain rfl : j = 0 := by omega
        exact ⟨a0_q, c147_q⟩
      · obtain rfl : j = 1 := by omega
        exact ⟨a1_q, c158_q⟩), Wl⟩, ⟨fun b hb => hout1 b (by unfold am_out at hb; omega), fun b hb hbo => hout2 b (by unfold am_out at hb; omega)⟩, hout3, r0, hr0, ⟨⟨it_q, by decide, fun j hj => absurd hj (Nat.not_lt_zero j)⟩, ie_q, cr_q, ⟨0, by rw [zh_q]; rfl, by rw [zh_q]; rfl, by decide, by decide, fun s hs2 => absurd hs2 (Nat.not_lt_zero s)⟩, (fun j hj => ⟨by rw [zk_q]; exact am_bf (fun z => by cases z), fun z => by cases z⟩), ⟨by rw [Zq (x + 171) (by omega) (by omega)]; rfl, fun j hj => absurd hj (Nat.not_lt_zero j)⟩, by decide⟩⟩) dX5_init_168
