/-! ===== the constructors ===== -/
theorem am_ar_i : Cond.arrayClass (newarray.typeOf .int) ∈ am_tbl := am_wd 132 (by decide +kernel) rfl
theorem am_ar_b : Cond.arrayClass (newarray.typeOf .byte) ∈ am_tbl := am_wd 131 (by decide +kernel) rfl
theorem am_ar_z : Cond.arrayClass (newarray.typeOf .boolean) ∈ am_tbl := am_wd 454 (by decide +kernel) rfl
theorem am_in_0 : Cond.instantiable RX0 17 ∈ am_tbl := am_wd 67 (by decide +kernel) rfl
theorem am_it_0 : Cond.initialized RX0 ∈ am_tbl := am_wd 29 (by decide +kernel) rfl
theorem am_in_1 : Cond.instantiable RX1 3 ∈ am_tbl := am_wd 421 (by decide +kernel) rfl
theorem am_it_1 : Cond.initialized RX1 ∈ am_tbl := am_wd 36 (by decide +kernel) rfl
theorem am_in_2 : Cond.instantiable RX2 8 ∈ am_tbl := am_wd 61 (by decide +kernel) rfl
theorem am_it_2 : Cond.initialized RX2 ∈ am_tbl := am_wd 28 (by decide +kernel) rfl
theorem am_in_3 : Cond.instantiable RX3 13 ∈ am_tbl := am_wd 69 (by decide +kernel) rfl
theorem am_it_3 : Cond.initialized RX3 ∈ am_tbl := am_wd 30 (by decide +kernel) rfl
theorem am_in_4 : Cond.instantiable RX4 2 ∈ am_tbl := am_wd 441 (by decide +kernel) rfl
theorem am_it_4 : Cond.initialized RX4 ∈ am_tbl := am_wd 37 (by decide +kernel) rfl
theorem am_in_5 : Cond.instantiable RX5 9 ∈ am_tbl := am_wd 53 (by decide +kernel) rfl
theorem am_it_5 : Cond.initialized RX5 ∈ am_tbl := am_wd 27 (by decide +kernel) rfl
theorem am_in_6 : Cond.instantiable RJ4 4 ∈ am_tbl := am_wd 979 (by decide +kernel) rfl
theorem am_it_6 : Cond.initialized RJ4 ∈ am_tbl := am_wd 47 (by decide +kernel) rfl
theorem am_in_7 : Cond.instantiable RJ0 4 ∈ am_tbl := am_wd 1167 (by decide +kernel) rfl
theorem am_it_7 : Cond.initialized RJ0 ∈ am_tbl := am_wd 31 (by decide +kernel) rfl
theorem am_cl_RL_8 : Cond.classLink RL 8 RX5 ∈ am_tbl := am_wd 52 (by decide +kernel) rfl
theorem am_cl_RX5_9 : Cond.classLink RX5 9 RX2 ∈ am_tbl := am_wd 60 (by decide +kernel) rfl
theorem am_cl_RX2_15 : Cond.classLink RX2 15 RX0 ∈ am_tbl := am_wd 66 (by decide +kernel) rfl
theorem am_cl_RX2_17 : Cond.classLink RX2 17 RX3 ∈ am_tbl := am_wd 68 (by decide +kernel) rfl
theorem am_cl_RX5_30 : Cond.classLink RX5 30 RX3 ∈ am_tbl := am_wd 404 (by decide +kernel) rfl
theorem am_cl_RX5_38 : Cond.classLink RX5 38 RX0 ∈ am_tbl := am_wd 413 (by decide +kernel) rfl
theorem am_cl_RX5_58 : Cond.classLink RX5 58 RX1 ∈ am_tbl := am_wd 420 (by decide +kernel) rfl
theorem am_cl_RX1_9 : Cond.classLink RX1 9 RX0 ∈ am_tbl := am_wd 426 (by decide +kernel) rfl
theorem am_cl_RX5_77 : Cond.classLink RX5 77 RX4 ∈ am_tbl := am_wd 440 (by decide +kernel) rfl
theorem am_cl_RL_166 : Cond.classLink RL 166 RJ4 ∈ am_tbl := am_wd 978 (by decide +kernel) rfl
theorem am_cl_RJ4_18 : Cond.classLink RJ4 18 RJ0 ∈ am_tbl := am_wd 1166 (by decide +kernel) rfl
def am_out (z m b : Nat) : Prop := b < z ∨ z + m ≤ b
/-- behind a constructor of the object at o whose cells are made from z on -/
def am_ext (o z m : Nat) (Λ : am_L) (I : am_I) (J : am_J) (Λ' : am_L) (I' : am_I) (J' : am_J) : Prop := (∀ b : Nat, am_out z m b → Λ'.1 b = Λ.1 b ∧ I' b = I b ∧ J' b = J b) ∧ (∀ b : Nat, am_out z m b → b ≠ o → Λ'.2 b = Λ.2 b) ∧ ∀ b : Nat, z ≤ b → b < z + m → I' b = fun _ => 0
theorem am_ext.rf {o z : Nat} {Λ : am_L} {I : am_I} {J : am_J} : am_ext o z 0 Λ I J Λ I J := ⟨fun _ _ => ⟨rfl, rfl, rfl⟩, fun _ _ _ => rfl, fun b h1 h2 => by omega⟩
theorem am_ext.new {o z m h : Nat} {s : Nat × Nat} {Λ Λ' : am_L} {I I' : am_I} {J J' : am_J} (e : am_ext o z m Λ I J Λ' I' J') (hh : h = z + m) : am_ext o z (m + 1) Λ I J (am_nS Λ' h s) (am_nI I' h) (am_nJ J' h) := by
  subst hh
  obtain ⟨e1, e2, e3⟩ := e
  refine ⟨fun b hb => ?_, fun b hb hbo => ?_, fun b h1 h2 => ?_⟩
  · have q : b ≠ z + m := by unfold am_out at hb; omega
    have g := e1 b (by unfold am_out at hb ⊢; omega)
    rw [nS_ne q, nI_old q, nJ_old q]
    exact g
  · have q : b ≠ z + m := by unfold am_out at hb; omega
    rw [nR_ne q]
    exact e2 b (by unfold am_out at hb ⊢; omega) hbo
  · by_cases q : b = z + m
    · rw [q]; exact nI_new
    · rw [nI_old q]; exact e3 b h1 (by omega)
/-- a reference put into the object itself, or into a cell of its own -/
theorem am_ext.put {o z m a kf : Nat} {x : Option Nat} {Λ Λ' : am_L} {I I' : am_I} {J J' : am_J} (e : am_ext o z m Λ I J Λ' I' J') (ha : a = o ∨ (z ≤ a ∧ a < z + m)) : am_ext o z m Λ I J (Λ'.1, am_ur Λ'.2 a kf x) I' J' := by
  obtain ⟨e1, e2, e3⟩ := e
  refine ⟨e1, fun b hb hbo => ?_, e3⟩
  have q : b ≠ a := by unfold am_out at hb; omega
  show am_ur Λ'.2 a kf x b = _
  rw [am_ur_ne q]
  exact e2 b hb hbo
/-- a constructor called inside -/
theorem am_ext.call {o z m o2 m2 h : Nat} {Λ Λ' Λ2 : am_L} {I I' I2 : am_I} {J J' J2 : am_J} (e : am_ext o z m Λ I J Λ' I' J') (e2 : am_ext o2 h m2 Λ' I' J' Λ2 I2 J2) (hh : h = z + m) (ho : z ≤ o2 ∧ o2 < z + m) (hoo : o < z ∨ z + (m + m2) ≤ o) : am_ext o z (m + m2) Λ I J Λ2 I2 J2 := by
  subst hh
  obtain ⟨a1, a2, a3⟩ := e
  obtain ⟨b1, b2, b3⟩ := e2
  refine ⟨fun b hb => ?_, fun b hb hbo => ?_, fun b h1 h2 => ?_⟩
  · have g1 := a1 b (by unfold am_out at hb ⊢; omega)
    have g2 := b1 b (by unfold am_out at hb ⊢; omega)
    exact ⟨g2.1.trans g1.1, g2.2.1.trans g1.2.1, g2.2.2.trans g1.2.2⟩
  · exact (b2 b (by unfold am_out at hb ⊢; omega) (by unfold am_out at hb; omega)).trans (a2 b (by unfold am_out at hb ⊢; omega) hbo)
  · rcases Nat.lt_or_ge b (z + m) with q | q
    · rw [(b1 b (Or.inl q)).2.1]; exact a3 b h1 q
    · exact b3 b q (by omega)
set_option maxHeartbeats 4000000 in
set_option maxRecDepth 100000 in
theorem ct_X3_init {G : am_G} {Λ : am_L} {I : am_I} {J : am_J} {p : Nat} (hs : Λ.1 p = (1, 3)) : am_CtN G yX3_init cX3_init 1 { frames := 1, cells := 9, slots := 72, locals := 20 } [.ref p] Λ I J (p + 1) (fun v Λ' I' J' => v = none ∧ PlanLay Λ' p ∧ am_ext p (p + 1) 9 Λ I J Λ' I' J') am_never := by
  refine am_ctN_of (own := RX3) rfl (by decide) (Nat.le_of_ble_eq_true rfl) (fun X C hz hin hO => ?_)
  change am_K G X { frames := 1, cells := 9, slots := 72, locals := 20 } 1 Λ I J 0 0 0 [(0, .ref p)] []
  refine k_aload_n C (f := 0) (i := 0) (p := 0) rfl rfl dX3_init_0 ?_
  refine k_objInit C (m_X3_3) ⟨Nat.le_of_ble_eq_true rfl, Nat.le_of_ble_eq_true rfl⟩ dX3_init_1 ?_
  refine k_aload_n C (f := 0) (i := 0) (p := 0) rfl rfl dX3_init_4 ?_
  refine k_bipush C bc_10 dX3_init_5 ?_
  refine k_newA C (h := p + 1) (N := 10) (kd := 2) hz (Or.inl rfl) (by omega) am_ar_i rfl (by decide) (Or.inl ⟨rfl, rfl⟩) ⟨Nat.le_of_ble_eq_true rfl, Nat.le_of_ble_eq_true rfl⟩ dX3_init_7 ?_
  obtain ⟨Λ1, I1, J1, hΛ1, hI1, hJ1⟩ : ∃ (a : am_L) (b : am_I) (c : am_J), a = am_nS Λ (p + 1) (2, 10) ∧ b = am_nI I (p + 1) ∧ c = am_nJ J (p + 1) := ⟨_, _, _, rfl, rfl, rfl⟩
  rw [← hΛ1, ← hI1, ← hJ1]
  have E1 : am_ext (p) (p + 1) 1 Λ I J Λ1 I1 J1 := by rw [hΛ1, hI1, hJ1]; exact am_ext.new (show am_ext (p) (p + 1) 0 Λ I J Λ I J from am_ext.rf) (by omega)
  have lo1 : am_low Λ1 (p + 1) 1 := Or.inr ⟨p + 1, by rw [hΛ1, nS_eq]; decide, by omega⟩
  refine k_putF C (b := p + 1) hin f_X3_9 (by simp [hΛ1, am_nS, am_ur, hs]) rfl rfl (Or.inl rfl) dX3_init_9 ?_
  obtain ⟨Λ2, hΛ2⟩ : ∃ a : am_L, a = (Λ1.1, am_ur Λ1.2 (p) 2 (some (p + 1))) := ⟨_, rfl⟩
  rw [← hΛ2]
  have E2 : am_ext (p) (p + 1) 1 Λ I J Λ2 I1 J1 := by rw [hΛ2]; exact am_ext.put (show am_ext (p) (p + 1) 1 Λ I J Λ1 I1 J1 from E1) (Or.inl rfl)
  have lo2 : am_low Λ2 (p + 1) 1 := by rw [hΛ2]; exact lo1
  refine k_aload_n C (f := 0) (i := 0) (p := 0) rfl rfl dX3_init_12 ?_
  refine k_bipush C bc_10 dX3_init_13 ?_
  refine k_newA C (h := p + 2) (N := 10) (kd := 2) hz lo2 (by omega) am_ar_i rfl (by decide) (Or.inl ⟨rfl, rfl⟩) ⟨Nat.le_of_ble_eq_true rfl, Nat.le_of_ble_eq_true rfl⟩ dX3_init_15 ?_
  obtain ⟨Λ3, I3, J3, hΛ3, hI3, hJ3⟩ : ∃ (a : am_L) (b : am_I) (c : am_J), a = am_nS Λ2 (p + 2) (2, 10) ∧ b = am_nI I1 (p + 2) ∧ c = am_nJ J1 (p + 2) := ⟨_, _, _, rfl, rfl, rfl⟩
  rw [← hΛ3, ← hI3, ← hJ3]
  have E3 : am_ext (p) (p + 1) 2 Λ I J Λ3 I3 J3 := by rw [hΛ3, hI3, hJ3]; exact am_ext.new (show am_ext (p) (p + 1) 1 Λ I J Λ2 I1 J1 from E2) (by omega)
  have lo3 : am_low Λ3 (p + 1) 2 := Or.inr ⟨p + 2, by rw [hΛ3, nS_eq]; decide, by omega⟩
  refine k_putF C (b := p + 2) hin f_X3_15 (by simp [hΛ3, hΛ2, hΛ1, am_nS, am_ur, hs]) rfl rfl (Or.inl rfl) dX3_init_17 ?_
  obtain ⟨Λ4, hΛ4⟩ : ∃ a : am_L, a = (Λ3.1, am_ur Λ3.2 (p) 3 (some (p + 2))) := ⟨_, rfl⟩
  rw [← hΛ4]
  have E4 : am_ext (p) (p + 1) 2 Λ I J Λ4 I3 J3 := by rw [hΛ4]; exact am_ext.put (show am_ext (p) (p + 1) 2 Λ I J Λ3 I3 J3 from E3) (Or.inl rfl)
  have lo4 : am_low Λ4 (p + 1) 2 := by rw [hΛ4]; exact lo3
  refine k_aload_n C (f := 0) (i := 0) (p := 0) rfl rfl dX3_init_20 ?_
  refine k_bipush C bc_10 dX3_init_21 ?_
  refine k_newA C (h := p + 3) (N := 10) (kd := 2) hz lo4 (by omega) am_ar_i rfl (by decide) (Or.inl ⟨rfl, rfl⟩) ⟨Nat.le_of_ble_eq_true rfl, Nat.le_of_ble_eq_true rfl⟩ dX3_init_23 ?_
  obtain ⟨Λ5, I5, J5, hΛ5, hI5, hJ5⟩ : ∃ (a : am_L) (b : am_I) (c : am_J), a = am_nS Λ4 (p + 3) (2, 10) ∧ b = am_nI I3 (p + 3) ∧ c = am_nJ J3 (p + 3) := ⟨_, _, _, rfl, rfl, rfl⟩
  rw [← hΛ5, ← hI5, ← hJ5]
  have E5 : am_ext (p) (p + 1) 3 Λ I J Λ5 I5 J5 := by rw [hΛ5, hI5, hJ5]; exact am_ext.new (show am_ext (p) (p + 1) 2 Λ I J Λ4 I3 J3 from E4) (by omega)
  have lo5 : am_low Λ5 (p + 1) 3 := Or.inr ⟨p + 3, by rw [hΛ5, nS_eq]; decide, by omega⟩
  refine k_putF C (b := p + 3) hin f_X3_18 (by simp [hΛ5, hΛ4, hΛ3, hΛ2, hΛ1, am_nS, am_ur, hs]) rfl rfl (Or.inl rfl) dX3_init_25 ?_
  obtain ⟨Λ6, hΛ6⟩ : ∃ a : am_L, a = (Λ5.1, am_ur Λ5.2 (p) 4 (some (p + 3))) := ⟨_, rfl⟩
  rw [← hΛ6]
  have E6 : am_ext (p) (p + 1) 3 Λ I J Λ6 I5 J5 := by rw [hΛ6]; exact am_ext.put (show am_ext (p) (p + 1) 3 Λ I J Λ5 I5 J5 from E5) (Or.inl rfl)
  have lo6 : am_low Λ6 (p + 1) 3 := by rw [hΛ6]; exact lo5
  refine k_aload_n C (f := 0) (i := 0) (p := 0) rfl rfl dX3_init_28 ?_
  refine k_bipush C bc_8 dX3_init_29 ?_
  refine k_newA C (h := p + 4) (N := 8) (kd := 2) hz lo6 (by omega) am_ar_i rfl (by decide) (Or.inl ⟨rfl, rfl⟩) ⟨Nat.le_of_ble_eq_true rfl, Nat.le_of_ble_eq_true rfl⟩ dX3_init_31 ?_
  obtain ⟨Λ7, I7, J7, hΛ7, hI7, hJ7⟩ : ∃ (a : am_L) (b : am_I) (c : am_J), a = am_nS Λ6 (p + 4) (2, 8) ∧ b = am_nI I5 (p + 4) ∧ c = am_nJ J5 (p + 4) := ⟨_, _, _, rfl, rfl, rfl⟩
  rw [← hΛ7, ← hI7, ← hJ7]
  have E7 : am_ext (p) (p + 1) 4 Λ I J Λ7 I7 J7 := by rw [hΛ7, hI7, hJ7]; exact am_ext.new (show am_ext (p) (p + 1) 3 Λ I J Λ6 I5 J5 from E6) (by omega)
  have lo7 : am_low Λ7 (p + 1) 4 := Or.inr ⟨p + 4, by rw [hΛ7, nS_eq]; decide, by omega⟩
  refine k_putF C (b := p + 4) hin f_X3_21 (by simp [hΛ7, hΛ6, hΛ5, hΛ4, hΛ3, hΛ2, hΛ1, am_nS, am_ur, hs]) rfl rfl (Or.inl rfl) dX3_init_33 ?_
  obtain ⟨Λ8, hΛ8⟩ : ∃ a : am_L, a = (Λ7.1, am_ur Λ7.2 (p) 6 (some (p + 4))) := ⟨_, rfl⟩
  rw [← hΛ8]
  have E8 : am_ext (p) (p + 1) 4 Λ I J Λ8 I7 J7 := by rw [hΛ8]; exact am_ext.put (show am_ext (p) (p + 1) 4 Λ I J Λ7 I7 J7 from E7) (Or.inl rfl)
  have lo8 : am_low Λ8 (p + 1) 4 := by rw [hΛ8]; exact lo7
  refine k_aload_n C (f := 0) (i := 0) (p := 0) rfl rfl dX3_init_36 ?_
  refine k_bipush C bc_8 dX3_init_37 ?_
  refine k_newA C (h := p + 5) (N := 8) (kd := 2) hz lo8 (by omega) am_ar_i rfl (by decide) (Or.inl ⟨rfl, rfl⟩) ⟨Nat.le_of_ble_eq_true rfl, Nat.le_of_ble_eq_true rfl⟩ dX3_init_39 ?_
  obtain ⟨Λ9, I9, J9, hΛ9, hI9, hJ9⟩ : ∃ (a : am_L) (b : am_I) (c : am_J), a = am_nS Λ8 (p + 5) (2, 8) ∧ b = am_nI I7 (p + 5) ∧ c = am_nJ J7 (p + 5) := ⟨_, _, _, rfl, rfl, rfl⟩
  rw [← hΛ9, ← hI9, ← hJ9]
  have E9 : am_ext (p) (p + 1) 5 Λ I J Λ9 I9 J9 := by rw [hΛ9, hI9, hJ9]; exact am_ext.new (show am_ext (p) (p + 1) 4 Λ I J Λ8 I7 J7 from E8) (by omega)
  have lo9 : am_low Λ9 (p + 1) 5 := Or.inr ⟨p + 5, by rw [hΛ9, nS_eq]; decide, by omega⟩
  refine k_putF C (b := p + 5) hin f_X3_24 (by simp [hΛ9, hΛ8, hΛ7, hΛ6, hΛ5, hΛ4, hΛ3, hΛ2, hΛ1, am_nS, am_ur, hs]) rfl rfl (Or.inl rfl) dX3_init_41 ?_
  obtain ⟨Λ10, hΛ10⟩ : ∃ a : am_L, a = (Λ9.1, am_ur Λ9.2 (p) 7 (some (p + 5))) := ⟨_, rfl⟩
  rw [← hΛ10]
  have E10 : am_ext (p) (p + 1) 5 Λ I J Λ10 I9 J9 := by rw [hΛ10]; exact am_ext.put (show am_ext (p) (p + 1) 5 Λ I J Λ9 I9 J9 from E9) (Or.inl rfl)
  have lo10 : am_low Λ10 (p + 1) 5 := by rw [hΛ10]; exact lo9
  refine k_aload_n C (f := 0) (i := 0) (p := 0) rfl rfl dX3_init_44 ?_
  refine k_bipush C bc_8 dX3_init_45 ?_
  refine k_newA C (h := p + 6) (N := 8) (kd := 2) hz lo10 (by omega) am_ar_i rfl (by decide) (Or.inl ⟨rfl, rfl⟩) ⟨Nat.le_of_ble_eq_true rfl, Nat.le_of_ble_eq_true rfl⟩ dX3_init_47 ?_
  obtain ⟨Λ11, I11, J11, hΛ11, hI11, hJ11⟩ : ∃ (a : am_L) (b : am_I) (c : am_J), a = am_nS Λ10 (p + 6) (2, 8) ∧ b = am_nI I9 (p + 6) ∧ c = am_nJ J9 (p + 6) := ⟨_, _, _, rfl, rfl, rfl⟩
  rw [← hΛ11, ← hI11, ← hJ11]
  have E11 : am_ext (p) (p + 1) 6 Λ I J Λ11 I11 J11 := by rw [hΛ11, hI11, hJ11]; exact am_ext.new (show am_ext (p) (p + 1) 5 Λ I J Λ10 I9 J9 from E10) (by omega)
  have lo11 : am_low Λ11 (p + 1) 6 := Or.inr ⟨p + 6, by rw [hΛ11, nS_eq]; decide, by omega⟩
  refine k_putF C (b := p + 6) hin f_X3_27 (by simp [hΛ11, hΛ10, hΛ9, hΛ8, hΛ7, hΛ6, hΛ5, hΛ4, hΛ3, hΛ2, hΛ1, am_nS, am_ur, hs]) rfl rfl (Or.inl rfl) dX3_init_49 ?_
  obtain ⟨Λ12, hΛ12⟩ : ∃ a : am_L, a = (Λ11.1, am_ur Λ11.2 (p) 8 (some (p + 6))) := ⟨_, rfl⟩
  rw [← hΛ12]
  have E12 : am_ext (p) (p + 1) 6 Λ I J Λ12 I11 J11 := by rw [hΛ12]; exact am_ext.put (show am_ext (p) (p + 1) 6 Λ I J Λ11 I11 J11 from E11) (Or.inl rfl)
  have lo12 : am_low Λ12 (p + 1) 6 := by rw [hΛ12]; exact lo11
  refine k_aload_n C (f := 0) (i := 0) (p := 0) rfl rfl dX3_init_52 ?_
  refine k_bipush C bc_6 dX3_init_53 ?_
  refine k_newA C (h := p + 7) (N := 6) (kd := 2) hz lo12 (by omega) am_ar_i rfl (by decide) (Or.inl ⟨rfl, rfl⟩) ⟨Nat.le_of_ble_eq_true rfl, Nat.le_of_ble_eq_true rfl⟩ dX3_init_55 ?_
  obtain ⟨Λ13, I13, J13, hΛ13, hI13, hJ13⟩ : ∃ (a : am_L) (b : am_I) (c : am_J), a = am_nS Λ12 (p + 7) (2, 6) ∧ b = am_nI I11 (p + 7) ∧ c = am_nJ J11 (p + 7) := ⟨_, _, _, rfl, rfl, rfl⟩
  rw [← hΛ13, ← hI13, ← hJ13]
  have E13 : am_ext (p) (p + 1) 7 Λ I J Λ13 I13 J13 := by rw [hΛ13, hI13, hJ13]; exact am_ext.new (show am_ext (p) (p + 1) 6 Λ I J Λ12 I11 J11 from E12) (by omega)
  have lo13 : am_low Λ13 (p + 1) 7 := Or.inr ⟨p + 7, by rw [hΛ13, nS_eq]; decide, by omega⟩
  refine k_putF C (b := p + 7) hin f_X3_30 (by simp [hΛ13, hΛ12, hΛ11, hΛ10, hΛ9, hΛ8, hΛ7, hΛ6, hΛ5, hΛ4, hΛ3, hΛ2, hΛ1, am_nS, am_ur, hs]) rfl rfl (Or.inl rfl) dX3_init_57 ?_
  obtain ⟨Λ14, hΛ14⟩ : ∃ a : am_L, a = (Λ13.1, am_ur Λ13.2 (p) 10 (some (p + 7))) := ⟨_, rfl⟩
  rw [← hΛ14]
  have E14 : am_ext (p) (p + 1) 7 Λ I J Λ14 I13 J13 := by rw [hΛ14]; exact am_ext.put (show am_ext (p) (p + 1) 7 Λ I J Λ13 I13 J13 from E13) (Or.inl rfl)
  have lo14 : am_low Λ14 (p + 1) 7 := by rw [hΛ14]; exact lo13
  refine k_aload_n C (f := 0) (i := 0) (p := 0) rfl rfl dX3_init_60 ?_
  refine k_bipush C bc_6 dX3_init_61 ?_
  refine k_newA C (h := p + 8) (N := 6) (kd := 2) hz lo14 (by omega) am_ar_i rfl (by decide) (Or.inl ⟨rfl, rfl⟩) ⟨Nat.le_of_ble_eq_true rfl, Nat.le_of_ble_eq_true rfl⟩ dX3_init_63 ?_
  obtain ⟨Λ15, I15, J15, hΛ15, hI15, hJ15⟩ : ∃ (a : am_L) (b : am_I) (c : am_J), a = am_nS Λ14 (p + 8) (2, 6) ∧ b = am_nI I13 (p + 8) ∧ c = am_nJ J13 (p + 8) := ⟨_, _, _, rfl, rfl, rfl⟩
  rw [← hΛ15, ← hI15, ← hJ15]
  have E15 : am_ext (p) (p + 1) 8 Λ I J Λ15 I15 J15 := by rw [hΛ15, hI15, hJ15]; exact am_ext.new (show am_ext (p) (p + 1) 7 Λ I J Λ14 I13 J13 from E14) (by omega)
  have lo15 : am_low Λ15 (p + 1) 8 := Or.inr ⟨p + 8, by rw [hΛ15, nS_eq]; decide, by omega⟩
  refine k_putF C (b := p + 8) hin f_X3_33 (by simp [hΛ15, hΛ14, hΛ13, hΛ12, hΛ11, hΛ10, hΛ9, hΛ8, hΛ7, hΛ6, hΛ5, hΛ4, hΛ3, hΛ2, hΛ1, am_nS, am_ur, hs]) rfl rfl (Or.inl rfl) dX3_init_65 ?_
  obtain ⟨Λ16, hΛ16⟩ : ∃ a : am_L, a = (Λ15.1, am_ur Λ15.2 (p) 11 (some (p + 8))) := ⟨_, rfl⟩
  rw [← hΛ16]
  have E16 : am_ext (p) (p + 1) 8 Λ I J Λ16 I15 J15 := by rw [hΛ16]; exact am_ext.put (show am_ext (p) (p + 1) 8 Λ I J Λ15 I15 J15 from E15) (Or.inl rfl)
  have lo16 : am_low Λ16 (p + 1) 8 := by rw [hΛ16]; exact lo15
  refine k_aload_n C (f := 0) (i := 0) (p := 0) rfl rfl dX3_init_68 ?_
  refine k_bipush C bc_6 dX3_init_69 ?_
  refine k_newA C (h := p + 9) (N := 6) (kd := 2) hz lo16 (by omega) am_ar_i rfl (by decide) (Or.inl ⟨rfl, rfl⟩) ⟨Nat.le_of_ble_eq_true rfl, Nat.le_of_ble_eq_true rfl⟩ dX3_init_71 ?_
  obtain ⟨Λ17, I17, J17, hΛ17, hI17, hJ17⟩ : ∃ (a : am_L) (b : am_I) (c : am_J), a = am_nS Λ16 (p + 9) (2, 6) ∧ b = am_nI I15 (p + 9) ∧ c = am_nJ J15 (p + 9) := ⟨_, _, _, rfl, rfl, rfl⟩
  rw [← hΛ17, ← hI17, ← hJ17]
  have E17 : am_ext (p) (p + 1) 9 Λ I J Λ17 I17 J17 := by rw [hΛ17, hI17, hJ17]; exact am_ext.new (show am_ext (p) (p + 1) 8 Λ I J Λ16 I15 J15 from E16) (by omega)
  have lo17 : am_low Λ17 (p + 1) 9 := Or.inr ⟨p + 9, by rw [hΛ17, nS_eq]; decide, by omega⟩
  refine k_putF C (b := p + 9) hin f_X3_36 (by simp [hΛ17, hΛ16, hΛ15, hΛ14, hΛ13, hΛ12, hΛ11, hΛ10, hΛ9, hΛ8, hΛ7, hΛ6, hΛ5, hΛ4, hΛ3, hΛ2, hΛ1, am_nS, am_ur, hs]) rfl rfl (Or.inl rfl) dX3_init_73 ?_
  obtain ⟨Λ18, hΛ18⟩ : ∃ a : am_L, a = (Λ17.1, am_ur Λ17.2 (p) 12 (some (p + 9))) := ⟨_, rfl⟩
  rw [← hΛ18]
  have E18 : am_ext (p) (p + 1) 9 Λ I J Λ18 I17 J17 := by rw [hΛ18]; exact am_ext.put (show am_ext (p) (p + 1) 9 Λ I J Λ17 I17 J17 from E17) (Or.inl rfl)
  have lo18 : am_low Λ18 (p + 1) 9 := by rw [hΛ18]; exact lo17
  exact k_vret C (Nat.le_of_ble_eq_true rfl) (Nat.le_of_ble_eq_true rfl) (⟨rfl, by
    exact ⟨by unfold PlanLay; simp [hΛ18, hΛ17, hΛ16, hΛ15, hΛ14, hΛ13, hΛ12, hΛ11, hΛ10, hΛ9, hΛ8, hΛ7, hΛ6, hΛ5, hΛ4, hΛ3, hΛ2, hΛ1, am_nS, am_ur, hs], E18⟩⟩) dX3_init_76
set_option maxHeartbeats 4000000 in
set_option maxRecDepth 100000 in
theorem ct_X4_init {G : am_G} {Λ : am_L} {I : am_I} {J : am_J} {w : Nat} (hs : Λ.1 w = (1, 4)) : am_CtN G yX4_init cX4_init 1 { frames := 1, cells := 1, slots := 140, locals := 20 } [.ref w] Λ I J (w + 1) (fun v Λ' I' J' => v = none ∧ WriLay Λ' w ∧ am_ext w (w + 1) 1 Λ I J Λ' I' J') am_never := by
  refine am_ctN_of (own := RX4) rfl (by decide) (Nat.le_of_ble_eq_true rfl) (fun X C hz hin hO => ?_)
  change am_K G X { frames := 1, cells := 1, slots := 140, locals := 20 } 1 Λ I J 0 0 0 [(0, .ref w)] []
  refine k_aload_n C (f := 0) (i := 0) (p := 0) rfl rfl dX4_init_0 ?_
  refine k_objInit C (m_X4_3) ⟨Nat.le_of_ble_eq_true rfl, Nat.le_of_ble_eq_true rfl⟩ dX4_init_1 ?_
  refine k_aload_n C (f := 0) (i := 0) (p := 0) rfl rfl dX4_init_4 ?_
  refine k_sipush C sc_140 dX4_init_5 ?_
  refine k_newA C (h := w + 1) (N := 140) (kd := 3) hz (Or.inl rfl) (by omega) am_ar_b rfl (by decide) (Or.inr (Or.inl ⟨rfl, rfl⟩)) ⟨Nat.le_of_ble_eq_true rfl, Nat.le_of_ble_eq_true rfl⟩ dX4_init_8 ?_
  obtain ⟨Λ1, I1, J1, hΛ1, hI1, hJ1⟩ : ∃ (a : am_L) (b : am_I) (c : am_J), a = am_nS Λ (w + 1) (3, 140) ∧ b = am_nI I (w + 1) ∧ c = am_nJ J (w + 1) := ⟨_, _, _, rfl, rfl, rfl⟩
  rw [← hΛ1, ← hI1, ← hJ1]
  have E1 : am_ext (w) (w + 1) 1 Λ I J Λ1 I1 J1 := by rw [hΛ1, hI1, hJ1]; exact am_ext.new (show am_ext (w) (w + 1) 0 Λ I J Λ I J from am_ext.rf) (by omega)
  have lo1 : am_low Λ1 (w + 1) 1 := Or.inr ⟨w + 1, by rw [hΛ1, nS_eq]; decide, by omega⟩
  refine k_putF C (b := w + 1) hin f_X4_9 (by simp [hΛ1, am_nS, am_ur, hs]) rfl rfl (Or.inr (Or.inl rfl)) dX4_init_10 ?_
  obtain ⟨Λ2, hΛ2⟩ : ∃ a : am_L, a = (Λ1.1, am_ur Λ1.2 (w) 0 (some (w + 1))) := ⟨_, rfl⟩
  rw [← hΛ2]
  have E2 : am_ext (w) (w + 1) 1 Λ I J Λ2 I1 J1 := by rw [hΛ2]; exact am_ext.put (show am_ext (w) (w + 1) 1 Λ I J Λ1 I1 J1 from E1) (Or.inl rfl)
  have lo2 : am_low Λ2 (w + 1) 1 := by rw [hΛ2]; exact lo1
  exact k_vret C (Nat.le_of_ble_eq_true rfl) (Nat.le_of_ble_eq_true rfl) (⟨rfl, by
    exact ⟨by unfold WriLay; simp [hΛ2, hΛ1, am_nS, am_ur, hs], E2⟩⟩) dX4_init_13
theorem PlanLay_agree {Λ Λ' : am_L} {p : Nat} (h : PlanLay Λ p) (ha : ∀ b : Nat, p ≤ b → b < p + 10 → Λ'.1 b = Λ.1 b) (hr : Λ'.2 p = Λ.2 p) : PlanLay Λ' p := by
  unfold PlanLay at h ⊢
  rw [hr, ha p (by omega) (by omega), ha (p + 1) (by omega) (by omega), ha (p + 2) (by omega) (by omega), ha (p + 3) (by omega) (by omega), ha (p + 4) (by omega) (by omega), ha (p + 5) (by omega) (by omega), ha (p + 6) (by omega) (by omega), ha (p + 7) (by omega) (by omega), ha (p + 8) (by omega) (by omega), ha (p + 9) (by omega) (by omega)]
  exact h
set_option maxHeartbeats 4000000 in
set_option maxRecDepth 100000 in
theorem ct_X0_init {G : am_G} {Λ : am_L} {I : am_I} {J : am_J} {c p z : Nat} (hs : Λ.1 c = (1, 0)) (hp : PlanLay Λ p) (hcz : c < z ∨ z + 10 ≤ c) (hcp : c < p ∨ p + 10 ≤ c) (hzp : z + 10 ≤ p ∨ p + 10 ≤ z) : am_CtN G yX0_init cX0_init 2 { frames := 1, cells := 10, slots := 138, locals := 20 } [.ref c, .ref p] Λ I J (z) (fun v Λ' I' J' => v = none ∧ CarLay Λ' c z p ∧ am_ext c z 10 Λ I J Λ' I' J') am_never := by
  refine am_ctN_of (own := RX0) rfl (by decide) (Nat.le_of_ble_eq_true rfl) (fun X C hz hin hO => ?_)
  change am_K G X { frames := 1, cells := 10, slots := 138, locals := 20 } 2 Λ I J 0 0 0 [(0, .ref c), (1, .ref p)] []
  have n1 : ¬ c = z + 1 := by omega
  have n2 : ¬ c = z + 2 := by omega
  have n3 : ¬ c = z + 3 := by omega
  have n4 : ¬ c = z + 4 := by omega
  have n5 : ¬ c = z + 5 := by omega
  have n6 : ¬ c = z + 6 := by omega
  have n7 : ¬ c = z + 7 := by omega
  have n8 : ¬ c = z + 8 := by omega
  have n9 : ¬ c = z + 9 := by omega
  have n0 : ¬ c = z := by omega
  have p0_0 : ¬ p = z + 0 := by omega
  refine k_aload_n C (f := 0) (i := 0) (p := 0) rfl rfl dX0_init_0 ?_
  refine k_objInit C (m_X0_3) ⟨Nat.le_of_ble_eq_true rfl, Nat.le_of_ble_eq_true rfl⟩ dX0_init_1 ?_
  refine k_aload_n C (f := 0) (i := 0) (p := 0) rfl rfl dX0_init_4 ?_
  refine k_bipush C bc_10 dX0_init_5 ?_
  refine k_newA C (h := z) (N := 10) (kd := 2) hz (Or.inl rfl) (by omega) am_ar_i rfl (by decide) (Or.inl ⟨rfl, rfl⟩) ⟨Nat.le_of_ble_eq_true rfl, Nat.le_of_ble_eq_true rfl⟩ dX0_init_7 ?_
  obtain ⟨Λ1, I1, J1, hΛ1, hI1, hJ1⟩ : ∃ (a : am_L) (b : am_I) (c : am_J), a = am_nS Λ (z) (2, 10) ∧ b = am_nI I (z) ∧ c = am_nJ J (z) := ⟨_, _, _, rfl, rfl, rfl⟩
  rw [← hΛ1, ← hI1, ← hJ1]
  have E1 : am_ext (c) (z) 1 Λ I J Λ1 I1 J1 := by rw [hΛ1, hI1, hJ1]; exact am_ext.new (show am_ext (c) (z) 0 Λ I J Λ I J from am_ext.rf) (by omega)
  have lo1 : am_low Λ1 (z) 1 := Or.inr ⟨z, by rw [hΛ1, nS_eq]; decide, by omega⟩
  refine k_putF C (b := z) hin f_X0_9 (by simp [hΛ1, am_nS, am_ur, hs, n0, n1, n2, n3, n4, n5, n6, n7, n8, n9]) rfl rfl (Or.inl rfl) dX0_init_9 ?_
  obtain ⟨Λ2, hΛ2⟩ : ∃ a : am_L, a = (Λ1.1, am_ur Λ1.2 (c) 6 (some (z))) := ⟨_, rfl⟩
  rw [← hΛ2]
  have E2 : am_ext (c) (z) 1 Λ I J Λ2 I1 J1 := by rw [hΛ2]; exact am_ext.put (show am_ext (c) (z) 1 Λ I J Λ1 I1 J1 from E1) (Or.inl rfl)
  have lo2 : am_low Λ2 (z) 1 := by rw [hΛ2]; exact lo1
  refine k_aload_n C (f := 0) (i := 0) (p := 0) rfl rfl dX0_init_12 ?_
  refine k_bipush C bc_10 dX0_init_13 ?_
  refine k_newA C (h := z + 1) (N := 10) (kd := 2) hz lo2 (by omega) am_ar_i rfl (by decide) (Or.inl ⟨rfl, rfl⟩) ⟨Nat.le_of_ble_eq_true rfl, Nat.le_of_ble_eq_true rfl⟩ dX0_init_15 ?_
  obtain ⟨Λ3, I3, J3, hΛ3, hI3, hJ3⟩ : ∃ (a : am_L) (b : am_I) (c : am_J), a = am_nS Λ2 (z + 1) (2, 10) ∧ b = am_nI I1 (z + 1) ∧ c = am_nJ J1 (z + 1) := ⟨_, _, _, rfl, rfl, rfl⟩
  rw [← hΛ3, ← hI3, ← hJ3]
  have E3 : am_ext (c) (z) 2 Λ I J Λ3 I3 J3 := by rw [hΛ3, hI3, hJ3]; exact am_ext.new (show am_ext (c) (z) 1 Λ I J Λ2 I1 J1 from E2) (by omega)
  have lo3 : am_low Λ3 (z) 2 := Or.inr ⟨z + 1, by rw [hΛ3, nS_eq]; decide, by omega⟩
  refine k_putF C (b := z + 1) hin f_X0_15 (by simp [hΛ3, hΛ2, hΛ1, am_nS, am_ur, hs, n0, n1, n2, n3, n4, n5, n6, n7, n8, n9]) rfl rfl (Or.inl rfl) dX0_init_17 ?_
  obtain ⟨Λ4, hΛ4⟩ : ∃ a : am_L, a = (Λ3.1, am_ur Λ3.2 (c) 7 (some (z + 1))) := ⟨_, rfl⟩
  rw [← hΛ4]
  have E4 : am_ext (c) (z) 2 Λ I J Λ4 I3 J3 := by rw [hΛ4]; exact am_ext.put (show am_ext (c) (z) 2 Λ I J Λ3 I3 J3 from E3) (Or.inl rfl)
  have lo4 : am_low Λ4 (z) 2 := by rw [hΛ4]; exact lo3
  refine k_aload_n C (f := 0) (i := 0) (p := 0) rfl rfl dX0_init_20 ?_
  refine k_bipush C bc_10 dX0_init_21 ?_
  refine k_newA C (h := z + 2) (N := 10) (kd := 2) hz lo4 (by omega) am_ar_i rfl (by decide) (Or.inl ⟨rfl, rfl⟩) ⟨Nat.le_of_ble_eq_true rfl, Nat.le_of_ble_eq_true rfl⟩ dX0_init_23 ?_
  obtain ⟨Λ5, I5, J5, hΛ5, hI5, hJ5⟩ : ∃ (a : am_L) (b : am_I) (c : am_J), a = am_nS Λ4 (z + 2) (2, 10) ∧ b = am_nI I3 (z + 2) ∧ c = am_nJ J3 (z + 2) := ⟨_, _, _, rfl, rfl, rfl⟩
  rw [← hΛ5, ← hI5, ← hJ5]
  have E5 : am_ext (c) (z) 3 Λ I J Λ5 I5 J5 := by rw [hΛ5, hI5, hJ5]; exact am_ext.new (show am_ext (c) (z) 2 Λ I J Λ4 I3 J3 from E4) (by omega)
  have lo5 : am_low Λ5 (z) 3 := Or.inr ⟨z + 2, by rw [hΛ5, nS_eq]; decide, by omega⟩
  refine k_putF C (b := z + 2) hin f_X0_18 (by simp [hΛ5, hΛ4, hΛ3, hΛ2, hΛ1, am_nS, am_ur, hs, n0, n1, n2, n3, n4, n5, n6, n7, n8, n9]) rfl rfl (Or.inl rfl) dX0_init_25 ?_
  obtain ⟨Λ6, hΛ6⟩ : ∃ a : am_L, a = (Λ5.1, am_ur Λ5.2 (c) 8 (some (z + 2))) := ⟨_, rfl⟩
  rw [← hΛ6]
  have E6 : am_ext (c) (z) 3 Λ I J Λ6 I5 J5 := by rw [hΛ6]; exact am_ext.put (show am_ext (c) (z) 3 Λ I J Λ5 I5 J5 from E5) (Or.inl rfl)
  have lo6 : am_low Λ6 (z) 3 := by rw [hΛ6]; exact lo5
  refine k_aload_n C (f := 0) (i := 0) (p := 0) rfl rfl dX0_init_28 ?_
  refine k_bipush C bc_10 dX0_init_29 ?_
  refine k_newA C (h := z + 3) (N := 10) (kd := 2) hz lo6 (by omega) am_ar_i rfl (by decide) (Or.inl ⟨rfl, rfl⟩) ⟨Nat.le_of_ble_eq_true rfl, Nat.le_of_ble_eq_true rfl⟩ dX0_init_31 ?_
  obtain ⟨Λ7, I7, J7, hΛ7, hI7, hJ7⟩ : ∃ (a : am_L) (b : am_I) (c : am_J), a = am_nS Λ6 (z + 3) (2, 10) ∧ b = am_nI I5 (z + 3) ∧ c = am_nJ J5 (z + 3) := ⟨_, _, _, rfl, rfl, rfl⟩
  rw [← hΛ7, ← hI7, ← hJ7]
  have E7 : am_ext (c) (z) 4 Λ I J Λ7 I7 J7 := by rw [hΛ7, hI7, hJ7]; exact am_ext.new (show am_ext (c) (z) 3 Λ I J Λ6 I5 J5 from E6) (by omega)
  have lo7 : am_low Λ7 (z) 4 := Or.inr ⟨z + 3, by rw [hΛ7, nS_eq]; decide, by omega⟩
  refine k_putF C (b := z + 3) hin f_X0_21 (by simp [hΛ7, hΛ6, hΛ5, hΛ4, hΛ3, hΛ2, hΛ1, am_nS, am_ur, hs, n0, n1, n2, n3, n4, n5, n6, n7, n8, n9]) rfl rfl (Or.inl rfl) dX0_init_33 ?_
  obtain ⟨Λ8, hΛ8⟩ : ∃ a : am_L, a = (Λ7.1, am_ur Λ7.2 (c) 9 (some (z + 3))) := ⟨_, rfl⟩
  rw [← hΛ8]
  have E8 : am_ext (c) (z) 4 Λ I J Λ8 I7 J7 := by rw [hΛ8]; exact am_ext.put (show am_ext (c) (z) 4 Λ I J Λ7 I7 J7 from E7) (Or.inl rfl)
  have lo8 : am_low Λ8 (z) 4 := by rw [hΛ8]; exact lo7
  refine k_aload_n C (f := 0) (i := 0) (p := 0) rfl rfl dX0_init_36 ?_
  refine k_bipush C bc_10 dX0_init_37 ?_
  refine k_newA C (h := z + 4) (N := 10) (kd := 2) hz lo8 (by omega) am_ar_i rfl (by decide) (Or.inl ⟨rfl, rfl⟩) ⟨Nat.le_of_ble_eq_true rfl, Nat.le_of_ble_eq_true rfl⟩ dX0_init_39 ?_
  obtain ⟨Λ9, I9, J9, hΛ9, hI9, hJ9⟩ : ∃ (a : am_L) (b : am_I) (c : am_J), a = am_nS Λ8 (z + 4) (2, 10) ∧ b = am_nI I7 (z + 4) ∧ c = am_nJ J7 (z + 4) := ⟨_, _, _, rfl, rfl, rfl⟩
  rw [← hΛ9, ← hI9, ← hJ9]
  have E9 : am_ext (c) (z) 5 Λ I J Λ9 I9 J9 := by rw [hΛ9, hI9, hJ9]; exact am_ext.new (show am_ext (c) (z) 4 Λ I J Λ8 I7 J7 from E8) (by omega)
  have lo9 : am_low Λ9 (z) 5 := Or.inr ⟨z + 4, by rw [hΛ9, nS_eq]; decide, by omega⟩
  refine k_putF C (b := z + 4) hin f_X0_24 (by simp [hΛ9, hΛ8, hΛ7, hΛ6, hΛ5, hΛ4, hΛ3, hΛ2, hΛ1, am_nS, am_ur, hs, n0, n1, n2, n3, n4, n5, n6, n7, n8, n9]) rfl rfl (Or.inl rfl) dX0_init_41 ?_
  obtain ⟨Λ10, hΛ10⟩ : ∃ a : am_L, a = (Λ9.1, am_ur Λ9.2 (c) 10 (some (z + 4))) := ⟨_, rfl⟩
  rw [← hΛ10]
  have E10 : am_ext (c) (z) 5 Λ I J Λ10 I9 J9 := by rw [hΛ10]; exact am_ext.put (show am_ext (c) (z) 5 Λ I J Λ9 I9 J9 from E9) (Or.inl rfl)
  have lo10 : am_low Λ10 (z) 5 := by rw [hΛ10]; exact lo9
  refine k_aload_n C (f := 0) (i := 0) (p := 0) rfl rfl dX0_init_44 ?_
  refine k_bipush C bc_8 dX0_init_45 ?_
  refine k_newA C (h := z + 5) (N := 8) (kd := 2) hz lo10 (by omega) am_ar_i rfl (by decide) (Or.inl ⟨rfl, rfl⟩) ⟨Nat.le_of_ble_eq_true rfl, Nat.le_of_ble_eq_true rfl⟩ dX0_init_47 ?_
  obtain ⟨Λ11, I11, J11, hΛ11, hI11, hJ11⟩ : ∃ (a : am_L) (b : am_I) (c : am_J), a = am_nS Λ10 (z + 5) (2, 8) ∧ b = am_nI I9 (z + 5) ∧ c = am_nJ J9 (z + 5) := ⟨_, _, _, rfl, rfl, rfl⟩
  rw [← hΛ11, ← hI11, ← hJ11]
  have E11 : am_ext (c) (z) 6 Λ I J Λ11 I11 J11 := by rw [hΛ11, hI11, hJ11]; exact am_ext.new (show am_ext (c) (z) 5 Λ I J Λ10 I9 J9 from E10) (by omega)
  have lo11 : am_low Λ11 (z) 6 := Or.inr ⟨z + 5, by rw [hΛ11, nS_eq]; decide, by omega⟩
  refine k_putF C (b := z + 5) hin f_X0_27 (by simp [hΛ11, hΛ10, hΛ9, hΛ8, hΛ7, hΛ6, hΛ5, hΛ4, hΛ3, hΛ2, hΛ1, am_nS, am_ur, hs, n0, n1, n2, n3, n4, n5, n6, n7, n8, n9]) rfl rfl (Or.inl rfl) dX0_init_49 ?_
  obtain ⟨Λ12, hΛ12⟩ : ∃ a : am_L, a = (Λ11.1, am_ur Λ11.2 (c) 11 (some (z + 5))) := ⟨_, rfl⟩
  rw [← hΛ12]
  have E12 : am_ext (c) (z) 6 Λ I J Λ12 I11 J11 := by rw [hΛ12]; exact am_ext.put (show am_ext (c) (z) 6 Λ I J Λ11 I11 J11 from E11) (Or.inl rfl)
  have lo12 : am_low Λ12 (z) 6 := by rw [hΛ12]; exact lo11
  refine k_aload_n C (f := 0) (i := 0) (p := 0) rfl rfl dX0_init_52 ?_
  refine k_bipush C bc_20 dX0_init_53 ?_
  refine k_newA C (h := z + 6) (N := 20) (kd := 2) hz lo12 (by omega) am_ar_i rfl (by decide) (Or.inl ⟨rfl, rfl⟩) ⟨Nat.le_of_ble_eq_true rfl, Nat.le_of_ble_eq_true rfl⟩ dX0_init_55 ?_
  obtain ⟨Λ13, I13, J13, hΛ13, hI13, hJ13⟩ : ∃ (a : am_L) (b : am_I) (c : am_J), a = am_nS Λ12 (z + 6) (2, 20) ∧ b = am_nI I11 (z + 6) ∧ c = am_nJ J11 (z + 6) := ⟨_, _, _, rfl, rfl, rfl⟩
  rw [← hΛ13, ← hI13, ← hJ13]
  have E13 : am_ext (c) (z) 7 Λ I J Λ13 I13 J13 := by rw [hΛ13, hI13, hJ13]; exact am_ext.new (show am_ext (c) (z) 6 Λ I J Λ12 I11 J11 from E12) (by omega)
  have lo13 : am_low Λ13 (z) 7 := Or.inr ⟨z + 6, by rw [hΛ13, nS_eq]; decide, by omega⟩
  refine k_putF C (b := z + 6) hin f_X0_30 (by simp [hΛ13, hΛ12, hΛ11, hΛ10, hΛ9, hΛ8, hΛ7, hΛ6, hΛ5, hΛ4, hΛ3, hΛ2, hΛ1, am_nS, am_ur, hs, n0, n1, n2, n3, n4, n5, n6, n7, n8, n9]) rfl rfl (Or.inl rfl) dX0_init_57 ?_
  obtain ⟨Λ14, hΛ14⟩ : ∃ a : am_L, a = (Λ13.1, am_ur Λ13.2 (c) 13 (some (z + 6))) := ⟨_, rfl⟩
  rw [← hΛ14]
  have E14 : am_ext (c) (z) 7 Λ I J Λ14 I13 J13 := by rw [hΛ14]; exact am_ext.put (show am_ext (c) (z) 7 Λ I J Λ13 I13 J13 from E13) (Or.inl rfl)
  have lo14 : am_low Λ14 (z) 7 := by rw [hΛ14]; exact lo13
  refine k_aload_n C (f := 0) (i := 0) (p := 0) rfl rfl dX0_init_60 ?_
  refine k_bipush C bc_20 dX0_init_61 ?_
  refine k_newA C (h := z + 7) (N := 20) (kd := 2) hz lo14 (by omega) am_ar_i rfl (by decide) (Or.inl ⟨rfl, rfl⟩) ⟨Nat.le_of_ble_eq_true rfl, Nat.le_of_ble_eq_true rfl⟩ dX0_init_63 ?_
  obtain ⟨Λ15, I15, J15, hΛ15, hI15, hJ15⟩ : ∃ (a : am_L) (b : am_I) (c : am_J), a = am_nS Λ14 (z + 7) (2, 20) ∧ b = am_nI I13 (z + 7) ∧ c = am_nJ J13 (z + 7) := ⟨_, _, _, rfl, rfl, rfl⟩
  rw [← hΛ15, ← hI15, ← hJ15]
  have E15 : am_ext (c) (z) 8 Λ I J Λ15 I15 J15 := by rw [hΛ15, hI15, hJ15]; exact am_ext.new (show am_ext (c) (z) 7 Λ I J Λ14 I13 J13 from E14) (by omega)
  have lo15 : am_low Λ15 (z) 8 := Or.inr ⟨z + 7, by rw [hΛ15, nS_eq]; decide, by omega⟩
  refine k_putF C (b := z + 7) hin f_X0_33 (by simp [hΛ15, hΛ14, hΛ13, hΛ12, hΛ11, hΛ10, hΛ9, hΛ8, hΛ7, hΛ6, hΛ5, hΛ4, hΛ3, hΛ2, hΛ1, am_nS, am_ur, hs, n0, n1, n2, n3, n4, n5, n6, n7, n8, n9]) rfl rfl (Or.inl rfl) dX0_init_65 ?_
  obtain ⟨Λ16, hΛ16⟩ : ∃ a : am_L, a = (Λ15.1, am_ur Λ15.2 (c) 14 (some (z + 7))) := ⟨_, rfl⟩
  rw [← hΛ16]
  have E16 : am_ext (c) (z) 8 Λ I J Λ16 I15 J15 := by rw [hΛ16]; exact am_ext.put (show am_ext (c) (z) 8 Λ I J Λ15 I15 J15 from E15) (Or.inl rfl)
  have lo16 : am_low Λ16 (z) 8 := by rw [hΛ16]; exact lo15
  refine k_aload_n C (f := 0) (i := 0) (p := 0) rfl rfl dX0_init_68 ?_
  refine k_bipush C bc_20 dX0_init_69 ?_
  refine k_newA C (h := z + 8) (N := 20) (kd := 2) hz lo16 (by omega) am_ar_i rfl (by decide) (Or.inl ⟨rfl, rfl⟩) ⟨Nat.le_of_ble_eq_true rfl, Nat.le_of_ble_eq_true rfl⟩ dX0_init_71 ?_
  obtain ⟨Λ17, I17, J17, hΛ17, hI17, hJ17⟩ : ∃ (a : am_L) (b : am_I) (c : am_J), a = am_nS Λ16 (z + 8) (2, 20) ∧ b = am_nI I15 (z + 8) ∧ c = am_nJ J15 (z + 8) := ⟨_, _, _, rfl, rfl, rfl⟩
  rw [← hΛ17, ← hI17, ← hJ17]
  have E17 : am_ext (c) (z) 9 Λ I J Λ17 I17 J17 := by rw [hΛ17, hI17, hJ17]; exact am_ext.new (show am_ext (c) (z) 8 Λ I J Λ16 I15 J15 from E16) (by omega)
  have lo17 : am_low Λ17 (z) 9 := Or.inr ⟨z + 8, by rw [hΛ17, nS_eq]; decide, by omega⟩
  refine k_putF C (b := z + 8) hin f_X0_36 (by simp [hΛ17, hΛ16, hΛ15, hΛ14, hΛ13, hΛ12, hΛ11, hΛ10, hΛ9, hΛ8, hΛ7, hΛ6, hΛ5, hΛ4, hΛ3, hΛ2, hΛ1, am_nS, am_ur, hs, n0, n1, n2, n3, n4, n5, n6, n7, n8, n9]) rfl rfl (Or.inl rfl) dX0_init_73 ?_
  obtain ⟨Λ18, hΛ18⟩ : ∃ a : am_L, a = (Λ17.1, am_ur Λ17.2 (c) 15 (some (z + 8))) := ⟨_, rfl⟩
  rw [← hΛ18]
  have E18 : am_ext (c) (z) 9 Λ I J Λ18 I17 J17 := by rw [hΛ18]; exact am_ext.put (show am_ext (c) (z) 9 Λ I J Λ17 I17 J17 from E17) (Or.inl rfl)
  have lo18 : am_low Λ18 (z) 9 := by rw [hΛ18]; exact lo17
  refine k_aload_n C (f := 0) (i := 0) (p := 0) rfl rfl dX0_init_76 ?_
  refine k_bipush C bc_20 dX0_init_77 ?_
  refine k_newA C (h := z + 9) (N := 20) (kd := 2) hz lo18 (by omega) am_ar_i rfl (by decide) (Or.inl ⟨rfl, rfl⟩) ⟨Nat.le_of_ble_eq_true rfl, Nat.le_of_ble_eq_true rfl⟩ dX0_init_79 ?_
  obtain ⟨Λ19, I19, J19, hΛ19, hI19, hJ19⟩ : ∃ (a : am_L) (b : am_I) (c : am_J), a = am_nS Λ18 (z + 9) (2, 20) ∧ b = am_nI I17 (z + 9) ∧ c = am_nJ J17 (z + 9) := ⟨_, _, _, rfl, rfl, rfl⟩
  rw [← hΛ19, ← hI19, ← hJ19]
  have E19 : am_ext (c) (z) 10 Λ I J Λ19 I19 J19 := by rw [hΛ19, hI19, hJ19]; exact am_ext.new (show am_ext (c) (z) 9 Λ I J Λ18 I17 J17 from E18) (by omega)
  have lo19 : am_low Λ19 (z) 10 := Or.inr ⟨z + 9, by rw [hΛ19, nS_eq]; decide, by omega⟩
  refine k_putF C (b := z + 9) hin f_X0_39 (by simp [hΛ19, hΛ18, hΛ17, hΛ16, hΛ15, hΛ14, hΛ13, hΛ12, hΛ11, hΛ10, hΛ9, hΛ8, hΛ7, hΛ6, hΛ5, hΛ4, hΛ3, hΛ2, hΛ1, am_nS, am_ur, hs, n0, n1, n2, n3, n4, n5, n6, n7, n8, n9]) rfl rfl (Or.inl rfl) dX0_init_81 ?_
  obtain ⟨Λ20, hΛ20⟩ : ∃ a : am_L, a = (Λ19.1, am_ur Λ19.2 (c) 16 (some (z + 9))) := ⟨_, rfl⟩
  rw [← hΛ20]
  have E20 : am_ext (c) (z) 10 Λ I J Λ20 I19 J19 := by rw [hΛ20]; exact am_ext.put (show am_ext (c) (z) 10 Λ I J Λ19 I19 J19 from E19) (Or.inl rfl)
  have lo20 : am_low Λ20 (z) 10 := by rw [hΛ20]; exact lo19
  refine k_aload_n C (f := 0) (i := 0) (p := 0) rfl rfl dX0_init_84 ?_
  refine k_aload_n C (f := 1) (i := 1) (p := 1) rfl rfl dX0_init_85 ?_
  refine k_putF C (b := p) hin f_X0_42 (by simp [hΛ20, hΛ19, hΛ18, hΛ17, hΛ16, hΛ15, hΛ14, hΛ13, hΛ12, hΛ11, hΛ10, hΛ9, hΛ8, hΛ7, hΛ6, hΛ5, hΛ4, hΛ3, hΛ2, hΛ1, am_nS, am_ur, hs, n0, n1, n2, n3, n4, n5, n6, n7, n8, n9]) rfl rfl (Or.inr (Or.inr (Or.inr (Or.inr ⟨_, rfl⟩)))) dX0_init_86 ?_
  obtain ⟨Λ21, hΛ21⟩ : ∃ a : am_L, a = (Λ20.1, am_ur Λ20.2 (c) 0 (some (p))) := ⟨_, rfl⟩
  rw [← hΛ21]
  have E21 : am_ext (c) (z) 10 Λ I J Λ21 I19 J19 := by rw [hΛ21]; exact am_ext.put (show am_ext (c) (z) 10 Λ I J Λ20 I19 J19 from E20) (Or.inl rfl)
  have lo21 : am_low Λ21 (z) 10 := by rw [hΛ21]; exact lo20
  exact k_vret C (Nat.le_of_ble_eq_true rfl) (Nat.le_of_ble_eq_true rfl) (⟨rfl, by
    have hp2 : PlanLay Λ21 p := PlanLay_agree hp (fun b h1 h2 => (E21.1 b (by unfold am_out; omega)).1) (E21.2.1 p (by unfold am_out; omega) (by omega))
    refine ⟨?_, E21⟩
    unfold CarLay
    refine ⟨?_, ?_, ?_, ?_, ?_, ?_, ?_, ?_, ?_, ?_, ?_, ?_, ?_, ?_, ?_, ?_, ?_, ?_, ?_, ?_, ?_, ?_, hp2, hcz, hcp, hzp⟩
    all_goals (simp [hΛ21, hΛ20, hΛ19, hΛ18, hΛ17, hΛ16, hΛ15, hΛ14, hΛ13, hΛ12, hΛ11, hΛ10, hΛ9, hΛ8, hΛ7, hΛ6, hΛ5, hΛ4, hΛ3, hΛ2, hΛ1, am_nS, am_ur, hs, n0, n1, n2, n3, n4, n5, n6, n7, n8, n9])⟩) dX0_init_89
