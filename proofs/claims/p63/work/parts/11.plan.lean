theorem am_b_congr {P Q : Prop} [Decidable P] [Decidable Q] (h : P ↔ Q) : am_b P = am_b Q := by
  by_cases hp : P
  · simp only [am_b, hp, h.mp hp, if_true]
  · have hq : ¬ Q := fun q => hp (h.mpr q)
    simp only [am_b, hp, hq, if_false]
theorem nI_le0 {n : Nat} (h : n < 2 ^ 31) : nI n ≤ 0 ↔ n = 0 := by
  constructor
  · intro q
    by_cases e : n = 0
    · exact e
    · exact absurd q (nI_nle (by omega) h)
  · intro e
    subst e
    exact Int32.le_refl 0
theorem sp_maxr {x y : Int32} : (if x < y then y else x) = sp_max x y := rfl
theorem nI_m1 {n : Nat} (h : n < 2 ^ 31) : ¬ nI n = -1 := by
  intro q
  have h1 := nI_toInt h
  rw [q] at h1
  have h2 : (-1 : Int32).toInt = -1 := by decide
  omega
theorem nI_neg {n : Nat} (h : n < 2 ^ 31) : ¬ nI n < 0 := nI_pos h
theorem am_m1neg : (-1 : Int32) < 0 := by decide
set_option maxHeartbeats 4000000 in
set_option maxRecDepth 100000 in
theorem ct_X3_hasCamel {G : am_G} {Λ : am_L} {I : am_I} {J : am_J} {p : Nat} {x : Int32} (hp : PlanLay Λ p) : am_Ct G yX3_hasCamel cX3_hasCamel 2 (some .boolean) { frames := 0, cells := 0, slots := 0, locals := 0 } [.ref p, .int x] Λ I J (am_pure (.int (am_b (0 ≤ x ∧ x < I p 1))) Λ I J) am_never := by
  refine am_ct_of (own := RX3) rfl (by decide) (Nat.le_of_ble_eq_true rfl) (fun X C => ?_)
  change am_K G X { frames := 0, cells := 0, slots := 0, locals := 0 } 2 Λ I J 0 0 0 [(0, .ref p), (1, .int x)] []
  refine k_iload_n C (f := 1) (i := 1) (p := 1) rfl rfl dX3_hasCamel_0 ?_
  refine k_if_lt C (tgt := 16) (by decide) dX3_hasCamel_1 (fun hc1 => ?_) (fun hc1 => ?_)
  · skip
    refine k_iconst C ic_0 dX3_hasCamel_16 ?_
    exact k_zret C (by first | rfl | exact am_bz) (Nat.le_of_ble_eq_true rfl) (Nat.le_of_ble_eq_true rfl) (⟨congrArg (fun z => some (Value.int z)) (am_bf (by first | exact ⟨Int32.not_lt.mp hc1, Int32.not_le.mp hc9⟩ | (intro h; exact absurd h.1 (Int32.not_le.mpr hc1)) | (intro h; exact absurd h.2 (Int32.not_lt.mpr hc9)))), rfl, rfl, rfl⟩) dX3_hasCamel_17
  · skip
    refine k_iload_n C (f := 1) (i := 1) (p := 1) rfl rfl dX3_hasCamel_4 ?_
    refine k_aload_n C (f := 0) (i := 0) (p := 0) rfl rfl dX3_hasCamel_5 ?_
    refine k_getI C f_X3_43 (L3_s (by assumption)) (fun _ _ _ => rfl) (by first | exact PR_1 (by assumption) | assumption | rfl) dX3_hasCamel_6 ?_
    first
    | refine k_icmpN_ge C (tgt := 16) (by omega) (by omega) (by decide) dX3_hasCamel_9 (fun hc9 => ?_) (fun hc9 => ?_)
    | refine k_icmp_ge C (tgt := 16) (by decide) dX3_hasCamel_9 (fun hc9 => ?_) (fun hc9 => ?_)
    · skip
      refine k_iconst C ic_0 dX3_hasCamel_16 ?_
      exact k_zret C (by first | rfl | exact am_bz) (Nat.le_of_ble_eq_true rfl) (Nat.le_of_ble_eq_true rfl) (⟨congrArg (fun z => some (Value.int z)) (am_bf (by first | exact ⟨Int32.not_lt.mp hc1, Int32.not_le.mp hc9⟩ | (intro h; exact absurd h.1 (Int32.not_le.mpr hc1)) | (intro h; exact absurd h.2 (Int32.not_lt.mpr hc9)))), rfl, rfl, rfl⟩) dX3_hasCamel_17
    · skip
      refine k_iconst C ic_1 dX3_hasCamel_12 ?_
      refine k_goto C (tgt := 17) (by decide) dX3_hasCamel_13 ?_
      exact k_zret C (by first | rfl | exact am_bz) (Nat.le_of_ble_eq_true rfl) (Nat.le_of_ble_eq_true rfl) (⟨congrArg (fun z => some (Value.int z)) (am_bt (by first | exact ⟨Int32.not_lt.mp hc1, Int32.not_le.mp hc9⟩ | (intro h; exact absurd h.1 (Int32.not_le.mpr hc1)) | (intro h; exact absurd h.2 (Int32.not_lt.mpr hc9)))), rfl, rfl, rfl⟩) dX3_hasCamel_17
set_option maxHeartbeats 4000000 in
set_option maxRecDepth 100000 in
theorem ct_X3_greatestStorm {G : am_G} {Λ : am_L} {I : am_I} {J : am_J} {p : Nat} {d : Int32} {r : Nat → Int32} (hp : PlanLay Λ p) (hr : PlanRel I p r) : am_Ct G yX3_greatestStorm cX3_greatestStorm 4 (some .int) { frames := 1, cells := 0, slots := 0, locals := 21 } [.ref p, .int d] Λ I J (am_pure (.int (sp_storm r d)) Λ I J) am_never := by
  refine am_ct_of (own := RX3) rfl (by decide) (Nat.le_of_ble_eq_true rfl) (fun X C => ?_)
  change am_K G X { frames := 1, cells := 0, slots := 0, locals := 21 } 4 Λ I J 0 0 0 [(0, .ref p), (1, .int d)] []
  have hns := PR_t hr
  refine k_iconst C ic_0 dX3_greatestStorm_0 ?_
  refine k_istore_n C (f := 2) (i := 2) (lv := [(2, _), (0, _), (1, _)]) rfl (Nat.le_of_ble_eq_true rfl) rfl dX3_greatestStorm_1 ?_
  refine k_iconst C ic_0 dX3_greatestStorm_2 ?_
  refine k_istore_n C (f := 3) (i := 3) (lv := [(3, _), (2, _), (0, _), (1, _)]) rfl (Nat.le_of_ble_eq_true rfl) rfl dX3_greatestStorm_3 ?_
  have loop4 : ∀ (f : Nat) (k : Nat) (acc : Int32), (k ≤ sp_ns r) → (acc = sp_stormTo r d k) → (sp_ns r - k) < f → am_K G X { frames := 1, cells := 0, slots := 0, locals := 21 } 4 Λ I J 0 0 4 [(0, .ref p), (1, .int d), (2, .int acc), (3, .int (nI k))] [] := by
    intro f
    induction f with
    | zero => intro k acc hk ha hf; exact absurd hf (Nat.not_lt_zero _)
    | succ f ih4 =>
      intro k acc hk ha hf
      refine k_iload_n C (f := 3) (i := 3) (p := 3) rfl rfl dX3_greatestStorm_4 ?_
      refine k_aload_n C (f := 0) (i := 0) (p := 0) rfl rfl dX3_greatestStorm_5 ?_
      refine k_getI C f_X3_49 (L3_s (by assumption)) (fun _ _ _ => rfl) (PR_9 hr) dX3_greatestStorm_6 ?_
      first
      | refine k_icmpN_ge C (tgt := 49) (by omega) (by omega) (by decide) dX3_greatestStorm_9 (fun hc9 => ?_) (fun hc9 => ?_)
      | refine k_icmp_ge C (tgt := 49) (by decide) dX3_greatestStorm_9 (fun hc9 => ?_) (fun hc9 => ?_)
      · skip
        refine k_iload_n C (f := 2) (i := 2) (p := 2) rfl rfl dX3_greatestStorm_49 ?_
        exact k_iret C (Nat.le_of_ble_eq_true rfl) (Nat.le_of_ble_eq_true rfl) (⟨by rw [ha, sp_storm, show k = sp_ns r by omega], rfl, rfl, rfl⟩) dX3_greatestStorm_50
      · skip
        refine k_aload_n C (f := 0) (i := 0) (p := 0) rfl rfl dX3_greatestStorm_12 ?_
        refine k_getR C f_X3_30 (L3_s (by assumption)) (fun _ _ _ => rfl) (L3_10 (by assumption)) dX3_greatestStorm_13 ?_
        refine k_iload_n C (f := 3) (i := 3) (p := 3) rfl rfl dX3_greatestStorm_16 ?_
        refine k_iald C (A3_10 (by assumption)) (by first | rfl | assumption) (by omega) (by decide) (PRa_10 hr (by omega)) dX3_greatestStorm_17 ?_
        refine k_iload_n C (f := 1) (i := 1) (p := 1) rfl rfl dX3_greatestStorm_18 ?_
        first
        | refine k_icmpN_gt C (tgt := 43) (by omega) (by omega) (by decide) dX3_greatestStorm_19 (fun hc19 => ?_) (fun hc19 => ?_)
        | refine k_icmp_gt C (tgt := 43) (by decide) dX3_greatestStorm_19 (fun hc19 => ?_) (fun hc19 => ?_)
        · skip
          refine k_iinc C (i := 3) (p := 3) (lv := [(3, _), (0, _), (1, _), (2, _)]) (Nat.le_of_ble_eq_true rfl) rfl (by first | exact am_inc1 _ | rfl) rfl dX3_greatestStorm_43 ?_
          refine k_goto C (tgt := 4) (by decide) dX3_greatestStorm_46 ?_
          refine k_sub [1, 2, 3, 0] rfl ?_
          first
          | exact ih4 (k + 1) _ (by omega) (by rw [ha]; exact (sp_stormTo_t ⟨Int32.not_lt.mp hc19, Int32.not_lt.mp hc29⟩).symm) (by omega)
          | exact ih4 (k + 1) _ (by omega) (by rw [ha]; exact (sp_stormTo_f (fun h => Int32.not_le.mpr hc19 h.1)).symm) (by omega)
          | exact ih4 (k + 1) _ (by omega) (by rw [ha]; exact (sp_stormTo_f (fun h => Int32.not_le.mpr hc29 h.2)).symm) (by omega)
        · skip
          refine k_iload_n C (f := 1) (i := 1) (p := 1) rfl rfl dX3_greatestStorm_22 ?_
          refine k_aload_n C (f := 0) (i := 0) (p := 0) rfl rfl dX3_greatestStorm_23 ?_
          refine k_getR C f_X3_33 (L3_s (by assumption)) (fun _ _ _ => rfl) (L3_11 (by assumption)) dX3_greatestStorm_24 ?_
          refine k_iload_n C (f := 3) (i := 3) (p := 3) rfl rfl dX3_greatestStorm_27 ?_
          refine k_iald C (A3_11 (by assumption)) (by first | rfl | assumption) (by omega) (by decide) (PRa_11 hr (by omega)) dX3_greatestStorm_28 ?_
          first
          | refine k_icmpN_gt C (tgt := 43) (by omega) (by omega) (by decide) dX3_greatestStorm_29 (fun hc29 => ?_) (fun hc29 => ?_)
          | refine k_icmp_gt C (tgt := 43) (by decide) dX3_greatestStorm_29 (fun hc29 => ?_) (fun hc29 => ?_)
          · skip
            refine k_iinc C (i := 3) (p := 3) (lv := [(3, _), (0, _), (1, _), (2, _)]) (Nat.le_of_ble_eq_true rfl) rfl (by first | exact am_inc1 _ | rfl) rfl dX3_greatestStorm_43 ?_
            refine k_goto C (tgt := 4) (by decide) dX3_greatestStorm_46 ?_
            refine k_sub [1, 2, 3, 0] rfl ?_
            first
            | exact ih4 (k + 1) _ (by omega) (by rw [ha]; exact (sp_stormTo_t ⟨Int32.not_lt.mp hc19, Int32.not_lt.mp hc29⟩).symm) (by omega)
            | exact ih4 (k + 1) _ (by omega) (by rw [ha]; exact (sp_stormTo_f (fun h => Int32.not_le.mpr hc19 h.1)).symm) (by omega)
            | exact ih4 (k + 1) _ (by omega) (by rw [ha]; exact (sp_stormTo_f (fun h => Int32.not_le.mpr hc29 h.2)).symm) (by omega)
          · skip
            refine k_iload_n C (f := 2) (i := 2) (p := 2) rfl rfl dX3_greatestStorm_32 ?_
            refine k_aload_n C (f := 0) (i := 0) (p := 0) rfl rfl dX3_greatestStorm_33 ?_
            refine k_getR C f_X3_36 (L3_s (by assumption)) (fun _ _ _ => rfl) (L3_12 (by assumption)) dX3_greatestStorm_34 ?_
            refine k_iload_n C (f := 3) (i := 3) (p := 3) rfl rfl dX3_greatestStorm_37 ?_
            refine k_iald C (A3_12 (by assumption)) (by first | rfl | assumption) (by omega) (by decide) (PRa_12 hr (by omega)) dX3_greatestStorm_38 ?_
            refine k_max C (rfl) m_X3_58 ⟨Nat.le_of_ble_eq_true rfl, Nat.le_of_ble_eq_true rfl⟩ ⟨Nat.le_of_ble_eq_true rfl, Nat.le_of_ble_eq_true rfl⟩ dX3_greatestStorm_39 ?_
            refine k_istore_n C (f := 2) (i := 2) (lv := [(2, _), (0, _), (1, _), (3, _)]) rfl (Nat.le_of_ble_eq_true rfl) rfl dX3_greatestStorm_42 ?_
            refine k_iinc C (i := 3) (p := 3) (lv := [(3, _), (2, _), (0, _), (1, _)]) (Nat.le_of_ble_eq_true rfl) rfl (by first | exact am_inc1 _ | rfl) rfl dX3_greatestStorm_43 ?_
            refine k_goto C (tgt := 4) (by decide) dX3_greatestStorm_46 ?_
            refine k_sub [2, 3, 1, 0] rfl ?_
            first
            | exact ih4 (k + 1) _ (by omega) (by rw [ha]; exact (sp_stormTo_t ⟨Int32.not_lt.mp hc19, Int32.not_lt.mp hc29⟩).symm) (by omega)
            | exact ih4 (k + 1) _ (by omega) (by rw [ha]; exact (sp_stormTo_f (fun h => Int32.not_le.mpr hc19 h.1)).symm) (by omega)
            | exact ih4 (k + 1) _ (by omega) (by rw [ha]; exact (sp_stormTo_f (fun h => Int32.not_le.mpr hc29 h.2)).symm) (by omega)
  refine k_sub [2, 3, 1, 0] rfl ?_
  exact loop4 (sp_ns r + 1) 0 (nI 0) (Nat.zero_le _) rfl (by omega)
set_option maxHeartbeats 4000000 in
set_option maxRecDepth 100000 in
theorem ct_X3_wellAt {G : am_G} {Λ : am_L} {I : am_I} {J : am_J} {p : Nat} {x : Int32} {r : Nat → Int32} (hp : PlanLay Λ p) (hr : PlanRel I p r) : am_Ct G yX3_wellAt cX3_wellAt 3 (some .int) { frames := 0, cells := 0, slots := 0, locals := 0 } [.ref p, .int x] Λ I J (am_pure (.int (sp_wellOn r x)) Λ I J) am_never := by
  refine am_ct_of (own := RX3) rfl (by decide) (Nat.le_of_ble_eq_true rfl) (fun X C => ?_)
  change am_K G X { frames := 0, cells := 0, slots := 0, locals := 0 } 3 Λ I J 0 0 0 [(0, .ref p), (1, .int x)] []
  have hnw := PR_w hr
  refine k_iconst C ic_0 dX3_wellAt_0 ?_
  refine k_istore_n C (f := 2) (i := 2) (lv := [(2, _), (0, _), (1, _)]) rfl (Nat.le_of_ble_eq_true rfl) rfl dX3_wellAt_1 ?_
  have loop2 : ∀ (f : Nat) (k : Nat), (k ≤ sp_nw r) → (sp_wellOn r x = sp_wellFrom r x k (sp_nw r - k)) → (sp_nw r - k) < f → am_K G X { frames := 0, cells := 0, slots := 0, locals := 0 } 3 Λ I J 0 0 2 [(0, .ref p), (1, .int x), (2, .int (nI k))] [] := by
    intro f
    induction f with
    | zero => intro k hk ha hf; exact absurd hf (Nat.not_lt_zero _)
    | succ f ih2 =>
      intro k hk ha hf
      refine k_iload_n C (f := 2) (i := 2) (p := 2) rfl rfl dX3_wellAt_2 ?_
      refine k_aload_n C (f := 0) (i := 0) (p := 0) rfl rfl dX3_wellAt_3 ?_
      refine k_getI C f_X3_46 (L3_s (by assumption)) (fun _ _ _ => rfl) (PR_5 hr) dX3_wellAt_4 ?_
      first
      | refine k_icmpN_ge C (tgt := 28) (by omega) (by omega) (by decide) dX3_wellAt_7 (fun hc7 => ?_) (fun hc7 => ?_)
      | refine k_icmp_ge C (tgt := 28) (by decide) dX3_wellAt_7 (fun hc7 => ?_) (fun hc7 => ?_)
      · skip
        refine k_iconst C ic_m1 dX3_wellAt_28 ?_
        exact k_iret C (Nat.le_of_ble_eq_true rfl) (Nat.le_of_ble_eq_true rfl) (⟨by rw [ha, show sp_nw r - k = 0 by omega]; rfl, rfl, rfl, rfl⟩) dX3_wellAt_29
      · skip
        refine k_aload_n C (f := 0) (i := 0) (p := 0) rfl rfl dX3_wellAt_10 ?_
        refine k_getR C f_X3_21 (L3_s (by assumption)) (fun _ _ _ => rfl) (L3_6 (by assumption)) dX3_wellAt_11 ?_
        refine k_iload_n C (f := 2) (i := 2) (p := 2) rfl rfl dX3_wellAt_14 ?_
        refine k_iald C (A3_6 (by assumption)) (by first | rfl | assumption) (by omega) (by decide) (by first | exact PRa_6 (by assumption) (by omega) | assumption | rfl) dX3_wellAt_15 ?_
        refine k_iload_n C (f := 1) (i := 1) (p := 1) rfl rfl dX3_wellAt_16 ?_
        first
        | refine k_icmpN_ne C (tgt := 22) (by omega) (by omega) (by decide) dX3_wellAt_17 (fun hc17 => ?_) (fun hc17 => ?_)
        | refine k_icmp_ne C (tgt := 22) (by decide) dX3_wellAt_17 (fun hc17 => ?_) (fun hc17 => ?_)
        · skip
          refine k_iinc C (i := 2) (p := 2) (lv := [(2, _), (0, _), (1, _)]) (Nat.le_of_ble_eq_true rfl) rfl (by first | exact am_inc1 _ | rfl) rfl dX3_wellAt_22 ?_
          refine k_goto C (tgt := 2) (by decide) dX3_wellAt_25 ?_
          refine k_sub [1, 2, 0] rfl ?_
          exact ih2 (k + 1) (by omega) (by rw [ha, show sp_nw r - k = (sp_nw r - (k + 1)) + 1 by omega]; exact sp_wellFrom_f hc17) (by omega)
        · skip
          refine k_iload_n C (f := 2) (i := 2) (p := 2) rfl rfl dX3_wellAt_20 ?_
          exact k_iret C (Nat.le_of_ble_eq_true rfl) (Nat.le_of_ble_eq_true rfl) (⟨by rw [ha, show sp_nw r - k = (sp_nw r - (k + 1)) + 1 by omega]; rw [sp_wellFrom_t hc17], rfl, rfl, rfl⟩) dX3_wellAt_21
  refine k_sub [1, 2, 0] rfl ?_
  exact loop2 (sp_nw r + 1) 0 (Nat.zero_le _) rfl (by omega)
set_option maxHeartbeats 4000000 in
set_option maxRecDepth 100000 in
theorem ct_X3_hasCamelN {G : am_G} {Λ : am_L} {I : am_I} {J : am_J} {p j : Nat} {r : Nat → Int32} (hp : PlanLay Λ p) (hr : PlanRel I p r) (hj : j < 2 ^ 31) : am_Ct G yX3_hasCamel cX3_hasCamel 2 (some .boolean) { frames := 0, cells := 0, slots := 0, locals := 0 } [.ref p, .int (nI j)] Λ I J (am_pure (.int (am_b (j < sp_nc r))) Λ I J) am_never := by
  refine am_ct_of (own := RX3) rfl (by decide) (Nat.le_of_ble_eq_true rfl) (fun X C => ?_)
  change am_K G X { frames := 0, cells := 0, slots := 0, locals := 0 } 2 Λ I J 0 0 0 [(0, .ref p), (1, .int (nI j))] []
  have hnc := PR_c hr
  refine k_iload_n C (f := 1) (i := 1) (p := 1) rfl rfl dX3_hasCamel_0 ?_
  refine k_if_lt C (tgt := 16) (by decide) dX3_hasCamel_1 (fun hc1 => ?_) (fun hc1 => ?_)
  · skip
    exact absurd hc1 (nI_pos hj)
  · skip
    refine k_iload_n C (f := 1) (i := 1) (p := 1) rfl rfl dX3_hasCamel_4 ?_
    refine k_aload_n C (f := 0) (i := 0) (p := 0) rfl rfl dX3_hasCamel_5 ?_
    refine k_getI C f_X3_43 (L3_s (by assumption)) (fun _ _ _ => rfl) (PR_1 hr) dX3_hasCamel_6 ?_
    refine k_icmpN_ge C (tgt := 16) (by omega) (by omega) (by decide) dX3_hasCamel_9 (fun hc9 => ?_) (fun hc9 => ?_)
    · skip
      refine k_iconst C ic_0 dX3_hasCamel_16 ?_
      exact k_zret C (by first | rfl | exact am_bz) (Nat.le_of_ble_eq_true rfl) (Nat.le_of_ble_eq_true rfl) (⟨congrArg (fun z => some (Value.int z)) (am_bf (by omega)), rfl, rfl, rfl⟩) dX3_hasCamel_17
    · skip
      refine k_iconst C ic_1 dX3_hasCamel_12 ?_
      refine k_goto C (tgt := 17) (by decide) dX3_hasCamel_13 ?_
      exact k_zret C (by first | rfl | exact am_bz) (Nat.le_of_ble_eq_true rfl) (Nat.le_of_ble_eq_true rfl) (⟨congrArg (fun z => some (Value.int z)) (am_bt (by omega)), rfl, rfl, rfl⟩) dX3_hasCamel_17
