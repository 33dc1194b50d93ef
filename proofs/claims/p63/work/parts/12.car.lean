set_option maxHeartbeats 4000000 in
set_option maxRecDepth 100000 in
theorem ct_X0_hasLoadN {G : am_G} {Λ : am_L} {I : am_I} {J : am_J} {c q p : Nat} {r : Nat → Int32} {j : Nat} (hl : CarLay Λ c q p) (hr : CarRel I c q p r) (hj : j < 2 ^ 31) : am_Ct G yX0_hasLoad cX0_hasLoad 2 (some .boolean) { frames := 0, cells := 0, slots := 0, locals := 0 } [.ref c, .int (nI j)] Λ I J (am_pure (.int (am_b (j < sp_nl r))) Λ I J) am_never := by
  refine am_ct_of (own := RX0) rfl (by decide) (Nat.le_of_ble_eq_true rfl) (fun X C => ?_)
  change am_K G X { frames := 0, cells := 0, slots := 0, locals := 0 } 2 Λ I J 0 0 0 [(0, .ref c), (1, .int (nI j))] []
  have hp := L0_p hl
  have hpr := CR_p hr
  have hnc := PR_c hpr
  have hnl := CR_l hr
  refine k_iload_n C (f := 1) (i := 1) (p := 1) rfl rfl dX0_hasLoad_0 ?_
  refine k_if_lt C (tgt := 16) (by decide) dX0_hasLoad_1 (fun hc1 => ?_) (fun hc1 => ?_)
  · skip
    exact absurd hc1 (nI_pos hj)
  · skip
    refine k_iload_n C (f := 1) (i := 1) (p := 1) rfl rfl dX0_hasLoad_4 ?_
    refine k_aload_n C (f := 0) (i := 0) (p := 0) rfl rfl dX0_hasLoad_5 ?_
    refine k_getI C f_X0_69 (L0_s (by assumption)) (fun _ _ _ => rfl) (by first | exact CR_12 (by assumption) | assumption | rfl) dX0_hasLoad_6 ?_
    refine k_icmpN_ge C (tgt := 16) (by omega) (by omega) (by decide) dX0_hasLoad_9 (fun hc9 => ?_) (fun hc9 => ?_)
    · skip
      refine k_iconst C ic_0 dX0_hasLoad_16 ?_
      exact k_zret C (by first | rfl | exact am_bz) (Nat.le_of_ble_eq_true rfl) (Nat.le_of_ble_eq_true rfl) (⟨congrArg (fun z => some (Value.int z)) (am_bf (by omega)), rfl, rfl, rfl⟩) dX0_hasLoad_17
    · skip
      refine k_iconst C ic_1 dX0_hasLoad_12 ?_
      refine k_goto C (tgt := 17) (by decide) dX0_hasLoad_13 ?_
      exact k_zret C (by first | rfl | exact am_bz) (Nat.le_of_ble_eq_true rfl) (Nat.le_of_ble_eq_true rfl) (⟨congrArg (fun z => some (Value.int z)) (am_bt (by omega)), rfl, rfl, rfl⟩) dX0_hasLoad_17
set_option maxHeartbeats 4000000 in
set_option maxRecDepth 100000 in
theorem ct_X0_hasLoadX {G : am_G} {Λ : am_L} {I : am_I} {J : am_J} {c q p : Nat} {x : Int32} (hl : CarLay Λ c q p) : am_Ct G yX0_hasLoad cX0_hasLoad 2 (some .boolean) { frames := 0, cells := 0, slots := 0, locals := 0 } [.ref c, .int x] Λ I J (am_pure (.int (am_b (0 ≤ x ∧ x < I c 12))) Λ I J) am_never := by
  refine am_ct_of (own := RX0) rfl (by decide) (Nat.le_of_ble_eq_true rfl) (fun X C => ?_)
  change am_K G X { frames := 0, cells := 0, slots := 0, locals := 0 } 2 Λ I J 0 0 0 [(0, .ref c), (1, .int x)] []
  refine k_iload_n C (f := 1) (i := 1) (p := 1) rfl rfl dX0_hasLoad_0 ?_
  refine k_if_lt C (tgt := 16) (by decide) dX0_hasLoad_1 (fun hc1 => ?_) (fun hc1 => ?_)
  · skip
    refine k_iconst C ic_0 dX0_hasLoad_16 ?_
    exact k_zret C (by first | rfl | exact am_bz) (Nat.le_of_ble_eq_true rfl) (Nat.le_of_ble_eq_true rfl) (⟨congrArg (fun z => some (Value.int z)) (am_bf (by first | exact ⟨Int32.not_lt.mp hc1, Int32.not_le.mp hc9⟩ | (intro h; exact absurd h.1 (Int32.not_le.mpr hc1)) | (intro h; exact absurd h.2 (Int32.not_lt.mpr hc9)))), rfl, rfl, rfl⟩) dX0_hasLoad_17
  · skip
    refine k_iload_n C (f := 1) (i := 1) (p := 1) rfl rfl dX0_hasLoad_4 ?_
    refine k_aload_n C (f := 0) (i := 0) (p := 0) rfl rfl dX0_hasLoad_5 ?_
    refine k_getI C f_X0_69 (L0_s (by assumption)) (fun _ _ _ => rfl) (rfl) dX0_hasLoad_6 ?_
    first
    | refine k_icmpN_ge C (tgt := 16) (by omega) (by omega) (by decide) dX0_hasLoad_9 (fun hc9 => ?_) (fun hc9 => ?_)
    | refine k_icmp_ge C (tgt := 16) (by decide) dX0_hasLoad_9 (fun hc9 => ?_) (fun hc9 => ?_)
    · skip
      refine k_iconst C ic_0 dX0_hasLoad_16 ?_
      exact k_zret C (by first | rfl | exact am_bz) (Nat.le_of_ble_eq_true rfl) (Nat.le_of_ble_eq_true rfl) (⟨congrArg (fun z => some (Value.int z)) (am_bf (by first | exact ⟨Int32.not_lt.mp hc1, Int32.not_le.mp hc9⟩ | (intro h; exact absurd h.1 (Int32.not_le.mpr hc1)) | (intro h; exact absurd h.2 (Int32.not_lt.mpr hc9)))), rfl, rfl, rfl⟩) dX0_hasLoad_17
    · skip
      refine k_iconst C ic_1 dX0_hasLoad_12 ?_
      refine k_goto C (tgt := 17) (by decide) dX0_hasLoad_13 ?_
      exact k_zret C (by first | rfl | exact am_bz) (Nat.le_of_ble_eq_true rfl) (Nat.le_of_ble_eq_true rfl) (⟨congrArg (fun z => some (Value.int z)) (am_bt (by first | exact ⟨Int32.not_lt.mp hc1, Int32.not_le.mp hc9⟩ | (intro h; exact absurd h.1 (Int32.not_le.mpr hc1)) | (intro h; exact absurd h.2 (Int32.not_lt.mpr hc9)))), rfl, rfl, rfl⟩) dX0_hasLoad_17
set_option maxHeartbeats 4000000 in
set_option maxRecDepth 100000 in
theorem ct_X0_isAtEnd {G : am_G} {Λ : am_L} {I : am_I} {J : am_J} {c q p : Nat} {r : Nat → Int32}  (hl : CarLay Λ c q p) (hr : CarRel I c q p r) : am_Ct G yX0_isAtEnd cX0_isAtEnd 1 (some .boolean) { frames := 0, cells := 0, slots := 0, locals := 0 } [.ref c] Λ I J (am_pure (.int (am_b (r 0 ≤ r 1))) Λ I J) am_never := by
  refine am_ct_of (own := RX0) rfl (by decide) (Nat.le_of_ble_eq_true rfl) (fun X C => ?_)
  change am_K G X { frames := 0, cells := 0, slots := 0, locals := 0 } 1 Λ I J 0 0 0 [(0, .ref c)] []
  have hp := L0_p hl
  have hpr := CR_p hr
  have hnc := PR_c hpr
  have hnl := CR_l hr
  refine k_aload_n C (f := 0) (i := 0) (p := 0) rfl rfl dX0_isAtEnd_0 ?_
  refine k_getI C f_X0_46 (L0_s (by assumption)) (fun _ _ _ => rfl) (by first | exact CR_1 (by assumption) | assumption | rfl) dX0_isAtEnd_1 ?_
  refine k_aload_n C (f := 0) (i := 0) (p := 0) rfl rfl dX0_isAtEnd_4 ?_
  refine k_getR C f_X0_42 (L0_s (by assumption)) (fun _ _ _ => rfl) (L0_0 (by assumption)) dX0_isAtEnd_5 ?_
  refine k_getI C f_X0_86 (L3_s (by assumption)) (fun _ _ _ => rfl) (by first | exact PR_0 (by assumption) | assumption | rfl) dX0_isAtEnd_8 ?_
  first
  | refine k_icmpN_lt C (tgt := 18) (by omega) (by omega) (by decide) dX0_isAtEnd_11 (fun hc11 => ?_) (fun hc11 => ?_)
  | refine k_icmp_lt C (tgt := 18) (by decide) dX0_isAtEnd_11 (fun hc11 => ?_) (fun hc11 => ?_)
  · skip
    refine k_iconst C ic_0 dX0_isAtEnd_18 ?_
    exact k_zret C (by first | rfl | exact am_bz) (Nat.le_of_ble_eq_true rfl) (Nat.le_of_ble_eq_true rfl) (⟨congrArg (fun z => some (Value.int z)) (am_bf (by first | exact Int32.not_lt.mp hc11 | exact Int32.not_le.mpr hc11)), rfl, rfl, rfl⟩) dX0_isAtEnd_19
  · skip
    refine k_iconst C ic_1 dX0_isAtEnd_14 ?_
    refine k_goto C (tgt := 19) (by decide) dX0_isAtEnd_15 ?_
    exact k_zret C (by first | rfl | exact am_bz) (Nat.le_of_ble_eq_true rfl) (Nat.le_of_ble_eq_true rfl) (⟨congrArg (fun z => some (Value.int z)) (am_bt (by first | exact Int32.not_lt.mp hc11 | exact Int32.not_le.mpr hc11)), rfl, rfl, rfl⟩) dX0_isAtEnd_19
set_option maxHeartbeats 4000000 in
set_option maxRecDepth 100000 in
theorem ct_X0_isLiving {G : am_G} {Λ : am_L} {I : am_I} {J : am_J} {c q p : Nat} {r : Nat → Int32} {j : Nat} (hl : CarLay Λ c q p) (hr : CarRel I c q p r) (hj : j < 2 ^ 31) : am_Ct G yX0_isLiving cX0_isLiving 2 (some .boolean) { frames := 1, cells := 0, slots := 0, locals := 21 } [.ref c, .int (nI j)] Λ I J (am_pure (.int (am_b (j < sp_nc r ∧ r (16 + 8 * j) < nI 3))) Λ I J) am_never := by
  refine am_ct_of (own := RX0) rfl (by decide) (Nat.le_of_ble_eq_true rfl) (fun X C => ?_)
  change am_K G X { frames := 1, cells := 0, slots := 0, locals := 21 } 2 Λ I J 0 0 0 [(0, .ref c), (1, .int (nI j))] []
  have hp := L0_p hl
  have hpr := CR_p hr
  have hnc := PR_c hpr
  have hnl := CR_l hr
  refine k_aload_n C (f := 0) (i := 0) (p := 0) rfl rfl dX0_isLiving_0 ?_
  refine k_getR C f_X0_42 (L0_s (by assumption)) (fun _ _ _ => rfl) (L0_0 (by assumption)) dX0_isLiving_1 ?_
  refine k_iload_n C (f := 1) (i := 1) (p := 1) rfl rfl dX0_isLiving_4 ?_
  refine k_callVp C s_X0_100 h_X3_hasCamel (L3_s (by assumption)) rfl (ct_X3_hasCamelN (by first | assumption | omega) (by first | assumption | omega) (by first | assumption | omega)) rfl rfl (Nat.le_of_ble_eq_true rfl) ⟨Nat.le_of_ble_eq_true rfl, Nat.le_of_ble_eq_true rfl⟩ ⟨Nat.le_of_ble_eq_true rfl, Nat.le_of_ble_eq_true rfl⟩ ⟨rfl, rfl⟩ dX0_isLiving_5 ?_
  first
  | refine k_ifb_eq C (tgt := 25) (by decide) dX0_isLiving_8 (fun hc8 => ?_) (fun hc8 => ?_)
  | refine k_if_eq C (tgt := 25) (by decide) dX0_isLiving_8 (fun hc8 => ?_) (fun hc8 => ?_)
  · skip
    refine k_iconst C ic_0 dX0_isLiving_25 ?_
    exact k_zret C (by first | rfl | exact am_bz) (Nat.le_of_ble_eq_true rfl) (Nat.le_of_ble_eq_true rfl) (⟨congrArg (fun z => some (Value.int z)) (am_bf (by first | exact ⟨hc8, Int32.not_le.mp hc18⟩ | (intro h; exact absurd h.1 hc8) | (intro h; exact absurd h.2 (Int32.not_lt.mpr hc18)))), rfl, rfl, rfl⟩) dX0_isLiving_26
  · skip
    refine k_aload_n C (f := 0) (i := 0) (p := 0) rfl rfl dX0_isLiving_11 ?_
    refine k_getR C f_X0_21 (L0_s (by assumption)) (fun _ _ _ => rfl) (L0_9 (by assumption)) dX0_isLiving_12 ?_
    refine k_iload_n C (f := 1) (i := 1) (p := 1) rfl rfl dX0_isLiving_15 ?_
    refine k_iald C (A0_9 (by assumption)) (by first | rfl | assumption) (by omega) (by decide) (by first | exact CRa_9 (by assumption) (by omega) | assumption | rfl) dX0_isLiving_16 ?_
    refine k_iconst C ic_3 dX0_isLiving_17 ?_
    first
    | refine k_icmpN_ge C (tgt := 25) (by omega) (by omega) (by decide) dX0_isLiving_18 (fun hc18 => ?_) (fun hc18 => ?_)
    | refine k_icmp_ge C (tgt := 25) (by decide) dX0_isLiving_18 (fun hc18 => ?_) (fun hc18 => ?_)
    · skip
      refine k_iconst C ic_0 dX0_isLiving_25 ?_
      exact k_zret C (by first | rfl | exact am_bz) (Nat.le_of_ble_eq_true rfl) (Nat.le_of_ble_eq_true rfl) (⟨congrArg (fun z => some (Value.int z)) (am_bf (by first | exact ⟨hc8, Int32.not_le.mp hc18⟩ | (intro h; exact absurd h.1 hc8) | (intro h; exact absurd h.2 (Int32.not_lt.mpr hc18)))), rfl, rfl, rfl⟩) dX0_isLiving_26
    · skip
      refine k_iconst C ic_1 dX0_isLiving_21 ?_
      refine k_goto C (tgt := 26) (by decide) dX0_isLiving_22 ?_
      exact k_zret C (by first | rfl | exact am_bz) (Nat.le_of_ble_eq_true rfl) (Nat.le_of_ble_eq_true rfl) (⟨congrArg (fun z => some (Value.int z)) (am_bt (by first | exact ⟨hc8, Int32.not_le.mp hc18⟩ | (intro h; exact absurd h.1 hc8) | (intro h; exact absurd h.2 (Int32.not_lt.mpr hc18)))), rfl, rfl, rfl⟩) dX0_isLiving_26
set_option maxHeartbeats 4000000 in
set_option maxRecDepth 100000 in
theorem ct_X0_countLiving {G : am_G} {Λ : am_L} {I : am_I} {J : am_J} {c q p : Nat} {r : Nat → Int32}  (hl : CarLay Λ c q p) (hr : CarRel I c q p r) : am_Ct G yX0_countLiving cX0_countLiving 3 (some .int) { frames := 2, cells := 0, slots := 0, locals := 42 } [.ref c] Λ I J (am_pure (.int (nI (sp_living r))) Λ I J) am_never := by
  refine am_ct_of (own := RX0) rfl (by decide) (Nat.le_of_ble_eq_true rfl) (fun X C => ?_)
  change am_K G X { frames := 2, cells := 0, slots := 0, locals := 42 } 3 Λ I J 0 0 0 [(0, .ref c)] []
  have hp := L0_p hl
  have hpr := CR_p hr
  have hnc := PR_c hpr
  have hnl := CR_l hr
  refine k_iconst C ic_0 dX0_countLiving_0 ?_
  refine k_istore_n C (f := 1) (i := 1) (lv := [(1, _), (0, _)]) rfl (Nat.le_of_ble_eq_true rfl) rfl dX0_countLiving_1 ?_
  refine k_iconst C ic_0 dX0_countLiving_2 ?_
  refine k_istore_n C (f := 2) (i := 2) (lv := [(2, _), (1, _), (0, _)]) rfl (Nat.le_of_ble_eq_true rfl) rfl dX0_countLiving_3 ?_
  have loop4 : ∀ (f : Nat) (k : Nat) (acc : Nat), (k ≤ sp_nc r) → (acc = sp_livingTo r k) → (sp_nc r - k) < f → am_K G X { frames := 2, cells := 0, slots := 0, locals := 42 } 3 Λ I J 0 0 4 [(0, .ref c), (1, .int (nI acc)), (2, .int (nI k))] [] := by
    intro f
    induction f with
    | zero => intro k acc hk ha hf; exact absurd hf (Nat.not_lt_zero _)
    | succ f ih4 =>
      intro k acc hk ha hf
      refine k_iload_n C (f := 2) (i := 2) (p := 2) rfl rfl dX0_countLiving_4 ?_
      refine k_aload_n C (f := 0) (i := 0) (p := 0) rfl rfl dX0_countLiving_5 ?_
      refine k_getR C f_X0_42 (L0_s (by assumption)) (fun _ _ _ => rfl) (L0_0 (by assumption)) dX0_countLiving_6 ?_
      refine k_getI C f_X0_72 (L3_s (by assumption)) (fun _ _ _ => rfl) (by first | exact PR_1 (by assumption) | assumption | rfl) dX0_countLiving_9 ?_
      first
      | refine k_icmpN_ge C (tgt := 32) (by omega) (by omega) (by decide) dX0_countLiving_12 (fun hc12 => ?_) (fun hc12 => ?_)
      | refine k_icmp_ge C (tgt := 32) (by decide) dX0_countLiving_12 (fun hc12 => ?_) (fun hc12 => ?_)
      · skip
        refine k_iload_n C (f := 1) (i := 1) (p := 1) rfl rfl dX0_countLiving_32 ?_
        exact k_iret C (Nat.le_of_ble_eq_true rfl) (Nat.le_of_ble_eq_true rfl) (⟨by rw [ha, sp_living, show k = sp_nc r by omega], rfl, rfl, rfl⟩) dX0_countLiving_33
      · skip
        refine k_aload_n C (f := 0) (i := 0) (p := 0) rfl rfl dX0_countLiving_15 ?_
        refine k_iload_n C (f := 2) (i := 2) (p := 2) rfl rfl dX0_countLiving_16 ?_
        refine k_callVp C s_X0_104 h_X0_isLiving (L0_s (by assumption)) rfl (ct_X0_isLiving (by first | assumption | omega) (by first | assumption | omega) (by first | assumption | omega)) rfl rfl (Nat.le_of_ble_eq_true rfl) ⟨Nat.le_of_ble_eq_true rfl, Nat.le_of_ble_eq_true rfl⟩ ⟨Nat.le_of_ble_eq_true rfl, Nat.le_of_ble_eq_true rfl⟩ ⟨rfl, rfl⟩ dX0_countLiving_17 ?_
        first
        | refine k_ifb_eq C (tgt := 26) (by decide) dX0_countLiving_20 (fun hc20 => ?_) (fun hc20 => ?_)
        | refine k_if_eq C (tgt := 26) (by decide) dX0_countLiving_20 (fun hc20 => ?_) (fun hc20 => ?_)
        · skip
          refine k_iinc C (i := 2) (p := 2) (lv := [(2, _), (0, _), (1, _)]) (Nat.le_of_ble_eq_true rfl) rfl (by first | exact am_inc1 _ | rfl) rfl dX0_countLiving_26 ?_
          refine k_goto C (tgt := 4) (by decide) dX0_countLiving_29 ?_
          refine k_sub [1, 2, 0] rfl ?_
          first
          | exact ih4 (k + 1) (acc + 1) (by omega) (by rw [ha]; exact (sp_livingTo_t hc20.2).symm) (by omega)
          | exact ih4 (k + 1) acc (by omega) (by rw [ha]; exact (sp_livingTo_f (fun h => hc20 ⟨by omega, h⟩)).symm) (by omega)
        · skip
          refine k_iinc C (i := 1) (p := 1) (lv := [(1, _), (0, _), (2, _)]) (Nat.le_of_ble_eq_true rfl) rfl (by first | exact am_inc1 _ | rfl) rfl dX0_countLiving_23 ?_
          refine k_iinc C (i := 2) (p := 2) (lv := [(2, _), (1, _), (0, _)]) (Nat.le_of_ble_eq_true rfl) rfl (by first | exact am_inc1 _ | rfl) rfl dX0_countLiving_26 ?_
          refine k_goto C (tgt := 4) (by decide) dX0_countLiving_29 ?_
          refine k_sub [2, 1, 0] rfl ?_
          first
          | exact ih4 (k + 1) (acc + 1) (by omega) (by rw [ha]; exact (sp_livingTo_t hc20.2).symm) (by omega)
          | exact ih4 (k + 1) acc (by omega) (by rw [ha]; exact (sp_livingTo_f (fun h => hc20 ⟨by omega, h⟩)).symm) (by omega)
  refine k_sub [2, 1, 0] rfl ?_
  exact loop4 (sp_nc r + 1) 0 0 (Nat.zero_le _) rfl (by omega)
set_option maxHeartbeats 4000000 in
set_option maxRecDepth 100000 in
theorem ct_X0_canRest {G : am_G} {Λ : am_L} {I : am_I} {J : am_J} {c q p : Nat} {r : Nat → Int32}  (hl : CarLay Λ c q p) (hr : CarRel I c q p r) : am_Ct G yX0_canRest cX0_canRest 1 (some .boolean) { frames := 3, cells := 0, slots := 0, locals := 64 } [.ref c] Λ I J (am_pure (.int (am_b (r 2 < nI 200 ∧ 0 < sp_living r))) Λ I J) am_never := by
  refine am_ct_of (own := RX0) rfl (by decide) (Nat.le_of_ble_eq_true rfl) (fun X C => ?_)
  change am_K G X { frames := 3, cells := 0, slots := 0, locals := 64 } 1 Λ I J 0 0 0 [(0, .ref c)] []
  have hp := L0_p hl
  have hpr := CR_p hr
  have hnc := PR_c hpr
  have hnl := CR_l hr
  have hll := sp_livingTo_le r (sp_nc r)
  have hlv : sp_living r ≤ sp_nc r := hll
  refine k_aload_n C (f := 0) (i := 0) (p := 0) rfl rfl dX0_canRest_0 ?_
  refine k_getI C f_X0_50 (L0_s (by assumption)) (fun _ _ _ => rfl) (by first | exact CR_2 (by assumption) | assumption | rfl) dX0_canRest_1 ?_
  refine k_sipush C sc_200 dX0_canRest_4 ?_
  refine k_icmp_ge C (tgt := 21) (by decide) dX0_canRest_7 (fun hc7 => ?_) (fun hc7 => ?_)
  · skip
    refine k_iconst C ic_0 dX0_canRest_21 ?_
    exact k_zret C (by first | rfl | exact am_bz) (Nat.le_of_ble_eq_true rfl) (Nat.le_of_ble_eq_true rfl) (⟨congrArg (fun z => some (Value.int z)) (am_bf (by first | exact ⟨Int32.not_le.mp hc7, Nat.pos_of_ne_zero (fun h => hc14 ((nI_le0 (by omega)).mpr h))⟩ | (intro h; exact absurd h.1 (Int32.not_lt.mpr hc7)) | (intro h; exact absurd ((nI_le0 (by omega)).mp hc14) (by omega)))), rfl, rfl, rfl⟩) dX0_canRest_22
  · skip
    refine k_aload_n C (f := 0) (i := 0) (p := 0) rfl rfl dX0_canRest_10 ?_
    refine k_callVp C s_X0_89 h_X0_countLiving (L0_s (by assumption)) rfl (ct_X0_countLiving (by first | assumption | omega) (by first | assumption | omega)) rfl rfl (Nat.le_of_ble_eq_true rfl) ⟨Nat.le_of_ble_eq_true rfl, Nat.le_of_ble_eq_true rfl⟩ ⟨Nat.le_of_ble_eq_true rfl, Nat.le_of_ble_eq_true rfl⟩ ⟨rfl, rfl⟩ dX0_canRest_11 ?_
    refine k_if_le C (tgt := 21) (by decide) dX0_canRest_14 (fun hc14 => ?_) (fun hc14 => ?_)
    · skip
      refine k_iconst C ic_0 dX0_canRest_21 ?_
      exact k_zret C (by first | rfl | exact am_bz) (Nat.le_of_ble_eq_true rfl) (Nat.le_of_ble_eq_true rfl) (⟨congrArg (fun z => some (Value.int z)) (am_bf (by first | exact ⟨Int32.not_le.mp hc7, Nat.pos_of_ne_zero (fun h => hc14 ((nI_le0 (by omega)).mpr h))⟩ | (intro h; exact absurd h.1 (Int32.not_lt.mpr hc7)) | (intro h; exact absurd ((nI_le0 (by omega)).mp hc14) (by omega)))), rfl, rfl, rfl⟩) dX0_canRest_22
    · skip
      refine k_iconst C ic_1 dX0_canRest_17 ?_
      refine k_goto C (tgt := 22) (by decide) dX0_canRest_18 ?_
      exact k_zret C (by first | rfl | exact am_bz) (Nat.le_of_ble_eq_true rfl) (Nat.le_of_ble_eq_true rfl) (⟨congrArg (fun z => some (Value.int z)) (am_bt (by first | exact ⟨Int32.not_le.mp hc7, Nat.pos_of_ne_zero (fun h => hc14 ((nI_le0 (by omega)).mpr h))⟩ | (intro h; exact absurd h.1 (Int32.not_lt.mpr hc7)) | (intro h; exact absurd ((nI_le0 (by omega)).mp hc14) (by omega)))), rfl, rfl, rfl⟩) dX0_canRest_22
set_option maxHeartbeats 4000000 in
set_option maxRecDepth 100000 in
theorem ct_X0_canTravel {G : am_G} {Λ : am_L} {I : am_I} {J : am_J} {c q p : Nat} {r : Nat → Int32}  (hl : CarLay Λ c q p) (hr : CarRel I c q p r) : am_Ct G yX0_canTravel cX0_canTravel 1 (some .boolean) { frames := 4, cells := 0, slots := 0, locals := 84 } [.ref c] Λ I J (am_pure (.int (am_b (¬ r 0 ≤ r 1 ∧ (r 2 < nI 200 ∧ 0 < sp_living r)))) Λ I J) am_never := by
  refine am_ct_of (own := RX0) rfl (by decide) (Nat.le_of_ble_eq_true rfl) (fun X C => ?_)
  change am_K G X { frames := 4, cells := 0, slots := 0, locals := 84 } 1 Λ I J 0 0 0 [(0, .ref c)] []
  have hp := L0_p hl
  have hpr := CR_p hr
  have hnc := PR_c hpr
  have hnl := CR_l hr
  refine k_aload_n C (f := 0) (i := 0) (p := 0) rfl rfl dX0_canTravel_0 ?_
  refine k_callVp C s_X0_93 h_X0_isAtEnd (L0_s (by assumption)) rfl (ct_X0_isAtEnd (by first | assumption | omega) (by first | assumption | omega)) rfl rfl (Nat.le_of_ble_eq_true rfl) ⟨Nat.le_of_ble_eq_true rfl, Nat.le_of_ble_eq_true rfl⟩ ⟨Nat.le_of_ble_eq_true rfl, Nat.le_of_ble_eq_true rfl⟩ ⟨rfl, rfl⟩ dX0_canTravel_1 ?_
  first
  | refine k_ifb_ne C (tgt := 18) (by decide) dX0_canTravel_4 (fun hc4 => ?_) (fun hc4 => ?_)
  | refine k_if_ne C (tgt := 18) (by decide) dX0_canTravel_4 (fun hc4 => ?_) (fun hc4 => ?_)
  · skip
    refine k_iconst C ic_0 dX0_canTravel_18 ?_
    exact k_zret C (by first | rfl | exact am_bz) (Nat.le_of_ble_eq_true rfl) (Nat.le_of_ble_eq_true rfl) (⟨congrArg (fun z => some (Value.int z)) (am_bf (by first | exact ⟨hc4, hc11⟩ | (intro h; exact absurd hc4 h.1) | (intro h; exact absurd h.2 hc11))), rfl, rfl, rfl⟩) dX0_canTravel_19
  · skip
    refine k_aload_n C (f := 0) (i := 0) (p := 0) rfl rfl dX0_canTravel_7 ?_
    refine k_callVp C s_X0_97 h_X0_canRest (L0_s (by assumption)) rfl (ct_X0_canRest (by first | assumption | omega) (by first | assumption | omega)) rfl rfl (Nat.le_of_ble_eq_true rfl) ⟨Nat.le_of_ble_eq_true rfl, Nat.le_of_ble_eq_true rfl⟩ ⟨Nat.le_of_ble_eq_true rfl, Nat.le_of_ble_eq_true rfl⟩ ⟨rfl, rfl⟩ dX0_canTravel_8 ?_
    first
    | refine k_ifb_eq C (tgt := 18) (by decide) dX0_canTravel_11 (fun hc11 => ?_) (fun hc11 => ?_)
    | refine k_if_eq C (tgt := 18) (by decide) dX0_canTravel_11 (fun hc11 => ?_) (fun hc11 => ?_)
    · skip
      refine k_iconst C ic_0 dX0_canTravel_18 ?_
      exact k_zret C (by first | rfl | exact am_bz) (Nat.le_of_ble_eq_true rfl) (Nat.le_of_ble_eq_true rfl) (⟨congrArg (fun z => some (Value.int z)) (am_bf (by first | exact ⟨hc4, hc11⟩ | (intro h; exact absurd hc4 h.1) | (intro h; exact absurd h.2 hc11))), rfl, rfl, rfl⟩) dX0_canTravel_19
    · skip
      refine k_iconst C ic_1 dX0_canTravel_14 ?_
      refine k_goto C (tgt := 19) (by decide) dX0_canTravel_15 ?_
      exact k_zret C (by first | rfl | exact am_bz) (Nat.le_of_ble_eq_true rfl) (Nat.le_of_ble_eq_true rfl) (⟨congrArg (fun z => some (Value.int z)) (am_bt (by first | exact ⟨hc4, hc11⟩ | (intro h; exact absurd hc4 h.1) | (intro h; exact absurd h.2 hc11))), rfl, rfl, rfl⟩) dX0_canTravel_19
set_option maxHeartbeats 4000000 in
set_option maxRecDepth 100000 in
theorem ct_X0_speedOf {G : am_G} {Λ : am_L} {I : am_I} {J : am_J} {c q p : Nat} {r : Nat → Int32} {j : Nat} (hl : CarLay Λ c q p) (hr : CarRel I c q p r) (hj : j < sp_nc r) : am_Ct G yX0_speedOf cX0_speedOf 3 (some .int) { frames := 1, cells := 0, slots := 0, locals := 21 } [.ref c, .int (nI j)] Λ I J (am_pure (.int (sp_speed r j)) Λ I J) am_never := by
  refine am_ct_of (own := RX0) rfl (by decide) (Nat.le_of_ble_eq_true rfl) (fun X C => ?_)
  change am_K G X { frames := 1, cells := 0, slots := 0, locals := 21 } 3 Λ I J 0 0 0 [(0, .ref c), (1, .int (nI j))] []
  have hp := L0_p hl
  have hpr := CR_p hr
  have hnc := PR_c hpr
  have hnl := CR_l hr
  refine k_aload_n C (f := 0) (i := 0) (p := 0) rfl rfl dX0_speedOf_0 ?_
  refine k_getR C f_X0_42 (L0_s (by assumption)) (fun _ _ _ => rfl) (L0_0 (by assumption)) dX0_speedOf_1 ?_
  refine k_iload_n C (f := 1) (i := 1) (p := 1) rfl rfl dX0_speedOf_4 ?_
  refine k_callVp C s_X0_100 h_X3_hasCamel (L3_s (by assumption)) rfl (ct_X3_hasCamelN (by first | assumption | omega) (by first | assumption | omega) (by first | assumption | omega)) rfl rfl (Nat.le_of_ble_eq_true rfl) ⟨Nat.le_of_ble_eq_true rfl, Nat.le_of_ble_eq_true rfl⟩ ⟨Nat.le_of_ble_eq_true rfl, Nat.le_of_ble_eq_true rfl⟩ ⟨rfl, rfl⟩ dX0_speedOf_5 ?_
  first
  | refine k_ifb_ne C (tgt := 13) (by decide) dX0_speedOf_8 (fun hc8 => ?_) (fun hc8 => ?_)
  | refine k_if_ne C (tgt := 13) (by decide) dX0_speedOf_8 (fun hc8 => ?_) (fun hc8 => ?_)
  · skip
    refine k_aload_n C (f := 0) (i := 0) (p := 0) rfl rfl dX0_speedOf_13 ?_
    refine k_getR C f_X0_18 (L0_s (by assumption)) (fun _ _ _ => rfl) (L0_8 (by assumption)) dX0_speedOf_14 ?_
    refine k_iload_n C (f := 1) (i := 1) (p := 1) rfl rfl dX0_speedOf_17 ?_
    refine k_iald C (A0_8 (by assumption)) (by first | rfl | assumption) (by omega) (by decide) (by first | exact CRa_8 (by assumption) (by omega) | assumption | rfl) dX0_speedOf_18 ?_
    refine k_if_le C (tgt := 36) (by decide) dX0_speedOf_19 (fun hc19 => ?_) (fun hc19 => ?_)
    · skip
      refine k_aload_n C (f := 0) (i := 0) (p := 0) rfl rfl dX0_speedOf_36 ?_
      refine k_getR C f_X0_42 (L0_s (by assumption)) (fun _ _ _ => rfl) (L0_0 (by assumption)) dX0_speedOf_37 ?_
      refine k_getR C f_X0_111 (L3_s (by assumption)) (fun _ _ _ => rfl) (L3_2 (by assumption)) dX0_speedOf_40 ?_
      refine k_iload_n C (f := 1) (i := 1) (p := 1) rfl rfl dX0_speedOf_43 ?_
      refine k_iald C (A3_2 (by assumption)) (by first | rfl | assumption) (by omega) (by decide) (by first | exact PRa_2 (by assumption) (by omega) | assumption | rfl) dX0_speedOf_44 ?_
      refine k_istore_n C (f := 2) (i := 2) (lv := [(2, _), (0, _), (1, _)]) rfl (Nat.le_of_ble_eq_true rfl) rfl dX0_speedOf_45 ?_
      refine k_iconst C ic_5 dX0_speedOf_46 ?_
      refine k_iload_n C (f := 2) (i := 2) (p := 0) rfl rfl dX0_speedOf_47 ?_
      refine k_aload_n C (f := 0) (i := 0) (p := 1) rfl rfl dX0_speedOf_48 ?_
      refine k_getR C f_X0_24 (L0_s (by assumption)) (fun _ _ _ => rfl) (L0_10 (by assumption)) dX0_speedOf_49 ?_
      refine k_iload_n C (f := 1) (i := 1) (p := 2) rfl rfl dX0_speedOf_52 ?_
      refine k_iald C (A0_10 (by assumption)) (by first | rfl | assumption) (by omega) (by decide) (by first | exact CRa_10 (by assumption) (by omega) | assumption | rfl) dX0_speedOf_53 ?_
      refine k_bipush C bc_10 dX0_speedOf_54 ?_
      refine k_idiv C (by decide) dX0_speedOf_56 ?_
      refine k_isub C dX0_speedOf_57 ?_
      refine k_max C (rfl) m_X0_114 ⟨Nat.le_of_ble_eq_true rfl, Nat.le_of_ble_eq_true rfl⟩ ⟨Nat.le_of_ble_eq_true rfl, Nat.le_of_ble_eq_true rfl⟩ dX0_speedOf_58 ?_
      exact k_iret C (Nat.le_of_ble_eq_true rfl) (Nat.le_of_ble_eq_true rfl) (⟨by first | (rw [sp_speed_t hc19]; rfl) | (rw [sp_speed_f hc19]; rfl), rfl, rfl, rfl⟩) dX0_speedOf_61
    · skip
      refine k_aload_n C (f := 0) (i := 0) (p := 0) rfl rfl dX0_speedOf_22 ?_
      refine k_getR C f_X0_42 (L0_s (by assumption)) (fun _ _ _ => rfl) (L0_0 (by assumption)) dX0_speedOf_23 ?_
      refine k_getR C f_X0_111 (L3_s (by assumption)) (fun _ _ _ => rfl) (L3_2 (by assumption)) dX0_speedOf_26 ?_
      refine k_iload_n C (f := 1) (i := 1) (p := 1) rfl rfl dX0_speedOf_29 ?_
      refine k_iald C (A3_2 (by assumption)) (by first | rfl | assumption) (by omega) (by decide) (by first | exact PRa_2 (by assumption) (by omega) | assumption | rfl) dX0_speedOf_30 ?_
      refine k_iconst C ic_2 dX0_speedOf_31 ?_
      refine k_idiv C (by decide) dX0_speedOf_32 ?_
      refine k_goto C (tgt := 45) (by decide) dX0_speedOf_33 ?_
      refine k_istore_n C (f := 2) (i := 2) (lv := [(2, _), (0, _), (1, _)]) rfl (Nat.le_of_ble_eq_true rfl) rfl dX0_speedOf_45 ?_
      refine k_iconst C ic_5 dX0_speedOf_46 ?_
      refine k_iload_n C (f := 2) (i := 2) (p := 0) rfl rfl dX0_speedOf_47 ?_
      refine k_aload_n C (f := 0) (i := 0) (p := 1) rfl rfl dX0_speedOf_48 ?_
      refine k_getR C f_X0_24 (L0_s (by assumption)) (fun _ _ _ => rfl) (L0_10 (by assumption)) dX0_speedOf_49 ?_
      refine k_iload_n C (f := 1) (i := 1) (p := 2) rfl rfl dX0_speedOf_52 ?_
      refine k_iald C (A0_10 (by assumption)) (by first | rfl | assumption) (by omega) (by decide) (by first | exact CRa_10 (by assumption) (by omega) | assumption | rfl) dX0_speedOf_53 ?_
      refine k_bipush C bc_10 dX0_speedOf_54 ?_
      refine k_idiv C (by decide) dX0_speedOf_56 ?_
      refine k_isub C dX0_speedOf_57 ?_
      refine k_max C (rfl) m_X0_114 ⟨Nat.le_of_ble_eq_true rfl, Nat.le_of_ble_eq_true rfl⟩ ⟨Nat.le_of_ble_eq_true rfl, Nat.le_of_ble_eq_true rfl⟩ dX0_speedOf_58 ?_
      exact k_iret C (Nat.le_of_ble_eq_true rfl) (Nat.le_of_ble_eq_true rfl) (⟨by first | (rw [sp_speed_t hc19]; rfl) | (rw [sp_speed_f hc19]; rfl), rfl, rfl, rfl⟩) dX0_speedOf_61
  · skip
    exact absurd hj hc8
set_option maxHeartbeats 4000000 in
set_option maxRecDepth 100000 in
theorem ct_X0_freeOn {G : am_G} {Λ : am_L} {I : am_I} {J : am_J} {c q p : Nat} {r : Nat → Int32} {j : Nat} (hl : CarLay Λ c q p) (hr : CarRel I c q p r) (hj : j < 2 ^ 31) : am_Ct G yX0_freeOn cX0_freeOn 2 (some .int) { frames := 1, cells := 0, slots := 0, locals := 21 } [.ref c, .int (nI j)] Λ I J (am_pure (.int (if j < sp_nc r then sp_free r j else nI 0)) Λ I J) am_never := by
  refine am_ct_of (own := RX0) rfl (by decide) (Nat.le_of_ble_eq_true rfl) (fun X C => ?_)
  change am_K G X { frames := 1, cells := 0, slots := 0, locals := 21 } 2 Λ I J 0 0 0 [(0, .ref c), (1, .int (nI j))] []
  have hp := L0_p hl
  have hpr := CR_p hr
  have hnc := PR_c hpr
  have hnl := CR_l hr
  refine k_aload_n C (f := 0) (i := 0) (p := 0) rfl rfl dX0_freeOn_0 ?_
  refine k_getR C f_X0_42 (L0_s (by assumption)) (fun _ _ _ => rfl) (L0_0 (by assumption)) dX0_freeOn_1 ?_
  refine k_iload_n C (f := 1) (i := 1) (p := 1) rfl rfl dX0_freeOn_4 ?_
  refine k_callVp C s_X0_100 h_X3_hasCamel (L3_s (by assumption)) rfl (ct_X3_hasCamelN (by first | assumption | omega) (by first | assumption | omega) (by first | assumption | omega)) rfl rfl (Nat.le_of_ble_eq_true rfl) ⟨Nat.le_of_ble_eq_true rfl, Nat.le_of_ble_eq_true rfl⟩ ⟨Nat.le_of_ble_eq_true rfl, Nat.le_of_ble_eq_true rfl⟩ ⟨rfl, rfl⟩ dX0_freeOn_5 ?_
  first
  | refine k_ifb_ne C (tgt := 13) (by decide) dX0_freeOn_8 (fun hc8 => ?_) (fun hc8 => ?_)
  | refine k_if_ne C (tgt := 13) (by decide) dX0_freeOn_8 (fun hc8 => ?_) (fun hc8 => ?_)
  · skip
    refine k_aload_n C (f := 0) (i := 0) (p := 0) rfl rfl dX0_freeOn_13 ?_
    refine k_getR C f_X0_42 (L0_s (by assumption)) (fun _ _ _ => rfl) (L0_0 (by assumption)) dX0_freeOn_14 ?_
    refine k_getR C f_X0_120 (L3_s (by assumption)) (fun _ _ _ => rfl) (L3_3 (by assumption)) dX0_freeOn_17 ?_
    refine k_iload_n C (f := 1) (i := 1) (p := 1) rfl rfl dX0_freeOn_20 ?_
    refine k_iald C (A3_3 (by assumption)) (by first | rfl | assumption) (by omega) (by decide) (by first | exact PRa_3 (by assumption) (by omega) | assumption | rfl) dX0_freeOn_21 ?_
    refine k_bipush C bc_20 dX0_freeOn_22 ?_
    refine k_imul C dX0_freeOn_24 ?_
    refine k_aload_n C (f := 0) (i := 0) (p := 0) rfl rfl dX0_freeOn_25 ?_
    refine k_getR C f_X0_24 (L0_s (by assumption)) (fun _ _ _ => rfl) (L0_10 (by assumption)) dX0_freeOn_26 ?_
    refine k_iload_n C (f := 1) (i := 1) (p := 1) rfl rfl dX0_freeOn_29 ?_
    refine k_iald C (A0_10 (by assumption)) (by first | rfl | assumption) (by omega) (by decide) (by first | exact CRa_10 (by assumption) (by omega) | assumption | rfl) dX0_freeOn_30 ?_
    refine k_isub C dX0_freeOn_31 ?_
    exact k_iret C (Nat.le_of_ble_eq_true rfl) (Nat.le_of_ble_eq_true rfl) (⟨by rw [if_pos hc8]; rfl, rfl, rfl, rfl⟩) dX0_freeOn_32
  · skip
    refine k_iconst C ic_0 dX0_freeOn_11 ?_
    exact k_iret C (Nat.le_of_ble_eq_true rfl) (Nat.le_of_ble_eq_true rfl) (⟨by rw [if_neg hc8], rfl, rfl, rfl⟩) dX0_freeOn_12
set_option maxHeartbeats 4000000 in
set_option maxRecDepth 100000 in
theorem ct_X0_needIn {G : am_G} {Λ : am_L} {I : am_I} {J : am_J} {c q p : Nat} {r : Nat → Int32} {j : Nat} {s : Int32} (hl : CarLay Λ c q p) (hr : CarRel I c q p r) (hj : j < sp_nc r) : am_Ct G yX0_needIn cX0_needIn 3 (some .int) { frames := 1, cells := 0, slots := 0, locals := 21 } [.ref c, .int (nI j), .int s] Λ I J (am_pure (.int (sp_need r j s)) Λ I J) am_never := by
  refine am_ct_of (own := RX0) rfl (by decide) (Nat.le_of_ble_eq_true rfl) (fun X C => ?_)
  change am_K G X { frames := 1, cells := 0, slots := 0, locals := 21 } 3 Λ I J 0 0 0 [(0, .ref c), (1, .int (nI j)), (2, .int s)] []
  have hp := L0_p hl
  have hpr := CR_p hr
  have hnc := PR_c hpr
  have hnl := CR_l hr
  refine k_aload_n C (f := 0) (i := 0) (p := 0) rfl rfl dX0_needIn_0 ?_
  refine k_getR C f_X0_42 (L0_s (by assumption)) (fun _ _ _ => rfl) (L0_0 (by assumption)) dX0_needIn_1 ?_
  refine k_iload_n C (f := 1) (i := 1) (p := 1) rfl rfl dX0_needIn_4 ?_
  refine k_callVp C s_X0_100 h_X3_hasCamel (L3_s (by assumption)) rfl (ct_X3_hasCamelN (by first | assumption | omega) (by first | assumption | omega) (by first | assumption | omega)) rfl rfl (Nat.le_of_ble_eq_true rfl) ⟨Nat.le_of_ble_eq_true rfl, Nat.le_of_ble_eq_true rfl⟩ ⟨Nat.le_of_ble_eq_true rfl, Nat.le_of_ble_eq_true rfl⟩ ⟨rfl, rfl⟩ dX0_needIn_5 ?_
  first
  | refine k_ifb_ne C (tgt := 13) (by decide) dX0_needIn_8 (fun hc8 => ?_) (fun hc8 => ?_)
  | refine k_if_ne C (tgt := 13) (by decide) dX0_needIn_8 (fun hc8 => ?_) (fun hc8 => ?_)
  · skip
    refine k_iconst C ic_5 dX0_needIn_13 ?_
    refine k_aload_n C (f := 0) (i := 0) (p := 0) rfl rfl dX0_needIn_14 ?_
    refine k_getR C f_X0_24 (L0_s (by assumption)) (fun _ _ _ => rfl) (L0_10 (by assumption)) dX0_needIn_15 ?_
    refine k_iload_n C (f := 1) (i := 1) (p := 1) rfl rfl dX0_needIn_18 ?_
    refine k_iald C (A0_10 (by assumption)) (by first | rfl | assumption) (by omega) (by decide) (by first | exact CRa_10 (by assumption) (by omega) | assumption | rfl) dX0_needIn_19 ?_
    refine k_bipush C bc_25 dX0_needIn_20 ?_
    refine k_idiv C (by decide) dX0_needIn_22 ?_
    refine k_iadd C dX0_needIn_23 ?_
    refine k_iload_n C (f := 2) (i := 2) (p := 2) rfl rfl dX0_needIn_24 ?_
    refine k_iadd C dX0_needIn_25 ?_
    exact k_iret C (Nat.le_of_ble_eq_true rfl) (Nat.le_of_ble_eq_true rfl) (⟨rfl, rfl, rfl, rfl⟩) dX0_needIn_26
  · skip
    exact absurd hj hc8
set_option maxHeartbeats 4000000 in
set_option maxRecDepth 100000 in
theorem ct_X0_whereIs {G : am_G} {Λ : am_L} {I : am_I} {J : am_J} {c q p : Nat} {r : Nat → Int32} {j : Nat} (hl : CarLay Λ c q p) (hr : CarRel I c q p r) (hj : j < sp_nl r) : am_Ct G yX0_whereIs cX0_whereIs 2 (some .int) { frames := 1, cells := 0, slots := 0, locals := 21 } [.ref c, .int (nI j)] Λ I J (am_pure (.int (if r (142 + 4 * j) = -1 then r (143 + 4 * j) else r 1)) Λ I J) am_never := by
  refine am_ct_of (own := RX0) rfl (by decide) (Nat.le_of_ble_eq_true rfl) (fun X C => ?_)
  change am_K G X { frames := 1, cells := 0, slots := 0, locals := 21 } 2 Λ I J 0 0 0 [(0, .ref c), (1, .int (nI j))] []
  have hp := L0_p hl
  have hpr := CR_p hr
  have hnc := PR_c hpr
  have hnl := CR_l hr
  refine k_aload_n C (f := 0) (i := 0) (p := 0) rfl rfl dX0_whereIs_0 ?_
  refine k_iload_n C (f := 1) (i := 1) (p := 1) rfl rfl dX0_whereIs_1 ?_
  refine k_callVp C s_X0_123 h_X0_hasLoad (L0_s (by assumption)) rfl (ct_X0_hasLoadN (by first | assumption | omega) (by first | assumption | omega) (by first | assumption | omega)) rfl rfl (Nat.le_of_ble_eq_true rfl) ⟨Nat.le_of_ble_eq_true rfl, Nat.le_of_ble_eq_true rfl⟩ ⟨Nat.le_of_ble_eq_true rfl, Nat.le_of_ble_eq_true rfl⟩ ⟨rfl, rfl⟩ dX0_whereIs_2 ?_
  first
  | refine k_ifb_ne C (tgt := 10) (by decide) dX0_whereIs_5 (fun hc5 => ?_) (fun hc5 => ?_)
  | refine k_if_ne C (tgt := 10) (by decide) dX0_whereIs_5 (fun hc5 => ?_) (fun hc5 => ?_)
  · skip
    refine k_aload_n C (f := 0) (i := 0) (p := 0) rfl rfl dX0_whereIs_10 ?_
    refine k_getR C f_X0_36 (L0_s (by assumption)) (fun _ _ _ => rfl) (L0_15 (by assumption)) dX0_whereIs_11 ?_
    refine k_iload_n C (f := 1) (i := 1) (p := 1) rfl rfl dX0_whereIs_14 ?_
    refine k_iald C (A0_15 (by assumption)) (by first | rfl | assumption) (by omega) (by decide) (by first | exact CRa_15 (by assumption) (by omega) | assumption | rfl) dX0_whereIs_15 ?_
    refine k_iconst C ic_m1 dX0_whereIs_16 ?_
    first
    | refine k_icmpN_ne C (tgt := 29) (by omega) (by omega) (by decide) dX0_whereIs_17 (fun hc17 => ?_) (fun hc17 => ?_)
    | refine k_icmp_ne C (tgt := 29) (by decide) dX0_whereIs_17 (fun hc17 => ?_) (fun hc17 => ?_)
    · skip
      refine k_aload_n C (f := 0) (i := 0) (p := 0) rfl rfl dX0_whereIs_29 ?_
      refine k_getI C f_X0_46 (L0_s (by assumption)) (fun _ _ _ => rfl) (by first | exact CR_1 (by assumption) | assumption | rfl) dX0_whereIs_30 ?_
      exact k_iret C (Nat.le_of_ble_eq_true rfl) (Nat.le_of_ble_eq_true rfl) (⟨by first | (rw [if_pos hc17]; done) | (rw [if_neg hc17]; done), rfl, rfl, rfl⟩) dX0_whereIs_33
    · skip
      refine k_aload_n C (f := 0) (i := 0) (p := 0) rfl rfl dX0_whereIs_20 ?_
      refine k_getR C f_X0_39 (L0_s (by assumption)) (fun _ _ _ => rfl) (L0_16 (by assumption)) dX0_whereIs_21 ?_
      refine k_iload_n C (f := 1) (i := 1) (p := 1) rfl rfl dX0_whereIs_24 ?_
      refine k_iald C (A0_16 (by assumption)) (by first | rfl | assumption) (by omega) (by decide) (CRa_16 hr hj (by rw [hc17]; exact am_m1neg)) dX0_whereIs_25 ?_
      refine k_goto C (tgt := 33) (by decide) dX0_whereIs_26 ?_
      exact k_iret C (Nat.le_of_ble_eq_true rfl) (Nat.le_of_ble_eq_true rfl) (⟨by first | (rw [if_pos hc17]; done) | (rw [if_neg hc17]; done), rfl, rfl, rfl⟩) dX0_whereIs_33
  · skip
    exact absurd hj hc5
