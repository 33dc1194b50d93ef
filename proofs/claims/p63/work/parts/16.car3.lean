set_option maxHeartbeats 4000000 in
set_option maxRecDepth 100000 in
theorem ct_X0_leastWatered {G : am_G} {Λ : am_L} {I : am_I} {J : am_J} {c q p : Nat} {r : Nat → Int32}  (hl : CarLay Λ c q p) (hr : CarRel I c q p r) : am_Ct G yX0_leastWatered cX0_leastWatered 3 (some .int) { frames := 2, cells := 0, slots := 0, locals := 42 } [.ref c] Λ I J (am_pure (.int (sp_thirst r)) Λ I J) am_never := by
  refine am_ct_of (own := RX0) rfl (by decide) (Nat.le_of_ble_eq_true rfl) (fun X C => ?_)
  change am_K G X { frames := 2, cells := 0, slots := 0, locals := 42 } 3 Λ I J 0 0 0 [(0, .ref c)] []
  have hp := L0_p hl
  have hpr := CR_p hr
  have hnc := PR_c hpr
  have hnl := CR_l hr
  refine k_iconst C ic_m1 dX0_leastWatered_0 ?_
  refine k_istore_n C (f := 1) (i := 1) (lv := [(1, _), (0, _)]) rfl (Nat.le_of_ble_eq_true rfl) rfl dX0_leastWatered_1 ?_
  refine k_iconst C ic_0 dX0_leastWatered_2 ?_
  refine k_istore_n C (f := 2) (i := 2) (lv := [(2, _), (1, _), (0, _)]) rfl (Nat.le_of_ble_eq_true rfl) rfl dX0_leastWatered_3 ?_
  have loop4 : ∀ (f : Nat) (k : Nat) (acc : Int32), (k ≤ sp_nc r) → (acc = sp_thirstTo r k) → (sp_nc r - k) < f → am_K G X { frames := 2, cells := 0, slots := 0, locals := 42 } 3 Λ I J 0 0 4 [(0, .ref c), (1, .int acc), (2, .int (nI k))] [] := by
    intro f
    induction f with
    | zero => intro k acc hk ha hf; exact absurd hf (Nat.not_lt_zero _)
    | succ f ih4 =>
      intro k acc hk ha hf
      refine k_iload_n C (f := 2) (i := 2) (p := 2) rfl rfl dX0_leastWatered_4 ?_
      refine k_aload_n C (f := 0) (i := 0) (p := 0) rfl rfl dX0_leastWatered_5 ?_
      refine k_getR C f_X0_42 (L0_s (by assumption)) (fun _ _ _ => rfl) (L0_0 (by assumption)) dX0_leastWatered_6 ?_
      refine k_getI C f_X0_72 (L3_s (by assumption)) (fun _ _ _ => rfl) (by first | exact PR_1 (by assumption) | assumption | rfl) dX0_leastWatered_9 ?_
      first
      | refine k_icmpN_ge C (tgt := 51) (by omega) (by omega) (by decide) dX0_leastWatered_12 (fun hc12 => ?_) (fun hc12 => ?_)
      | refine k_icmp_ge C (tgt := 51) (by decide) dX0_leastWatered_12 (fun hc12 => ?_) (fun hc12 => ?_)
      · skip
        refine k_iload_n C (f := 1) (i := 1) (p := 1) rfl rfl dX0_leastWatered_51 ?_
        exact k_iret C (Nat.le_of_ble_eq_true rfl) (Nat.le_of_ble_eq_true rfl) (⟨by rw [ha, sp_thirst, show k = sp_nc r by omega], rfl, rfl, rfl⟩) dX0_leastWatered_52
      · skip
        refine k_aload_n C (f := 0) (i := 0) (p := 0) rfl rfl dX0_leastWatered_15 ?_
        refine k_iload_n C (f := 2) (i := 2) (p := 2) rfl rfl dX0_leastWatered_16 ?_
        refine k_callVp C s_X0_104 h_X0_isLiving (L0_s (by assumption)) rfl (ct_X0_isLiving (by first | assumption | omega) (by first | assumption | omega) (by first | assumption | omega)) rfl rfl (Nat.le_of_ble_eq_true rfl) ⟨Nat.le_of_ble_eq_true rfl, Nat.le_of_ble_eq_true rfl⟩ ⟨Nat.le_of_ble_eq_true rfl, Nat.le_of_ble_eq_true rfl⟩ ⟨rfl, rfl⟩ dX0_leastWatered_17 ?_
        first
        | refine k_ifb_eq C (tgt := 45) (by decide) dX0_leastWatered_20 (fun hc20 => ?_) (fun hc20 => ?_)
        | refine k_if_eq C (tgt := 45) (by decide) dX0_leastWatered_20 (fun hc20 => ?_) (fun hc20 => ?_)
        · skip
          refine k_iinc C (i := 2) (p := 2) (lv := [(2, _), (0, _), (1, _)]) (Nat.le_of_ble_eq_true rfl) rfl (by first | exact am_inc1 _ | rfl) rfl dX0_leastWatered_45 ?_
          refine k_goto C (tgt := 4) (by decide) dX0_leastWatered_48 ?_
          refine k_sub [1, 2, 0] rfl ?_
          first
          | exact ih4 (k + 1) _ (by omega) (by rw [ha]; exact (sp_thirstTo_f (fun h => hc20 ⟨by omega, h.1⟩)).symm) (by omega)
          | exact ih4 (k + 1) _ (by omega) (sp_thirstTo_t ⟨hc20.2, Or.inl (by rw [← ha, hc25]; decide)⟩).symm (by omega)
          | exact ih4 (k + 1) _ (by omega) (by rw [ha]; exact (sp_thirstTo_f (fun h => h.2.elim (fun z => absurd z (by rw [hm]; exact nI_pos (by omega))) (fun z => absurd z (by rw [hm, nI_clamp (by omega)]; exact Int32.not_lt.mpr hc40)))).symm) (by omega)
          | exact ih4 (k + 1) _ (by omega) (sp_thirstTo_t ⟨hc20.2, Or.inr (by rw [hm, nI_clamp (by omega)]; exact Int32.not_le.mp hc40)⟩).symm (by omega)
        · skip
          refine k_iload_n C (f := 1) (i := 1) (p := 1) rfl rfl dX0_leastWatered_23 ?_
          refine k_iconst C ic_m1 dX0_leastWatered_24 ?_
          refine k_icmp_eq C (tgt := 43) (by decide) dX0_leastWatered_25 (fun hc25 => ?_) (fun hc25 => ?_)
          · skip
            refine k_iload_n C (f := 2) (i := 2) (p := 2) rfl rfl dX0_leastWatered_43 ?_
            refine k_istore_n C (f := 1) (i := 1) (lv := [(1, _), (0, _), (2, _)]) rfl (Nat.le_of_ble_eq_true rfl) rfl dX0_leastWatered_44 ?_
            refine k_iinc C (i := 2) (p := 2) (lv := [(2, _), (1, _), (0, _)]) (Nat.le_of_ble_eq_true rfl) rfl (by first | exact am_inc1 _ | rfl) rfl dX0_leastWatered_45 ?_
            refine k_goto C (tgt := 4) (by decide) dX0_leastWatered_48 ?_
            refine k_sub [2, 1, 0] rfl ?_
            first
            | exact ih4 (k + 1) _ (by omega) (by rw [ha]; exact (sp_thirstTo_f (fun h => hc20 ⟨by omega, h.1⟩)).symm) (by omega)
            | exact ih4 (k + 1) _ (by omega) (sp_thirstTo_t ⟨hc20.2, Or.inl (by rw [← ha, hc25]; decide)⟩).symm (by omega)
            | exact ih4 (k + 1) _ (by omega) (by rw [ha]; exact (sp_thirstTo_f (fun h => h.2.elim (fun z => absurd z (by rw [hm]; exact nI_pos (by omega))) (fun z => absurd z (by rw [hm, nI_clamp (by omega)]; exact Int32.not_lt.mpr hc40)))).symm) (by omega)
            | exact ih4 (k + 1) _ (by omega) (sp_thirstTo_t ⟨hc20.2, Or.inr (by rw [hm, nI_clamp (by omega)]; exact Int32.not_le.mp hc40)⟩).symm (by omega)
          · skip
            obtain ⟨m, hm, hmk⟩ := (sp_thirstTo_or r k).resolve_left (fun e => hc25 (ha.trans e))
            refine k_aload_n C (f := 0) (i := 0) (p := 0) rfl rfl dX0_leastWatered_28 ?_
            refine k_getR C f_X0_9 (L0_s (by assumption)) (fun _ _ _ => rfl) (L0_6 (by assumption)) dX0_leastWatered_29 ?_
            refine k_iload_n C (f := 2) (i := 2) (p := 2) rfl rfl dX0_leastWatered_32 ?_
            refine k_iald C (A0_6 (by assumption)) (by first | rfl | assumption) (by omega) (by decide) (by first | exact CRa_6 (by assumption) (by omega) | assumption | rfl) dX0_leastWatered_33 ?_
            refine k_aload_n C (f := 0) (i := 0) (p := 0) rfl rfl dX0_leastWatered_34 ?_
            refine k_getR C f_X0_9 (L0_s (by assumption)) (fun _ _ _ => rfl) (L0_6 (by assumption)) dX0_leastWatered_35 ?_
            refine k_iload_n C (f := 1) (i := 1) (p := 1) rfl rfl dX0_leastWatered_38 ?_
            refine k_iald C (A0_6 (by assumption)) (ha.trans hm) (by omega) (by decide) (CRa_6 (k := m) hr (by omega)) dX0_leastWatered_39 ?_
            refine k_icmp_ge C (tgt := 45) (by decide) dX0_leastWatered_40 (fun hc40 => ?_) (fun hc40 => ?_)
            · skip
              refine k_iinc C (i := 2) (p := 2) (lv := [(2, _), (0, _), (1, _)]) (Nat.le_of_ble_eq_true rfl) rfl (by first | exact am_inc1 _ | rfl) rfl dX0_leastWatered_45 ?_
              refine k_goto C (tgt := 4) (by decide) dX0_leastWatered_48 ?_
              refine k_sub [1, 2, 0] rfl ?_
              first
              | exact ih4 (k + 1) _ (by omega) (by rw [ha]; exact (sp_thirstTo_f (fun h => hc20 ⟨by omega, h.1⟩)).symm) (by omega)
              | exact ih4 (k + 1) _ (by omega) (sp_thirstTo_t ⟨hc20.2, Or.inl (by rw [← ha, hc25]; decide)⟩).symm (by omega)
              | exact ih4 (k + 1) _ (by omega) (by rw [ha]; exact (sp_thirstTo_f (fun h => h.2.elim (fun z => absurd z (by rw [hm]; exact nI_pos (by omega))) (fun z => absurd z (by rw [hm, nI_clamp (by omega)]; exact Int32.not_lt.mpr hc40)))).symm) (by omega)
              | exact ih4 (k + 1) _ (by omega) (sp_thirstTo_t ⟨hc20.2, Or.inr (by rw [hm, nI_clamp (by omega)]; exact Int32.not_le.mp hc40)⟩).symm (by omega)
            · skip
              refine k_iload_n C (f := 2) (i := 2) (p := 2) rfl rfl dX0_leastWatered_43 ?_
              refine k_istore_n C (f := 1) (i := 1) (lv := [(1, _), (0, _), (2, _)]) rfl (Nat.le_of_ble_eq_true rfl) rfl dX0_leastWatered_44 ?_
              refine k_iinc C (i := 2) (p := 2) (lv := [(2, _), (1, _), (0, _)]) (Nat.le_of_ble_eq_true rfl) rfl (by first | exact am_inc1 _ | rfl) rfl dX0_leastWatered_45 ?_
              refine k_goto C (tgt := 4) (by decide) dX0_leastWatered_48 ?_
              refine k_sub [2, 1, 0] rfl ?_
              first
              | exact ih4 (k + 1) _ (by omega) (by rw [ha]; exact (sp_thirstTo_f (fun h => hc20 ⟨by omega, h.1⟩)).symm) (by omega)
              | exact ih4 (k + 1) _ (by omega) (sp_thirstTo_t ⟨hc20.2, Or.inl (by rw [← ha, hc25]; decide)⟩).symm (by omega)
              | exact ih4 (k + 1) _ (by omega) (by rw [ha]; exact (sp_thirstTo_f (fun h => h.2.elim (fun z => absurd z (by rw [hm]; exact nI_pos (by omega))) (fun z => absurd z (by rw [hm, nI_clamp (by omega)]; exact Int32.not_lt.mpr hc40)))).symm) (by omega)
              | exact ih4 (k + 1) _ (by omega) (sp_thirstTo_t ⟨hc20.2, Or.inr (by rw [hm, nI_clamp (by omega)]; exact Int32.not_le.mp hc40)⟩).symm (by omega)
  refine k_sub [2, 1, 0] rfl ?_
  exact loop4 (sp_nc r + 1) 0 (-1) (Nat.zero_le _) rfl (by omega)
set_option maxHeartbeats 4000000 in
set_option maxRecDepth 100000 in
theorem ct_X0_quickest {G : am_G} {Λ : am_L} {I : am_I} {J : am_J} {c q p : Nat} {r : Nat → Int32}  (hl : CarLay Λ c q p) (hr : CarRel I c q p r) : am_Ct G yX0_quickest cX0_quickest 4 (some .int) { frames := 2, cells := 0, slots := 0, locals := 43 } [.ref c] Λ I J (am_pure (.int (sp_fast r)) Λ I J) am_never := by
  refine am_ct_of (own := RX0) rfl (by decide) (Nat.le_of_ble_eq_true rfl) (fun X C => ?_)
  change am_K G X { frames := 2, cells := 0, slots := 0, locals := 43 } 4 Λ I J 0 0 0 [(0, .ref c)] []
  have hp := L0_p hl
  have hpr := CR_p hr
  have hnc := PR_c hpr
  have hnl := CR_l hr
  refine k_iconst C ic_m1 dX0_quickest_0 ?_
  refine k_istore_n C (f := 1) (i := 1) (lv := [(1, _), (0, _)]) rfl (Nat.le_of_ble_eq_true rfl) rfl dX0_quickest_1 ?_
  refine k_iconst C ic_0 dX0_quickest_2 ?_
  refine k_istore_n C (f := 2) (i := 2) (lv := [(2, _), (1, _), (0, _)]) rfl (Nat.le_of_ble_eq_true rfl) rfl dX0_quickest_3 ?_
  refine k_iconst C ic_0 dX0_quickest_4 ?_
  refine k_istore_n C (f := 3) (i := 3) (lv := [(3, _), (2, _), (1, _), (0, _)]) rfl (Nat.le_of_ble_eq_true rfl) rfl dX0_quickest_5 ?_
  have loop6 : ∀ (f : Nat) (k : Nat) (acc bs : Int32), (k ≤ sp_nc r) → (acc = sp_fastTo r k) → ((acc = -1 ∧ bs = nI 0) ∨ ∃ m : Nat, acc = nI m ∧ m < k ∧ bs = sp_speed r m) → (sp_nc r - k) < f → am_K G X { frames := 2, cells := 0, slots := 0, locals := 43 } 4 Λ I J 0 0 6 [(0, .ref c), (1, .int acc), (2, .int bs), (3, .int (nI k))] [] := by
    intro f
    induction f with
    | zero => intro k acc bs hk ha hb hf; exact absurd hf (Nat.not_lt_zero _)
    | succ f ih6 =>
      intro k acc bs hk ha hb hf
      refine k_iload_n C (f := 3) (i := 3) (p := 3) rfl rfl dX0_quickest_6 ?_
      refine k_aload_n C (f := 0) (i := 0) (p := 0) rfl rfl dX0_quickest_7 ?_
      refine k_getR C f_X0_42 (L0_s (by assumption)) (fun _ _ _ => rfl) (L0_0 (by assumption)) dX0_quickest_8 ?_
      refine k_getI C f_X0_72 (L3_s (by assumption)) (fun _ _ _ => rfl) (by first | exact PR_1 (by assumption) | assumption | rfl) dX0_quickest_11 ?_
      first
      | refine k_icmpN_ge C (tgt := 48) (by omega) (by omega) (by decide) dX0_quickest_14 (fun hc14 => ?_) (fun hc14 => ?_)
      | refine k_icmp_ge C (tgt := 48) (by decide) dX0_quickest_14 (fun hc14 => ?_) (fun hc14 => ?_)
      · skip
        refine k_iload_n C (f := 1) (i := 1) (p := 1) rfl rfl dX0_quickest_48 ?_
        exact k_iret C (Nat.le_of_ble_eq_true rfl) (Nat.le_of_ble_eq_true rfl) (⟨by rw [ha, sp_fast, show k = sp_nc r by omega], rfl, rfl, rfl⟩) dX0_quickest_49
      · skip
        refine k_aload_n C (f := 0) (i := 0) (p := 0) rfl rfl dX0_quickest_17 ?_
        refine k_iload_n C (f := 3) (i := 3) (p := 3) rfl rfl dX0_quickest_18 ?_
        refine k_callVp C s_X0_104 h_X0_isLiving (L0_s (by assumption)) rfl (ct_X0_isLiving (by first | assumption | omega) (by first | assumption | omega) (by first | assumption | omega)) rfl rfl (Nat.le_of_ble_eq_true rfl) ⟨Nat.le_of_ble_eq_true rfl, Nat.le_of_ble_eq_true rfl⟩ ⟨Nat.le_of_ble_eq_true rfl, Nat.le_of_ble_eq_true rfl⟩ ⟨rfl, rfl⟩ dX0_quickest_19 ?_
        first
        | refine k_ifb_eq C (tgt := 42) (by decide) dX0_quickest_22 (fun hc22 => ?_) (fun hc22 => ?_)
        | refine k_if_eq C (tgt := 42) (by decide) dX0_quickest_22 (fun hc22 => ?_) (fun hc22 => ?_)
        · skip
          refine k_iinc C (i := 3) (p := 3) (lv := [(3, _), (0, _), (1, _), (2, _)]) (Nat.le_of_ble_eq_true rfl) rfl (by first | exact am_inc1 _ | rfl) rfl dX0_quickest_42 ?_
          refine k_goto C (tgt := 6) (by decide) dX0_quickest_45 ?_
          refine k_sub [1, 2, 3, 0] rfl ?_
          first
          | exact ih6 (k + 1) _ _ (by omega) (by rw [ha]; exact (sp_fastTo_f (fun h => hc22 ⟨by omega, h.1⟩)).symm) (hb.imp id (fun ⟨m, e1, e2, e3⟩ => ⟨m, e1, by omega, e3⟩)) (by omega)
          | exact ih6 (k + 1) _ _ (by omega) (sp_fastTo_t ⟨hc22.2, hb.elim (fun z => Or.inl (by rw [← ha, z.1]; decide)) (fun ⟨m, e1, e2, e3⟩ => Or.inr (by rw [← ha, e1, nI_clamp (by omega), ← e3]; exact Int32.not_le.mp hc31))⟩).symm (Or.inr ⟨k, rfl, by omega, rfl⟩) (by omega)
          | exact ih6 (k + 1) _ _ (by omega) (by rw [ha]; exact (sp_fastTo_f (fun h => hb.elim (fun z => absurd hc31 (by rw [z.2]; exact Int32.not_le.mpr (sp_speed_pos r k))) (fun ⟨m, e1, e2, e3⟩ => h.2.elim (fun z => absurd z (by rw [← ha, e1]; exact nI_pos (by omega))) (fun z => absurd z (by rw [← ha, e1, nI_clamp (by omega), ← e3]; exact Int32.not_lt.mpr hc31))))).symm) (hb.imp id (fun ⟨m, e1, e2, e3⟩ => ⟨m, e1, by omega, e3⟩)) (by omega)
        · skip
          refine k_aload_n C (f := 0) (i := 0) (p := 0) rfl rfl dX0_quickest_25 ?_
          refine k_iload_n C (f := 3) (i := 3) (p := 3) rfl rfl dX0_quickest_26 ?_
          refine k_callVp C s_X0_107 h_X0_speedOf (L0_s (by assumption)) rfl (ct_X0_speedOf (by first | assumption | omega) (by first | assumption | omega) (by omega)) rfl rfl (Nat.le_of_ble_eq_true rfl) ⟨Nat.le_of_ble_eq_true rfl, Nat.le_of_ble_eq_true rfl⟩ ⟨Nat.le_of_ble_eq_true rfl, Nat.le_of_ble_eq_true rfl⟩ ⟨rfl, rfl⟩ dX0_quickest_27 ?_
          refine k_iload_n C (f := 2) (i := 2) (p := 2) rfl rfl dX0_quickest_30 ?_
          refine k_icmp_le C (tgt := 42) (by decide) dX0_quickest_31 (fun hc31 => ?_) (fun hc31 => ?_)
          · skip
            refine k_iinc C (i := 3) (p := 3) (lv := [(3, _), (0, _), (1, _), (2, _)]) (Nat.le_of_ble_eq_true rfl) rfl (by first | exact am_inc1 _ | rfl) rfl dX0_quickest_42 ?_
            refine k_goto C (tgt := 6) (by decide) dX0_quickest_45 ?_
            refine k_sub [1, 2, 3, 0] rfl ?_
            first
            | exact ih6 (k + 1) _ _ (by omega) (by rw [ha]; exact (sp_fastTo_f (fun h => hc22 ⟨by omega, h.1⟩)).symm) (hb.imp id (fun ⟨m, e1, e2, e3⟩ => ⟨m, e1, by omega, e3⟩)) (by omega)
            | exact ih6 (k + 1) _ _ (by omega) (sp_fastTo_t ⟨hc22.2, hb.elim (fun z => Or.inl (by rw [← ha, z.1]; decide)) (fun ⟨m, e1, e2, e3⟩ => Or.inr (by rw [← ha, e1, nI_clamp (by omega), ← e3]; exact Int32.not_le.mp hc31))⟩).symm (Or.inr ⟨k, rfl, by omega, rfl⟩) (by omega)
            | exact ih6 (k + 1) _ _ (by omega) (by rw [ha]; exact (sp_fastTo_f (fun h => hb.elim (fun z => absurd hc31 (by rw [z.2]; exact Int32.not_le.mpr (sp_speed_pos r k))) (fun ⟨m, e1, e2, e3⟩ => h.2.elim (fun z => absurd z (by rw [← ha, e1]; exact nI_pos (by omega))) (fun z => absurd z (by rw [← ha, e1, nI_clamp (by omega), ← e3]; exact Int32.not_lt.mpr hc31))))).symm) (hb.imp id (fun ⟨m, e1, e2, e3⟩ => ⟨m, e1, by omega, e3⟩)) (by omega)
          · skip
            refine k_iload_n C (f := 3) (i := 3) (p := 3) rfl rfl dX0_quickest_34 ?_
            refine k_istore_n C (f := 1) (i := 1) (lv := [(1, _), (0, _), (2, _), (3, _)]) rfl (Nat.le_of_ble_eq_true rfl) rfl dX0_quickest_35 ?_
            refine k_aload_n C (f := 0) (i := 0) (p := 1) rfl rfl dX0_quickest_36 ?_
            refine k_iload_n C (f := 3) (i := 3) (p := 3) rfl rfl dX0_quickest_37 ?_
            refine k_callVp C s_X0_107 h_X0_speedOf (L0_s (by assumption)) rfl (ct_X0_speedOf (by first | assumption | omega) (by first | assumption | omega) (by omega)) rfl rfl (Nat.le_of_ble_eq_true rfl) ⟨Nat.le_of_ble_eq_true rfl, Nat.le_of_ble_eq_true rfl⟩ ⟨Nat.le_of_ble_eq_true rfl, Nat.le_of_ble_eq_true rfl⟩ ⟨rfl, rfl⟩ dX0_quickest_38 ?_
            refine k_istore_n C (f := 2) (i := 2) (lv := [(2, _), (1, _), (0, _), (3, _)]) rfl (Nat.le_of_ble_eq_true rfl) rfl dX0_quickest_41 ?_
            refine k_iinc C (i := 3) (p := 3) (lv := [(3, _), (2, _), (1, _), (0, _)]) (Nat.le_of_ble_eq_true rfl) rfl (by first | exact am_inc1 _ | rfl) rfl dX0_quickest_42 ?_
            refine k_goto C (tgt := 6) (by decide) dX0_quickest_45 ?_
            refine k_sub [3, 2, 1, 0] rfl ?_
            first
            | exact ih6 (k + 1) _ _ (by omega) (by rw [ha]; exact (sp_fastTo_f (fun h => hc22 ⟨by omega, h.1⟩)).symm) (hb.imp id (fun ⟨m, e1, e2, e3⟩ => ⟨m, e1, by omega, e3⟩)) (by omega)
            | exact ih6 (k + 1) _ _ (by omega) (sp_fastTo_t ⟨hc22.2, hb.elim (fun z => Or.inl (by rw [← ha, z.1]; decide)) (fun ⟨m, e1, e2, e3⟩ => Or.inr (by rw [← ha, e1, nI_clamp (by omega), ← e3]; exact Int32.not_le.mp hc31))⟩).symm (Or.inr ⟨k, rfl, by omega, rfl⟩) (by omega)
            | exact ih6 (k + 1) _ _ (by omega) (by rw [ha]; exact (sp_fastTo_f (fun h => hb.elim (fun z => absurd hc31 (by rw [z.2]; exact Int32.not_le.mpr (sp_speed_pos r k))) (fun ⟨m, e1, e2, e3⟩ => h.2.elim (fun z => absurd z (by rw [← ha, e1]; exact nI_pos (by omega))) (fun z => absurd z (by rw [← ha, e1, nI_clamp (by omega), ← e3]; exact Int32.not_lt.mpr hc31))))).symm) (hb.imp id (fun ⟨m, e1, e2, e3⟩ => ⟨m, e1, by omega, e3⟩)) (by omega)
  refine k_sub [3, 2, 1, 0] rfl ?_
  exact loop6 (sp_nc r + 1) 0 (-1) (nI 0) (Nat.zero_le _) rfl (Or.inl ⟨rfl, rfl⟩) (by omega)
set_option maxHeartbeats 4000000 in
set_option maxRecDepth 100000 in
theorem ct_X3_firstWellBehind {G : am_G} {Λ : am_L} {I : am_I} {J : am_J} {p : Nat} {x : Int32} {r : Nat → Int32} (hp : PlanLay Λ p) (hr : PlanRel I p r) (hw : ∀ k : Nat, k < sp_nw r → r (90 + 4 * k) < nI 1000) : am_Ct G yX3_firstWellBehind cX3_firstWellBehind 5 (some .int) { frames := 0, cells := 0, slots := 0, locals := 0 } [.ref p, .int x] Λ I J (am_pure (.int (sp_behind r x)) Λ I J) am_never := by
  refine am_ct_of (own := RX3) rfl (by decide) (Nat.le_of_ble_eq_true rfl) (fun X C => ?_)
  change am_K G X { frames := 0, cells := 0, slots := 0, locals := 0 } 5 Λ I J 0 0 0 [(0, .ref p), (1, .int x)] []
  have hnw := PR_w hr
  refine k_iconst C ic_m1 dX3_firstWellBehind_0 ?_
  refine k_istore_n C (f := 2) (i := 2) (lv := [(2, _), (0, _), (1, _)]) rfl (Nat.le_of_ble_eq_true rfl) rfl dX3_firstWellBehind_1 ?_
  refine k_sipush C sc_1000 dX3_firstWellBehind_2 ?_
  refine k_istore_n C (f := 3) (i := 3) (lv := [(3, _), (2, _), (0, _), (1, _)]) rfl (Nat.le_of_ble_eq_true rfl) rfl dX3_firstWellBehind_5 ?_
  refine k_iconst C ic_0 dX3_firstWellBehind_6 ?_
  refine k_istore C (i := 4) (lv := [(4, _), (3, _), (2, _), (0, _), (1, _)]) (Nat.le_of_ble_eq_true rfl) rfl dX3_firstWellBehind_7 ?_
  have loop9 : ∀ (f : Nat) (k : Nat) (acc pl : Int32), (k ≤ sp_nw r) → (acc = sp_behindTo r x k) → ((acc = -1 ∧ pl = nI 1000) ∨ ∃ m : Nat, acc = nI m ∧ m < k ∧ pl = r (90 + 4 * m)) → (sp_nw r - k) < f → am_K G X { frames := 0, cells := 0, slots := 0, locals := 0 } 5 Λ I J 0 0 9 [(0, .ref p), (1, .int x), (2, .int acc), (3, .int pl), (4, .int (nI k))] [] := by
    intro f
    induction f with
    | zero => intro k acc pl hk ha hb hf; exact absurd hf (Nat.not_lt_zero _)
    | succ f ih9 =>
      intro k acc pl hk ha hb hf
      refine k_iload C (i := 4) (p := 4) rfl dX3_firstWellBehind_9 ?_
      refine k_aload_n C (f := 0) (i := 0) (p := 0) rfl rfl dX3_firstWellBehind_11 ?_
      refine k_getI C f_X3_46 (L3_s (by assumption)) (fun _ _ _ => rfl) (by first | exact PR_5 (by assumption) | assumption | rfl) dX3_firstWellBehind_12 ?_
      first
      | refine k_icmpN_ge C (tgt := 57) (by omega) (by omega) (by decide) dX3_firstWellBehind_15 (fun hc15 => ?_) (fun hc15 => ?_)
      | refine k_icmp_ge C (tgt := 57) (by decide) dX3_firstWellBehind_15 (fun hc15 => ?_) (fun hc15 => ?_)
      · skip
        refine k_iload_n C (f := 2) (i := 2) (p := 2) rfl rfl dX3_firstWellBehind_57 ?_
        exact k_iret C (Nat.le_of_ble_eq_true rfl) (Nat.le_of_ble_eq_true rfl) (⟨by rw [ha, sp_behind, show k = sp_nw r by omega], rfl, rfl, rfl⟩) dX3_firstWellBehind_58
      · skip
        refine k_aload_n C (f := 0) (i := 0) (p := 0) rfl rfl dX3_firstWellBehind_18 ?_
        refine k_getR C f_X3_21 (L3_s (by assumption)) (fun _ _ _ => rfl) (L3_6 (by assumption)) dX3_firstWellBehind_19 ?_
        refine k_iload C (i := 4) (p := 4) rfl dX3_firstWellBehind_22 ?_
        refine k_iald C (A3_6 (by assumption)) (by first | rfl | assumption) (by omega) (by decide) (by first | exact PRa_6 (by assumption) (by omega) | assumption | rfl) dX3_firstWellBehind_24 ?_
        refine k_iload_n C (f := 1) (i := 1) (p := 1) rfl rfl dX3_firstWellBehind_25 ?_
        refine k_icmp_le C (tgt := 51) (by decide) dX3_firstWellBehind_26 (fun hc26 => ?_) (fun hc26 => ?_)
        · skip
          refine k_iinc C (i := 4) (p := 4) (lv := [(4, _), (0, _), (1, _), (2, _), (3, _)]) (Nat.le_of_ble_eq_true rfl) rfl (by first | exact am_inc1 _ | rfl) rfl dX3_firstWellBehind_51 ?_
          refine k_goto C (tgt := 9) (by decide) dX3_firstWellBehind_54 ?_
          refine k_sub [1, 2, 3, 4, 0] rfl ?_
          first
          | exact ih9 (k + 1) _ _ (by omega) (by rw [ha]; exact (sp_behindTo_f (fun h => absurd h.1 (Int32.not_lt.mpr hc26))).symm) (hb.imp id (fun ⟨m, e1, e2, e3⟩ => ⟨m, e1, by omega, e3⟩)) (by omega)
          | exact ih9 (k + 1) _ _ (by omega) (sp_behindTo_t ⟨Int32.not_le.mp hc26, hb.elim (fun z => Or.inl (by rw [← ha, z.1]; decide)) (fun ⟨m, e1, e2, e3⟩ => Or.inr (by rw [← ha, e1, nI_clamp (by omega), ← e3]; exact Int32.not_le.mp hc37))⟩).symm (Or.inr ⟨k, rfl, by omega, rfl⟩) (by omega)
          | exact ih9 (k + 1) _ _ (by omega) (by rw [ha]; exact (sp_behindTo_f (fun h => hb.elim (fun z => absurd hc37 (by rw [z.2]; exact Int32.not_le.mpr (hw k (by omega)))) (fun ⟨m, e1, e2, e3⟩ => h.2.elim (fun z => absurd z (by rw [← ha, e1]; exact nI_pos (by omega))) (fun z => absurd z (by rw [← ha, e1, nI_clamp (by omega), ← e3]; exact Int32.not_lt.mpr hc37))))).symm) (hb.imp id (fun ⟨m, e1, e2, e3⟩ => ⟨m, e1, by omega, e3⟩)) (by omega)
        · skip
          refine k_aload_n C (f := 0) (i := 0) (p := 0) rfl rfl dX3_firstWellBehind_29 ?_
          refine k_getR C f_X3_21 (L3_s (by assumption)) (fun _ _ _ => rfl) (L3_6 (by assumption)) dX3_firstWellBehind_30 ?_
          refine k_iload C (i := 4) (p := 4) rfl dX3_firstWellBehind_33 ?_
          refine k_iald C (A3_6 (by assumption)) (by first | rfl | assumption) (by omega) (by decide) (by first | exact PRa_6 (by assumption) (by omega) | assumption | rfl) dX3_firstWellBehind_35 ?_
          refine k_iload_n C (f := 3) (i := 3) (p := 3) rfl rfl dX3_firstWellBehind_36 ?_
          refine k_icmp_ge C (tgt := 51) (by decide) dX3_firstWellBehind_37 (fun hc37 => ?_) (fun hc37 => ?_)
          · skip
            refine k_iinc C (i := 4) (p := 4) (lv := [(4, _), (0, _), (1, _), (2, _), (3, _)]) (Nat.le_of_ble_eq_true rfl) rfl (by first | exact am_inc1 _ | rfl) rfl dX3_firstWellBehind_51 ?_
            refine k_goto C (tgt := 9) (by decide) dX3_firstWellBehind_54 ?_
            refine k_sub [1, 2, 3, 4, 0] rfl ?_
            first
            | exact ih9 (k + 1) _ _ (by omega) (by rw [ha]; exact (sp_behindTo_f (fun h => absurd h.1 (Int32.not_lt.mpr hc26))).symm) (hb.imp id (fun ⟨m, e1, e2, e3⟩ => ⟨m, e1, by omega, e3⟩)) (by omega)
            | exact ih9 (k + 1) _ _ (by omega) (sp_behindTo_t ⟨Int32.not_le.mp hc26, hb.elim (fun z => Or.inl (by rw [← ha, z.1]; decide)) (fun ⟨m, e1, e2, e3⟩ => Or.inr (by rw [← ha, e1, nI_clamp (by omega), ← e3]; exact Int32.not_le.mp hc37))⟩).symm (Or.inr ⟨k, rfl, by omega, rfl⟩) (by omega)
            | exact ih9 (k + 1) _ _ (by omega) (by rw [ha]; exact (sp_behindTo_f (fun h => hb.elim (fun z => absurd hc37 (by rw [z.2]; exact Int32.not_le.mpr (hw k (by omega)))) (fun ⟨m, e1, e2, e3⟩ => h.2.elim (fun z => absurd z (by rw [← ha, e1]; exact nI_pos (by omega))) (fun z => absurd z (by rw [← ha, e1, nI_clamp (by omega), ← e3]; exact Int32.not_lt.mpr hc37))))).symm) (hb.imp id (fun ⟨m, e1, e2, e3⟩ => ⟨m, e1, by omega, e3⟩)) (by omega)
          · skip
            refine k_iload C (i := 4) (p := 4) rfl dX3_firstWellBehind_40 ?_
            refine k_istore_n C (f := 2) (i := 2) (lv := [(2, _), (0, _), (1, _), (3, _), (4, _)]) rfl (Nat.le_of_ble_eq_true rfl) rfl dX3_firstWellBehind_42 ?_
            refine k_aload_n C (f := 0) (i := 0) (p := 1) rfl rfl dX3_firstWellBehind_43 ?_
            refine k_getR C f_X3_21 (L3_s (by assumption)) (fun _ _ _ => rfl) (L3_6 (by assumption)) dX3_firstWellBehind_44 ?_
            refine k_iload C (i := 4) (p := 4) rfl dX3_firstWellBehind_47 ?_
            refine k_iald C (A3_6 (by assumption)) (by first | rfl | assumption) (by omega) (by decide) (by first | exact PRa_6 (by assumption) (by omega) | assumption | rfl) dX3_firstWellBehind_49 ?_
            refine k_istore_n C (f := 3) (i := 3) (lv := [(3, _), (2, _), (0, _), (1, _), (4, _)]) rfl (Nat.le_of_ble_eq_true rfl) rfl dX3_firstWellBehind_50 ?_
            refine k_iinc C (i := 4) (p := 4) (lv := [(4, _), (3, _), (2, _), (0, _), (1, _)]) (Nat.le_of_ble_eq_true rfl) rfl (by first | exact am_inc1 _ | rfl) rfl dX3_firstWellBehind_51 ?_
            refine k_goto C (tgt := 9) (by decide) dX3_firstWellBehind_54 ?_
            refine k_sub [3, 4, 2, 1, 0] rfl ?_
            first
            | exact ih9 (k + 1) _ _ (by omega) (by rw [ha]; exact (sp_behindTo_f (fun h => absurd h.1 (Int32.not_lt.mpr hc26))).symm) (hb.imp id (fun ⟨m, e1, e2, e3⟩ => ⟨m, e1, by omega, e3⟩)) (by omega)
            | exact ih9 (k + 1) _ _ (by omega) (sp_behindTo_t ⟨Int32.not_le.mp hc26, hb.elim (fun z => Or.inl (by rw [← ha, z.1]; decide)) (fun ⟨m, e1, e2, e3⟩ => Or.inr (by rw [← ha, e1, nI_clamp (by omega), ← e3]; exact Int32.not_le.mp hc37))⟩).symm (Or.inr ⟨k, rfl, by omega, rfl⟩) (by omega)
            | exact ih9 (k + 1) _ _ (by omega) (by rw [ha]; exact (sp_behindTo_f (fun h => hb.elim (fun z => absurd hc37 (by rw [z.2]; exact Int32.not_le.mpr (hw k (by omega)))) (fun ⟨m, e1, e2, e3⟩ => h.2.elim (fun z => absurd z (by rw [← ha, e1]; exact nI_pos (by omega))) (fun z => absurd z (by rw [← ha, e1, nI_clamp (by omega), ← e3]; exact Int32.not_lt.mpr hc37))))).symm) (hb.imp id (fun ⟨m, e1, e2, e3⟩ => ⟨m, e1, by omega, e3⟩)) (by omega)
  refine k_sub [3, 4, 2, 1, 0] rfl ?_
  exact loop9 (sp_nw r + 1) 0 (-1) (nI 1000) (Nat.zero_le _) rfl (Or.inl ⟨rfl, rfl⟩) (by omega)
set_option maxHeartbeats 4000000 in
set_option maxRecDepth 100000 in
theorem ct_X0_distanceNow {G : am_G} {Λ : am_L} {I : am_I} {J : am_J} {c q p : Nat} {r : Nat → Int32} {ld : Nat} (hl : CarLay Λ c q p) (hr : CarRel I c q p r) (hld : r 4 = nI ld) (hlc : ld < sp_nc r) (h3 : r 3 = 0 ∨ r 3 = 1) (hw : ∀ k : Nat, k < sp_nw r → r (90 + 4 * k) < nI 1000) : am_Ct G yX0_distanceNow cX0_distanceNow 3 (some .int) { frames := 3, cells := 0, slots := 0, locals := 64 } [.ref c] Λ I J (am_pure (.int (if sp_living r = 0 then nI 0 else sp_dist r ld)) Λ I J) am_never := by
  refine am_ct_of (own := RX0) rfl (by decide) (Nat.le_of_ble_eq_true rfl) (fun X C => ?_)
  change am_K G X { frames := 3, cells := 0, slots := 0, locals := 64 } 3 Λ I J 0 0 0 [(0, .ref c)] []
  have hp := L0_p hl
  have hpr := CR_p hr
  have hnc := PR_c hpr
  have hnl := CR_l hr
  have hll : sp_living r ≤ sp_nc r := sp_livingTo_le r (sp_nc r)
  have hnw := PR_w hpr
  refine k_aload_n C (f := 0) (i := 0) (p := 0) rfl rfl dX0_distanceNow_0 ?_
  refine k_callVp C s_X0_89 h_X0_countLiving (L0_s (by assumption)) rfl (ct_X0_countLiving (by first | assumption | omega) (by first | assumption | omega)) rfl rfl (Nat.le_of_ble_eq_true rfl) ⟨Nat.le_of_ble_eq_true rfl, Nat.le_of_ble_eq_true rfl⟩ ⟨Nat.le_of_ble_eq_true rfl, Nat.le_of_ble_eq_true rfl⟩ ⟨rfl, rfl⟩ dX0_distanceNow_1 ?_
  refine k_if_ne C (tgt := 9) (by decide) dX0_distanceNow_4 (fun hc4 => ?_) (fun hc4 => ?_)
  · skip
    have hz : ¬ sp_living r = 0 := fun e => hc4 (by rw [e]; rfl)
    refine k_aload_n C (f := 0) (i := 0) (p := 0) rfl rfl dX0_distanceNow_9 ?_
    refine k_aload_n C (f := 0) (i := 0) (p := 0) rfl rfl dX0_distanceNow_10 ?_
    refine k_getI C f_X0_57 (L0_s (by assumption)) (fun _ _ _ => rfl) ((CR_4 hr).trans hld) dX0_distanceNow_11 ?_
    refine k_callVp C s_X0_107 h_X0_speedOf (L0_s (by assumption)) rfl (ct_X0_speedOf (by first | assumption | omega) (by first | assumption | omega) (by first | assumption | omega)) rfl rfl (Nat.le_of_ble_eq_true rfl) ⟨Nat.le_of_ble_eq_true rfl, Nat.le_of_ble_eq_true rfl⟩ ⟨Nat.le_of_ble_eq_true rfl, Nat.le_of_ble_eq_true rfl⟩ ⟨rfl, rfl⟩ dX0_distanceNow_14 ?_
    refine k_bipush C bc_10 dX0_distanceNow_17 ?_
    refine k_aload_n C (f := 0) (i := 0) (p := 0) rfl rfl dX0_distanceNow_19 ?_
    refine k_getR C f_X0_42 (L0_s (by assumption)) (fun _ _ _ => rfl) (L0_0 (by assumption)) dX0_distanceNow_20 ?_
    refine k_aload_n C (f := 0) (i := 0) (p := 0) rfl rfl dX0_distanceNow_23 ?_
    refine k_getI C f_X0_50 (L0_s (by assumption)) (fun _ _ _ => rfl) (by first | exact CR_2 (by assumption) | assumption | rfl) dX0_distanceNow_24 ?_
    refine k_callVp C s_X0_126 h_X3_greatestStorm (L3_s (by assumption)) rfl (ct_X3_greatestStorm (by first | assumption | omega) (by first | assumption | omega)) rfl rfl (Nat.le_of_ble_eq_true rfl) ⟨Nat.le_of_ble_eq_true rfl, Nat.le_of_ble_eq_true rfl⟩ ⟨Nat.le_of_ble_eq_true rfl, Nat.le_of_ble_eq_true rfl⟩ ⟨rfl, rfl⟩ dX0_distanceNow_27 ?_
    refine k_isub C dX0_distanceNow_30 ?_
    refine k_imul C dX0_distanceNow_31 ?_
    refine k_bipush C bc_10 dX0_distanceNow_32 ?_
    refine k_idiv C (by decide) dX0_distanceNow_34 ?_
    refine k_istore_n C (f := 1) (i := 1) (lv := [(1, _), (0, _)]) rfl (Nat.le_of_ble_eq_true rfl) rfl dX0_distanceNow_35 ?_
    refine k_iload_n C (f := 1) (i := 1) (p := 0) rfl rfl dX0_distanceNow_36 ?_
    refine k_aload_n C (f := 0) (i := 0) (p := 1) rfl rfl dX0_distanceNow_37 ?_
    refine k_getR C f_X0_42 (L0_s (by assumption)) (fun _ _ _ => rfl) (L0_0 (by assumption)) dX0_distanceNow_38 ?_
    refine k_getI C f_X0_86 (L3_s (by assumption)) (fun _ _ _ => rfl) (by first | exact PR_0 (by assumption) | assumption | rfl) dX0_distanceNow_41 ?_
    refine k_aload_n C (f := 0) (i := 0) (p := 1) rfl rfl dX0_distanceNow_44 ?_
    refine k_getI C f_X0_46 (L0_s (by assumption)) (fun _ _ _ => rfl) (by first | exact CR_1 (by assumption) | assumption | rfl) dX0_distanceNow_45 ?_
    refine k_isub C dX0_distanceNow_48 ?_
    refine k_min C ((rfl : _ = sp_min _ _)) m_X0_129 ⟨Nat.le_of_ble_eq_true rfl, Nat.le_of_ble_eq_true rfl⟩ ⟨Nat.le_of_ble_eq_true rfl, Nat.le_of_ble_eq_true rfl⟩ dX0_distanceNow_49 ?_
    refine k_istore_n C (f := 1) (i := 1) (lv := [(1, _), (0, _)]) rfl (Nat.le_of_ble_eq_true rfl) rfl dX0_distanceNow_52 ?_
    refine k_aload_n C (f := 0) (i := 0) (p := 1) rfl rfl dX0_distanceNow_53 ?_
    refine k_getR C f_X0_42 (L0_s (by assumption)) (fun _ _ _ => rfl) (L0_0 (by assumption)) dX0_distanceNow_54 ?_
    refine k_aload_n C (f := 0) (i := 0) (p := 1) rfl rfl dX0_distanceNow_57 ?_
    refine k_getI C f_X0_46 (L0_s (by assumption)) (fun _ _ _ => rfl) (by first | exact CR_1 (by assumption) | assumption | rfl) dX0_distanceNow_58 ?_
    refine k_callVp C s_X0_132 h_X3_firstWellBehind (L3_s (by assumption)) rfl (ct_X3_firstWellBehind (by first | assumption | omega) (by first | assumption | omega) (by first | assumption | omega)) rfl rfl (Nat.le_of_ble_eq_true rfl) ⟨Nat.le_of_ble_eq_true rfl, Nat.le_of_ble_eq_true rfl⟩ ⟨Nat.le_of_ble_eq_true rfl, Nat.le_of_ble_eq_true rfl⟩ ⟨rfl, rfl⟩ dX0_distanceNow_61 ?_
    refine k_istore_n C (f := 2) (i := 2) (lv := [(2, _), (1, _), (0, _)]) rfl (Nat.le_of_ble_eq_true rfl) rfl dX0_distanceNow_64 ?_
    refine k_aload_n C (f := 0) (i := 0) (p := 2) rfl rfl dX0_distanceNow_65 ?_
    refine k_getI C f_X0_53 (L0_s (by assumption)) (fun _ _ _ => rfl) (by first | exact CR_3 (by assumption) | assumption | rfl) dX0_distanceNow_66 ?_
    refine k_if_eq C (tgt := 96) (by decide) dX0_distanceNow_69 (fun hc69 => ?_) (fun hc69 => ?_)
    · skip
      refine k_iload_n C (f := 1) (i := 1) (p := 1) rfl rfl dX0_distanceNow_96 ?_
      exact k_iret C (Nat.le_of_ble_eq_true rfl) (Nat.le_of_ble_eq_true rfl) (⟨by
        rw [if_neg hz]
        unfold sp_dist
        first
        | (rw [if_neg (fun h => absurd h.1 (by rw [hc69]; decide))]; done)
        | (rw [if_neg (fun h => h.2 (by rw [show sp_behind r (r 1) = -1 from hc74]; decide))]; done)
        | (rw [if_pos ⟨h3.resolve_left hc69, by rw [show sp_behind r (r 1) = nI m from hm]; exact nI_pos (by omega)⟩, show sp_behind r (r 1) = nI m from hm, nI_clamp (by omega)]; done), rfl, rfl, rfl⟩) dX0_distanceNow_97
    · skip
      refine k_iload_n C (f := 2) (i := 2) (p := 0) rfl rfl dX0_distanceNow_72 ?_
      refine k_iconst C ic_m1 dX0_distanceNow_73 ?_
      refine k_icmp_eq C (tgt := 96) (by decide) dX0_distanceNow_74 (fun hc74 => ?_) (fun hc74 => ?_)
      · skip
        refine k_iload_n C (f := 1) (i := 1) (p := 1) rfl rfl dX0_distanceNow_96 ?_
        exact k_iret C (Nat.le_of_ble_eq_true rfl) (Nat.le_of_ble_eq_true rfl) (⟨by
          rw [if_neg hz]
          unfold sp_dist
          first
          | (rw [if_neg (fun h => absurd h.1 (by rw [hc69]; decide))]; done)
          | (rw [if_neg (fun h => h.2 (by rw [show sp_behind r (r 1) = -1 from hc74]; decide))]; done)
          | (rw [if_pos ⟨h3.resolve_left hc69, by rw [show sp_behind r (r 1) = nI m from hm]; exact nI_pos (by omega)⟩, show sp_behind r (r 1) = nI m from hm, nI_clamp (by omega)]; done), rfl, rfl, rfl⟩) dX0_distanceNow_97
      · skip
        obtain ⟨m, hm, hmk, hmx⟩ := (sp_behindTo_or r (r 1) (sp_nw r)).resolve_left hc74
        refine k_iload_n C (f := 1) (i := 1) (p := 1) rfl rfl dX0_distanceNow_77 ?_
        refine k_aload_n C (f := 0) (i := 0) (p := 2) rfl rfl dX0_distanceNow_78 ?_
        refine k_getR C f_X0_42 (L0_s (by assumption)) (fun _ _ _ => rfl) (L0_0 (by assumption)) dX0_distanceNow_79 ?_
        refine k_getR C f_X0_135 (L3_s (by assumption)) (fun _ _ _ => rfl) (L3_6 (by assumption)) dX0_distanceNow_82 ?_
        refine k_iload_n C (f := 2) (i := 2) (p := 0) rfl rfl dX0_distanceNow_85 ?_
        refine k_iald C (A3_6 (by assumption)) (hm) (by omega) (by decide) (PRa_6 (k := m) hpr (by omega)) dX0_distanceNow_86 ?_
        refine k_aload_n C (f := 0) (i := 0) (p := 2) rfl rfl dX0_distanceNow_87 ?_
        refine k_getI C f_X0_46 (L0_s (by assumption)) (fun _ _ _ => rfl) (by first | exact CR_1 (by assumption) | assumption | rfl) dX0_distanceNow_88 ?_
        refine k_isub C dX0_distanceNow_91 ?_
        refine k_min C ((rfl : _ = sp_min _ _)) m_X0_129 ⟨Nat.le_of_ble_eq_true rfl, Nat.le_of_ble_eq_true rfl⟩ ⟨Nat.le_of_ble_eq_true rfl, Nat.le_of_ble_eq_true rfl⟩ dX0_distanceNow_92 ?_
        refine k_istore_n C (f := 1) (i := 1) (lv := [(1, _), (2, _), (0, _)]) rfl (Nat.le_of_ble_eq_true rfl) rfl dX0_distanceNow_95 ?_
        refine k_iload_n C (f := 1) (i := 1) (p := 0) rfl rfl dX0_distanceNow_96 ?_
        exact k_iret C (Nat.le_of_ble_eq_true rfl) (Nat.le_of_ble_eq_true rfl) (⟨by
          rw [if_neg hz]
          unfold sp_dist
          first
          | (rw [if_neg (fun h => absurd h.1 (by rw [hc69]; decide))]; done)
          | (rw [if_neg (fun h => h.2 (by rw [show sp_behind r (r 1) = -1 from hc74]; decide))]; done)
          | (rw [if_pos ⟨h3.resolve_left hc69, by rw [show sp_behind r (r 1) = nI m from hm]; exact nI_pos (by omega)⟩, show sp_behind r (r 1) = nI m from hm, nI_clamp (by omega)]; done), rfl, rfl, rfl⟩) dX0_distanceNow_97
  · skip
    have hz : sp_living r = 0 := nI_inj (by omega) (by omega) hc4
    refine k_iconst C ic_0 dX0_distanceNow_7 ?_
    exact k_iret C (Nat.le_of_ble_eq_true rfl) (Nat.le_of_ble_eq_true rfl) (⟨by rw [if_pos hz], rfl, rfl, rfl⟩) dX0_distanceNow_8
set_option maxHeartbeats 4000000 in
set_option maxRecDepth 100000 in
theorem ct_X0_dropAllOf {G : am_G} {Λ : am_L} {I : am_I} {J : am_J} {c q p : Nat} {r : Nat → Int32} {j : Nat} (hl : CarLay Λ c q p) (hr : CarRel I c q p r) (hj : j < 2 ^ 31) (hck : ∀ k : Nat, k < sp_nl r → sp_cok r k) : am_Ct G yX0_dropAllOf cX0_dropAllOf 3 none { frames := 2, cells := 0, slots := 0, locals := 43 } [.ref c, .int (nI j)] Λ I J (am_gen Λ J (fun v I' => v = none ∧ CarRel I' c q p (sp_dropTo r j (sp_nl r)) ∧ am_fr c q I I')) am_never := by
  refine am_ct_of (own := RX0) rfl (by decide) (Nat.le_of_ble_eq_true rfl) (fun X C => ?_)
  change am_K G X { frames := 2, cells := 0, slots := 0, locals := 43 } 3 Λ I J 0 0 0 [(0, .ref c), (1, .int (nI j))] []
  have hp := L0_p hl
  have hpr := CR_p hr
  have hnc := PR_c hpr
  have hnl := CR_l hr
  refine k_iconst C ic_0 dX0_dropAllOf_0 ?_
  refine k_istore_n C (f := 2) (i := 2) (lv := [(2, _), (0, _), (1, _)]) rfl (Nat.le_of_ble_eq_true rfl) rfl dX0_dropAllOf_1 ?_
  have loop2 : ∀ (f : Nat) (k : Nat) (I1 : am_I), (k ≤ sp_nl r) → (CarRel I1 c q p (sp_dropTo r j k)) → (am_fr c q I I1) → (sp_nl r - k) < f → am_K G X { frames := 2, cells := 0, slots := 0, locals := 43 } 3 Λ I1 J 0 0 2 [(0, .ref c), (1, .int (nI j)), (2, .int (nI k))] [] := by
    intro f
    induction f with
    | zero => intro k I1 hk hr1 hf1 hf; exact absurd hf (Nat.not_lt_zero _)
    | succ f ih2 =>
      intro k I1 hk hr1 hf1 hf
      have hsc := sc_drop r j k
      obtain ⟨s1, s2, s3, s4⟩ := hsc
      refine k_iload_n C (f := 2) (i := 2) (p := 2) rfl rfl dX0_dropAllOf_2 ?_
      refine k_aload_n C (f := 0) (i := 0) (p := 0) rfl rfl dX0_dropAllOf_3 ?_
      refine k_getI C f_X0_69 (L0_s (by assumption)) (fun _ _ _ => rfl) ((CR_12 hr1).trans (congrArg nI s4)) dX0_dropAllOf_4 ?_
      first
      | refine k_icmpN_ge C (tgt := 31) (by omega) (by omega) (by decide) dX0_dropAllOf_7 (fun hc7 => ?_) (fun hc7 => ?_)
      | refine k_icmp_ge C (tgt := 31) (by decide) dX0_dropAllOf_7 (fun hc7 => ?_) (fun hc7 => ?_)
      · skip
        exact k_vret C (Nat.le_of_ble_eq_true rfl) (Nat.le_of_ble_eq_true rfl) (⟨rfl, rfl, ⟨rfl, by rw [show sp_nl r = k by omega]; exact hr1, hf1⟩⟩) dX0_dropAllOf_31
      · skip
        refine k_aload_n C (f := 0) (i := 0) (p := 0) rfl rfl dX0_dropAllOf_10 ?_
        refine k_getR C f_X0_36 (L0_s (by assumption)) (fun _ _ _ => rfl) (L0_15 (by assumption)) dX0_dropAllOf_11 ?_
        refine k_iload_n C (f := 2) (i := 2) (p := 2) rfl rfl dX0_dropAllOf_14 ?_
        refine k_iald C (A0_15 (by assumption)) (by first | rfl | assumption) (by omega) (by decide) (by first | exact CRa_15 (by assumption) (by omega) | assumption | rfl) dX0_dropAllOf_15 ?_
        refine k_iload_n C (f := 1) (i := 1) (p := 1) rfl rfl dX0_dropAllOf_16 ?_
        refine k_icmp_ne C (tgt := 25) (by decide) dX0_dropAllOf_17 (fun hc17 => ?_) (fun hc17 => ?_)
        · skip
          refine k_iinc C (i := 2) (p := 2) (lv := [(2, _), (0, _), (1, _)]) (Nat.le_of_ble_eq_true rfl) rfl (by first | exact am_inc1 _ | rfl) rfl dX0_dropAllOf_25 ?_
          refine k_goto C (tgt := 2) (by decide) dX0_dropAllOf_28 ?_
          refine k_sub [1, 2, 0] rfl ?_
          first
          | exact ih2 (k + 1) _ (by omega) (by rw [sp_dropTo_f hc17]; exact hr1) hf1 (by omega)
          | exact ih2 (k + 1) _ (by omega) (by rw [sp_dropTo_t hc17]; exact hr2) (hf1.tr hf2) (by omega)
        · skip
          refine k_aload_n C (f := 0) (i := 0) (p := 0) rfl rfl dX0_dropAllOf_20 ?_
          refine k_iload_n C (f := 2) (i := 2) (p := 2) rfl rfl dX0_dropAllOf_21 ?_
          refine k_callVg C s_X0_158 h_X0_layDown (L0_s (by assumption)) rfl (ct_X0_layDown hl hr1 (by omega) (cok_drop (hck k (by omega)))) rfl rfl (Nat.le_of_ble_eq_true rfl) ⟨Nat.le_of_ble_eq_true rfl, Nat.le_of_ble_eq_true rfl⟩ ⟨Nat.le_of_ble_eq_true rfl, Nat.le_of_ble_eq_true rfl⟩ ⟨rfl, rfl⟩ dX0_dropAllOf_22 ?_
          intro v I2 hv2
          obtain ⟨rfl, hr2, hf2⟩ := hv2
          refine k_iinc C (i := 2) (p := 2) (lv := [(2, _), (0, _), (1, _)]) (Nat.le_of_ble_eq_true rfl) rfl (by first | exact am_inc1 _ | rfl) rfl dX0_dropAllOf_25 ?_
          refine k_goto C (tgt := 2) (by decide) dX0_dropAllOf_28 ?_
          refine k_sub [1, 2, 0] rfl ?_
          first
          | exact ih2 (k + 1) _ (by omega) (by rw [sp_dropTo_f hc17]; exact hr1) hf1 (by omega)
          | exact ih2 (k + 1) _ (by omega) (by rw [sp_dropTo_t hc17]; exact hr2) (hf1.tr hf2) (by omega)
  refine k_sub [1, 2, 0] rfl ?_
  exact loop2 (sp_nl r + 1) 0 I (Nat.zero_le _) hr am_fr.rf (by omega)
set_option maxHeartbeats 4000000 in
set_option maxRecDepth 100000 in
theorem ct_X0_useWater {G : am_G} {Λ : am_L} {I : am_I} {J : am_J} {c q p : Nat} {r : Nat → Int32} {j d : Nat} {x : Int32} (hl : CarLay Λ c q p) (hr : CarRel I c q p r) (hj : j < sp_nc r) (hd : r (16 + 8 * j) = nI d) (hd2 : d ≤ 2) (hck : ∀ k : Nat, k < sp_nl r → sp_cok r k) : am_Ct G yX0_useWater cX0_useWater 3 none { frames := 3, cells := 0, slots := 0, locals := 65 } [.ref c, .int (nI j), .int x] Λ I J (am_gen Λ J (fun v I' => v = none ∧ CarRel I' c q p (sp_drain r j x) ∧ am_fr c q I I')) am_never := by
  refine am_ct_of (own := RX0) rfl (by decide) (Nat.le_of_ble_eq_true rfl) (fun X C => ?_)
  change am_K G X { frames := 3, cells := 0, slots := 0, locals := 65 } 3 Λ I J 0 0 0 [(0, .ref c), (1, .int (nI j)), (2, .int x)] []
  have hp := L0_p hl
  have hpr := CR_p hr
  have hnc := PR_c hpr
  have hnl := CR_l hr
  refine k_aload_n C (f := 0) (i := 0) (p := 0) rfl rfl dX0_useWater_0 ?_
  refine k_getR C f_X0_9 (L0_s (by assumption)) (fun _ _ _ => rfl) (L0_6 (by assumption)) dX0_useWater_1 ?_
  refine k_iload_n C (f := 1) (i := 1) (p := 1) rfl rfl dX0_useWater_4 ?_
  refine k_iald C (A0_6 (by assumption)) (by first | rfl | assumption) (by omega) (by decide) (by first | exact CRa_6 (by assumption) (by omega) | assumption | rfl) dX0_useWater_5 ?_
  refine k_iload_n C (f := 2) (i := 2) (p := 2) rfl rfl dX0_useWater_6 ?_
  refine k_icmp_lt C (tgt := 28) (by decide) dX0_useWater_7 (fun hc7 => ?_) (fun hc7 => ?_)
  · skip
    refine k_aload_n C (f := 0) (i := 0) (p := 0) rfl rfl dX0_useWater_28 ?_
    refine k_getR C f_X0_9 (L0_s (by assumption)) (fun _ _ _ => rfl) (L0_6 (by assumption)) dX0_useWater_29 ?_
    refine k_iload_n C (f := 1) (i := 1) (p := 1) rfl rfl dX0_useWater_32 ?_
    refine k_iconst C ic_0 dX0_useWater_33 ?_
    refine k_iast C (A0_6 (by assumption)) (by first | rfl | assumption) (by omega) (by decide) dX0_useWater_34 ?_
    have hr1 := CU_water (k := j) (x := nI 0) hl hr hj
    have hf1 : am_fr c q I (am_up I (q) (j) (nI 0)) := am_fr.rf.up (Or.inr (by omega))
    generalize hgI1 : am_up I (q) (j) (nI 0) = I1 at hr1 hf1 ⊢
    have s1 : sp_nc (upd r (13 + 8 * j) (nI 0)) = sp_nc r := sp_nc_upd (by omega)
    refine k_aload_n C (f := 0) (i := 0) (p := 0) rfl rfl dX0_useWater_35 ?_
    refine k_getR C f_X0_21 (L0_s (by assumption)) (fun _ _ _ => rfl) (L0_9 (by assumption)) dX0_useWater_36 ?_
    refine k_iload_n C (f := 1) (i := 1) (p := 1) rfl rfl dX0_useWater_39 ?_
    refine k_dup2 C rfl rfl dX0_useWater_40 ?_
    refine k_iald C (A0_9 (by assumption)) (by first | rfl | assumption) (by omega) (by decide) ((CRa_9 hr1 (by omega)).trans (upd_ne (by omega))) dX0_useWater_41 ?_
    refine k_iconst C ic_1 dX0_useWater_42 ?_
    refine k_iadd C dX0_useWater_43 ?_
    refine k_iast C (A0_9 (by assumption)) (by first | rfl | assumption) (by omega) (by decide) dX0_useWater_44 ?_
    have hr2 := CU_dry (k := j) (x := r (16 + 8 * j) + nI 1) hl hr1 (by omega)
    replace hr2 : CarRel _ c q p (sp_dry r j) := hr2
    have hf2 : am_fr c q I (am_up I1 (q + 3) (j) (r (16 + 8 * j) + nI 1)) := hf1.up (Or.inr (by omega))
    generalize hgI2 : am_up I1 (q + 3) (j) (r (16 + 8 * j) + nI 1) = I2 at hr2 hf2 ⊢
    have s2 := sc_dry r j
    have s2a := s2.1
    have s2d := s2.2.2.2
    refine k_aload_n C (f := 0) (i := 0) (p := 0) rfl rfl dX0_useWater_45 ?_
    refine k_iload_n C (f := 1) (i := 1) (p := 1) rfl rfl dX0_useWater_46 ?_
    refine k_callVp C s_X0_104 h_X0_isLiving (L0_s (by assumption)) rfl (ct_X0_isLiving hl hr2 (by omega)) rfl rfl (Nat.le_of_ble_eq_true rfl) ⟨Nat.le_of_ble_eq_true rfl, Nat.le_of_ble_eq_true rfl⟩ ⟨Nat.le_of_ble_eq_true rfl, Nat.le_of_ble_eq_true rfl⟩ ⟨rfl, rfl⟩ dX0_useWater_47 ?_
    first
    | refine k_ifb_ne C (tgt := 58) (by decide) dX0_useWater_50 (fun hc50 => ?_) (fun hc50 => ?_)
    | refine k_if_ne C (tgt := 58) (by decide) dX0_useWater_50 (fun hc50 => ?_) (fun hc50 => ?_)
    · skip
      have hd3 : ¬ r (16 + 8 * j) + nI 1 = nI 3 := fun e => by
        have h9 := hc50.2
        rw [dry_at, e] at h9
        exact absurd h9 (by decide)
      exact k_vret C (Nat.le_of_ble_eq_true rfl) (Nat.le_of_ble_eq_true rfl) (⟨rfl, rfl, by first | exact ⟨rfl, by rw [drain_b (Int32.not_le.mpr hc7) hd3]; unfold sp_die; rw [← sp_nl_upd (r := sp_dry r j) (i := 17 + 8 * j) (x := nI 1) (by omega)]; exact hr3, hf2.tr hf3⟩ | exact ⟨rfl, by rw [drain_c (Int32.not_le.mpr hc7) hd3]; exact hr2, hf2⟩⟩) dX0_useWater_58
    · skip
      have hd3 : r (16 + 8 * j) + nI 1 = nI 3 := by
        have h9 : ¬ (sp_dry r j (16 + 8 * j) < nI 3) := fun e => hc50 ⟨by omega, e⟩
        rw [dry_at, hd, nI_add1] at h9
        have h8 := mt (nI_ltI (show d + 1 < 2 ^ 31 by omega) (show 3 < 2 ^ 31 by omega)).mpr h9
        rw [hd, nI_add1]
        exact congrArg nI (by omega)
      refine k_aload_n C (f := 0) (i := 0) (p := 0) rfl rfl dX0_useWater_53 ?_
      refine k_iload_n C (f := 1) (i := 1) (p := 1) rfl rfl dX0_useWater_54 ?_
      refine k_callVg C s_X0_154 h_X0_dropAllOf (L0_s (by assumption)) rfl (ct_X0_dropAllOf (r := upd (sp_dry r j) (17 + 8 * j) (nI 1)) hl (CR_dead hr2 (by omega)) (by omega) (fun k hk => cok_up (cok_up (cok_up (hck k (by rw [sp_nl_upd (by omega)] at hk; rw [← s2.2.2.2]; exact hk)) (by omega)) (by omega)) (by omega))) rfl rfl (Nat.le_of_ble_eq_true rfl) ⟨Nat.le_of_ble_eq_true rfl, Nat.le_of_ble_eq_true rfl⟩ ⟨Nat.le_of_ble_eq_true rfl, Nat.le_of_ble_eq_true rfl⟩ ⟨rfl, rfl⟩ dX0_useWater_55 ?_
      intro v I3 hv3
      obtain ⟨rfl, hr3, hf3⟩ := hv3
      exact k_vret C (Nat.le_of_ble_eq_true rfl) (Nat.le_of_ble_eq_true rfl) (⟨rfl, rfl, by first | exact ⟨rfl, by rw [drain_b (Int32.not_le.mpr hc7) hd3]; unfold sp_die; rw [← sp_nl_upd (r := sp_dry r j) (i := 17 + 8 * j) (x := nI 1) (by omega)]; exact hr3, hf2.tr hf3⟩ | exact ⟨rfl, by rw [drain_c (Int32.not_le.mpr hc7) hd3]; exact hr2, hf2⟩⟩) dX0_useWater_58
  · skip
    refine k_aload_n C (f := 0) (i := 0) (p := 0) rfl rfl dX0_useWater_10 ?_
    refine k_getR C f_X0_9 (L0_s (by assumption)) (fun _ _ _ => rfl) (L0_6 (by assumption)) dX0_useWater_11 ?_
    refine k_iload_n C (f := 1) (i := 1) (p := 1) rfl rfl dX0_useWater_14 ?_
    refine k_dup2 C rfl rfl dX0_useWater_15 ?_
    refine k_iald C (A0_6 (by assumption)) (by first | rfl | assumption) (by omega) (by decide) (by first | exact CRa_6 (by assumption) (by omega) | assumption | rfl) dX0_useWater_16 ?_
    refine k_iload_n C (f := 2) (i := 2) (p := 2) rfl rfl dX0_useWater_17 ?_
    refine k_isub C dX0_useWater_18 ?_
    refine k_iast C (A0_6 (by assumption)) (by first | rfl | assumption) (by omega) (by decide) dX0_useWater_19 ?_
    have hr1 := CU_water (k := j) (x := r (13 + 8 * j) - x) hl hr hj
    have hf1 : am_fr c q I (am_up I (q) (j) (r (13 + 8 * j) - x)) := am_fr.rf.up (Or.inr (by omega))
    generalize hgI1 : am_up I (q) (j) (r (13 + 8 * j) - x) = I1 at hr1 hf1 ⊢
    have s1 : sp_nc (upd r (13 + 8 * j) (r (13 + 8 * j) - x)) = sp_nc r := sp_nc_upd (by omega)
    refine k_aload_n C (f := 0) (i := 0) (p := 0) rfl rfl dX0_useWater_20 ?_
    refine k_getR C f_X0_21 (L0_s (by assumption)) (fun _ _ _ => rfl) (L0_9 (by assumption)) dX0_useWater_21 ?_
    refine k_iload_n C (f := 1) (i := 1) (p := 1) rfl rfl dX0_useWater_24 ?_
    refine k_iconst C ic_0 dX0_useWater_25 ?_
    refine k_iast C (A0_9 (by assumption)) (by first | rfl | assumption) (by omega) (by decide) dX0_useWater_26 ?_
    have hr2 := CU_dry (k := j) (x := nI 0) hl hr1 (by omega)
    rw [(drain_a (Int32.not_lt.mp hc7)).symm] at hr2
    have hf2 : am_fr c q I (am_up I1 (q + 3) (j) (nI 0)) := hf1.up (Or.inr (by omega))
    generalize hgI2 : am_up I1 (q + 3) (j) (nI 0) = I2 at hr2 hf2 ⊢
    exact k_vret C (Nat.le_of_ble_eq_true rfl) (Nat.le_of_ble_eq_true rfl) (⟨rfl, rfl, ⟨rfl, hr2, hf2⟩⟩) dX0_useWater_27
