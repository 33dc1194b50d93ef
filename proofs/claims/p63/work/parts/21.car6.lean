set_option maxHeartbeats 4000000 in
set_option maxRecDepth 100000 in
theorem ct_X0_nextToDrink {G : am_G} {Λ : am_L} {I : am_I} {J : am_J} {c q p : Nat} {r : Nat → Int32} {sh : Nat} (hl : CarLay Λ c q p) (hr : CarRel I c q p r) (hsh : Λ.1 sh = (2, 10)) (hd : ∀ m : Nat, m < sp_nc r → I sh m = -1 ∨ ¬ I sh m < 0) : am_Ct G yX0_nextToDrink cX0_nextToDrink 5 (some .int) { frames := 2, cells := 0, slots := 0, locals := 42 } [.ref c, .ref sh] Λ I J (am_pure (.int (sp_nextTo r (I sh) (sp_nc r))) Λ I J) am_never := by
  refine am_ct_of (own := RX0) rfl (by decide) (Nat.le_of_ble_eq_true rfl) (fun X C => ?_)
  change am_K G X { frames := 2, cells := 0, slots := 0, locals := 42 } 5 Λ I J 0 0 0 [(0, .ref c), (1, .ref sh)] []
  have hp := L0_p hl
  have hpr := CR_p hr
  have hnc := PR_c hpr
  have hnl := CR_l hr
  refine k_iconst C ic_m1 dX0_nextToDrink_0 ?_
  refine k_istore_n C (f := 2) (i := 2) (lv := [(2, _), (0, _), (1, _)]) rfl (Nat.le_of_ble_eq_true rfl) rfl dX0_nextToDrink_1 ?_
  refine k_iconst C ic_0 dX0_nextToDrink_2 ?_
  refine k_istore_n C (f := 3) (i := 3) (lv := [(3, _), (2, _), (0, _), (1, _)]) rfl (Nat.le_of_ble_eq_true rfl) rfl dX0_nextToDrink_3 ?_
  have loop4 : ∀ (f : Nat) (k : Nat) (acc : Int32), (k ≤ sp_nc r) → (acc = sp_nextTo r (I sh) k) → (sp_nc r - k) < f → am_K G X { frames := 2, cells := 0, slots := 0, locals := 42 } 5 Λ I J 0 0 4 [(0, .ref c), (1, .ref sh), (2, .int acc), (3, .int (nI k))] [] := by
    intro f
    induction f with
    | zero => intro k acc hk ha hf; exact absurd hf (Nat.not_lt_zero _)
    | succ f ih4 =>
      intro k acc hk ha hf
      refine k_iload_n C (f := 3) (i := 3) (p := 3) rfl rfl dX0_nextToDrink_4 ?_
      refine k_aload_n C (f := 0) (i := 0) (p := 0) rfl rfl dX0_nextToDrink_5 ?_
      refine k_getR C f_X0_42 (L0_s (by assumption)) (fun _ _ _ => rfl) (L0_0 (by assumption)) dX0_nextToDrink_6 ?_
      refine k_getI C f_X0_72 (L3_s (by assumption)) (fun _ _ _ => rfl) (by first | exact PR_1 (by assumption) | assumption | rfl) dX0_nextToDrink_9 ?_
      first
      | refine k_icmpN_ge C (tgt := 70) (by omega) (by omega) (by decide) dX0_nextToDrink_12 (fun hc12 => ?_) (fun hc12 => ?_)
      | refine k_icmp_ge C (tgt := 70) (by decide) dX0_nextToDrink_12 (fun hc12 => ?_) (fun hc12 => ?_)
      · skip
        refine k_iload_n C (f := 2) (i := 2) (p := 2) rfl rfl dX0_nextToDrink_70 ?_
        exact k_iret C (Nat.le_of_ble_eq_true rfl) (Nat.le_of_ble_eq_true rfl) (⟨by rw [ha, show k = sp_nc r by omega], rfl, rfl, rfl⟩) dX0_nextToDrink_71
      · skip
        refine k_aload_n C (f := 0) (i := 0) (p := 0) rfl rfl dX0_nextToDrink_15 ?_
        refine k_iload_n C (f := 3) (i := 3) (p := 3) rfl rfl dX0_nextToDrink_16 ?_
        refine k_callVp C s_X0_104 h_X0_isLiving (L0_s (by assumption)) rfl (ct_X0_isLiving (by first | assumption | omega) (by first | assumption | omega) (by first | assumption | omega)) rfl rfl (Nat.le_of_ble_eq_true rfl) ⟨Nat.le_of_ble_eq_true rfl, Nat.le_of_ble_eq_true rfl⟩ ⟨Nat.le_of_ble_eq_true rfl, Nat.le_of_ble_eq_true rfl⟩ ⟨rfl, rfl⟩ dX0_nextToDrink_17 ?_
        first
        | refine k_ifb_eq C (tgt := 34) (by decide) dX0_nextToDrink_20 (fun hc20 => ?_) (fun hc20 => ?_)
        | refine k_if_eq C (tgt := 34) (by decide) dX0_nextToDrink_20 (fun hc20 => ?_) (fun hc20 => ?_)
        · skip
          refine k_iconst C ic_0 dX0_nextToDrink_34 ?_
          refine k_istore C (i := 4) (lv := [(4, _), (0, _), (1, _), (2, _), (3, _)]) (Nat.le_of_ble_eq_true rfl) rfl dX0_nextToDrink_35 ?_
          refine k_iload C (i := 4) (p := 0) rfl dX0_nextToDrink_37 ?_
          first
          | refine k_ifb_eq C (tgt := 64) (by decide) dX0_nextToDrink_39 (fun hc39 => ?_) (fun hc39 => ?_)
          | refine k_if_eq C (tgt := 64) (by decide) dX0_nextToDrink_39 (fun hc39 => ?_) (fun hc39 => ?_)
          · skip
            refine k_iinc C (i := 3) (p := 4) (lv := [(3, _), (4, _), (0, _), (1, _), (2, _)]) (Nat.le_of_ble_eq_true rfl) rfl (by first | exact am_inc1 _ | rfl) rfl dX0_nextToDrink_64 ?_
            refine k_goto C (tgt := 4) (by decide) dX0_nextToDrink_67 ?_
            refine k_sub [2, 3, 4, 0] rfl ?_
            first
            | exact ih4 (k + 1) _ (by omega) (by rw [ha]; exact (sp_nextTo_f (fun h => hc20 ⟨by omega, h.1⟩)).symm) (by omega)
            | exact ih4 (k + 1) _ (by omega) (by rw [ha]; exact (sp_nextTo_f (fun h => ((hd k (by omega)).resolve_left hc27) h.2.1)).symm) (by omega)
            | exact ih4 (k + 1) _ (by omega) (sp_nextTo_t ⟨hc20.2, by rw [hc27]; decide, Or.inl (by rw [← ha, hc44]; decide)⟩).symm (by omega)
            | exact ih4 (k + 1) _ (by omega) (by rw [ha]; exact (sp_nextTo_f (fun h => h.2.2.elim (fun z => absurd z (by rw [hm]; exact nI_pos (by omega))) (fun z => absurd z (by rw [hm, nI_clamp (by omega)]; exact Int32.not_lt.mpr hc59)))).symm) (by omega)
            | exact ih4 (k + 1) _ (by omega) (sp_nextTo_t ⟨hc20.2, by rw [hc27]; decide, Or.inr (by rw [hm, nI_clamp (by omega)]; exact Int32.not_le.mp hc59)⟩).symm (by omega)
          · skip
            exact absurd (by decide) hc39
        · skip
          refine k_aload_n C (f := 1) (i := 1) (p := 1) rfl rfl dX0_nextToDrink_23 ?_
          refine k_iload_n C (f := 3) (i := 3) (p := 3) rfl rfl dX0_nextToDrink_24 ?_
          refine k_iald C (by assumption) (by first | rfl | assumption) (by omega) (by decide) (rfl) dX0_nextToDrink_25 ?_
          refine k_iconst C ic_m1 dX0_nextToDrink_26 ?_
          refine k_icmp_ne C (tgt := 34) (by decide) dX0_nextToDrink_27 (fun hc27 => ?_) (fun hc27 => ?_)
          · skip
            refine k_iconst C ic_0 dX0_nextToDrink_34 ?_
            refine k_istore C (i := 4) (lv := [(4, _), (0, _), (1, _), (2, _), (3, _)]) (Nat.le_of_ble_eq_true rfl) rfl dX0_nextToDrink_35 ?_
            refine k_iload C (i := 4) (p := 0) rfl dX0_nextToDrink_37 ?_
            first
            | refine k_ifb_eq C (tgt := 64) (by decide) dX0_nextToDrink_39 (fun hc39 => ?_) (fun hc39 => ?_)
            | refine k_if_eq C (tgt := 64) (by decide) dX0_nextToDrink_39 (fun hc39 => ?_) (fun hc39 => ?_)
            · skip
              refine k_iinc C (i := 3) (p := 4) (lv := [(3, _), (4, _), (0, _), (1, _), (2, _)]) (Nat.le_of_ble_eq_true rfl) rfl (by first | exact am_inc1 _ | rfl) rfl dX0_nextToDrink_64 ?_
              refine k_goto C (tgt := 4) (by decide) dX0_nextToDrink_67 ?_
              refine k_sub [2, 3, 4, 0] rfl ?_
              first
              | exact ih4 (k + 1) _ (by omega) (by rw [ha]; exact (sp_nextTo_f (fun h => hc20 ⟨by omega, h.1⟩)).symm) (by omega)
              | exact ih4 (k + 1) _ (by omega) (by rw [ha]; exact (sp_nextTo_f (fun h => ((hd k (by omega)).resolve_left hc27) h.2.1)).symm) (by omega)
              | exact ih4 (k + 1) _ (by omega) (sp_nextTo_t ⟨hc20.2, by rw [hc27]; decide, Or.inl (by rw [← ha, hc44]; decide)⟩).symm (by omega)
              | exact ih4 (k + 1) _ (by omega) (by rw [ha]; exact (sp_nextTo_f (fun h => h.2.2.elim (fun z => absurd z (by rw [hm]; exact nI_pos (by omega))) (fun z => absurd z (by rw [hm, nI_clamp (by omega)]; exact Int32.not_lt.mpr hc59)))).symm) (by omega)
              | exact ih4 (k + 1) _ (by omega) (sp_nextTo_t ⟨hc20.2, by rw [hc27]; decide, Or.inr (by rw [hm, nI_clamp (by omega)]; exact Int32.not_le.mp hc59)⟩).symm (by omega)
            · skip
              exact absurd (by decide) hc39
          · skip
            refine k_iconst C ic_1 dX0_nextToDrink_30 ?_
            refine k_goto C (tgt := 35) (by decide) dX0_nextToDrink_31 ?_
            refine k_istore C (i := 4) (lv := [(4, _), (0, _), (1, _), (2, _), (3, _)]) (Nat.le_of_ble_eq_true rfl) rfl dX0_nextToDrink_35 ?_
            refine k_iload C (i := 4) (p := 0) rfl dX0_nextToDrink_37 ?_
            first
            | refine k_ifb_eq C (tgt := 64) (by decide) dX0_nextToDrink_39 (fun hc39 => ?_) (fun hc39 => ?_)
            | refine k_if_eq C (tgt := 64) (by decide) dX0_nextToDrink_39 (fun hc39 => ?_) (fun hc39 => ?_)
            · skip
              exact absurd hc39 (by decide)
            · skip
              refine k_iload_n C (f := 2) (i := 2) (p := 3) rfl rfl dX0_nextToDrink_42 ?_
              refine k_iconst C ic_m1 dX0_nextToDrink_43 ?_
              refine k_icmp_eq C (tgt := 62) (by decide) dX0_nextToDrink_44 (fun hc44 => ?_) (fun hc44 => ?_)
              · skip
                refine k_iload_n C (f := 3) (i := 3) (p := 4) rfl rfl dX0_nextToDrink_62 ?_
                refine k_istore_n C (f := 2) (i := 2) (lv := [(2, _), (4, _), (0, _), (1, _), (3, _)]) rfl (Nat.le_of_ble_eq_true rfl) rfl dX0_nextToDrink_63 ?_
                refine k_iinc C (i := 3) (p := 4) (lv := [(3, _), (2, _), (4, _), (0, _), (1, _)]) (Nat.le_of_ble_eq_true rfl) rfl (by first | exact am_inc1 _ | rfl) rfl dX0_nextToDrink_64 ?_
                refine k_goto C (tgt := 4) (by decide) dX0_nextToDrink_67 ?_
                refine k_sub [3, 4, 1, 0] rfl ?_
                first
                | exact ih4 (k + 1) _ (by omega) (by rw [ha]; exact (sp_nextTo_f (fun h => hc20 ⟨by omega, h.1⟩)).symm) (by omega)
                | exact ih4 (k + 1) _ (by omega) (by rw [ha]; exact (sp_nextTo_f (fun h => ((hd k (by omega)).resolve_left hc27) h.2.1)).symm) (by omega)
                | exact ih4 (k + 1) _ (by omega) (sp_nextTo_t ⟨hc20.2, by rw [hc27]; decide, Or.inl (by rw [← ha, hc44]; decide)⟩).symm (by omega)
                | exact ih4 (k + 1) _ (by omega) (by rw [ha]; exact (sp_nextTo_f (fun h => h.2.2.elim (fun z => absurd z (by rw [hm]; exact nI_pos (by omega))) (fun z => absurd z (by rw [hm, nI_clamp (by omega)]; exact Int32.not_lt.mpr hc59)))).symm) (by omega)
                | exact ih4 (k + 1) _ (by omega) (sp_nextTo_t ⟨hc20.2, by rw [hc27]; decide, Or.inr (by rw [hm, nI_clamp (by omega)]; exact Int32.not_le.mp hc59)⟩).symm (by omega)
              · skip
                obtain ⟨m, hm, hmk, -⟩ := (sp_nextTo_or r (I sh) k).resolve_left (fun e => hc44 (ha.trans e))
                refine k_aload_n C (f := 0) (i := 0) (p := 1) rfl rfl dX0_nextToDrink_47 ?_
                refine k_getR C f_X0_9 (L0_s (by assumption)) (fun _ _ _ => rfl) (L0_6 (by assumption)) dX0_nextToDrink_48 ?_
                refine k_iload_n C (f := 3) (i := 3) (p := 4) rfl rfl dX0_nextToDrink_51 ?_
                refine k_iald C (A0_6 (by assumption)) (by first | rfl | assumption) (by omega) (by decide) (by first | exact CRa_6 (by assumption) (by omega) | assumption | rfl) dX0_nextToDrink_52 ?_
                refine k_aload_n C (f := 0) (i := 0) (p := 1) rfl rfl dX0_nextToDrink_53 ?_
                refine k_getR C f_X0_9 (L0_s (by assumption)) (fun _ _ _ => rfl) (L0_6 (by assumption)) dX0_nextToDrink_54 ?_
                refine k_iload_n C (f := 2) (i := 2) (p := 3) rfl rfl dX0_nextToDrink_57 ?_
                refine k_iald C (A0_6 (by assumption)) (ha.trans hm) (by omega) (by decide) (CRa_6 (k := m) hr (by omega)) dX0_nextToDrink_58 ?_
                refine k_icmp_ge C (tgt := 64) (by decide) dX0_nextToDrink_59 (fun hc59 => ?_) (fun hc59 => ?_)
                · skip
                  refine k_iinc C (i := 3) (p := 4) (lv := [(3, _), (4, _), (0, _), (1, _), (2, _)]) (Nat.le_of_ble_eq_true rfl) rfl (by first | exact am_inc1 _ | rfl) rfl dX0_nextToDrink_64 ?_
                  refine k_goto C (tgt := 4) (by decide) dX0_nextToDrink_67 ?_
                  refine k_sub [2, 3, 4, 0] rfl ?_
                  first
                  | exact ih4 (k + 1) _ (by omega) (by rw [ha]; exact (sp_nextTo_f (fun h => hc20 ⟨by omega, h.1⟩)).symm) (by omega)
                  | exact ih4 (k + 1) _ (by omega) (by rw [ha]; exact (sp_nextTo_f (fun h => ((hd k (by omega)).resolve_left hc27) h.2.1)).symm) (by omega)
                  | exact ih4 (k + 1) _ (by omega) (sp_nextTo_t ⟨hc20.2, by rw [hc27]; decide, Or.inl (by rw [← ha, hc44]; decide)⟩).symm (by omega)
                  | exact ih4 (k + 1) _ (by omega) (by rw [ha]; exact (sp_nextTo_f (fun h => h.2.2.elim (fun z => absurd z (by rw [hm]; exact nI_pos (by omega))) (fun z => absurd z (by rw [hm, nI_clamp (by omega)]; exact Int32.not_lt.mpr hc59)))).symm) (by omega)
                  | exact ih4 (k + 1) _ (by omega) (sp_nextTo_t ⟨hc20.2, by rw [hc27]; decide, Or.inr (by rw [hm, nI_clamp (by omega)]; exact Int32.not_le.mp hc59)⟩).symm (by omega)
                · skip
                  refine k_iload_n C (f := 3) (i := 3) (p := 4) rfl rfl dX0_nextToDrink_62 ?_
                  refine k_istore_n C (f := 2) (i := 2) (lv := [(2, _), (4, _), (0, _), (1, _), (3, _)]) rfl (Nat.le_of_ble_eq_true rfl) rfl dX0_nextToDrink_63 ?_
                  refine k_iinc C (i := 3) (p := 4) (lv := [(3, _), (2, _), (4, _), (0, _), (1, _)]) (Nat.le_of_ble_eq_true rfl) rfl (by first | exact am_inc1 _ | rfl) rfl dX0_nextToDrink_64 ?_
                  refine k_goto C (tgt := 4) (by decide) dX0_nextToDrink_67 ?_
                  refine k_sub [3, 4, 1, 0] rfl ?_
                  first
                  | exact ih4 (k + 1) _ (by omega) (by rw [ha]; exact (sp_nextTo_f (fun h => hc20 ⟨by omega, h.1⟩)).symm) (by omega)
                  | exact ih4 (k + 1) _ (by omega) (by rw [ha]; exact (sp_nextTo_f (fun h => ((hd k (by omega)).resolve_left hc27) h.2.1)).symm) (by omega)
                  | exact ih4 (k + 1) _ (by omega) (sp_nextTo_t ⟨hc20.2, by rw [hc27]; decide, Or.inl (by rw [← ha, hc44]; decide)⟩).symm (by omega)
                  | exact ih4 (k + 1) _ (by omega) (by rw [ha]; exact (sp_nextTo_f (fun h => h.2.2.elim (fun z => absurd z (by rw [hm]; exact nI_pos (by omega))) (fun z => absurd z (by rw [hm, nI_clamp (by omega)]; exact Int32.not_lt.mpr hc59)))).symm) (by omega)
                  | exact ih4 (k + 1) _ (by omega) (sp_nextTo_t ⟨hc20.2, by rw [hc27]; decide, Or.inr (by rw [hm, nI_clamp (by omega)]; exact Int32.not_le.mp hc59)⟩).symm (by omega)
  refine k_sub [2, 3, 1, 0] rfl ?_
  exact loop4 (sp_nc r + 1) 0 (-1) (Nat.zero_le _) rfl (by omega)
set_option maxHeartbeats 4000000 in
set_option maxRecDepth 100000 in
theorem ct_X0_shareOut {G : am_G} {Λ : am_L} {I : am_I} {J : am_J} {c q p : Nat} {r : Nat → Int32} {sh w : Nat} (hl : CarLay Λ c q p) (hr : CarRel I c q p r) (hsh : Λ.1 sh = (2, 10)) (hds : sh ≠ c ∧ (sh < q ∨ q + 10 ≤ sh) ∧ (sh < p ∨ p + 10 ≤ sh)) (hwn : w < sp_nw r) (htk : ∀ m : Nat, m < sp_nc r → ∃ t x : Nat, r (12 + 8 * m) = nI t ∧ r (13 + 8 * m) = nI x ∧ x ≤ t ∧ t ≤ 90) (hlv : ∃ n : Nat, r (93 + 4 * w) = nI n ∧ n ≤ 999) : am_Ct G yX0_shareOut cX0_shareOut 6 none { frames := 3, cells := 0, slots := 0, locals := 66 } [.ref c, .int (nI w), .ref sh] Λ I J (am_gen Λ J (fun v I' => v = none ∧ (∀ m : Nat, m < sp_nc r → I' sh m = sp_drinks r w m ∧ (I' sh m = -1 ∨ ¬ I' sh m < 0)) ∧ ∀ b : Nat, b ≠ sh → I' b = I b)) am_never := by
  refine am_ct_of (own := RX0) rfl (by decide) (Nat.le_of_ble_eq_true rfl) (fun X C => ?_)
  change am_K G X { frames := 3, cells := 0, slots := 0, locals := 66 } 6 Λ I J 0 0 0 [(0, .ref c), (1, .int (nI w)), (2, .ref sh)] []
  have hp := L0_p hl
  have hpr := CR_p hr
  have hnc := PR_c hpr
  have hnl := CR_l hr
  have hnw := PR_w hpr
  have ag : ∀ I1 : am_I, (∀ b : Nat, b ≠ sh → I1 b = I b) → CarRel I1 c q p r := fun I1 h => CR_agree hr (h c (by omega)) (fun b g1 g2 => h b (by omega)) (fun b g1 g2 => h b (by omega))
  refine k_iconst C ic_0 dX0_shareOut_0 ?_
  refine k_istore_n C (f := 3) (i := 3) (lv := [(3, _), (0, _), (1, _), (2, _)]) rfl (Nat.le_of_ble_eq_true rfl) rfl dX0_shareOut_1 ?_
  have loop2 : ∀ (f : Nat) (k : Nat) (I1 : am_I), (k ≤ sp_nc r) → (∀ m : Nat, m < k → I1 sh m = -1) → (∀ b : Nat, b ≠ sh → I1 b = I b) → (sp_nc r - k) < f → am_K G X { frames := 3, cells := 0, slots := 0, locals := 66 } 6 Λ I1 J 0 0 2 [(0, .ref c), (1, .int (nI w)), (2, .ref sh), (3, .int (nI k))] [] := by
    intro f
    induction f with
    | zero => intro k I1 hk hs1 ho1 hf; exact absurd hf (Nat.not_lt_zero _)
    | succ f ih2 =>
      intro k I1 hk hs1 ho1 hf
      have hr1 := ag I1 ho1
      have hpr1 := CR_p hr1
      refine k_iload_n C (f := 3) (i := 3) (p := 3) rfl rfl dX0_shareOut_2 ?_
      refine k_aload_n C (f := 0) (i := 0) (p := 0) rfl rfl dX0_shareOut_3 ?_
      refine k_getR C f_X0_42 (L0_s (by assumption)) (fun _ _ _ => rfl) (L0_0 (by assumption)) dX0_shareOut_4 ?_
      refine k_getI C f_X0_72 (L3_s (by assumption)) (fun _ _ _ => rfl) (by first | exact PR_1 (by assumption) | assumption | rfl) dX0_shareOut_7 ?_
      first
      | refine k_icmpN_ge C (tgt := 23) (by omega) (by omega) (by decide) dX0_shareOut_10 (fun hc10 => ?_) (fun hc10 => ?_)
      | refine k_icmp_ge C (tgt := 23) (by decide) dX0_shareOut_10 (fun hc10 => ?_) (fun hc10 => ?_)
      · skip
        refine k_aload_n C (f := 0) (i := 0) (p := 0) rfl rfl dX0_shareOut_23 ?_
        refine k_getR C f_X0_27 (L0_s (by assumption)) (fun _ _ _ => rfl) (L0_11 (by assumption)) dX0_shareOut_24 ?_
        refine k_iload_n C (f := 1) (i := 1) (p := 1) rfl rfl dX0_shareOut_27 ?_
        refine k_iald C (A0_11 (by assumption)) (by first | rfl | assumption) (by omega) (by decide) (by first | exact CRa_11 (by assumption) (by omega) | assumption | rfl) dX0_shareOut_28 ?_
        refine k_istore_n C (f := 3) (i := 3) (lv := [(3, _), (0, _), (1, _), (2, _)]) rfl (Nat.le_of_ble_eq_true rfl) rfl dX0_shareOut_29 ?_
        refine k_iconst C ic_0 dX0_shareOut_30 ?_
        refine k_istore C (i := 4) (lv := [(4, _), (3, _), (0, _), (1, _), (2, _)]) (Nat.le_of_ble_eq_true rfl) rfl dX0_shareOut_31 ?_
        have loop33 : ∀ (f : Nat) (t : Nat) (I2 : am_I) (lv : Int32), (t ≤ sp_nc r) → (∀ m : Nat, m < sp_nc r → sp_turns r (sp_nc r - t) (I2 sh) lv m = sp_drinks r w m) → (∃ n : Nat, lv = nI n ∧ n ≤ 999) → (∀ m : Nat, m < sp_nc r → I2 sh m = -1 ∨ ¬ I2 sh m < 0) → (∀ b : Nat, b ≠ sh → I2 b = I b) → (sp_nc r - t) < f → am_K G X { frames := 3, cells := 0, slots := 0, locals := 66 } 6 Λ I2 J 0 0 33 [(0, .ref c), (1, .int (nI w)), (2, .ref sh), (3, .int lv), (4, .int (nI t))] [] := by
          intro f
          induction f with
          | zero => intro t I2 lv ht hT hN hD ho2 hf; exact absurd hf (Nat.not_lt_zero _)
          | succ f ih33 =>
            intro t I2 lv ht hT hN hD ho2 hf
            have hr2 := ag I2 ho2
            have hpr2 := CR_p hr2
            refine k_iload C (i := 4) (p := 4) rfl dX0_shareOut_33 ?_
            refine k_aload_n C (f := 0) (i := 0) (p := 0) rfl rfl dX0_shareOut_35 ?_
            refine k_getR C f_X0_42 (L0_s (by assumption)) (fun _ _ _ => rfl) (L0_0 (by assumption)) dX0_shareOut_36 ?_
            refine k_getI C f_X0_72 (L3_s (by assumption)) (fun _ _ _ => rfl) (by first | exact PR_1 (by assumption) | assumption | rfl) dX0_shareOut_39 ?_
            first
            | refine k_icmpN_ge C (tgt := 98) (by omega) (by omega) (by decide) dX0_shareOut_42 (fun hc42 => ?_) (fun hc42 => ?_)
            | refine k_icmp_ge C (tgt := 98) (by decide) dX0_shareOut_42 (fun hc42 => ?_) (fun hc42 => ?_)
            · skip
              exact k_vret C (Nat.le_of_ble_eq_true rfl) (Nat.le_of_ble_eq_true rfl) (⟨rfl, rfl, ⟨rfl, fun m hm => ⟨by rw [← hT m hm, show sp_nc r - t = 0 by omega]; rfl, hD m hm⟩, ho2⟩⟩) dX0_shareOut_98
            · skip
              refine k_aload_n C (f := 0) (i := 0) (p := 0) rfl rfl dX0_shareOut_45 ?_
              refine k_aload_n C (f := 2) (i := 2) (p := 2) rfl rfl dX0_shareOut_46 ?_
              refine k_callVp C s_X0_167 h_X0_nextToDrink (L0_s (by assumption)) rfl (ct_X0_nextToDrink hl hr2 hsh hD) rfl rfl (Nat.le_of_ble_eq_true rfl) ⟨Nat.le_of_ble_eq_true rfl, Nat.le_of_ble_eq_true rfl⟩ ⟨Nat.le_of_ble_eq_true rfl, Nat.le_of_ble_eq_true rfl⟩ ⟨rfl, rfl⟩ dX0_shareOut_47 ?_
              refine k_istore C (i := 5) (lv := [(5, _), (0, _), (1, _), (2, _), (3, _), (4, _)]) (Nat.le_of_ble_eq_true rfl) rfl dX0_shareOut_50 ?_
              refine k_iload C (i := 5) (p := 0) rfl dX0_shareOut_52 ?_
              refine k_iconst C ic_m1 dX0_shareOut_54 ?_
              refine k_icmp_ne C (tgt := 59) (by decide) dX0_shareOut_55 (fun hc55 => ?_) (fun hc55 => ?_)
              · skip
                obtain ⟨m, hm, hmk, -, -⟩ := (sp_nextTo_or r (I2 sh) (sp_nc r)).resolve_left hc55
                obtain ⟨tk, x, htk1, htk2, hxt, ht90⟩ := htk m hmk
                obtain ⟨n, hlvn, hn9⟩ := hN
                have hx : sp_min lv (r (12 + 8 * m) - r (13 + 8 * m)) = nI (min n (tk - x)) := by rw [htk1, htk2, hlvn, pk_sub hxt, sp_min_nI (by omega) (by omega)]
                refine k_aload_n C (f := 2) (i := 2) (p := 3) rfl rfl dX0_shareOut_59 ?_
                refine k_iload C (i := 5) (p := 0) rfl dX0_shareOut_60 ?_
                refine k_iload_n C (f := 3) (i := 3) (p := 4) rfl rfl dX0_shareOut_62 ?_
                refine k_aload_n C (f := 0) (i := 0) (p := 1) rfl rfl dX0_shareOut_63 ?_
                refine k_getR C f_X0_42 (L0_s (by assumption)) (fun _ _ _ => rfl) (L0_0 (by assumption)) dX0_shareOut_64 ?_
                refine k_getR C f_X0_77 (L3_s (by assumption)) (fun _ _ _ => rfl) (L3_4 (by assumption)) dX0_shareOut_67 ?_
                refine k_iload C (i := 5) (p := 0) rfl dX0_shareOut_70 ?_
                refine k_iald C (A3_4 (by assumption)) (hm) (by omega) (by decide) (PRa_4 (k := m) hpr2 (by omega)) dX0_shareOut_72 ?_
                refine k_aload_n C (f := 0) (i := 0) (p := 1) rfl rfl dX0_shareOut_73 ?_
                refine k_getR C f_X0_9 (L0_s (by assumption)) (fun _ _ _ => rfl) (L0_6 (by assumption)) dX0_shareOut_74 ?_
                refine k_iload C (i := 5) (p := 0) rfl dX0_shareOut_77 ?_
                refine k_iald C (A0_6 (by assumption)) (hm) (by omega) (by decide) (CRa_6 (k := m) hr2 (by omega)) dX0_shareOut_79 ?_
                refine k_isub C dX0_shareOut_80 ?_
                refine k_min C ((rfl : _ = sp_min _ _)) m_X0_129 ⟨Nat.le_of_ble_eq_true rfl, Nat.le_of_ble_eq_true rfl⟩ ⟨Nat.le_of_ble_eq_true rfl, Nat.le_of_ble_eq_true rfl⟩ dX0_shareOut_81 ?_
                refine k_iast C (by assumption) (hm) (by omega) (by decide) dX0_shareOut_84 ?_
                obtain ⟨I3, hI3⟩ : ∃ z : am_I, z = am_up I2 sh m (sp_min lv (r (12 + 8 * m) - r (13 + 8 * m))) := ⟨_, rfl⟩
                rw [← hI3]
                refine k_iload_n C (f := 3) (i := 3) (p := 4) rfl rfl dX0_shareOut_85 ?_
                refine k_aload_n C (f := 2) (i := 2) (p := 3) rfl rfl dX0_shareOut_86 ?_
                refine k_iload C (i := 5) (p := 0) rfl dX0_shareOut_87 ?_
                refine k_iald C (by assumption) (hm) (by omega) (by decide) (by rw [hI3, am_up_eq]) dX0_shareOut_89 ?_
                refine k_isub C dX0_shareOut_90 ?_
                refine k_istore_n C (f := 3) (i := 3) (lv := [(3, _), (5, _), (0, _), (1, _), (2, _), (4, _)]) rfl (Nat.le_of_ble_eq_true rfl) rfl dX0_shareOut_91 ?_
                refine k_iinc C (i := 4) (p := 5) (lv := [(4, _), (3, _), (5, _), (0, _), (1, _), (2, _)]) (Nat.le_of_ble_eq_true rfl) rfl (by first | exact am_inc1 _ | rfl) rfl dX0_shareOut_92 ?_
                refine k_goto C (tgt := 33) (by decide) dX0_shareOut_95 ?_
                refine k_sub [3, 4, 5, 1, 0] rfl ?_
                exact ih33 (t + 1) _ _ (by omega) (fun i hi => by
                  rw [← hT i hi, show sp_nc r - t = (sp_nc r - (t + 1)) + 1 by omega, sp_turns_t hm (by omega), hI3, am_up_row]) ⟨n - min n (tk - x), by rw [hx, hlvn]; exact pk_sub (by omega), by omega⟩ (fun i hi => by
                  by_cases e : i = m
                  · rw [e, hI3, am_up_eq, hx]; exact Or.inr (nI_pos (by omega))
                  · rw [hI3, am_up_n2 (fun z => e z.2)]; exact hD i hi) (fun b hb => by rw [hI3, am_up_ne hb]; exact ho2 b hb) (by omega)
              · skip
                exact k_vret C (Nat.le_of_ble_eq_true rfl) (Nat.le_of_ble_eq_true rfl) (⟨rfl, rfl, ⟨rfl, fun m hm => ⟨by rw [← hT m hm, show sp_nc r - t = (sp_nc r - (t + 1)) + 1 by omega, sp_turns_f hc55], hD m hm⟩, ho2⟩⟩) dX0_shareOut_58
        refine k_sub [2, 3, 4, 1, 0] rfl ?_
        exact loop33 (sp_nc r + 1) 0 I1 _ (Nat.zero_le _) (fun m hm => sp_turns_congr _ _ _ _ (fun i hi => hs1 i (by omega)) m hm) hlv (fun m hm => Or.inl (hs1 m (by omega))) ho1 (by omega)
      · skip
        refine k_aload_n C (f := 2) (i := 2) (p := 2) rfl rfl dX0_shareOut_13 ?_
        refine k_iload_n C (f := 3) (i := 3) (p := 3) rfl rfl dX0_shareOut_14 ?_
        refine k_iconst C ic_m1 dX0_shareOut_15 ?_
        refine k_iast C (by assumption) (by first | rfl | assumption) (by omega) (by decide) dX0_shareOut_16 ?_
        refine k_iinc C (i := 3) (p := 3) (lv := [(3, _), (0, _), (1, _), (2, _)]) (Nat.le_of_ble_eq_true rfl) rfl (by first | exact am_inc1 _ | rfl) rfl dX0_shareOut_17 ?_
        refine k_goto C (tgt := 2) (by decide) dX0_shareOut_20 ?_
        refine k_sub [1, 2, 3, 0] rfl ?_
        exact ih2 (k + 1) _ (by omega) (fun m hm => by
          by_cases e : m = k
          · rw [e, am_up_eq]
          · rw [am_up_n2 (fun z => e z.2)]; exact hs1 m (by omega)) (fun b hb => by rw [am_up_ne hb]; exact ho1 b hb) (by omega)
  refine k_sub [1, 2, 3, 0] rfl ?_
  exact loop2 (sp_nc r + 1) 0 I (Nat.zero_le _) (fun m h => absurd h (Nat.not_lt_zero m)) (fun _ _ => rfl) (by omega)
set_option maxHeartbeats 4000000 in
set_option maxRecDepth 100000 in
theorem ct_X0_takeShares {G : am_G} {Λ : am_L} {I : am_I} {J : am_J} {c q p : Nat} {r : Nat → Int32} {sh w : Nat} (hl : CarLay Λ c q p) (hr : CarRel I c q p r) (hsh : Λ.1 sh = (2, 10)) (hds : sh ≠ c ∧ (sh < q ∨ q + 10 ≤ sh) ∧ (sh < p ∨ p + 10 ≤ sh)) (hwn : w < sp_nw r) : am_Ct G yX0_takeShares cX0_takeShares 5 (some .int) { frames := 0, cells := 0, slots := 0, locals := 0 } [.ref c, .int (nI w), .ref sh] Λ I J (am_gen Λ J (fun v I' => v = some (.int (sp_sumTo (I sh) (sp_nc r))) ∧ CarRel I' c q p (sp_drink r (I sh) w) ∧ am_fr c q I I')) am_never := by
  refine am_ct_of (own := RX0) rfl (by decide) (Nat.le_of_ble_eq_true rfl) (fun X C => ?_)
  change am_K G X { frames := 0, cells := 0, slots := 0, locals := 0 } 5 Λ I J 0 0 0 [(0, .ref c), (1, .int (nI w)), (2, .ref sh)] []
  have hp := L0_p hl
  have hpr := CR_p hr
  have hnc := PR_c hpr
  have hnl := CR_l hr
  have hnw := PR_w hpr
  refine k_iconst C ic_0 dX0_takeShares_0 ?_
  refine k_istore_n C (f := 3) (i := 3) (lv := [(3, _), (0, _), (1, _), (2, _)]) rfl (Nat.le_of_ble_eq_true rfl) rfl dX0_takeShares_1 ?_
  refine k_iconst C ic_0 dX0_takeShares_2 ?_
  refine k_istore C (i := 4) (lv := [(4, _), (3, _), (0, _), (1, _), (2, _)]) (Nat.le_of_ble_eq_true rfl) rfl dX0_takeShares_3 ?_
  have loop5 : ∀ (f : Nat) (k : Nat) (acc : Int32) (I2 : am_I), (k ≤ sp_nc r) → (acc = sp_sumTo (I sh) k) → (CarRel I2 c q p (sp_fillTo r (I sh) k)) → (am_fr c q I I2) → (sp_nc r - k) < f → am_K G X { frames := 0, cells := 0, slots := 0, locals := 0 } 5 Λ I2 J 0 0 5 [(0, .ref c), (1, .int (nI w)), (2, .ref sh), (3, .int acc), (4, .int (nI k))] [] := by
    intro f
    induction f with
    | zero => intro k acc I2 hk ha hr2 hf2 hf; exact absurd hf (Nat.not_lt_zero _)
    | succ f ih5 =>
      intro k acc I2 hk ha hr2 hf2 hf
      have hpr2 := CR_p hr2
      have s2 := (sc_fill r (I sh) k).1
      have s3 := (sc_fill r (I sh) k).2.1
      have hsh2 : I2 sh = I sh := hf2 sh (by omega) (by omega)
      refine k_iload C (i := 4) (p := 4) rfl dX0_takeShares_5 ?_
      refine k_aload_n C (f := 0) (i := 0) (p := 0) rfl rfl dX0_takeShares_7 ?_
      refine k_getR C f_X0_42 (L0_s (by assumption)) (fun _ _ _ => rfl) (L0_0 (by assumption)) dX0_takeShares_8 ?_
      refine k_getI C f_X0_72 (L3_s (by assumption)) (fun _ _ _ => rfl) (by first | exact PR_1 (by assumption) | assumption | rfl) dX0_takeShares_11 ?_
      first
      | refine k_icmpN_ge C (tgt := 52) (by omega) (by omega) (by decide) dX0_takeShares_14 (fun hc14 => ?_) (fun hc14 => ?_)
      | refine k_icmp_ge C (tgt := 52) (by decide) dX0_takeShares_14 (fun hc14 => ?_) (fun hc14 => ?_)
      · skip
        refine k_aload_n C (f := 0) (i := 0) (p := 0) rfl rfl dX0_takeShares_52 ?_
        refine k_getR C f_X0_27 (L0_s (by assumption)) (fun _ _ _ => rfl) (L0_11 (by assumption)) dX0_takeShares_53 ?_
        refine k_iload_n C (f := 1) (i := 1) (p := 1) rfl rfl dX0_takeShares_56 ?_
        refine k_dup2 C rfl rfl dX0_takeShares_57 ?_
        refine k_iald C (A0_11 (by assumption)) (by first | rfl | assumption) (by omega) (by decide) (CRa_11 hr2 (by omega)) dX0_takeShares_58 ?_
        refine k_iload_n C (f := 3) (i := 3) (p := 3) rfl rfl dX0_takeShares_59 ?_
        refine k_isub C dX0_takeShares_60 ?_
        refine k_iast C (A0_11 (by assumption)) (by first | rfl | assumption) (by omega) (by decide) dX0_takeShares_61 ?_
        have hr4 := CU_level (k := w) (x := (sp_fillTo r (I sh) k) (93 + 4 * w) - acc) hl hr2 (by omega)
        have hf4 : am_fr c q I (am_up I2 (q + 5) (w) ((sp_fillTo r (I sh) k) (93 + 4 * w) - acc)) := hf2.up (Or.inr (by omega))
        generalize hgI4 : am_up I2 (q + 5) (w) ((sp_fillTo r (I sh) k) (93 + 4 * w) - acc) = I4 at hr4 hf4 ⊢
        refine k_aload_n C (f := 0) (i := 0) (p := 0) rfl rfl dX0_takeShares_62 ?_
        refine k_dup C rfl dX0_takeShares_63 ?_
        refine k_getI C f_X0_60 (L0_s (by assumption)) (fun _ _ _ => rfl) ((CR_5 hr4).trans (upd_ne (by omega))) dX0_takeShares_64 ?_
        refine k_iload_n C (f := 3) (i := 3) (p := 3) rfl rfl dX0_takeShares_67 ?_
        refine k_iadd C dX0_takeShares_68 ?_
        refine k_putI C f_X0_60 (L0_s (by assumption)) rfl rfl dX0_takeShares_69 ?_
        refine k_iload_n C (f := 3) (i := 3) (p := 3) rfl rfl dX0_takeShares_72 ?_
        exact k_iret C (Nat.le_of_ble_eq_true rfl) (Nat.le_of_ble_eq_true rfl) (⟨rfl, rfl, ⟨by rw [ha, show k = sp_nc r by omega], by
            have h9 := CU_drunk (x := (sp_fillTo r (I sh) k) 5 + acc) hl hr4
            rw [ha, show k = sp_nc r by omega] at h9 ⊢
            exact h9, hf4.up (Or.inl rfl)⟩⟩) dX0_takeShares_73
      · skip
        refine k_aload_n C (f := 2) (i := 2) (p := 2) rfl rfl dX0_takeShares_17 ?_
        refine k_iload C (i := 4) (p := 4) rfl dX0_takeShares_18 ?_
        refine k_iald C (by assumption) (by first | rfl | assumption) (by omega) (by decide) (congrFun hsh2 k) dX0_takeShares_20 ?_
        refine k_iconst C ic_m1 dX0_takeShares_21 ?_
        refine k_icmp_eq C (tgt := 46) (by decide) dX0_takeShares_22 (fun hc22 => ?_) (fun hc22 => ?_)
        · skip
          refine k_iinc C (i := 4) (p := 4) (lv := [(4, _), (0, _), (1, _), (2, _), (3, _)]) (Nat.le_of_ble_eq_true rfl) rfl (by first | exact am_inc1 _ | rfl) rfl dX0_takeShares_46 ?_
          refine k_goto C (tgt := 5) (by decide) dX0_takeShares_49 ?_
          refine k_sub [1, 2, 3, 4, 0] rfl ?_
          first
          | exact ih5 (k + 1) _ _ (by omega) (by rw [sp_sumTo_t hc22]; exact ha) (by rw [sp_fillTo_t hc22]; exact hr2) hf2 (by omega)
          | exact ih5 (k + 1) _ _ (by omega) (by rw [sp_sumTo_f hc22, ha]) (by rw [sp_fillTo_f hc22]; exact hr3) hf3 (by omega)
        · skip
          refine k_aload_n C (f := 0) (i := 0) (p := 0) rfl rfl dX0_takeShares_25 ?_
          refine k_getR C f_X0_9 (L0_s (by assumption)) (fun _ _ _ => rfl) (L0_6 (by assumption)) dX0_takeShares_26 ?_
          refine k_iload C (i := 4) (p := 4) rfl dX0_takeShares_29 ?_
          refine k_dup2 C rfl rfl dX0_takeShares_31 ?_
          refine k_iald C (A0_6 (by assumption)) (by first | rfl | assumption) (by omega) (by decide) (by first | exact CRa_6 (by assumption) (by omega) | assumption | rfl) dX0_takeShares_32 ?_
          refine k_aload_n C (f := 2) (i := 2) (p := 2) rfl rfl dX0_takeShares_33 ?_
          refine k_iload C (i := 4) (p := 4) rfl dX0_takeShares_34 ?_
          refine k_iald C (by assumption) (by first | rfl | assumption) (by omega) (by decide) (congrFun hsh2 k) dX0_takeShares_36 ?_
          refine k_iadd C dX0_takeShares_37 ?_
          refine k_iast C (A0_6 (by assumption)) (by first | rfl | assumption) (by omega) (by decide) dX0_takeShares_38 ?_
          have hr3 := CU_water (k := k) (x := (sp_fillTo r (I sh) k) (13 + 8 * k) + I sh k) hl hr2 (by omega)
          have hf3 : am_fr c q I (am_up I2 (q) (k) ((sp_fillTo r (I sh) k) (13 + 8 * k) + I sh k)) := hf2.up (Or.inr (by omega))
          generalize hgI3 : am_up I2 (q) (k) ((sp_fillTo r (I sh) k) (13 + 8 * k) + I sh k) = I3 at hr3 hf3 ⊢
          refine k_iload_n C (f := 3) (i := 3) (p := 3) rfl rfl dX0_takeShares_39 ?_
          refine k_aload_n C (f := 2) (i := 2) (p := 2) rfl rfl dX0_takeShares_40 ?_
          refine k_iload C (i := 4) (p := 4) rfl dX0_takeShares_41 ?_
          refine k_iald C (by assumption) (by first | rfl | assumption) (by omega) (by decide) ((by rw [hf3 sh (by omega) (by omega)] : _ = I sh k)) dX0_takeShares_43 ?_
          refine k_iadd C dX0_takeShares_44 ?_
          refine k_istore_n C (f := 3) (i := 3) (lv := [(3, _), (0, _), (1, _), (2, _), (4, _)]) rfl (Nat.le_of_ble_eq_true rfl) rfl dX0_takeShares_45 ?_
          refine k_iinc C (i := 4) (p := 4) (lv := [(4, _), (3, _), (0, _), (1, _), (2, _)]) (Nat.le_of_ble_eq_true rfl) rfl (by first | exact am_inc1 _ | rfl) rfl dX0_takeShares_46 ?_
          refine k_goto C (tgt := 5) (by decide) dX0_takeShares_49 ?_
          refine k_sub [2, 3, 4, 1, 0] rfl ?_
          first
          | exact ih5 (k + 1) _ _ (by omega) (by rw [sp_sumTo_t hc22]; exact ha) (by rw [sp_fillTo_t hc22]; exact hr2) hf2 (by omega)
          | exact ih5 (k + 1) _ _ (by omega) (by rw [sp_sumTo_f hc22, ha]) (by rw [sp_fillTo_f hc22]; exact hr3) hf3 (by omega)
  refine k_sub [2, 3, 4, 1, 0] rfl ?_
  exact loop5 (sp_nc r + 1) 0 (nI 0) I (Nat.zero_le _) rfl hr am_fr.rf (by omega)
set_option maxHeartbeats 4000000 in
set_option maxRecDepth 100000 in
theorem ct_X0_setOut {G : am_G} {Λ : am_L} {I : am_I} {J : am_J} {c q p : Nat} {r : Nat → Int32} (hl : CarLay Λ c q p) (hpr : PlanRel I p r) (hfr : sp_fresh r) : am_Ct G yX0_setOut cX0_setOut 2 none { frames := 0, cells := 0, slots := 0, locals := 0 } [.ref c] Λ I J (am_gen Λ J (fun v I' => v = none ∧ CarRel I' c q p r ∧ am_fr c q I I')) am_never := by
  refine am_ct_of (own := RX0) rfl (by decide) (Nat.le_of_ble_eq_true rfl) (fun X C => ?_)
  change am_K G X { frames := 0, cells := 0, slots := 0, locals := 0 } 2 Λ I J 0 0 0 [(0, .ref c)] []
  have hp := L0_p hl
  have hnc := PR_c hpr
  have hnw := PR_w hpr
  have d1 := L0_d1 hl
  have d2 := L0_d2 hl
  have d3 := L0_d3 hl
  refine k_aload_n C (f := 0) (i := 0) (p := 0) rfl rfl dX0_setOut_0 ?_
  refine k_iconst C ic_0 dX0_setOut_1 ?_
  refine k_putI C f_X0_46 (L0_s (by assumption)) rfl rfl dX0_setOut_2 ?_
  obtain ⟨J1, hJ1⟩ : ∃ z : am_I, z = am_up I c 1 (nI 0) := ⟨_, rfl⟩
  rw [← hJ1]
  refine k_aload_n C (f := 0) (i := 0) (p := 0) rfl rfl dX0_setOut_5 ?_
  refine k_iconst C ic_0 dX0_setOut_6 ?_
  refine k_putI C f_X0_50 (L0_s (by assumption)) rfl rfl dX0_setOut_7 ?_
  obtain ⟨J2, hJ2⟩ : ∃ z : am_I, z = am_up J1 c 2 (nI 0) := ⟨_, rfl⟩
  rw [← hJ2]
  refine k_aload_n C (f := 0) (i := 0) (p := 0) rfl rfl dX0_setOut_10 ?_
  refine k_iconst C ic_0 dX0_setOut_11 ?_
  refine k_putZ C f_X0_53 (L0_s (by assumption)) rfl rfl (by first | exact Or.inl rfl | exact Or.inr rfl | exact am_b01) dX0_setOut_12 ?_
  obtain ⟨J3, hJ3⟩ : ∃ z : am_I, z = am_up J2 c 3 (nI 0) := ⟨_, rfl⟩
  rw [← hJ3]
  refine k_aload_n C (f := 0) (i := 0) (p := 0) rfl rfl dX0_setOut_15 ?_
  refine k_iconst C ic_0 dX0_setOut_16 ?_
  refine k_putI C f_X0_57 (L0_s (by assumption)) rfl rfl dX0_setOut_17 ?_
  obtain ⟨J4, hJ4⟩ : ∃ z : am_I, z = am_up J3 c 4 (nI 0) := ⟨_, rfl⟩
  rw [← hJ4]
  refine k_aload_n C (f := 0) (i := 0) (p := 0) rfl rfl dX0_setOut_20 ?_
  refine k_iconst C ic_0 dX0_setOut_21 ?_
  refine k_putI C f_X0_60 (L0_s (by assumption)) rfl rfl dX0_setOut_22 ?_
  obtain ⟨J5, hJ5⟩ : ∃ z : am_I, z = am_up J4 c 5 (nI 0) := ⟨_, rfl⟩
  rw [← hJ5]
  refine k_aload_n C (f := 0) (i := 0) (p := 0) rfl rfl dX0_setOut_25 ?_
  refine k_iconst C ic_0 dX0_setOut_26 ?_
  refine k_putI C f_X0_69 (L0_s (by assumption)) rfl rfl dX0_setOut_27 ?_
  obtain ⟨J6, hJ6⟩ : ∃ z : am_I, z = am_up J5 c 12 (nI 0) := ⟨_, rfl⟩
  rw [← hJ6]
  refine k_iconst C ic_0 dX0_setOut_30 ?_
  refine k_istore_n C (f := 1) (i := 1) (lv := [(1, _), (0, _)]) rfl (Nat.le_of_ble_eq_true rfl) rfl dX0_setOut_31 ?_
  have loop32 : ∀ (f : Nat) (k : Nat) (I2 : am_I), (k ≤ sp_nc r) → ((I2 c 1 = nI 0 ∧ I2 c 2 = nI 0 ∧ I2 c 3 = nI 0 ∧ I2 c 4 = nI 0 ∧ I2 c 5 = nI 0 ∧ I2 c 12 = nI 0)) → ((∀ m : Nat, m < k → I2 q m = r (12 + 8 * m) ∧ I2 (q + 1) m = nI 0 ∧ I2 (q + 2) m = nI 0 ∧ I2 (q + 3) m = nI 0 ∧ I2 (q + 4) m = nI 0)) → (am_fr c q I I2) → (sp_nc r - k) < f → am_K G X { frames := 0, cells := 0, slots := 0, locals := 0 } 2 Λ I2 J 0 0 32 [(0, .ref c), (1, .int (nI k))] [] := by
    intro f
    induction f with
    | zero => intro k I2 hk h0 hA hf2 hf; exact absurd hf (Nat.not_lt_zero _)
    | succ f ih32 =>
      intro k I2 hk h0 hA hf2 hf
      have hpr2 : PlanRel I2 p r := PlanRel_agree hpr (fun b g1 g2 => hf2 b (by omega) (by omega))
      refine k_iload_n C (f := 1) (i := 1) (p := 1) rfl rfl dX0_setOut_32 ?_
      refine k_aload_n C (f := 0) (i := 0) (p := 0) rfl rfl dX0_setOut_33 ?_
      refine k_getR C f_X0_42 (L0_s (by assumption)) (fun _ _ _ => rfl) (L0_0 (by assumption)) dX0_setOut_34 ?_
      refine k_getI C f_X0_72 (L3_s (by assumption)) (fun _ _ _ => rfl) (by first | exact PR_1 (by assumption) | assumption | rfl) dX0_setOut_37 ?_
      first
      | refine k_icmpN_ge C (tgt := 92) (by omega) (by omega) (by decide) dX0_setOut_40 (fun hc40 => ?_) (fun hc40 => ?_)
      | refine k_icmp_ge C (tgt := 92) (by decide) dX0_setOut_40 (fun hc40 => ?_) (fun hc40 => ?_)
      · skip
        refine k_iconst C ic_0 dX0_setOut_92 ?_
        refine k_istore_n C (f := 1) (i := 1) (lv := [(1, _), (0, _)]) rfl (Nat.le_of_ble_eq_true rfl) rfl dX0_setOut_93 ?_
        have loop94 : ∀ (f : Nat) (k2 : Nat) (I3 : am_I), (k2 ≤ sp_nw r) → ((I3 c 1 = nI 0 ∧ I3 c 2 = nI 0 ∧ I3 c 3 = nI 0 ∧ I3 c 4 = nI 0 ∧ I3 c 5 = nI 0 ∧ I3 c 12 = nI 0)) → ((∀ m : Nat, m < sp_nc r → I3 q m = r (12 + 8 * m) ∧ I3 (q + 1) m = nI 0 ∧ I3 (q + 2) m = nI 0 ∧ I3 (q + 3) m = nI 0 ∧ I3 (q + 4) m = nI 0)) → (∀ m : Nat, m < k2 → I3 (q + 5) m = r (91 + 4 * m)) → (am_fr c q I I3) → (sp_nw r - k2) < f → am_K G X { frames := 0, cells := 0, slots := 0, locals := 0 } 2 Λ I3 J 0 0 94 [(0, .ref c), (1, .int (nI k2))] [] := by
          intro f
          induction f with
          | zero => intro k2 I3 hk2 h03 hA3 hB hf3 hf; exact absurd hf (Nat.not_lt_zero _)
          | succ f ih94 =>
            intro k2 I3 hk2 h03 hA3 hB hf3 hf
            have hpr3 : PlanRel I3 p r := PlanRel_agree hpr (fun b g1 g2 => hf3 b (by omega) (by omega))
            refine k_iload_n C (f := 1) (i := 1) (p := 1) rfl rfl dX0_setOut_94 ?_
            refine k_aload_n C (f := 0) (i := 0) (p := 0) rfl rfl dX0_setOut_95 ?_
            refine k_getR C f_X0_42 (L0_s (by assumption)) (fun _ _ _ => rfl) (L0_0 (by assumption)) dX0_setOut_96 ?_
            refine k_getI C f_X0_80 (L3_s (by assumption)) (fun _ _ _ => rfl) (by first | exact PR_5 (by assumption) | assumption | rfl) dX0_setOut_99 ?_
            first
            | refine k_icmpN_ge C (tgt := 126) (by omega) (by omega) (by decide) dX0_setOut_102 (fun hc102 => ?_) (fun hc102 => ?_)
            | refine k_icmp_ge C (tgt := 126) (by decide) dX0_setOut_102 (fun hc102 => ?_) (fun hc102 => ?_)
            · skip
              exact k_vret C (Nat.le_of_ble_eq_true rfl) (Nat.le_of_ble_eq_true rfl) (⟨rfl, rfl, ⟨rfl, CR_fresh (PlanRel_agree hpr (fun b g1 g2 => hf3 b (by omega) (by omega))) hfr h03 hA3 (fun m hm => hB m (by omega)), hf3⟩⟩) dX0_setOut_126
            · skip
              refine k_aload_n C (f := 0) (i := 0) (p := 0) rfl rfl dX0_setOut_105 ?_
              refine k_getR C f_X0_27 (L0_s (by assumption)) (fun _ _ _ => rfl) (L0_11 (by assumption)) dX0_setOut_106 ?_
              refine k_iload_n C (f := 1) (i := 1) (p := 1) rfl rfl dX0_setOut_109 ?_
              refine k_aload_n C (f := 0) (i := 0) (p := 0) rfl rfl dX0_setOut_110 ?_
              refine k_getR C f_X0_42 (L0_s (by assumption)) (fun _ _ _ => rfl) (L0_0 (by assumption)) dX0_setOut_111 ?_
              refine k_getR C f_X0_83 (L3_s (by assumption)) (fun _ _ _ => rfl) (L3_7 (by assumption)) dX0_setOut_114 ?_
              refine k_iload_n C (f := 1) (i := 1) (p := 1) rfl rfl dX0_setOut_117 ?_
              refine k_iald C (A3_7 (by assumption)) (by first | rfl | assumption) (by omega) (by decide) (by first | exact PRa_7 (by assumption) (by omega) | assumption | rfl) dX0_setOut_118 ?_
              refine k_iast C (A0_11 (by assumption)) (by first | rfl | assumption) (by omega) (by decide) dX0_setOut_119 ?_
              refine k_iinc C (i := 1) (p := 1) (lv := [(1, _), (0, _)]) (Nat.le_of_ble_eq_true rfl) rfl (by first | exact am_inc1 _ | rfl) rfl dX0_setOut_120 ?_
              refine k_goto C (tgt := 94) (by decide) dX0_setOut_123 ?_
              refine k_sub [1, 0] rfl ?_
              exact ih94 (k2 + 1) _ (by omega) (by rw [am_up_n2 (by omega), am_up_n2 (by omega), am_up_n2 (by omega), am_up_n2 (by omega), am_up_n2 (by omega), am_up_n2 (by omega)]; exact h03) (fun m hm => by rw [am_up_n2 (by omega), am_up_n2 (by omega), am_up_n2 (by omega), am_up_n2 (by omega), am_up_n2 (by omega)]; exact hA3 m hm) (fun m hm => by
                by_cases e : m = k2
                · rw [e, am_up_eq]
                · rw [am_up_n2 (by omega)]; exact hB m (by omega)) (hf3.up (by omega)) (by omega)
        refine k_sub [1, 0] rfl ?_
        exact loop94 (sp_nw r + 1) 0 I2 (Nat.zero_le _) h0 (fun m hm => hA m (by omega)) (fun m h => absurd h (Nat.not_lt_zero m)) hf2 (by omega)
      · skip
        refine k_aload_n C (f := 0) (i := 0) (p := 0) rfl rfl dX0_setOut_43 ?_
        refine k_getR C f_X0_9 (L0_s (by assumption)) (fun _ _ _ => rfl) (L0_6 (by assumption)) dX0_setOut_44 ?_
        refine k_iload_n C (f := 1) (i := 1) (p := 1) rfl rfl dX0_setOut_47 ?_
        refine k_aload_n C (f := 0) (i := 0) (p := 0) rfl rfl dX0_setOut_48 ?_
        refine k_getR C f_X0_42 (L0_s (by assumption)) (fun _ _ _ => rfl) (L0_0 (by assumption)) dX0_setOut_49 ?_
        refine k_getR C f_X0_77 (L3_s (by assumption)) (fun _ _ _ => rfl) (L3_4 (by assumption)) dX0_setOut_52 ?_
        refine k_iload_n C (f := 1) (i := 1) (p := 1) rfl rfl dX0_setOut_55 ?_
        refine k_iald C (A3_4 (by assumption)) (by first | rfl | assumption) (by omega) (by decide) (by first | exact PRa_4 (by assumption) (by omega) | assumption | rfl) dX0_setOut_56 ?_
        refine k_iast C (A0_6 (by assumption)) (by first | rfl | assumption) (by omega) (by decide) dX0_setOut_57 ?_
        obtain ⟨K1, hK1⟩ : ∃ z : am_I, z = am_up I2 q k (r (12 + 8 * k)) := ⟨_, rfl⟩
        rw [← hK1]
        refine k_aload_n C (f := 0) (i := 0) (p := 0) rfl rfl dX0_setOut_58 ?_
        refine k_getR C f_X0_15 (L0_s (by assumption)) (fun _ _ _ => rfl) (L0_7 (by assumption)) dX0_setOut_59 ?_
        refine k_iload_n C (f := 1) (i := 1) (p := 1) rfl rfl dX0_setOut_62 ?_
        refine k_iconst C ic_0 dX0_setOut_63 ?_
        refine k_iast C (A0_7 (by assumption)) (by first | rfl | assumption) (by omega) (by decide) dX0_setOut_64 ?_
        obtain ⟨K2, hK2⟩ : ∃ z : am_I, z = am_up K1 (q + 1) k (nI 0) := ⟨_, rfl⟩
        rw [← hK2]
        refine k_aload_n C (f := 0) (i := 0) (p := 0) rfl rfl dX0_setOut_65 ?_
        refine k_getR C f_X0_18 (L0_s (by assumption)) (fun _ _ _ => rfl) (L0_8 (by assumption)) dX0_setOut_66 ?_
        refine k_iload_n C (f := 1) (i := 1) (p := 1) rfl rfl dX0_setOut_69 ?_
        refine k_iconst C ic_0 dX0_setOut_70 ?_
        refine k_iast C (A0_8 (by assumption)) (by first | rfl | assumption) (by omega) (by decide) dX0_setOut_71 ?_
        obtain ⟨K3, hK3⟩ : ∃ z : am_I, z = am_up K2 (q + 2) k (nI 0) := ⟨_, rfl⟩
        rw [← hK3]
        refine k_aload_n C (f := 0) (i := 0) (p := 0) rfl rfl dX0_setOut_72 ?_
        refine k_getR C f_X0_21 (L0_s (by assumption)) (fun _ _ _ => rfl) (L0_9 (by assumption)) dX0_setOut_73 ?_
        refine k_iload_n C (f := 1) (i := 1) (p := 1) rfl rfl dX0_setOut_76 ?_
        refine k_iconst C ic_0 dX0_setOut_77 ?_
        refine k_iast C (A0_9 (by assumption)) (by first | rfl | assumption) (by omega) (by decide) dX0_setOut_78 ?_
        obtain ⟨K4, hK4⟩ : ∃ z : am_I, z = am_up K3 (q + 3) k (nI 0) := ⟨_, rfl⟩
        rw [← hK4]
        refine k_aload_n C (f := 0) (i := 0) (p := 0) rfl rfl dX0_setOut_79 ?_
        refine k_getR C f_X0_24 (L0_s (by assumption)) (fun _ _ _ => rfl) (L0_10 (by assumption)) dX0_setOut_80 ?_
        refine k_iload_n C (f := 1) (i := 1) (p := 1) rfl rfl dX0_setOut_83 ?_
        refine k_iconst C ic_0 dX0_setOut_84 ?_
        refine k_iast C (A0_10 (by assumption)) (by first | rfl | assumption) (by omega) (by decide) dX0_setOut_85 ?_
        obtain ⟨K5, hK5⟩ : ∃ z : am_I, z = am_up K4 (q + 4) k (nI 0) := ⟨_, rfl⟩
        rw [← hK5]
        refine k_iinc C (i := 1) (p := 1) (lv := [(1, _), (0, _)]) (Nat.le_of_ble_eq_true rfl) rfl (by first | exact am_inc1 _ | rfl) rfl dX0_setOut_86 ?_
        refine k_goto C (tgt := 32) (by decide) dX0_setOut_89 ?_
        refine k_sub [1, 0] rfl ?_
        have hrow : ∀ b j : Nat, (b < q ∨ q + 5 ≤ b ∨ j ≠ k) → K5 b j = I2 b j := fun b j g => by
          rw [hK5, am_up_n2 (by omega), hK4, am_up_n2 (by omega), hK3, am_up_n2 (by omega), hK2, am_up_n2 (by omega), hK1, am_up_n2 (by omega)]
        exact ih32 (k + 1) K5 (by omega) (by rw [hrow _ _ (by omega), hrow _ _ (by omega), hrow _ _ (by omega), hrow _ _ (by omega), hrow _ _ (by omega), hrow _ _ (by omega)]; exact h0) (fun m hm => by
          by_cases e : m = k
          · subst e
            refine ⟨?_, ?_, ?_, ?_, ?_⟩
            · rw [hK5, am_up_n2 (by omega), hK4, am_up_n2 (by omega), hK3, am_up_n2 (by omega), hK2, am_up_n2 (by omega), hK1, am_up_eq]
            · rw [hK5, am_up_n2 (by omega), hK4, am_up_n2 (by omega), hK3, am_up_n2 (by omega), hK2, am_up_eq]
            · rw [hK5, am_up_n2 (by omega), hK4, am_up_n2 (by omega), hK3, am_up_eq]
            · rw [hK5, am_up_n2 (by omega), hK4, am_up_eq]
            · rw [hK5, am_up_eq]
          · rw [hrow _ _ (by omega), hrow _ _ (by omega), hrow _ _ (by omega), hrow _ _ (by omega), hrow _ _ (by omega)]
            exact hA m (by omega)) (fun b g1 g2 => by funext j; rw [hrow b j (by omega), hf2 b g1 g2]) (by omega)
  refine k_sub [1, 0] rfl ?_
  exact loop32 (sp_nc r + 1) 0 J6 (Nat.zero_le _) ⟨by rw [hJ6, am_up_n2 (by omega), hJ5, am_up_n2 (by omega), hJ4, am_up_n2 (by omega), hJ3, am_up_n2 (by omega), hJ2, am_up_n2 (by omega), hJ1, am_up_eq], by rw [hJ6, am_up_n2 (by omega), hJ5, am_up_n2 (by omega), hJ4, am_up_n2 (by omega), hJ3, am_up_n2 (by omega), hJ2, am_up_eq], by rw [hJ6, am_up_n2 (by omega), hJ5, am_up_n2 (by omega), hJ4, am_up_n2 (by omega), hJ3, am_up_eq], by rw [hJ6, am_up_n2 (by omega), hJ5, am_up_n2 (by omega), hJ4, am_up_eq], by rw [hJ6, am_up_n2 (by omega), hJ5, am_up_eq], by rw [hJ6, am_up_eq]⟩ (fun m h => absurd h (Nat.not_lt_zero m)) (fun b g1 g2 => by rw [hJ6, am_up_ne g1, hJ5, am_up_ne g1, hJ4, am_up_ne g1, hJ3, am_up_ne g1, hJ2, am_up_ne g1, hJ1, am_up_ne g1]) (by omega)
