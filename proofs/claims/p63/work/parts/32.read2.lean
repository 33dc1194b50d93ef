set_option maxHeartbeats 4000000 in
set_option maxRecDepth 100000 in
theorem ct_X2_readLoad {G : am_G} {Λ : am_L} {I : am_I} {J : am_J} {i n : Nat} {tb : Nat → Nat} {s : sp_S} (hi : InLay Λ i) (hx : InTxt I i tb n) (ht : InTok I i n s.1) (hr : CarRel I (i + 2) (i + 13) (i + 3) s.2) (hnn : sp_nl s.2 < 20) : am_Ct G yX2_readLoad cX2_readLoad 3 (some .boolean) { frames := 5, cells := 0, slots := 0, locals := 107 } [.ref i] Λ I J (am_gen Λ J (fun v I' => POut I' i n v (fun I1 s => CarRel I1 (i + 2) (i + 13) (i + 3) s.2) (sp_rLoad tb n s) ∧ DFr i I I')) am_never := by
  refine am_ct_of (own := RX2) rfl (by decide) (Nat.le_of_ble_eq_true rfl) (fun X C => ?_)
  change am_K G X { frames := 5, cells := 0, slots := 0, locals := 107 } 3 Λ I J 0 0 0 [(0, .ref i)] []
  have hc := L2_c hi
  have hp := L0_p hc
  have hn := hx.2.1
  refine k_aload_n C (f := 0) (i := 0) (p := 0) rfl rfl dX2_readLoad_0 ?_
  refine k_callVg C s_X2_47 h_X2_step (L2_s hi) rfl (ct_X2_step (k := s.1.2.2.1) hi hx ht.2.2.2.2.2.2.1 ht.2.2.1) rfl rfl (Nat.le_of_ble_eq_true rfl) ⟨Nat.le_of_ble_eq_true rfl, Nat.le_of_ble_eq_true rfl⟩ ⟨Nat.le_of_ble_eq_true rfl, Nat.le_of_ble_eq_true rfl⟩ ⟨rfl, rfl⟩ dX2_readLoad_1 ?_
  intro v I1 hv
  obtain ⟨rfl, q1, w1, g1⟩ := hv
  have hf1 := g1
  have hx1 := hx.fr hf1
  have u1 : InTok I1 i n (sp_nx tb n s.1) := q1
  refine k_aload_n C (f := 0) (i := 0) (p := 0) rfl rfl dX2_readLoad_4 ?_
  refine k_iconst C ic_1 dX2_readLoad_5 ?_
  refine k_bipush C bc_99 dX2_readLoad_6 ?_
  refine k_callVg C s_X2_81 h_X2_takeNumber (L2_s hi) rfl (ct_X2_takeNumber (lo := 1) (hi2 := 99) hi hx1 u1 (by decide) (by decide)) rfl rfl (Nat.le_of_ble_eq_true rfl) ⟨Nat.le_of_ble_eq_true rfl, Nat.le_of_ble_eq_true rfl⟩ ⟨Nat.le_of_ble_eq_true rfl, Nat.le_of_ble_eq_true rfl⟩ ⟨rfl, rfl⟩ dX2_readLoad_8 ?_
  intro v I8 hv
  obtain ⟨rfl, ok8, no8, g8⟩ := hv
  have hf8 := hf1.tr g8
  have hx8 := hx.fr hf8
  first
  | refine k_ifb_ne C (tgt := 16) (by decide) dX2_readLoad_11 (fun hc11 => ?_) (fun hc11 => ?_)
  | refine k_if_ne C (tgt := 16) (by decide) dX2_readLoad_11 (fun hc11 => ?_) (fun hc11 => ?_)
  · skip
    obtain ⟨u8, m8⟩ := ok8 hc11
    refine k_aload_n C (f := 0) (i := 0) (p := 0) rfl rfl dX2_readLoad_16 ?_
    refine k_getI C f_X2_89 (L2_s (by assumption)) (fun _ _ _ => rfl) (by first | assumption | rfl) dX2_readLoad_17 ?_
    refine k_istore_n C (f := 1) (i := 1) (lv := [(1, _), (0, _)]) rfl (Nat.le_of_ble_eq_true rfl) rfl dX2_readLoad_20 ?_
    refine k_aload_n C (f := 0) (i := 0) (p := 1) rfl rfl dX2_readLoad_21 ?_
    refine k_iconst C ic_1 dX2_readLoad_22 ?_
    refine k_bipush C bc_99 dX2_readLoad_23 ?_
    refine k_callVg C s_X2_81 h_X2_takeNumber (L2_s hi) rfl (ct_X2_takeNumber (lo := 1) (hi2 := 99) hi hx8 u8 (by decide) (by decide)) rfl rfl (Nat.le_of_ble_eq_true rfl) ⟨Nat.le_of_ble_eq_true rfl, Nat.le_of_ble_eq_true rfl⟩ ⟨Nat.le_of_ble_eq_true rfl, Nat.le_of_ble_eq_true rfl⟩ ⟨rfl, rfl⟩ dX2_readLoad_25 ?_
    intro v I25 hv
    obtain ⟨rfl, ok25, no25, g25⟩ := hv
    have hf25 := hf8.tr g25
    have hx25 := hx.fr hf25
    first
    | refine k_ifb_ne C (tgt := 33) (by decide) dX2_readLoad_28 (fun hc28 => ?_) (fun hc28 => ?_)
    | refine k_if_ne C (tgt := 33) (by decide) dX2_readLoad_28 (fun hc28 => ?_) (fun hc28 => ?_)
    · skip
      obtain ⟨u25, m25⟩ := ok25 hc28
      refine k_aload_n C (f := 0) (i := 0) (p := 1) rfl rfl dX2_readLoad_33 ?_
      refine k_getR C f_X2_23 (L2_s (by assumption)) (fun _ _ _ => rfl) (L2_2 (by assumption)) dX2_readLoad_34 ?_
      refine k_iload_n C (f := 1) (i := 1) (p := 0) rfl rfl dX2_readLoad_37 ?_
      refine k_aload_n C (f := 0) (i := 0) (p := 1) rfl rfl dX2_readLoad_38 ?_
      refine k_getI C f_X2_89 (L2_s (by assumption)) (fun _ _ _ => rfl) (by first | assumption | rfl) dX2_readLoad_39 ?_
      refine k_callVg C s_X2_136 h_X0_bringLoad (L0_s (by assumption)) rfl (ct_X0_bringLoad hc (hr.inf hf25) hnn) rfl rfl (Nat.le_of_ble_eq_true rfl) ⟨Nat.le_of_ble_eq_true rfl, Nat.le_of_ble_eq_true rfl⟩ ⟨Nat.le_of_ble_eq_true rfl, Nat.le_of_ble_eq_true rfl⟩ ⟨rfl, rfl⟩ dX2_readLoad_42 ?_
      intro v I42 hv
      obtain ⟨rfl, r42, g42⟩ := hv
      have hf42 : DFr i I I42 := hf25.d.tr (DFr.ca g42)
      have hx42 := hx.dfr hf42
      have u42 : InTok I42 i n (sp_nx tb n (sp_nx tb n (sp_nx tb n s.1))) := u25.row (g42 i (by omega) (by omega))
      have nl1 : sp_nl (sp_bring s.2 (nI (sp_nx tb n s.1).2.2.2) (nI (sp_nx tb n (sp_nx tb n s.1)).2.2.2)) = sp_nl s.2 + 1 := bring_nl (by omega)
      have cm1 : (sp_bring s.2 (nI (sp_nx tb n s.1).2.2.2) (nI (sp_nx tb n (sp_nx tb n s.1)).2.2.2)) (142 + 4 * sp_nl s.2) = -1 := by
        unfold sp_bring
        rw [upd_ne (by omega), upd_ne (by omega), upd_eq]
      refine k_istore_n C (f := 2) (i := 2) (lv := [(2, _), (1, _), (0, _)]) rfl (Nat.le_of_ble_eq_true rfl) rfl dX2_readLoad_45 ?_
      refine k_aload_n C (f := 0) (i := 0) (p := 2) rfl rfl dX2_readLoad_46 ?_
      refine k_ldcS C 6 (by rfl) dX2_readLoad_47 ?_
      refine k_callVp C s_X2_77 h_X2_isWord (L2_s hi) rfl (ct_X2_isWord (si := 6) hi hx42 u42 (by decide)) rfl rfl (Nat.le_of_ble_eq_true rfl) ⟨Nat.le_of_ble_eq_true rfl, Nat.le_of_ble_eq_true rfl⟩ ⟨Nat.le_of_ble_eq_true rfl, Nat.le_of_ble_eq_true rfl⟩ ⟨rfl, rfl⟩ dX2_readLoad_49 ?_
      first
      | refine k_ifb_eq C (tgt := 100) (by decide) dX2_readLoad_52 (fun hc52 => ?_) (fun hc52 => ?_)
      | refine k_if_eq C (tgt := 100) (by decide) dX2_readLoad_52 (fun hc52 => ?_) (fun hc52 => ?_)
      · skip
        have hxa := hx42
        have ua := u42
        have ra := r42
        have hfa := hf42
        refine k_aload_n C (f := 0) (i := 0) (p := 2) rfl rfl dX2_readLoad_100 ?_
        refine k_callVg C s_X2_95 h_X2_takeSemicolon (L2_s hi) rfl (ct_X2_takeSemicolon hi hxa ua) rfl rfl (Nat.le_of_ble_eq_true rfl) ⟨Nat.le_of_ble_eq_true rfl, Nat.le_of_ble_eq_true rfl⟩ ⟨Nat.le_of_ble_eq_true rfl, Nat.le_of_ble_eq_true rfl⟩ ⟨rfl, rfl⟩ dX2_readLoad_101 ?_
        intro v I101 hv
        obtain ⟨rfl, oks, nos, gs⟩ := hv
        exact k_zret C (by first | rfl | exact am_bz) (Nat.le_of_ble_eq_true rfl) (Nat.le_of_ble_eq_true rfl) (⟨rfl, rfl, by
          first
          | exact ⟨POut_ts (tb := tb) (t := (sp_nx tb n (sp_nx tb n (sp_nx tb n s.1)))) (r := (sp_bring s.2 (nI (sp_nx tb n s.1).2.2.2) (nI (sp_nx tb n (sp_nx tb n s.1)).2.2.2))) (by simp only [sp_rLoad, sp_tn_t hc11, sp_tn_t hc28, sp_bd, sp_rTail,  if_neg hc52]) (fun c => ⟨oks c, ra.inf gs⟩) (fun c => (congrArg (fun z => z i 4) (nos c)).trans ua.2.1) (by have z := ua.2.2.2.2.2; omega), hfa.tr gs.d⟩
          | exact ⟨POut_ts (tb := tb) (t := (sp_nx tb n (sp_nx tb n (sp_nx tb n (sp_nx tb n (sp_nx tb n s.1)))))) (r := sp_hang (sp_bring s.2 (nI (sp_nx tb n s.1).2.2.2) (nI (sp_nx tb n (sp_nx tb n s.1)).2.2.2)) (sp_nl s.2) (sp_nx tb n (sp_nx tb n (sp_nx tb n (sp_nx tb n s.1)))).2.2.2) (by
              simp only [sp_rLoad, sp_tn_t hc11, sp_tn_t hc28, sp_bd, sp_rTail,  if_pos hc52]
              exact if_pos ⟨by omega, hok⟩) (fun c => ⟨oks c, ra.inf gs⟩) (fun c => (congrArg (fun z => z i 4) (nos c)).trans ua.2.1) (by have z := ua.2.2.2.2.2; omega), hfa.tr gs.d⟩⟩) dX2_readLoad_104
      · skip
        refine k_aload_n C (f := 0) (i := 0) (p := 2) rfl rfl dX2_readLoad_55 ?_
        refine k_callVg C s_X2_47 h_X2_step (L2_s hi) rfl (ct_X2_step (k := (sp_nx tb n (sp_nx tb n (sp_nx tb n s.1))).2.2.1) hi hx42 u42.2.2.2.2.2.2.1 u42.2.2.1) rfl rfl (Nat.le_of_ble_eq_true rfl) ⟨Nat.le_of_ble_eq_true rfl, Nat.le_of_ble_eq_true rfl⟩ ⟨Nat.le_of_ble_eq_true rfl, Nat.le_of_ble_eq_true rfl⟩ ⟨rfl, rfl⟩ dX2_readLoad_56 ?_
        intro v I56 hv
        obtain ⟨rfl, q56, w56, g56⟩ := hv
        have hf56 := hf42.tr g56.d
        have hx56 := hx.dfr hf56
        have u56 : InTok I56 i n (sp_nx tb n (sp_nx tb n (sp_nx tb n (sp_nx tb n s.1)))) := q56
        have k5 := u56.2.2.2.2.1
        have r56 := r42.inf g56
        have n56 := u56.2.2.2.2.2.2.2
        refine k_aload_n C (f := 0) (i := 0) (p := 2) rfl rfl dX2_readLoad_59 ?_
        refine k_getI C f_X2_69 (L2_s (by assumption)) (fun _ _ _ => rfl) (u56.1) dX2_readLoad_60 ?_
        refine k_iconst C ic_2 dX2_readLoad_63 ?_
        first
        | refine k_icmpN_ne C (tgt := 82) (by omega) (by omega) (by decide) dX2_readLoad_64 (fun hc64 => ?_) (fun hc64 => ?_)
        | refine k_icmp_ne C (tgt := 82) (by decide) dX2_readLoad_64 (fun hc64 => ?_) (fun hc64 => ?_)
        · skip
          refine k_iconst C ic_0 dX2_readLoad_82 ?_
          exact k_zret C (by first | rfl | exact am_bz) (Nat.le_of_ble_eq_true rfl) (Nat.le_of_ble_eq_true rfl) (⟨rfl, rfl, ⟨POut_e (x := (sp_nx tb n (sp_nx tb n (sp_nx tb n (sp_nx tb n s.1)))).2.1) (by
              simp only [sp_rLoad, sp_tn_t hc11, sp_tn_t hc28, sp_bd, sp_rTail,  if_pos hc52]
              exact if_neg (fun z => by first | exact absurd z.1 (by omega) | exact hno z.2)) u56.2.1 (by have z := u56.2.2.2.2.2; omega), hf56⟩⟩) dX2_readLoad_83
        · skip
          refine k_aload_n C (f := 0) (i := 0) (p := 2) rfl rfl dX2_readLoad_67 ?_
          refine k_getR C f_X2_23 (L2_s (by assumption)) (fun _ _ _ => rfl) (L2_2 (by assumption)) dX2_readLoad_68 ?_
          refine k_aload_n C (f := 0) (i := 0) (p := 2) rfl rfl dX2_readLoad_71 ?_
          refine k_getI C f_X2_112 (L2_s (by assumption)) (fun _ _ _ => rfl) (u56.2.2.2.1 (by omega)) dX2_readLoad_72 ?_
          refine k_callVp C s_X2_142 h_X0_freeOn (L0_s (by assumption)) rfl (ct_X0_freeOn hc r56 (by omega)) rfl rfl (Nat.le_of_ble_eq_true rfl) ⟨Nat.le_of_ble_eq_true rfl, Nat.le_of_ble_eq_true rfl⟩ ⟨Nat.le_of_ble_eq_true rfl, Nat.le_of_ble_eq_true rfl⟩ ⟨rfl, rfl⟩ dX2_readLoad_75 ?_
          refine k_iload_n C (f := 1) (i := 1) (p := 1) rfl rfl dX2_readLoad_78 ?_
          refine k_icmp_ge C (tgt := 84) (by decide) dX2_readLoad_79 (fun hc79 => ?_) (fun hc79 => ?_)
          · skip
            have hok : (sp_nx tb n (sp_nx tb n (sp_nx tb n (sp_nx tb n s.1)))).2.2.2 < sp_nc (sp_bring s.2 (nI (sp_nx tb n s.1).2.2.2) (nI (sp_nx tb n (sp_nx tb n s.1)).2.2.2)) ∧ ¬ sp_free (sp_bring s.2 (nI (sp_nx tb n s.1).2.2.2) (nI (sp_nx tb n (sp_nx tb n s.1)).2.2.2)) (sp_nx tb n (sp_nx tb n (sp_nx tb n (sp_nx tb n s.1)))).2.2.2 < nI (sp_nx tb n s.1).2.2.2 := by
              by_cases q : (sp_nx tb n (sp_nx tb n (sp_nx tb n (sp_nx tb n s.1)))).2.2.2 < sp_nc (sp_bring s.2 (nI (sp_nx tb n s.1).2.2.2) (nI (sp_nx tb n (sp_nx tb n s.1)).2.2.2))
              · rw [if_pos q] at hc79
                exact ⟨q, Int32.not_lt.mpr hc79⟩
              · rw [if_neg q] at hc79
                exact absurd hc79 (nI_nle (by omega) (by have z := u1.2.2.2.2.2.2.2; omega))
            refine k_aload_n C (f := 0) (i := 0) (p := 2) rfl rfl dX2_readLoad_84 ?_
            refine k_getR C f_X2_23 (L2_s (by assumption)) (fun _ _ _ => rfl) (L2_2 (by assumption)) dX2_readLoad_85 ?_
            refine k_iload_n C (f := 2) (i := 2) (p := 0) rfl rfl dX2_readLoad_88 ?_
            refine k_aload_n C (f := 0) (i := 0) (p := 2) rfl rfl dX2_readLoad_89 ?_
            refine k_getI C f_X2_112 (L2_s (by assumption)) (fun _ _ _ => rfl) (u56.2.2.2.1 (by omega)) dX2_readLoad_90 ?_
            refine k_callVg C s_X2_145 h_X0_hangOn (L0_s (by assumption)) rfl (ct_X0_hangOn hc r56 (by omega) hok.1 cm1) rfl rfl (Nat.le_of_ble_eq_true rfl) ⟨Nat.le_of_ble_eq_true rfl, Nat.le_of_ble_eq_true rfl⟩ ⟨Nat.le_of_ble_eq_true rfl, Nat.le_of_ble_eq_true rfl⟩ ⟨rfl, rfl⟩ dX2_readLoad_93 ?_
            intro v I93 hv
            obtain ⟨rfl, r93, g93⟩ := hv
            have hf93 : DFr i I I93 := hf56.tr (DFr.ca g93)
            have hx93 := hx.dfr hf93
            have u93 : InTok I93 i n (sp_nx tb n (sp_nx tb n (sp_nx tb n (sp_nx tb n s.1)))) := u56.row (g93 i (by omega) (by omega))
            refine k_aload_n C (f := 0) (i := 0) (p := 2) rfl rfl dX2_readLoad_96 ?_
            refine k_callVg C s_X2_47 h_X2_step (L2_s hi) rfl (ct_X2_step (k := (sp_nx tb n (sp_nx tb n (sp_nx tb n (sp_nx tb n s.1)))).2.2.1) hi hx93 u93.2.2.2.2.2.2.1 u93.2.2.1) rfl rfl (Nat.le_of_ble_eq_true rfl) ⟨Nat.le_of_ble_eq_true rfl, Nat.le_of_ble_eq_true rfl⟩ ⟨Nat.le_of_ble_eq_true rfl, Nat.le_of_ble_eq_true rfl⟩ ⟨rfl, rfl⟩ dX2_readLoad_97 ?_
            intro v I97 hv
            obtain ⟨rfl, q97, w97, g97⟩ := hv
            have hf97 := hf93.tr g97.d
            have hx97 := hx.dfr hf97
            have u97 : InTok I97 i n (sp_nx tb n (sp_nx tb n (sp_nx tb n (sp_nx tb n (sp_nx tb n s.1))))) := q97
            have hxa := hx97
            have ua := u97
            have ra := r93.inf g97
            have hfa := hf97
            refine k_aload_n C (f := 0) (i := 0) (p := 2) rfl rfl dX2_readLoad_100 ?_
            refine k_callVg C s_X2_95 h_X2_takeSemicolon (L2_s hi) rfl (ct_X2_takeSemicolon hi hxa ua) rfl rfl (Nat.le_of_ble_eq_true rfl) ⟨Nat.le_of_ble_eq_true rfl, Nat.le_of_ble_eq_true rfl⟩ ⟨Nat.le_of_ble_eq_true rfl, Nat.le_of_ble_eq_true rfl⟩ ⟨rfl, rfl⟩ dX2_readLoad_101 ?_
            intro v I101 hv
            obtain ⟨rfl, oks, nos, gs⟩ := hv
            exact k_zret C (by first | rfl | exact am_bz) (Nat.le_of_ble_eq_true rfl) (Nat.le_of_ble_eq_true rfl) (⟨rfl, rfl, by
              first
              | exact ⟨POut_ts (tb := tb) (t := (sp_nx tb n (sp_nx tb n (sp_nx tb n s.1)))) (r := (sp_bring s.2 (nI (sp_nx tb n s.1).2.2.2) (nI (sp_nx tb n (sp_nx tb n s.1)).2.2.2))) (by simp only [sp_rLoad, sp_tn_t hc11, sp_tn_t hc28, sp_bd, sp_rTail,  if_neg hc52]) (fun c => ⟨oks c, ra.inf gs⟩) (fun c => (congrArg (fun z => z i 4) (nos c)).trans ua.2.1) (by have z := ua.2.2.2.2.2; omega), hfa.tr gs.d⟩
              | exact ⟨POut_ts (tb := tb) (t := (sp_nx tb n (sp_nx tb n (sp_nx tb n (sp_nx tb n (sp_nx tb n s.1)))))) (r := sp_hang (sp_bring s.2 (nI (sp_nx tb n s.1).2.2.2) (nI (sp_nx tb n (sp_nx tb n s.1)).2.2.2)) (sp_nl s.2) (sp_nx tb n (sp_nx tb n (sp_nx tb n (sp_nx tb n s.1)))).2.2.2) (by
                  simp only [sp_rLoad, sp_tn_t hc11, sp_tn_t hc28, sp_bd, sp_rTail,  if_pos hc52]
                  exact if_pos ⟨by omega, hok⟩) (fun c => ⟨oks c, ra.inf gs⟩) (fun c => (congrArg (fun z => z i 4) (nos c)).trans ua.2.1) (by have z := ua.2.2.2.2.2; omega), hfa.tr gs.d⟩⟩) dX2_readLoad_104
          · skip
            have hno : ¬ ((sp_nx tb n (sp_nx tb n (sp_nx tb n (sp_nx tb n s.1)))).2.2.2 < sp_nc (sp_bring s.2 (nI (sp_nx tb n s.1).2.2.2) (nI (sp_nx tb n (sp_nx tb n s.1)).2.2.2)) ∧ ¬ sp_free (sp_bring s.2 (nI (sp_nx tb n s.1).2.2.2) (nI (sp_nx tb n (sp_nx tb n s.1)).2.2.2)) (sp_nx tb n (sp_nx tb n (sp_nx tb n (sp_nx tb n s.1)))).2.2.2 < nI (sp_nx tb n s.1).2.2.2) := by
              intro z
              rw [if_pos z.1] at hc79
              exact hc79 (Int32.not_lt.mp z.2)
            refine k_iconst C ic_0 dX2_readLoad_82 ?_
            exact k_zret C (by first | rfl | exact am_bz) (Nat.le_of_ble_eq_true rfl) (Nat.le_of_ble_eq_true rfl) (⟨rfl, rfl, ⟨POut_e (x := (sp_nx tb n (sp_nx tb n (sp_nx tb n (sp_nx tb n s.1)))).2.1) (by
                simp only [sp_rLoad, sp_tn_t hc11, sp_tn_t hc28, sp_bd, sp_rTail,  if_pos hc52]
                exact if_neg (fun z => by first | exact absurd z.1 (by omega) | exact hno z.2)) u56.2.1 (by have z := u56.2.2.2.2.2; omega), hf56⟩⟩) dX2_readLoad_83
    · skip
      refine k_iconst C ic_0 dX2_readLoad_31 ?_
      exact k_zret C (by first | rfl | exact am_bz) (Nat.le_of_ble_eq_true rfl) (Nat.le_of_ble_eq_true rfl) (⟨rfl, rfl, ⟨POut_e (x := (sp_nx tb n (sp_nx tb n s.1)).2.1) (by simp only [sp_rLoad, sp_tn_t hc11, sp_tn_f hc28, sp_bd]) ((congrArg (fun z => z i 4) (no25 hc28)).trans u8.2.1) (by have z := u8.2.2.2.2.2; omega), hf25.d⟩⟩) dX2_readLoad_32
  · skip
    refine k_iconst C ic_0 dX2_readLoad_14 ?_
    exact k_zret C (by first | rfl | exact am_bz) (Nat.le_of_ble_eq_true rfl) (Nat.le_of_ble_eq_true rfl) (⟨rfl, rfl, ⟨POut_e (x := (sp_nx tb n s.1).2.1) (by simp only [sp_rLoad, sp_tn_f hc11, sp_bd]) ((congrArg (fun z => z i 4) (no8 hc11)).trans u1.2.1) (by have z := u1.2.2.2.2.2; omega), hf8.d⟩⟩) dX2_readLoad_15
theorem rTail_nl {tb : Nat → Nat} {n k w : Nat} {t : sp_T} {r : Nat → Int32} {s' : sp_S} (h : sp_rTail tb n t r k w = .ok s') : s'.2 = r ∨ ∃ j : Nat, s'.2 = sp_hang r k j ∧ j < sp_nc r ∧ ¬ sp_free r j < nI w := by
  unfold sp_rTail at h
  by_cases q : sp_isw tb t 6 = true
  · rw [if_pos q] at h
    by_cases q2 : (sp_nx tb n t).1 = 2 ∧ (sp_nx tb n t).2.2.2 < sp_nc r ∧ ¬ sp_free r (sp_nx tb n t).2.2.2 < nI w
    · rw [if_pos q2] at h
      obtain ⟨d, hd, h⟩ := sp_bd_inv h
      cases h
      exact Or.inr ⟨_, rfl, q2.2⟩
    · rw [if_neg q2] at h; cases h
  · rw [if_neg q] at h
    obtain ⟨d, hd, h⟩ := sp_bd_inv h
    cases h
    exact Or.inl rfl
theorem rLoad_inv {tb : Nat → Nat} {n : Nat} {s s' : sp_S} (h : sp_rLoad tb n s = .ok s') : ∃ x y : Nat, (1 ≤ x ∧ x ≤ 99 ∧ 1 ≤ y ∧ y ≤ 99) ∧ (s'.2 = sp_bring s.2 (nI x) (nI y) ∨ ∃ j : Nat, s'.2 = sp_hang (sp_bring s.2 (nI x) (nI y)) (sp_nl s.2) j ∧ j < sp_nc (sp_bring s.2 (nI x) (nI y)) ∧ ¬ sp_free (sp_bring s.2 (nI x) (nI y)) j < nI x) := by
  obtain ⟨a, ha, h⟩ := sp_bd_inv h
  obtain ⟨b, hb, h⟩ := sp_bd_inv h
  have ga := sp_tn_inv ha
  have gb := sp_tn_inv hb
  exact ⟨a.1, b.1, by rw [ga.2, gb.2]; exact ⟨ga.1.2.1, ga.1.2.2, gb.1.2.1, gb.1.2.2⟩, rTail_nl h⟩
theorem rLoad_nl {tb : Nat → Nat} {n : Nat} {s s' : sp_S} (h : sp_rLoad tb n s = .ok s') (hn : sp_nl s.2 < 20) : sp_nl s'.2 = sp_nl s.2 + 1 := by
  obtain ⟨x, y, -, h | ⟨j, h, -⟩⟩ := rLoad_inv h
  · rw [h]; exact bring_nl (by omega)
  · rw [h]
    unfold sp_hang
    rw [sp_nl_upd (by omega)]
    exact bring_nl (by omega)
set_option maxHeartbeats 4000000 in
set_option maxRecDepth 100000 in
theorem ct_X2_readCamels {G : am_G} {Λ : am_L} {I : am_I} {J : am_J} {i n : Nat} {tb : Nat → Nat} {s : sp_S} (hi : InLay Λ i) (hx : InTxt I i tb n) (ht : InTok I i n s.1) (hr : PlanRel I (i + 3) s.2) (hg : PG s.2 0 0 0) : am_Ct G yX2_readCamels cX2_readCamels 3 (some .boolean) { frames := 5, cells := 0, slots := 0, locals := 107 } [.ref i] Λ I J (am_gen Λ J (fun v I' => POut I' i n v (fun I1 s => PlanRel I1 (i + 3) s.2 ∧ PG s.2 10 0 0) (sp_rCamels tb n s) ∧ DFr i I I')) am_never := by
  refine am_ct_of (own := RX2) rfl (by decide) (Nat.le_of_ble_eq_true rfl) (fun X C => ?_)
  change am_K G X { frames := 5, cells := 0, slots := 0, locals := 107 } 3 Λ I J 0 0 0 [(0, .ref i)] []
  have hc := L2_c hi
  have hp := L0_p hc
  have hn := hx.2.1
  have he0 : am_b (sp_isw tb s.1 2 = true) = am_b (sp_ok ((if sp_isw tb s.1 2 = true then .ok s else .error s.1.2.1) : Except Nat sp_S) = true) := by
    by_cases q : sp_isw tb s.1 2 = true
    · rw [if_pos q, ← am_bt q]; exact am_bt rfl
    · rw [if_neg q, ← am_bf q]; exact am_bf (fun z => by cases z)
  refine k_aload_n C (f := 0) (i := 0) (p := 0) rfl rfl dX2_readCamels_0 ?_
  refine k_ldcS C 2 (by rfl) dX2_readCamels_1 ?_
  refine k_callVp C s_X2_77 h_X2_isWord (L2_s hi) rfl (ct_X2_isWord (si := 2) hi hx ht (by decide)) rfl rfl (Nat.le_of_ble_eq_true rfl) ⟨Nat.le_of_ble_eq_true rfl, Nat.le_of_ble_eq_true rfl⟩ ⟨Nat.le_of_ble_eq_true rfl, Nat.le_of_ble_eq_true rfl⟩ ⟨rfl, rfl⟩ dX2_readCamels_3 ?_
  refine k_istore_n C (f := 1) (i := 1) (lv := [(1, _), (0, _)]) rfl (Nat.le_of_ble_eq_true rfl) rfl dX2_readCamels_6 ?_
  refine k_iconst C ic_0 dX2_readCamels_7 ?_
  refine k_istore_n C (f := 2) (i := 2) (lv := [(2, _), (1, _), (0, _)]) rfl (Nat.le_of_ble_eq_true rfl) rfl dX2_readCamels_8 ?_
  have loop9 : ∀ (f : Nat) (k : Nat) (I1 : am_I) (xv : Int32) (e : Except Nat sp_S), (k ≤ 10) → (xv = am_b (sp_ok e = true)) → (∀ s, e = .ok s → InTok I1 i n s.1 ∧ (fun I1 s => PlanRel I1 (i + 3) s.2) I1 s ∧ PG s.2 k 0 0) → (∀ x, e = .error x → I1 i 4 = nI x ∧ x ≤ n) → (sp_lp tb 2 (sp_rCamel tb n) 10 (if sp_isw tb s.1 2 = true then .ok s else .error s.1.2.1) = sp_lp tb 2 (sp_rCamel tb n) (10 - k) e) → (DFr i I I1) → (10 - k) < f → am_K G X { frames := 5, cells := 0, slots := 0, locals := 107 } 3 Λ I1 J 0 0 9 [(0, .ref i), (1, .int xv), (2, .int (nI k))] [] := by
    intro f
    induction f with
    | zero => intro k I1 xv e hk hxv hO hE hL hf1 hf; exact absurd hf (Nat.not_lt_zero _)
    | succ f ih9 =>
      intro k I1 xv e hk hxv hO hE hL hf1 hf
      subst hxv
      have hx1 := hx.dfr hf1
      refine k_iload_n C (f := 2) (i := 2) (p := 2) rfl rfl dX2_readCamels_9 ?_
      refine k_bipush C bc_10 dX2_readCamels_10 ?_
      first
      | refine k_icmpN_ge C (tgt := 39) (by omega) (by omega) (by decide) dX2_readCamels_12 (fun hc12 => ?_) (fun hc12 => ?_)
      | refine k_icmp_ge C (tgt := 39) (by decide) dX2_readCamels_12 (fun hc12 => ?_) (fun hc12 => ?_)
      · skip
        refine k_iload_n C (f := 1) (i := 1) (p := 1) rfl rfl dX2_readCamels_39 ?_
        exact k_zret C (by first | rfl | exact am_bz) (Nat.le_of_ble_eq_true rfl) (Nat.le_of_ble_eq_true rfl) (⟨rfl, rfl, by
          have hfin : sp_lp tb 2 (sp_rCamel tb n) 10 (if sp_isw tb s.1 2 = true then .ok s else .error s.1.2.1) = e := by
            first
            | (rw [hL, show 10 - k = 0 by omega]; rfl)
            | (obtain ⟨x, rfl⟩ := sp_nok hc16; rw [hL]; exact sp_lp_e)
            | (rw [hL, hs1]; exact sp_lp_n hc25)
          refine ⟨?_, hf1⟩
          unfold sp_rCamels
          rw [hfin]
          exact ⟨rfl, fun s hs => ⟨(hO s hs).1, ⟨(hO s hs).2.1, (hO s hs).2.2.mono (by omega) (by omega) (by omega)⟩⟩, hE⟩⟩) dX2_readCamels_40
      · skip
        refine k_iload_n C (f := 1) (i := 1) (p := 1) rfl rfl dX2_readCamels_15 ?_
        first
        | refine k_ifb_eq C (tgt := 39) (by decide) dX2_readCamels_16 (fun hc16 => ?_) (fun hc16 => ?_)
        | refine k_if_eq C (tgt := 39) (by decide) dX2_readCamels_16 (fun hc16 => ?_) (fun hc16 => ?_)
        · skip
          refine k_iload_n C (f := 1) (i := 1) (p := 1) rfl rfl dX2_readCamels_39 ?_
          exact k_zret C (by first | rfl | exact am_bz) (Nat.le_of_ble_eq_true rfl) (Nat.le_of_ble_eq_true rfl) (⟨rfl, rfl, by
            have hfin : sp_lp tb 2 (sp_rCamel tb n) 10 (if sp_isw tb s.1 2 = true then .ok s else .error s.1.2.1) = e := by
              first
              | (rw [hL, show 10 - k = 0 by omega]; rfl)
              | (obtain ⟨x, rfl⟩ := sp_nok hc16; rw [hL]; exact sp_lp_e)
              | (rw [hL, hs1]; exact sp_lp_n hc25)
            refine ⟨?_, hf1⟩
            unfold sp_rCamels
            rw [hfin]
            exact ⟨rfl, fun s hs => ⟨(hO s hs).1, ⟨(hO s hs).2.1, (hO s hs).2.2.mono (by omega) (by omega) (by omega)⟩⟩, hE⟩⟩) dX2_readCamels_40
        · skip
          obtain ⟨s1, hs1⟩ := sp_ok_iff.mp hc16
          obtain ⟨o1, o2, o3⟩ := hO s1 hs1
          refine k_aload_n C (f := 0) (i := 0) (p := 0) rfl rfl dX2_readCamels_19 ?_
          refine k_ldcS C 2 (by rfl) dX2_readCamels_20 ?_
          refine k_callVp C s_X2_77 h_X2_isWord (L2_s hi) rfl (ct_X2_isWord (si := 2) hi hx1 o1 (by decide)) rfl rfl (Nat.le_of_ble_eq_true rfl) ⟨Nat.le_of_ble_eq_true rfl, Nat.le_of_ble_eq_true rfl⟩ ⟨Nat.le_of_ble_eq_true rfl, Nat.le_of_ble_eq_true rfl⟩ ⟨rfl, rfl⟩ dX2_readCamels_22 ?_
          first
          | refine k_ifb_eq C (tgt := 39) (by decide) dX2_readCamels_25 (fun hc25 => ?_) (fun hc25 => ?_)
          | refine k_if_eq C (tgt := 39) (by decide) dX2_readCamels_25 (fun hc25 => ?_) (fun hc25 => ?_)
          · skip
            refine k_iload_n C (f := 1) (i := 1) (p := 1) rfl rfl dX2_readCamels_39 ?_
            exact k_zret C (by first | rfl | exact am_bz) (Nat.le_of_ble_eq_true rfl) (Nat.le_of_ble_eq_true rfl) (⟨rfl, rfl, by
              have hfin : sp_lp tb 2 (sp_rCamel tb n) 10 (if sp_isw tb s.1 2 = true then .ok s else .error s.1.2.1) = e := by
                first
                | (rw [hL, show 10 - k = 0 by omega]; rfl)
                | (obtain ⟨x, rfl⟩ := sp_nok hc16; rw [hL]; exact sp_lp_e)
                | (rw [hL, hs1]; exact sp_lp_n hc25)
              refine ⟨?_, hf1⟩
              unfold sp_rCamels
              rw [hfin]
              exact ⟨rfl, fun s hs => ⟨(hO s hs).1, ⟨(hO s hs).2.1, (hO s hs).2.2.mono (by omega) (by omega) (by omega)⟩⟩, hE⟩⟩) dX2_readCamels_40
          · skip
            refine k_aload_n C (f := 0) (i := 0) (p := 0) rfl rfl dX2_readCamels_28 ?_
            refine k_callVg C s_X2_100 h_X2_readCamel (L2_s hi) rfl (ct_X2_readCamel hi hx1 o1 o2 (by have z := o3.1; omega)) rfl rfl (Nat.le_of_ble_eq_true rfl) ⟨Nat.le_of_ble_eq_true rfl, Nat.le_of_ble_eq_true rfl⟩ ⟨Nat.le_of_ble_eq_true rfl, Nat.le_of_ble_eq_true rfl⟩ ⟨rfl, rfl⟩ dX2_readCamels_29 ?_
            intro v I2 hv
            obtain ⟨⟨rfl, p1, p2⟩, g2⟩ := hv
            refine k_istore_n C (f := 1) (i := 1) (lv := [(1, _), (0, _), (2, _)]) rfl (Nat.le_of_ble_eq_true rfl) rfl dX2_readCamels_32 ?_
            refine k_iinc C (i := 2) (p := 2) (lv := [(2, _), (1, _), (0, _)]) (Nat.le_of_ble_eq_true rfl) rfl (by first | exact am_inc1 _ | rfl) rfl dX2_readCamels_33 ?_
            refine k_goto C (tgt := 9) (by decide) dX2_readCamels_36 ?_
            refine k_sub [2, 1, 0] rfl ?_
            exact ih9 (k + 1) I2 _ (sp_rCamel tb n s1) (by omega) rfl (fun s2 hs2 => ⟨(p1 s2 hs2).1, (p1 s2 hs2).2, (by obtain ⟨x, y, z, -, h2⟩ := rCamel_inv hs2; rw [h2]; exact PG_camel o3 (by omega) (by omega))⟩) p2 (by rw [hL, hs1, show 10 - k = (10 - (k + 1)) + 1 by omega]; exact sp_lp_y hc25) (hf1.tr g2) (by omega)
  refine k_sub [2, 1, 0] rfl ?_
  exact loop9 11 0 I _ (if sp_isw tb s.1 2 = true then .ok s else .error s.1.2.1) (Nat.zero_le _) he0 (fun s1 h1 => by
    by_cases q : sp_isw tb s.1 2 = true
    · rw [if_pos q] at h1; cases h1; exact ⟨ht, hr, hg⟩
    · rw [if_neg q] at h1; cases h1) (fun x h1 => by
    by_cases q : sp_isw tb s.1 2 = true
    · rw [if_pos q] at h1; cases h1
    · rw [if_neg q] at h1; cases h1; exact ⟨ht.2.1, by have z := ht.2.2.2.2.2; omega⟩) rfl DFr.rf (by omega)
set_option maxHeartbeats 4000000 in
set_option maxRecDepth 100000 in
theorem ct_X2_readWells {G : am_G} {Λ : am_L} {I : am_I} {J : am_J} {i n : Nat} {tb : Nat → Nat} {s : sp_S} (hi : InLay Λ i) (hx : InTxt I i tb n) (ht : InTok I i n s.1) (hr : PlanRel I (i + 3) s.2) (hg : PG s.2 10 0 0) : am_Ct G yX2_readWells cX2_readWells 3 (some .boolean) { frames := 5, cells := 0, slots := 0, locals := 107 } [.ref i] Λ I J (am_gen Λ J (fun v I' => POut I' i n v (fun I1 s => PlanRel I1 (i + 3) s.2 ∧ PG s.2 10 8 0) (sp_rWells tb n s) ∧ DFr i I I')) am_never := by
  refine am_ct_of (own := RX2) rfl (by decide) (Nat.le_of_ble_eq_true rfl) (fun X C => ?_)
  change am_K G X { frames := 5, cells := 0, slots := 0, locals := 107 } 3 Λ I J 0 0 0 [(0, .ref i)] []
  have hc := L2_c hi
  have hp := L0_p hc
  have hn := hx.2.1
  refine k_iconst C ic_1 dX2_readWells_0 ?_
  refine k_istore_n C (f := 1) (i := 1) (lv := [(1, _), (0, _)]) rfl (Nat.le_of_ble_eq_true rfl) rfl dX2_readWells_1 ?_
  refine k_iconst C ic_0 dX2_readWells_2 ?_
  refine k_istore_n C (f := 2) (i := 2) (lv := [(2, _), (1, _), (0, _)]) rfl (Nat.le_of_ble_eq_true rfl) rfl dX2_readWells_3 ?_
  have loop4 : ∀ (f : Nat) (k : Nat) (I1 : am_I) (xv : Int32) (e : Except Nat sp_S), (k ≤ 8) → (xv = am_b (sp_ok e = true)) → (∀ s, e = .ok s → InTok I1 i n s.1 ∧ (fun I1 s => PlanRel I1 (i + 3) s.2) I1 s ∧ PG s.2 10 k 0) → (∀ x, e = .error x → I1 i 4 = nI x ∧ x ≤ n) → (sp_lp tb 3 (sp_rWell tb n) 8 (.ok s) = sp_lp tb 3 (sp_rWell tb n) (8 - k) e) → (DFr i I I1) → (8 - k) < f → am_K G X { frames := 5, cells := 0, slots := 0, locals := 107 } 3 Λ I1 J 0 0 4 [(0, .ref i), (1, .int xv), (2, .int (nI k))] [] := by
    intro f
    induction f with
    | zero => intro k I1 xv e hk hxv hO hE hL hf1 hf; exact absurd hf (Nat.not_lt_zero _)
    | succ f ih4 =>
      intro k I1 xv e hk hxv hO hE hL hf1 hf
      subst hxv
      have hx1 := hx.dfr hf1
      refine k_iload_n C (f := 2) (i := 2) (p := 2) rfl rfl dX2_readWells_4 ?_
      refine k_bipush C bc_8 dX2_readWells_5 ?_
      first
      | refine k_icmpN_ge C (tgt := 34) (by omega) (by omega) (by decide) dX2_readWells_7 (fun hc7 => ?_) (fun hc7 => ?_)
      | refine k_icmp_ge C (tgt := 34) (by decide) dX2_readWells_7 (fun hc7 => ?_) (fun hc7 => ?_)
      · skip
        refine k_iload_n C (f := 1) (i := 1) (p := 1) rfl rfl dX2_readWells_34 ?_
        exact k_zret C (by first | rfl | exact am_bz) (Nat.le_of_ble_eq_true rfl) (Nat.le_of_ble_eq_true rfl) (⟨rfl, rfl, by
          have hfin : sp_lp tb 3 (sp_rWell tb n) 8 (.ok s) = e := by
            first
            | (rw [hL, show 8 - k = 0 by omega]; rfl)
            | (obtain ⟨x, rfl⟩ := sp_nok hc11; rw [hL]; exact sp_lp_e)
            | (rw [hL, hs1]; exact sp_lp_n hc20)
          refine ⟨?_, hf1⟩
          unfold sp_rWells
          rw [hfin]
          exact ⟨rfl, fun s hs => ⟨(hO s hs).1, ⟨(hO s hs).2.1, (hO s hs).2.2.mono (by omega) (by omega) (by omega)⟩⟩, hE⟩⟩) dX2_readWells_35
      · skip
        refine k_iload_n C (f := 1) (i := 1) (p := 1) rfl rfl dX2_readWells_10 ?_
        first
        | refine k_ifb_eq C (tgt := 34) (by decide) dX2_readWells_11 (fun hc11 => ?_) (fun hc11 => ?_)
        | refine k_if_eq C (tgt := 34) (by decide) dX2_readWells_11 (fun hc11 => ?_) (fun hc11 => ?_)
        · skip
          refine k_iload_n C (f := 1) (i := 1) (p := 1) rfl rfl dX2_readWells_34 ?_
          exact k_zret C (by first | rfl | exact am_bz) (Nat.le_of_ble_eq_true rfl) (Nat.le_of_ble_eq_true rfl) (⟨rfl, rfl, by
            have hfin : sp_lp tb 3 (sp_rWell tb n) 8 (.ok s) = e := by
              first
              | (rw [hL, show 8 - k = 0 by omega]; rfl)
              | (obtain ⟨x, rfl⟩ := sp_nok hc11; rw [hL]; exact sp_lp_e)
              | (rw [hL, hs1]; exact sp_lp_n hc20)
            refine ⟨?_, hf1⟩
            unfold sp_rWells
            rw [hfin]
            exact ⟨rfl, fun s hs => ⟨(hO s hs).1, ⟨(hO s hs).2.1, (hO s hs).2.2.mono (by omega) (by omega) (by omega)⟩⟩, hE⟩⟩) dX2_readWells_35
        · skip
          obtain ⟨s1, hs1⟩ := sp_ok_iff.mp hc11
          obtain ⟨o1, o2, o3⟩ := hO s1 hs1
          obtain ⟨L0, hL0, hL9⟩ := o3.2.2.2.2.1
          refine k_aload_n C (f := 0) (i := 0) (p := 0) rfl rfl dX2_readWells_14 ?_
          refine k_ldcS C 3 (by rfl) dX2_readWells_15 ?_
          refine k_callVp C s_X2_77 h_X2_isWord (L2_s hi) rfl (ct_X2_isWord (si := 3) hi hx1 o1 (by decide)) rfl rfl (Nat.le_of_ble_eq_true rfl) ⟨Nat.le_of_ble_eq_true rfl, Nat.le_of_ble_eq_true rfl⟩ ⟨Nat.le_of_ble_eq_true rfl, Nat.le_of_ble_eq_true rfl⟩ ⟨rfl, rfl⟩ dX2_readWells_17 ?_
          first
          | refine k_ifb_eq C (tgt := 34) (by decide) dX2_readWells_20 (fun hc20 => ?_) (fun hc20 => ?_)
          | refine k_if_eq C (tgt := 34) (by decide) dX2_readWells_20 (fun hc20 => ?_) (fun hc20 => ?_)
          · skip
            refine k_iload_n C (f := 1) (i := 1) (p := 1) rfl rfl dX2_readWells_34 ?_
            exact k_zret C (by first | rfl | exact am_bz) (Nat.le_of_ble_eq_true rfl) (Nat.le_of_ble_eq_true rfl) (⟨rfl, rfl, by
              have hfin : sp_lp tb 3 (sp_rWell tb n) 8 (.ok s) = e := by
                first
                | (rw [hL, show 8 - k = 0 by omega]; rfl)
                | (obtain ⟨x, rfl⟩ := sp_nok hc11; rw [hL]; exact sp_lp_e)
                | (rw [hL, hs1]; exact sp_lp_n hc20)
              refine ⟨?_, hf1⟩
              unfold sp_rWells
              rw [hfin]
              exact ⟨rfl, fun s hs => ⟨(hO s hs).1, ⟨(hO s hs).2.1, (hO s hs).2.2.mono (by omega) (by omega) (by omega)⟩⟩, hE⟩⟩) dX2_readWells_35
          · skip
            refine k_aload_n C (f := 0) (i := 0) (p := 0) rfl rfl dX2_readWells_23 ?_
            refine k_callVg C s_X2_109 h_X2_readWell (L2_s hi) rfl (ct_X2_readWell hi hx1 o1 o2 (by have z := o3.2.1; omega) hL0 hL9) rfl rfl (Nat.le_of_ble_eq_true rfl) ⟨Nat.le_of_ble_eq_true rfl, Nat.le_of_ble_eq_true rfl⟩ ⟨Nat.le_of_ble_eq_true rfl, Nat.le_of_ble_eq_true rfl⟩ ⟨rfl, rfl⟩ dX2_readWells_24 ?_
            intro v I2 hv
            obtain ⟨⟨rfl, p1, p2⟩, g2⟩ := hv
            refine k_istore_n C (f := 1) (i := 1) (lv := [(1, _), (0, _), (2, _)]) rfl (Nat.le_of_ble_eq_true rfl) rfl dX2_readWells_27 ?_
            refine k_iinc C (i := 2) (p := 2) (lv := [(2, _), (1, _), (0, _)]) (Nat.le_of_ble_eq_true rfl) rfl (by first | exact am_inc1 _ | rfl) rfl dX2_readWells_28 ?_
            refine k_goto C (tgt := 4) (by decide) dX2_readWells_31 ?_
            refine k_sub [2, 1, 0] rfl ?_
            exact ih4 (k + 1) I2 _ (sp_rWell tb n s1) (by omega) rfl (fun s2 hs2 => ⟨(p1 s2 hs2).1, (p1 s2 hs2).2, (by obtain ⟨x, y, z, -, h2⟩ := rWell_inv hs2; rw [h2]; exact PG_well o3 (by omega) (by omega))⟩) p2 (by rw [hL, hs1, show 8 - k = (8 - (k + 1)) + 1 by omega]; exact sp_lp_y hc20) (hf1.tr g2) (by omega)
  refine k_sub [2, 1, 0] rfl ?_
  exact loop4 9 0 I _ (.ok s) (Nat.zero_le _) (am_bt rfl) (fun s1 h1 => by cases h1; exact ⟨ht, hr, hg⟩) (fun x h1 => by cases h1) rfl DFr.rf (by omega)
set_option maxHeartbeats 4000000 in
set_option maxRecDepth 100000 in
theorem ct_X2_readStorms {G : am_G} {Λ : am_L} {I : am_I} {J : am_J} {i n : Nat} {tb : Nat → Nat} {s : sp_S} (hi : InLay Λ i) (hx : InTxt I i tb n) (ht : InTok I i n s.1) (hr : PlanRel I (i + 3) s.2) (hg : PG s.2 10 8 0) : am_Ct G yX2_readStorms cX2_readStorms 3 (some .boolean) { frames := 5, cells := 0, slots := 0, locals := 107 } [.ref i] Λ I J (am_gen Λ J (fun v I' => POut I' i n v (fun I1 s => PlanRel I1 (i + 3) s.2 ∧ PG s.2 10 8 6) (sp_rStorms tb n s) ∧ DFr i I I')) am_never := by
  refine am_ct_of (own := RX2) rfl (by decide) (Nat.le_of_ble_eq_true rfl) (fun X C => ?_)
  change am_K G X { frames := 5, cells := 0, slots := 0, locals := 107 } 3 Λ I J 0 0 0 [(0, .ref i)] []
  have hc := L2_c hi
  have hp := L0_p hc
  have hn := hx.2.1
  refine k_iconst C ic_1 dX2_readStorms_0 ?_
  refine k_istore_n C (f := 1) (i := 1) (lv := [(1, _), (0, _)]) rfl (Nat.le_of_ble_eq_true rfl) rfl dX2_readStorms_1 ?_
  refine k_iconst C ic_0 dX2_readStorms_2 ?_
  refine k_istore_n C (f := 2) (i := 2) (lv := [(2, _), (1, _), (0, _)]) rfl (Nat.le_of_ble_eq_true rfl) rfl dX2_readStorms_3 ?_
  have loop4 : ∀ (f : Nat) (k : Nat) (I1 : am_I) (xv : Int32) (e : Except Nat sp_S), (k ≤ 6) → (xv = am_b (sp_ok e = true)) → (∀ s, e = .ok s → InTok I1 i n s.1 ∧ (fun I1 s => PlanRel I1 (i + 3) s.2) I1 s ∧ PG s.2 10 8 k) → (∀ x, e = .error x → I1 i 4 = nI x ∧ x ≤ n) → (sp_lp tb 4 (sp_rStorm tb n) 6 (.ok s) = sp_lp tb 4 (sp_rStorm tb n) (6 - k) e) → (DFr i I I1) → (6 - k) < f → am_K G X { frames := 5, cells := 0, slots := 0, locals := 107 } 3 Λ I1 J 0 0 4 [(0, .ref i), (1, .int xv), (2, .int (nI k))] [] := by
    intro f
    induction f with
    | zero => intro k I1 xv e hk hxv hO hE hL hf1 hf; exact absurd hf (Nat.not_lt_zero _)
    | succ f ih4 =>
      intro k I1 xv e hk hxv hO hE hL hf1 hf
      subst hxv
      have hx1 := hx.dfr hf1
      refine k_iload_n C (f := 2) (i := 2) (p := 2) rfl rfl dX2_readStorms_4 ?_
      refine k_bipush C bc_6 dX2_readStorms_5 ?_
      first
      | refine k_icmpN_ge C (tgt := 34) (by omega) (by omega) (by decide) dX2_readStorms_7 (fun hc7 => ?_) (fun hc7 => ?_)
      | refine k_icmp_ge C (tgt := 34) (by decide) dX2_readStorms_7 (fun hc7 => ?_) (fun hc7 => ?_)
      · skip
        refine k_iload_n C (f := 1) (i := 1) (p := 1) rfl rfl dX2_readStorms_34 ?_
        exact k_zret C (by first | rfl | exact am_bz) (Nat.le_of_ble_eq_true rfl) (Nat.le_of_ble_eq_true rfl) (⟨rfl, rfl, by
          have hfin : sp_lp tb 4 (sp_rStorm tb n) 6 (.ok s) = e := by
            first
            | (rw [hL, show 6 - k = 0 by omega]; rfl)
            | (obtain ⟨x, rfl⟩ := sp_nok hc11; rw [hL]; exact sp_lp_e)
            | (rw [hL, hs1]; exact sp_lp_n hc20)
          refine ⟨?_, hf1⟩
          unfold sp_rStorms
          rw [hfin]
          exact ⟨rfl, fun s hs => ⟨(hO s hs).1, ⟨(hO s hs).2.1, (hO s hs).2.2.mono (by omega) (by omega) (by omega)⟩⟩, hE⟩⟩) dX2_readStorms_35
      · skip
        refine k_iload_n C (f := 1) (i := 1) (p := 1) rfl rfl dX2_readStorms_10 ?_
        first
        | refine k_ifb_eq C (tgt := 34) (by decide) dX2_readStorms_11 (fun hc11 => ?_) (fun hc11 => ?_)
        | refine k_if_eq C (tgt := 34) (by decide) dX2_readStorms_11 (fun hc11 => ?_) (fun hc11 => ?_)
        · skip
          refine k_iload_n C (f := 1) (i := 1) (p := 1) rfl rfl dX2_readStorms_34 ?_
          exact k_zret C (by first | rfl | exact am_bz) (Nat.le_of_ble_eq_true rfl) (Nat.le_of_ble_eq_true rfl) (⟨rfl, rfl, by
            have hfin : sp_lp tb 4 (sp_rStorm tb n) 6 (.ok s) = e := by
              first
              | (rw [hL, show 6 - k = 0 by omega]; rfl)
              | (obtain ⟨x, rfl⟩ := sp_nok hc11; rw [hL]; exact sp_lp_e)
              | (rw [hL, hs1]; exact sp_lp_n hc20)
            refine ⟨?_, hf1⟩
            unfold sp_rStorms
            rw [hfin]
            exact ⟨rfl, fun s hs => ⟨(hO s hs).1, ⟨(hO s hs).2.1, (hO s hs).2.2.mono (by omega) (by omega) (by omega)⟩⟩, hE⟩⟩) dX2_readStorms_35
        · skip
          obtain ⟨s1, hs1⟩ := sp_ok_iff.mp hc11
          obtain ⟨o1, o2, o3⟩ := hO s1 hs1
          refine k_aload_n C (f := 0) (i := 0) (p := 0) rfl rfl dX2_readStorms_14 ?_
          refine k_ldcS C 4 (by rfl) dX2_readStorms_15 ?_
          refine k_callVp C s_X2_77 h_X2_isWord (L2_s hi) rfl (ct_X2_isWord (si := 4) hi hx1 o1 (by decide)) rfl rfl (Nat.le_of_ble_eq_true rfl) ⟨Nat.le_of_ble_eq_true rfl, Nat.le_of_ble_eq_true rfl⟩ ⟨Nat.le_of_ble_eq_true rfl, Nat.le_of_ble_eq_true rfl⟩ ⟨rfl, rfl⟩ dX2_readStorms_17 ?_
          first
          | refine k_ifb_eq C (tgt := 34) (by decide) dX2_readStorms_20 (fun hc20 => ?_) (fun hc20 => ?_)
          | refine k_if_eq C (tgt := 34) (by decide) dX2_readStorms_20 (fun hc20 => ?_) (fun hc20 => ?_)
          · skip
            refine k_iload_n C (f := 1) (i := 1) (p := 1) rfl rfl dX2_readStorms_34 ?_
            exact k_zret C (by first | rfl | exact am_bz) (Nat.le_of_ble_eq_true rfl) (Nat.le_of_ble_eq_true rfl) (⟨rfl, rfl, by
              have hfin : sp_lp tb 4 (sp_rStorm tb n) 6 (.ok s) = e := by
                first
                | (rw [hL, show 6 - k = 0 by omega]; rfl)
                | (obtain ⟨x, rfl⟩ := sp_nok hc11; rw [hL]; exact sp_lp_e)
                | (rw [hL, hs1]; exact sp_lp_n hc20)
              refine ⟨?_, hf1⟩
              unfold sp_rStorms
              rw [hfin]
              exact ⟨rfl, fun s hs => ⟨(hO s hs).1, ⟨(hO s hs).2.1, (hO s hs).2.2.mono (by omega) (by omega) (by omega)⟩⟩, hE⟩⟩) dX2_readStorms_35
          · skip
            refine k_aload_n C (f := 0) (i := 0) (p := 0) rfl rfl dX2_readStorms_23 ?_
            refine k_callVg C s_X2_125 h_X2_readStorm (L2_s hi) rfl (ct_X2_readStorm hi hx1 o1 o2 (by have z := o3.2.2.1; omega)) rfl rfl (Nat.le_of_ble_eq_true rfl) ⟨Nat.le_of_ble_eq_true rfl, Nat.le_of_ble_eq_true rfl⟩ ⟨Nat.le_of_ble_eq_true rfl, Nat.le_of_ble_eq_true rfl⟩ ⟨rfl, rfl⟩ dX2_readStorms_24 ?_
            intro v I2 hv
            obtain ⟨⟨rfl, p1, p2⟩, g2⟩ := hv
            refine k_istore_n C (f := 1) (i := 1) (lv := [(1, _), (0, _), (2, _)]) rfl (Nat.le_of_ble_eq_true rfl) rfl dX2_readStorms_27 ?_
            refine k_iinc C (i := 2) (p := 2) (lv := [(2, _), (1, _), (0, _)]) (Nat.le_of_ble_eq_true rfl) rfl (by first | exact am_inc1 _ | rfl) rfl dX2_readStorms_28 ?_
            refine k_goto C (tgt := 4) (by decide) dX2_readStorms_31 ?_
            refine k_sub [2, 1, 0] rfl ?_
            exact ih4 (k + 1) I2 _ (sp_rStorm tb n s1) (by omega) rfl (fun s2 hs2 => ⟨(p1 s2 hs2).1, (p1 s2 hs2).2, (by obtain ⟨x, y, z, -, h2⟩ := rStorm_inv hs2; rw [h2]; exact PG_storm o3 (by omega) (by omega) (by omega))⟩) p2 (by rw [hL, hs1, show 6 - k = (6 - (k + 1)) + 1 by omega]; exact sp_lp_y hc20) (hf1.tr g2) (by omega)
  refine k_sub [2, 1, 0] rfl ?_
  exact loop4 7 0 I _ (.ok s) (Nat.zero_le _) (am_bt rfl) (fun s1 h1 => by cases h1; exact ⟨ht, hr, hg⟩) (fun x h1 => by cases h1) rfl DFr.rf (by omega)
set_option maxHeartbeats 4000000 in
set_option maxRecDepth 100000 in
theorem ct_X2_readLoads {G : am_G} {Λ : am_L} {I : am_I} {J : am_J} {i n : Nat} {tb : Nat → Nat} {s : sp_S} (hi : InLay Λ i) (hx : InTxt I i tb n) (ht : InTok I i n s.1) (hr : CarRel I (i + 2) (i + 13) (i + 3) s.2) (hg : sp_nl s.2 ≤ 0) : am_Ct G yX2_readLoads cX2_readLoads 3 (some .boolean) { frames := 6, cells := 0, slots := 0, locals := 129 } [.ref i] Λ I J (am_gen Λ J (fun v I' => POut I' i n v (fun I1 s => CarRel I1 (i + 2) (i + 13) (i + 3) s.2) (sp_rLoads tb n s) ∧ DFr i I I')) am_never := by
  refine am_ct_of (own := RX2) rfl (by decide) (Nat.le_of_ble_eq_true rfl) (fun X C => ?_)
  change am_K G X { frames := 6, cells := 0, slots := 0, locals := 129 } 3 Λ I J 0 0 0 [(0, .ref i)] []
  have hc := L2_c hi
  have hp := L0_p hc
  have hn := hx.2.1
  refine k_iconst C ic_1 dX2_readLoads_0 ?_
  refine k_istore_n C (f := 1) (i := 1) (lv := [(1, _), (0, _)]) rfl (Nat.le_of_ble_eq_true rfl) rfl dX2_readLoads_1 ?_
  refine k_iconst C ic_0 dX2_readLoads_2 ?_
  refine k_istore_n C (f := 2) (i := 2) (lv := [(2, _), (1, _), (0, _)]) rfl (Nat.le_of_ble_eq_true rfl) rfl dX2_readLoads_3 ?_
  have loop4 : ∀ (f : Nat) (k : Nat) (I1 : am_I) (xv : Int32) (e : Except Nat sp_S), (k ≤ 20) → (xv = am_b (sp_ok e = true)) → (∀ s, e = .ok s → InTok I1 i n s.1 ∧ (fun I1 s => CarRel I1 (i + 2) (i + 13) (i + 3) s.2) I1 s ∧ sp_nl s.2 ≤ k) → (∀ x, e = .error x → I1 i 4 = nI x ∧ x ≤ n) → (sp_lp tb 5 (sp_rLoad tb n) 20 (.ok s) = sp_lp tb 5 (sp_rLoad tb n) (20 - k) e) → (DFr i I I1) → (20 - k) < f → am_K G X { frames := 6, cells := 0, slots := 0, locals := 129 } 3 Λ I1 J 0 0 4 [(0, .ref i), (1, .int xv), (2, .int (nI k))] [] := by
    intro f
    induction f with
    | zero => intro k I1 xv e hk hxv hO hE hL hf1 hf; exact absurd hf (Nat.not_lt_zero _)
    | succ f ih4 =>
      intro k I1 xv e hk hxv hO hE hL hf1 hf
      subst hxv
      have hx1 := hx.dfr hf1
      refine k_iload_n C (f := 2) (i := 2) (p := 2) rfl rfl dX2_readLoads_4 ?_
      refine k_bipush C bc_20 dX2_readLoads_5 ?_
      first
      | refine k_icmpN_ge C (tgt := 34) (by omega) (by omega) (by decide) dX2_readLoads_7 (fun hc7 => ?_) (fun hc7 => ?_)
      | refine k_icmp_ge C (tgt := 34) (by decide) dX2_readLoads_7 (fun hc7 => ?_) (fun hc7 => ?_)
      · skip
        refine k_iload_n C (f := 1) (i := 1) (p := 1) rfl rfl dX2_readLoads_34 ?_
        exact k_zret C (by first | rfl | exact am_bz) (Nat.le_of_ble_eq_true rfl) (Nat.le_of_ble_eq_true rfl) (⟨rfl, rfl, by
          have hfin : sp_lp tb 5 (sp_rLoad tb n) 20 (.ok s) = e := by
            first
            | (rw [hL, show 20 - k = 0 by omega]; rfl)
            | (obtain ⟨x, rfl⟩ := sp_nok hc11; rw [hL]; exact sp_lp_e)
            | (rw [hL, hs1]; exact sp_lp_n hc20)
          refine ⟨?_, hf1⟩
          unfold sp_rLoads
          rw [hfin]
          exact ⟨rfl, fun s hs => ⟨(hO s hs).1, (hO s hs).2.1⟩, hE⟩⟩) dX2_readLoads_35
      · skip
        refine k_iload_n C (f := 1) (i := 1) (p := 1) rfl rfl dX2_readLoads_10 ?_
        first
        | refine k_ifb_eq C (tgt := 34) (by decide) dX2_readLoads_11 (fun hc11 => ?_) (fun hc11 => ?_)
        | refine k_if_eq C (tgt := 34) (by decide) dX2_readLoads_11 (fun hc11 => ?_) (fun hc11 => ?_)
        · skip
          refine k_iload_n C (f := 1) (i := 1) (p := 1) rfl rfl dX2_readLoads_34 ?_
          exact k_zret C (by first | rfl | exact am_bz) (Nat.le_of_ble_eq_true rfl) (Nat.le_of_ble_eq_true rfl) (⟨rfl, rfl, by
            have hfin : sp_lp tb 5 (sp_rLoad tb n) 20 (.ok s) = e := by
              first
              | (rw [hL, show 20 - k = 0 by omega]; rfl)
              | (obtain ⟨x, rfl⟩ := sp_nok hc11; rw [hL]; exact sp_lp_e)
              | (rw [hL, hs1]; exact sp_lp_n hc20)
            refine ⟨?_, hf1⟩
            unfold sp_rLoads
            rw [hfin]
            exact ⟨rfl, fun s hs => ⟨(hO s hs).1, (hO s hs).2.1⟩, hE⟩⟩) dX2_readLoads_35
        · skip
          obtain ⟨s1, hs1⟩ := sp_ok_iff.mp hc11
          obtain ⟨o1, o2, o3⟩ := hO s1 hs1
          refine k_aload_n C (f := 0) (i := 0) (p := 0) rfl rfl dX2_readLoads_14 ?_
          refine k_ldcS C 5 (by rfl) dX2_readLoads_15 ?_
          refine k_callVp C s_X2_77 h_X2_isWord (L2_s hi) rfl (ct_X2_isWord (si := 5) hi hx1 o1 (by decide)) rfl rfl (Nat.le_of_ble_eq_true rfl) ⟨Nat.le_of_ble_eq_true rfl, Nat.le_of_ble_eq_true rfl⟩ ⟨Nat.le_of_ble_eq_true rfl, Nat.le_of_ble_eq_true rfl⟩ ⟨rfl, rfl⟩ dX2_readLoads_17 ?_
          first
          | refine k_ifb_eq C (tgt := 34) (by decide) dX2_readLoads_20 (fun hc20 => ?_) (fun hc20 => ?_)
          | refine k_if_eq C (tgt := 34) (by decide) dX2_readLoads_20 (fun hc20 => ?_) (fun hc20 => ?_)
          · skip
            refine k_iload_n C (f := 1) (i := 1) (p := 1) rfl rfl dX2_readLoads_34 ?_
            exact k_zret C (by first | rfl | exact am_bz) (Nat.le_of_ble_eq_true rfl) (Nat.le_of_ble_eq_true rfl) (⟨rfl, rfl, by
              have hfin : sp_lp tb 5 (sp_rLoad tb n) 20 (.ok s) = e := by
                first
                | (rw [hL, show 20 - k = 0 by omega]; rfl)
                | (obtain ⟨x, rfl⟩ := sp_nok hc11; rw [hL]; exact sp_lp_e)
                | (rw [hL, hs1]; exact sp_lp_n hc20)
              refine ⟨?_, hf1⟩
              unfold sp_rLoads
              rw [hfin]
              exact ⟨rfl, fun s hs => ⟨(hO s hs).1, (hO s hs).2.1⟩, hE⟩⟩) dX2_readLoads_35
          · skip
            refine k_aload_n C (f := 0) (i := 0) (p := 0) rfl rfl dX2_readLoads_23 ?_
            refine k_callVg C s_X2_133 h_X2_readLoad (L2_s hi) rfl (ct_X2_readLoad hi hx1 o1 o2 (by omega)) rfl rfl (Nat.le_of_ble_eq_true rfl) ⟨Nat.le_of_ble_eq_true rfl, Nat.le_of_ble_eq_true rfl⟩ ⟨Nat.le_of_ble_eq_true rfl, Nat.le_of_ble_eq_true rfl⟩ ⟨rfl, rfl⟩ dX2_readLoads_24 ?_
            intro v I2 hv
            obtain ⟨⟨rfl, p1, p2⟩, g2⟩ := hv
            refine k_istore_n C (f := 1) (i := 1) (lv := [(1, _), (0, _), (2, _)]) rfl (Nat.le_of_ble_eq_true rfl) rfl dX2_readLoads_27 ?_
            refine k_iinc C (i := 2) (p := 2) (lv := [(2, _), (1, _), (0, _)]) (Nat.le_of_ble_eq_true rfl) rfl (by first | exact am_inc1 _ | rfl) rfl dX2_readLoads_28 ?_
            refine k_goto C (tgt := 4) (by decide) dX2_readLoads_31 ?_
            refine k_sub [2, 1, 0] rfl ?_
            exact ih4 (k + 1) I2 _ (sp_rLoad tb n s1) (by omega) rfl (fun s2 hs2 => ⟨(p1 s2 hs2).1, (p1 s2 hs2).2, (by rw [rLoad_nl hs2 (by omega)]; omega)⟩) p2 (by rw [hL, hs1, show 20 - k = (20 - (k + 1)) + 1 by omega]; exact sp_lp_y hc20) (hf1.tr g2) (by omega)
  refine k_sub [2, 1, 0] rfl ?_
  exact loop4 21 0 I _ (.ok s) (Nat.zero_le _) (am_bt rfl) (fun s1 h1 => by cases h1; exact ⟨ht, hr, hg⟩) (fun x h1 => by cases h1) rfl DFr.rf (by omega)
