set_option maxHeartbeats 4000000 in
set_option maxRecDepth 100000 in
theorem lw_body {G : am_G} {X : am_X} {tz : List ExceptionTableEntry} {Q : State → Prop} {b L z : Nat} {xs : Nat → Int32} (C : am_Cx G X RL cL_law 7 (some .boolean) tz Q) (S0 : LSc G X b L xs) (hL : L ≤ 3072) (hz : X.2.2.1.heap.size = z) (hO : va_AO RX0 X.2.2.1)
    (kend : ∀ (Λ : am_L) (I : am_I) (J : am_J) (k n : Nat), k ≤ 600086 → n ≤ 7301441 → am_K G X room_1 7 Λ I J k n 381 [(3, .int (nI 1)), (2, .ref (z + 1)), (1, .ref z), (0, .ref b)] []) : am_K G X room_1 7 ((fun _ => (0, 0)), fun _ _ => none) (fun _ _ => 0) (fun _ _ => 0) 0 0 0 [(0, .ref b)] [] := by
  refine k_bipush C bc_6 dL_law_0 ?_
  refine k_newA C (h := z) (N := 6) (kd := 2) hz (Or.inl rfl) rfl am_ar_i rfl (by decide) (Or.inl ⟨rfl, rfl⟩) ⟨by show _ ≤ 600086; (try dsimp only); omega, by show _ ≤ 7301441; (try dsimp only); omega⟩ dL_law_2 ?_
  obtain ⟨Λ1, hΛ1, s1⟩ : ∃ Λ1 : am_L, am_nS ((fun _ => (0, 0)), fun _ _ => none) z (2, 6) = Λ1 ∧ Λ1.1 z = (2, 6) := ⟨_, rfl, nS_eq⟩
  rw [hΛ1]
  clear hΛ1
  generalize am_nI (fun _ _ => 0) z = I1
  generalize am_nJ (fun _ _ => 0) z = J1
  refine k_astore_n C (f := 1) (i := 1) (lv := [(1, _), (0, _)]) rfl (Nat.le_of_ble_eq_true rfl) rfl dL_law_4 ?_
  have join35 : ∀ (S : am_I), am_K G X room_1 7 Λ1 S J1 (1) (6) 35 [(1, .ref z), (0, .ref b)] [] := by
    intro S 
    refine k_newC C (h := z + 1) hz (Or.inr ⟨z, by rw [s1]; decide, rfl⟩) rfl (ci := 5) (q := (RX5, TX5, 9)) rfl am_cl_RL_8 am_in_5 am_it_5 ⟨by show _ ≤ 600086; (try dsimp only); omega, by show _ ≤ 7301441; (try dsimp only); omega⟩ dL_law_35 ?_
    obtain ⟨Λ2, hΛ2, s2, o2⟩ : ∃ Λ2 : am_L, am_nS Λ1 (z + 1) (1, 5) = Λ2 ∧ Λ2.1 (z + 1) = (1, 5) ∧ Λ2.1 z = (2, 6) := ⟨_, rfl, nS_eq, (nS_ne (by omega)).trans s1⟩
    rw [hΛ2]
    clear hΛ2
    generalize am_nI S (z + 1) = I2
    generalize am_nJ J1 (z + 1) = J2
    refine k_dup C rfl dL_law_38 ?_
    refine k_callIz C (h := z + 1 + 1) hz (Or.inr ⟨z + 1, by rw [s2]; decide, rfl⟩) rfl hO s_L_280 h_X5_init (ct_X5_init s2) rfl rfl (Nat.le_of_ble_eq_true rfl) ⟨Nat.le_of_ble_eq_true rfl, Nat.le_of_ble_eq_true rfl⟩ ⟨by show _ ≤ 600086; (try dsimp only); omega, by show _ ≤ 7301441; (try dsimp only); omega⟩ dL_law_39 ?_
    intro Λ3 I3 J3 hp
    obtain ⟨hx3, E3, -, r0, hr0, hR3⟩ := hp
    have hz3 : Λ3.1 z = (2, 6) := (E3.1 z (Or.inl (by omega))).1.trans o2
    obtain ⟨hleg, hnc, hnw, hnl, hr00, hfree⟩ := fr_leg hr0
    have hr3 := RR_r hR3
    obtain ⟨kp0, hkp0⟩ : ∃ kp0 : Nat → Bool, kp0 = fun _ => false := ⟨_, rfl⟩
    rw [← hkp0] at hR3
    generalize (fun _ _ => (0 : Int32) : Nat → Nat → Int32) = hsn0 at hR3
    show am_K G X _ _ _ _ _ _ _ _ _ (_)
    refine k_astore_n C (f := 2) (i := 2) (lv := [(2, _), (1, _), (0, _)]) rfl (Nat.le_of_ble_eq_true rfl) rfl dL_law_42 ?_
    refine k_aload_n C (f := 2) (i := 2) (p := 0) rfl rfl dL_law_43 ?_
    refine k_bipush C bc_7 dL_law_44 ?_
    refine k_iconst C ic_0 dL_law_46 ?_
    refine k_callSgq C s_L_163 h_L_call__ (ct_L_call__ (ct_c7 (u1 := nI 0) (u2 := nI 0) (u3 := nI 0) (u4 := nI 0) (u5 := nI 0) hx3 hR3 hleg.1) (fun _ _ _ _ h => ⟨_, h.2.2.1⟩)) rfl rfl (Nat.le_of_ble_eq_true rfl) ⟨Nat.le_of_ble_eq_true rfl, Nat.le_of_ble_eq_true rfl⟩ ⟨rfl, rfl⟩ ⟨by show _ ≤ 600086; (try dsimp only); omega, by show _ ≤ 7301441; (try dsimp only); omega⟩ dL_law_47 ?_
    intro v I4 hv
    obtain ⟨rfl, -, hv3⟩ := hv
    have e4 := (hv3 (by decide)).symm
    subst e4
    rw [if_neg (by decide)]
    show am_K G X _ _ _ _ _ _ _ _ _ (.int (-102) :: _)
    refine k_bipush C bc_m102 dL_law_50 ?_
    refine k_icmp_ne C (tgt := 156) (by decide) dL_law_52 (fun hc52 => ?_) (fun hc52 => ?_)
    · skip
      first
      | omega
      | exact absurd hc52 (nI_ge (by omega) (by omega))
      | exact absurd hc52 (by decide)
      | exact absurd hc52 (nI_pos (by omega))
      | exact absurd (nI_pos' (by omega)) hc52
      | exact absurd rfl hc52
      | exact absurd hc52 (nI_ne0 (by omega) (by omega))
      | exact hc52 rfl
      | exact absurd hc52 (nI_n101 (by omega))
      | exact absurd hc52.symm (nI_n101 (by omega))
    · skip
      refine k_aload_n C (f := 2) (i := 2) (p := 0) rfl rfl dL_law_55 ?_
      refine k_callVp C s_L_222 h_X5_camelCount (L5_s (by assumption)) rfl (ct_X5_camelCount hx3 hr3) rfl rfl (Nat.le_of_ble_eq_true rfl) ⟨Nat.le_of_ble_eq_true rfl, Nat.le_of_ble_eq_true rfl⟩ ⟨by show _ ≤ 600086; (try dsimp only); omega, by show _ ≤ 7301441; (try dsimp only); omega⟩ ⟨rfl, rfl⟩ dL_law_56 ?_
      rw [hnc]
      refine k_iconst C ic_3 dL_law_59 ?_
      refine k_icmp_ne C (tgt := 156) (by decide) dL_law_60 (fun hc60 => ?_) (fun hc60 => ?_)
      · skip
        first
        | omega
        | exact absurd hc60 (nI_ge (by omega) (by omega))
        | exact absurd hc60 (by decide)
        | exact absurd hc60 (nI_pos (by omega))
        | exact absurd (nI_pos' (by omega)) hc60
        | exact absurd rfl hc60
        | exact absurd hc60 (nI_ne0 (by omega) (by omega))
        | exact hc60 rfl
        | exact absurd hc60 (nI_n101 (by omega))
        | exact absurd hc60.symm (nI_n101 (by omega))
      · skip
        refine k_aload_n C (f := 2) (i := 2) (p := 0) rfl rfl dL_law_63 ?_
        refine k_callVp C s_L_225 h_X5_wellCount (L5_s (by assumption)) rfl (ct_X5_wellCount hx3 hr3) rfl rfl (Nat.le_of_ble_eq_true rfl) ⟨Nat.le_of_ble_eq_true rfl, Nat.le_of_ble_eq_true rfl⟩ ⟨by show _ ≤ 600086; (try dsimp only); omega, by show _ ≤ 7301441; (try dsimp only); omega⟩ ⟨rfl, rfl⟩ dL_law_64 ?_
        rw [hnw]
        refine k_iconst C ic_2 dL_law_67 ?_
        refine k_icmp_ne C (tgt := 156) (by decide) dL_law_68 (fun hc68 => ?_) (fun hc68 => ?_)
        · skip
          first
          | omega
          | exact absurd hc68 (nI_ge (by omega) (by omega))
          | exact absurd hc68 (by decide)
          | exact absurd hc68 (nI_pos (by omega))
          | exact absurd (nI_pos' (by omega)) hc68
          | exact absurd rfl hc68
          | exact absurd hc68 (nI_ne0 (by omega) (by omega))
          | exact hc68 rfl
          | exact absurd hc68 (nI_n101 (by omega))
          | exact absurd hc68.symm (nI_n101 (by omega))
        · skip
          refine k_aload_n C (f := 2) (i := 2) (p := 0) rfl rfl dL_law_71 ?_
          refine k_callVp C s_L_228 h_X5_loadCount (L5_s (by assumption)) rfl (ct_X5_loadCount hx3 hr3) rfl rfl (Nat.le_of_ble_eq_true rfl) ⟨Nat.le_of_ble_eq_true rfl, Nat.le_of_ble_eq_true rfl⟩ ⟨by show _ ≤ 600086; (try dsimp only); omega, by show _ ≤ 7301441; (try dsimp only); omega⟩ ⟨rfl, rfl⟩ dL_law_72 ?_
          rw [hnl]
          refine k_iconst C ic_3 dL_law_75 ?_
          refine k_icmp_ne C (tgt := 156) (by decide) dL_law_76 (fun hc76 => ?_) (fun hc76 => ?_)
          · skip
            first
            | omega
            | exact absurd hc76 (nI_ge (by omega) (by omega))
            | exact absurd hc76 (by decide)
            | exact absurd hc76 (nI_pos (by omega))
            | exact absurd (nI_pos' (by omega)) hc76
            | exact absurd rfl hc76
            | exact absurd hc76 (nI_ne0 (by omega) (by omega))
            | exact hc76 rfl
            | exact absurd hc76 (nI_n101 (by omega))
            | exact absurd hc76.symm (nI_n101 (by omega))
          · skip
            refine k_aload_n C (f := 2) (i := 2) (p := 0) rfl rfl dL_law_79 ?_
            refine k_callVp C s_L_231 h_X5_length (L5_s (by assumption)) rfl (ct_X5_length hx3 hr3) rfl rfl (Nat.le_of_ble_eq_true rfl) ⟨Nat.le_of_ble_eq_true rfl, Nat.le_of_ble_eq_true rfl⟩ ⟨by show _ ≤ 600086; (try dsimp only); omega, by show _ ≤ 7301441; (try dsimp only); omega⟩ ⟨rfl, rfl⟩ dL_law_80 ?_
            rw [hr00]
            refine k_sipush C sc_200 dL_law_83 ?_
            refine k_icmp_ne C (tgt := 156) (by decide) dL_law_86 (fun hc86 => ?_) (fun hc86 => ?_)
            · skip
              first
              | omega
              | exact absurd hc86 (nI_ge (by omega) (by omega))
              | exact absurd hc86 (by decide)
              | exact absurd hc86 (nI_pos (by omega))
              | exact absurd (nI_pos' (by omega)) hc86
              | exact absurd rfl hc86
              | exact absurd hc86 (nI_ne0 (by omega) (by omega))
              | exact hc86 rfl
              | exact absurd hc86 (nI_n101 (by omega))
              | exact absurd hc86.symm (nI_n101 (by omega))
            · skip
              refine k_aload_n C (f := 2) (i := 2) (p := 0) rfl rfl dL_law_89 ?_
              refine k_bipush C bc_28 dL_law_90 ?_
              refine k_iconst C ic_1 dL_law_92 ?_
              refine k_callSq C s_L_163 h_L_call__ (ct_k28 (j := 1) hx3 hr3 (by omega) hfree) rfl rfl (Nat.le_of_ble_eq_true rfl) ⟨Nat.le_of_ble_eq_true rfl, Nat.le_of_ble_eq_true rfl⟩ ⟨rfl, rfl⟩ ⟨by show _ ≤ 600086; (try dsimp only); omega, by show _ ≤ 7301441; (try dsimp only); omega⟩ dL_law_93 ?_
              refine k_bipush C bc_25 dL_law_96 ?_
              refine k_icmp_ne C (tgt := 156) (by decide) dL_law_98 (fun hc98 => ?_) (fun hc98 => ?_)
              · skip
                first
                | omega
                | exact absurd hc98 (nI_ge (by omega) (by omega))
                | exact absurd hc98 (by decide)
                | exact absurd hc98 (nI_pos (by omega))
                | exact absurd (nI_pos' (by omega)) hc98
                | exact absurd rfl hc98
                | exact absurd hc98 (nI_ne0 (by omega) (by omega))
                | exact hc98 rfl
                | exact absurd hc98 (nI_n101 (by omega))
                | exact absurd hc98.symm (nI_n101 (by omega))
              · skip
                refine k_aload_n C (f := 2) (i := 2) (p := 0) rfl rfl dL_law_101 ?_
                refine k_bipush C bc_13 dL_law_102 ?_
                refine k_iconst C ic_0 dL_law_104 ?_
                refine k_callSq C s_L_163 h_L_call__ (ct_n13 hx3 (RR_e hR3)) rfl rfl (Nat.le_of_ble_eq_true rfl) ⟨Nat.le_of_ble_eq_true rfl, Nat.le_of_ble_eq_true rfl⟩ ⟨rfl, rfl⟩ ⟨by show _ ≤ 600086; (try dsimp only); omega, by show _ ≤ 7301441; (try dsimp only); omega⟩ dL_law_105 ?_
                refine k_bipush C bc_m101 dL_law_108 ?_
                refine k_icmp_ne C (tgt := 156) (by decide) dL_law_110 (fun hc110 => ?_) (fun hc110 => ?_)
                · skip
                  first
                  | omega
                  | exact absurd hc110 (nI_ge (by omega) (by omega))
                  | exact absurd hc110 (by decide)
                  | exact absurd hc110 (nI_pos (by omega))
                  | exact absurd (nI_pos' (by omega)) hc110
                  | exact absurd rfl hc110
                  | exact absurd hc110 (nI_ne0 (by omega) (by omega))
                  | exact hc110 rfl
                  | exact absurd hc110 (nI_n101 (by omega))
                  | exact absurd hc110.symm (nI_n101 (by omega))
                · skip
                  refine k_aload_n C (f := 2) (i := 2) (p := 0) rfl rfl dL_law_113 ?_
                  refine k_bipush C bc_41 dL_law_114 ?_
                  refine k_iconst C ic_0 dL_law_116 ?_
                  refine k_callSq C s_L_163 h_L_call__ (ct_n41 hx3 (RR_w hR3).1) rfl rfl (Nat.le_of_ble_eq_true rfl) ⟨Nat.le_of_ble_eq_true rfl, Nat.le_of_ble_eq_true rfl⟩ ⟨rfl, rfl⟩ ⟨by show _ ≤ 600086; (try dsimp only); omega, by show _ ≤ 7301441; (try dsimp only); omega⟩ dL_law_117 ?_
                  refine k_bipush C bc_m104 dL_law_120 ?_
                  refine k_icmp_ne C (tgt := 156) (by decide) dL_law_122 (fun hc122 => ?_) (fun hc122 => ?_)
                  · skip
                    first
                    | omega
                    | exact absurd hc122 (nI_ge (by omega) (by omega))
                    | exact absurd hc122 (by decide)
                    | exact absurd hc122 (nI_pos (by omega))
                    | exact absurd (nI_pos' (by omega)) hc122
                    | exact absurd rfl hc122
                    | exact absurd hc122 (nI_ne0 (by omega) (by omega))
                    | exact hc122 rfl
                    | exact absurd hc122 (nI_n101 (by omega))
                    | exact absurd hc122.symm (nI_n101 (by omega))
                  · skip
                    refine k_aload_n C (f := 2) (i := 2) (p := 0) rfl rfl dL_law_125 ?_
                    refine k_bipush C bc_9 dL_law_126 ?_
                    refine k_iconst C ic_0 dL_law_128 ?_
                    refine k_callSgq C s_L_163 h_L_call__ (ct_L_call__ (ct_c9 (c := nI 0) (u1 := nI 0) (u2 := nI 0) (u3 := nI 0) (u4 := nI 0) hx3 hR3 hleg.1) (fun _ _ _ _ h => ⟨_, h.2.2.1⟩)) rfl rfl (Nat.le_of_ble_eq_true rfl) ⟨Nat.le_of_ble_eq_true rfl, Nat.le_of_ble_eq_true rfl⟩ ⟨rfl, rfl⟩ ⟨by show _ ≤ 600086; (try dsimp only); omega, by show _ ≤ 7301441; (try dsimp only); omega⟩ dL_law_129 ?_
                    intro v I4 hv
                    have hk9 : kp0 (nI 0).toNatClampNeg = false := by rw [hkp0]
                    rw [if_pos (cdI_k (n := 2) (j := 0) (by decide) (by decide)), hk9, if_neg (show ¬ false = true by decide)] at hv
                    obtain ⟨rfl, -, hv3⟩ := hv
                    have e4 := (hv3 (by decide)).symm
                    subst e4
                    rw [if_neg (by decide), if_neg (by decide)]
                    show am_K G X _ _ _ _ _ _ _ _ _ (.int (-101) :: _)
                    refine k_bipush C bc_m101 dL_law_132 ?_
                    refine k_icmp_ne C (tgt := 156) (by decide) dL_law_134 (fun hc134 => ?_) (fun hc134 => ?_)
                    · skip
                      first
                      | omega
                      | exact absurd hc134 (nI_ge (by omega) (by omega))
                      | exact absurd hc134 (by decide)
                      | exact absurd hc134 (nI_pos (by omega))
                      | exact absurd (nI_pos' (by omega)) hc134
                      | exact absurd rfl hc134
                      | exact absurd hc134 (nI_ne0 (by omega) (by omega))
                      | exact hc134 rfl
                      | exact absurd hc134 (nI_n101 (by omega))
                      | exact absurd hc134.symm (nI_n101 (by omega))
                    · skip
                      refine k_aload_n C (f := 2) (i := 2) (p := 0) rfl rfl dL_law_137 ?_
                      refine k_callSl C s_L_268 h_L_caravan (ct_L_caravan hx3 hR3 hleg) rfl rfl (Nat.le_of_ble_eq_true rfl) ⟨Nat.le_of_ble_eq_true rfl, Nat.le_of_ble_eq_true rfl⟩ ⟨rfl, rfl⟩ ⟨by show _ ≤ 600086; (try dsimp only); omega, by show _ ≤ 7301441; (try dsimp only); omega⟩ dL_law_138 ?_
                      intro w5 Λ5 I5 J5 hv
                      obtain ⟨hlk5, rfl, hkp5⟩ := hv
                      show am_K G X _ _ _ _ _ _ _ _ _ (.int (nI 1) :: _)
                      have hx5 := hlk5.lay hx3
                      have hz5 := hlk5.at hz3 (by decide)
                      have hR5 := RouRel_agree hR3 hkp5
                      first
                      | refine k_ifb_eq C (tgt := 156) (by decide) dL_law_141 (fun hc141 => ?_) (fun hc141 => ?_)
                      | refine k_if_eq C (tgt := 156) (by decide) dL_law_141 (fun hc141 => ?_) (fun hc141 => ?_)
                      · skip
                        first
                        | exact absurd hc141 (by decide)
                        | exact absurd (by decide) hc141
                      · skip
                        refine k_aload_n C (f := 2) (i := 2) (p := 0) rfl rfl dL_law_144 ?_
                        refine k_iconst C ic_0 dL_law_145 ?_
                        refine k_callSl C s_L_281 h_L_day (ct_L_day_t hx5 hR5 hleg) rfl rfl (Nat.le_of_ble_eq_true rfl) ⟨Nat.le_of_ble_eq_true rfl, Nat.le_of_ble_eq_true rfl⟩ ⟨rfl, rfl⟩ ⟨by show _ ≤ 600086; (try dsimp only); omega, by show _ ≤ 7301441; (try dsimp only); omega⟩ dL_law_146 ?_
                        intro w6 Λ6 I6 J6 hv
                        obtain ⟨hlk6, rfl, ct6, hct6, hR6⟩ := hv
                        show am_K G X _ _ _ _ _ _ _ _ _ (.int (nI 1) :: _)
                        have hx6 := hlk6.lay hx5
                        have hz6 := hlk6.at hz5 (by decide)
                        obtain rfl : ct6 = 0 := by omega
                        have hL6 : LSt r0 0 hsn0 kp0 hsn0 := LSt_new hleg hkp0
                        first
                        | refine k_ifb_eq C (tgt := 156) (by decide) dL_law_149 (fun hc149 => ?_) (fun hc149 => ?_)
                        | refine k_if_eq C (tgt := 156) (by decide) dL_law_149 (fun hc149 => ?_) (fun hc149 => ?_)
                        · skip
                          first
                          | exact absurd hc149 (by decide)
                          | exact absurd (by decide) hc149
                        · skip
                          refine k_iconst C ic_1 dL_law_152 ?_
                          refine k_goto C (tgt := 157) (by decide) dL_law_153 ?_
                          refine k_istore_n C (f := 3) (i := 3) (lv := [(3, _), (2, _), (1, _), (0, _)]) rfl (Nat.le_of_ble_eq_true rfl) rfl dL_law_157 ?_
                          refine k_iconst C ic_0 dL_law_158 ?_
                          refine k_istore C (i := 4) (lv := [(4, _), (3, _), (2, _), (1, _), (0, _)]) (Nat.le_of_ble_eq_true rfl) rfl dL_law_159 ?_
                          have loop161 : ∀ (f : Nat) (i : Nat) (Λa : am_L) (Sa : am_I) (Ja : am_J) (tba : Nat → Nat) (ra : Nat → Int32) (cta : Nat) (hsa : Nat → Nat → Int32) (kpa : Nat → Bool) (sna : Nat → Nat → Int32), (i ≤ 3) → (RouLay Λa (z + 1)) → (RouRel Sa (z + 1) tba 0 (-1) ra cta hsa kpa sna (0, fun _ => 0)) → (LSt ra cta hsa kpa sna) → (Λa.1 z = (2, 6)) → (4 - i) < f → am_K G X room_1 7 Λa Sa Ja (10000 + 111000 * i) (60000 + 790000 * i) 161 [(4, .int (nI (2 * i))), (3, .int (nI 1)), (2, .ref (z + 1)), (1, .ref z), (0, .ref b)] [] := by
                            intro f
                            induction f with
                            | zero => intro i Λa Sa Ja tba ra cta hsa kpa sna hi hxa hRa hLa hza hf; exact absurd hf (Nat.not_lt_zero _)
                            | succ f ih161 =>
                              intro i Λa Sa Ja tba ra cta hsa kpa sna hi hxa hRa hLa hza hf
                              refine k_iload C (i := 4) (p := 0) rfl dL_law_161 ?_
                              refine k_iconst C ic_1 dL_law_163 ?_
                              refine k_iadd C dL_law_164 ?_
                              rw [nI_add]
                              refine k_bipush C bc_6 dL_law_165 ?_
                              first
                              | refine k_icmpN_ge C (tgt := 381) (by omega) (by omega) (by decide) dL_law_167 (fun hc167 => ?_) (fun hc167 => ?_)
                              | refine k_icmp_ge C (tgt := 381) (by decide) dL_law_167 (fun hc167 => ?_) (fun hc167 => ?_)
                              · skip
                                obtain rfl : i = 3 := by omega
                                refine k_sub [1, 2, 3, 4] rfl ?_
                                exact kend _ _ _ _ _ (by omega) (by omega)
                              · skip
                                have hi2 : i < 3 := by omega
                                refine k_iload_n C (f := 3) (i := 3) (p := 1) rfl rfl dL_law_170 ?_
                                first
                                | refine k_ifb_eq C (tgt := 381) (by decide) dL_law_171 (fun hc171 => ?_) (fun hc171 => ?_)
                                | refine k_if_eq C (tgt := 381) (by decide) dL_law_171 (fun hc171 => ?_) (fun hc171 => ?_)
                                · skip
                                  first
                                  | exact absurd hc171 (by decide)
                                  | exact absurd (by decide) hc171
                                · skip
                                  have join239 : ∀ (Λb : am_L) (Sb : am_I) (Jb : am_J) (tbb : Nat → Nat) (rb : Nat → Int32) (ctb : Nat) (hsb : Nat → Nat → Int32) (kpb : Nat → Bool) (snb : Nat → Nat → Int32), (RouLay Λb (z + 1)) → (RouRel Sb (z + 1) tbb 0 (-1) rb ctb hsb kpb snb (0, fun _ => 0)) → (LSt rb ctb hsb kpb snb) → (Λb.1 z = (2, 6)) → am_K G X room_1 7 Λb Sb Jb (10000 + 111000 * i + 400) (60000 + 790000 * i + 114000) 239 [(4, .int (nI (2 * i))), (3, .int (nI 1)), (2, .ref (z + 1)), (1, .ref z), (0, .ref b)] [] := by
                                    intro Λb Sb Jb tbb rb ctb hsb kpb snb hxb hRb hLb hzb
                                    refine k_iconst C ic_0 dL_law_239 ?_
                                    refine k_istore C (i := 5) (lv := [(5, _), (4, _), (3, _), (2, _), (1, _), (0, _)]) (Nat.le_of_ble_eq_true rfl) rfl dL_law_240 ?_
                                    have loop242 : ∀ (f : Nat) (q : Nat) (Λc : am_L) (Sc : am_I) (Jc : am_J) (rc : Nat → Int32) (ctc : Nat) (hsc : Nat → Nat → Int32) (kpc : Nat → Bool) (snc : Nat → Nat → Int32), (q ≤ 9) → (RouLay Λc (z + 1)) → (RouRel Sc (z + 1) tbb 0 (-1) rc ctc hsc kpc snc (0, fun _ => 0)) → (LSt rc ctc hsc kpc snc) → (Λc.1 z = (2, 6)) → (10 - q) < f → am_K G X room_1 7 Λc Sc Jc (10000 + 111000 * i + 400 + 2700 * q) (60000 + 790000 * i + 114000 + 16000 * q) 242 [(5, .int (nI q)), (4, .int (nI (2 * i))), (3, .int (nI 1)), (2, .ref (z + 1)), (1, .ref z), (0, .ref b)] [] := by
                                      intro f
                                      induction f with
                                      | zero => intro q Λc Sc Jc rc ctc hsc kpc snc hq hxc hRc hLc hzc hf; exact absurd hf (Nat.not_lt_zero _)
                                      | succ f ih242 =>
                                        intro q Λc Sc Jc rc ctc hsc kpc snc hq hxc hRc hLc hzc hf
                                        refine k_iload C (i := 5) (p := 0) rfl dL_law_242 ?_
                                        refine k_bipush C bc_9 dL_law_244 ?_
                                        first
                                        | refine k_icmpN_ge C (tgt := 284) (by omega) (by omega) (by decide) dL_law_246 (fun hc246 => ?_) (fun hc246 => ?_)
                                        | refine k_icmp_ge C (tgt := 284) (by decide) dL_law_246 (fun hc246 => ?_) (fun hc246 => ?_)
                                        · skip
                                          obtain rfl : q = 9 := by omega
                                          have hleg3 := hLc.1
                                          have h33 := RK_3 hleg3.1
                                          refine k_iload_n C (f := 3) (i := 3) (p := 2) rfl rfl dL_law_284 ?_
                                          first
                                          | refine k_ifb_eq C (tgt := 295) (by decide) dL_law_285 (fun hc285 => ?_) (fun hc285 => ?_)
                                          | refine k_if_eq C (tgt := 295) (by decide) dL_law_285 (fun hc285 => ?_) (fun hc285 => ?_)
                                          · skip
                                            first
                                            | exact absurd hc285 (by decide)
                                            | exact absurd (by decide) hc285
                                          · skip
                                            refine k_aload_n C (f := 2) (i := 2) (p := 3) rfl rfl dL_law_288 ?_
                                            refine k_callSq C s_L_257 h_L_state (ct_L_state hxc (RR_r hRc) h33) rfl rfl (Nat.le_of_ble_eq_true rfl) ⟨Nat.le_of_ble_eq_true rfl, Nat.le_of_ble_eq_true rfl⟩ ⟨rfl, rfl⟩ ⟨by show _ ≤ 600086; (try dsimp only); omega, by show _ ≤ 7301441; (try dsimp only); omega⟩ dL_law_289 ?_
                                            refine k_goto C (tgt := 296) (by decide) dL_law_292 ?_
                                            refine k_lstore C (i := 5) (lv := [(5, _), (4, _), (3, _), (2, _), (1, _), (0, _)]) (Nat.le_of_ble_eq_true rfl) rfl dL_law_296 ?_
                                            refine k_iload_n C (f := 3) (i := 3) (p := 2) rfl rfl dL_law_298 ?_
                                            first
                                            | refine k_ifb_eq C (tgt := 373) (by decide) dL_law_299 (fun hc299 => ?_) (fun hc299 => ?_)
                                            | refine k_if_eq C (tgt := 373) (by decide) dL_law_299 (fun hc299 => ?_) (fun hc299 => ?_)
                                            · skip
                                              first
                                              | exact absurd hc299 (by decide)
                                              | exact absurd (by decide) hc299
                                            · skip
                                              refine k_aload_n C (f := 2) (i := 2) (p := 3) rfl rfl dL_law_302 ?_
                                              refine k_callSl C s_L_268 h_L_caravan (ct_L_caravan hxc hRc hleg3) rfl rfl (Nat.le_of_ble_eq_true rfl) ⟨Nat.le_of_ble_eq_true rfl, Nat.le_of_ble_eq_true rfl⟩ ⟨rfl, rfl⟩ ⟨by show _ ≤ 600086; (try dsimp only); omega, by show _ ≤ 7301441; (try dsimp only); omega⟩ dL_law_303 ?_
                                              intro w11 Λ11 I11 J11 hv
                                              obtain ⟨hlk11, rfl, hkp11⟩ := hv
                                              show am_K G X _ _ _ _ _ _ _ _ _ (.int (nI 1) :: _)
                                              have hx11 := hlk11.lay hxc
                                              have hz11 := hlk11.at hzc (by decide)
                                              have hR11 := RouRel_agree hRc hkp11
                                              first
                                              | refine k_ifb_eq C (tgt := 373) (by decide) dL_law_306 (fun hc306 => ?_) (fun hc306 => ?_)
                                              | refine k_if_eq C (tgt := 373) (by decide) dL_law_306 (fun hc306 => ?_) (fun hc306 => ?_)
                                              · skip
                                                first
                                                | exact absurd hc306 (by decide)
                                                | exact absurd (by decide) hc306
                                              · skip
                                                refine k_aload_n C (f := 2) (i := 2) (p := 3) rfl rfl dL_law_309 ?_
                                                refine k_callSq C s_L_257 h_L_state (ct_L_state hx11 (RR_r hR11) h33) rfl rfl (Nat.le_of_ble_eq_true rfl) ⟨Nat.le_of_ble_eq_true rfl, Nat.le_of_ble_eq_true rfl⟩ ⟨rfl, rfl⟩ ⟨by show _ ≤ 600086; (try dsimp only); omega, by show _ ≤ 7301441; (try dsimp only); omega⟩ dL_law_310 ?_
                                                refine k_lload C (i := 5) (p := 0) rfl dL_law_313 ?_
                                                refine k_lcmp C dL_law_315 ?_
                                                rw [lg_self]
                                                first
                                                | refine k_ifb_ne C (tgt := 373) (by decide) dL_law_316 (fun hc316 => ?_) (fun hc316 => ?_)
                                                | refine k_if_ne C (tgt := 373) (by decide) dL_law_316 (fun hc316 => ?_) (fun hc316 => ?_)
                                                · skip
                                                  first
                                                  | omega
                                                  | exact absurd hc316 (nI_ge (by omega) (by omega))
                                                  | exact absurd hc316 (by decide)
                                                  | exact absurd hc316 (nI_pos (by omega))
                                                  | exact absurd (nI_pos' (by omega)) hc316
                                                  | exact absurd rfl hc316
                                                  | exact absurd hc316 (nI_ne0 (by omega) (by omega))
                                                  | exact hc316 rfl
                                                  | exact absurd hc316 (nI_n101 (by omega))
                                                  | exact absurd hc316.symm (nI_n101 (by omega))
                                                · skip
                                                  refine k_aload_n C (f := 2) (i := 2) (p := 3) rfl rfl dL_law_319 ?_
                                                  refine k_iconst C ic_0 dL_law_320 ?_
                                                  refine k_callSl C s_L_281 h_L_day (ct_L_day_t hx11 hR11 hleg3) rfl rfl (Nat.le_of_ble_eq_true rfl) ⟨Nat.le_of_ble_eq_true rfl, Nat.le_of_ble_eq_true rfl⟩ ⟨rfl, rfl⟩ ⟨by show _ ≤ 600086; (try dsimp only); omega, by show _ ≤ 7301441; (try dsimp only); omega⟩ dL_law_321 ?_
                                                  intro w12 Λ12 I12 J12 hv
                                                  obtain ⟨hlk12, rfl, ct12, hct12, hR12⟩ := hv
                                                  show am_K G X _ _ _ _ _ _ _ _ _ (.int (nI 1) :: _)
                                                  have hx12 := hlk12.lay hx11
                                                  have hz12 := hlk12.at hz11 (by decide)
                                                  first
                                                  | refine k_ifb_eq C (tgt := 373) (by decide) dL_law_324 (fun hc324 => ?_) (fun hc324 => ?_)
                                                  | refine k_if_eq C (tgt := 373) (by decide) dL_law_324 (fun hc324 => ?_) (fun hc324 => ?_)
                                                  · skip
                                                    first
                                                    | exact absurd hc324 (by decide)
                                                    | exact absurd (by decide) hc324
                                                  · skip
                                                    refine k_aload_n C (f := 2) (i := 2) (p := 3) rfl rfl dL_law_327 ?_
                                                    refine k_iconst C ic_1 dL_law_328 ?_
                                                    refine k_callSl C s_L_281 h_L_day (ct_L_day_r hx12 hR12 hleg3) rfl rfl (Nat.le_of_ble_eq_true rfl) ⟨Nat.le_of_ble_eq_true rfl, Nat.le_of_ble_eq_true rfl⟩ ⟨rfl, rfl⟩ ⟨by show _ ≤ 600086; (try dsimp only); omega, by show _ ≤ 7301441; (try dsimp only); omega⟩ dL_law_329 ?_
                                                    intro w13 Λ13 I13 J13 hv
                                                    obtain ⟨hlk13, rfl, ct13, hct13, hR13⟩ := hv
                                                    show am_K G X _ _ _ _ _ _ _ _ _ (.int (nI 1) :: _)
                                                    have hx13 := hlk13.lay hx12
                                                    have hz13 := hlk13.at hz12 (by decide)
                                                    first
                                                    | refine k_ifb_eq C (tgt := 373) (by decide) dL_law_332 (fun hc332 => ?_) (fun hc332 => ?_)
                                                    | refine k_if_eq C (tgt := 373) (by decide) dL_law_332 (fun hc332 => ?_) (fun hc332 => ?_)
                                                    · skip
                                                      first
                                                      | exact absurd hc332 (by decide)
                                                      | exact absurd (by decide) hc332
                                                    · skip
                                                      refine k_aload_n C (f := 2) (i := 2) (p := 3) rfl rfl dL_law_335 ?_
                                                      refine k_aload_n C (f := 1) (i := 1) (p := 4) rfl rfl dL_law_336 ?_
                                                      refine k_iload C (i := 4) (p := 1) rfl dL_law_337 ?_
                                                      refine k_iald C (hz13) (rfl) (by omega) (by decide) (rfl) dL_law_339 ?_
                                                      refine k_callSl C s_L_299 h_L_works (ct_L_works hx13 hR13 hleg3) rfl rfl (Nat.le_of_ble_eq_true rfl) ⟨Nat.le_of_ble_eq_true rfl, Nat.le_of_ble_eq_true rfl⟩ ⟨rfl, rfl⟩ ⟨by show _ ≤ 600086; (try dsimp only); omega, by show _ ≤ 7301441; (try dsimp only); omega⟩ dL_law_340 ?_
                                                      intro w14 Λ14 I14 J14 hv
                                                      obtain ⟨hlk14, rfl, ct14, hct14, hR14⟩ := hv
                                                      show am_K G X _ _ _ _ _ _ _ _ _ (.int (nI 1) :: _)
                                                      have hx14 := hlk14.lay hx13
                                                      have hz14 := hlk14.at hz13 (by decide)
                                                      first
                                                      | refine k_ifb_eq C (tgt := 373) (by decide) dL_law_343 (fun hc343 => ?_) (fun hc343 => ?_)
                                                      | refine k_if_eq C (tgt := 373) (by decide) dL_law_343 (fun hc343 => ?_) (fun hc343 => ?_)
                                                      · skip
                                                        first
                                                        | exact absurd hc343 (by decide)
                                                        | exact absurd (by decide) hc343
                                                      · skip
                                                        refine k_aload_n C (f := 2) (i := 2) (p := 3) rfl rfl dL_law_346 ?_
                                                        refine k_aload_n C (f := 1) (i := 1) (p := 4) rfl rfl dL_law_347 ?_
                                                        refine k_iload C (i := 4) (p := 1) rfl dL_law_348 ?_
                                                        refine k_iconst C ic_1 dL_law_350 ?_
                                                        refine k_iadd C dL_law_351 ?_
                                                        rw [nI_add]
                                                        refine k_iald C (hz14) (rfl) (by omega) (by decide) (rfl) dL_law_352 ?_
                                                        refine k_callSl C s_L_303 h_L_ahead (ct_L_ahead hx14 hR14 hleg3) rfl rfl (Nat.le_of_ble_eq_true rfl) ⟨Nat.le_of_ble_eq_true rfl, Nat.le_of_ble_eq_true rfl⟩ ⟨rfl, rfl⟩ ⟨by show _ ≤ 600086; (try dsimp only); omega, by show _ ≤ 7301441; (try dsimp only); omega⟩ dL_law_353 ?_
                                                        intro w15 Λ15 I15 J15 hv
                                                        obtain ⟨hlk15, rfl, ct15, hct15, hR15⟩ := hv
                                                        show am_K G X _ _ _ _ _ _ _ _ _ (.int (nI 1) :: _)
                                                        have hx15 := hlk15.lay hx14
                                                        have hz15 := hlk15.at hz14 (by decide)
                                                        first
                                                        | refine k_ifb_eq C (tgt := 373) (by decide) dL_law_356 (fun hc356 => ?_) (fun hc356 => ?_)
                                                        | refine k_if_eq C (tgt := 373) (by decide) dL_law_356 (fun hc356 => ?_) (fun hc356 => ?_)
                                                        · skip
                                                          first
                                                          | exact absurd hc356 (by decide)
                                                          | exact absurd (by decide) hc356
                                                        · skip
                                                          refine k_aload_n C (f := 2) (i := 2) (p := 3) rfl rfl dL_law_359 ?_
                                                          refine k_callSq C s_L_257 h_L_state (ct_L_state hx15 (RR_r hR15) h33) rfl rfl (Nat.le_of_ble_eq_true rfl) ⟨Nat.le_of_ble_eq_true rfl, Nat.le_of_ble_eq_true rfl⟩ ⟨rfl, rfl⟩ ⟨by show _ ≤ 600086; (try dsimp only); omega, by show _ ≤ 7301441; (try dsimp only); omega⟩ dL_law_360 ?_
                                                          refine k_lload C (i := 5) (p := 0) rfl dL_law_363 ?_
                                                          refine k_lcmp C dL_law_365 ?_
                                                          rw [lg_self]
                                                          first
                                                          | refine k_ifb_ne C (tgt := 373) (by decide) dL_law_366 (fun hc366 => ?_) (fun hc366 => ?_)
                                                          | refine k_if_ne C (tgt := 373) (by decide) dL_law_366 (fun hc366 => ?_) (fun hc366 => ?_)
                                                          · skip
                                                            first
                                                            | omega
                                                            | exact absurd hc366 (nI_ge (by omega) (by omega))
                                                            | exact absurd hc366 (by decide)
                                                            | exact absurd hc366 (nI_pos (by omega))
                                                            | exact absurd (nI_pos' (by omega)) hc366
                                                            | exact absurd rfl hc366
                                                            | exact absurd hc366 (nI_ne0 (by omega) (by omega))
                                                            | exact hc366 rfl
                                                            | exact absurd hc366 (nI_n101 (by omega))
                                                            | exact absurd hc366.symm (nI_n101 (by omega))
                                                          · skip
                                                            refine k_iconst C ic_1 dL_law_369 ?_
                                                            refine k_goto C (tgt := 374) (by decide) dL_law_370 ?_
                                                            refine k_istore_n C (f := 3) (i := 3) (lv := [(3, _), (5, _), (4, _), (2, _), (1, _), (0, _)]) rfl (Nat.le_of_ble_eq_true rfl) rfl dL_law_374 ?_
                                                            have hx16 := hx15
                                                            have hR16 := hR15
                                                            have hz16 := hz15
                                                            have hL16 := LSt_less hLc (show ct15 ≤ ctc by omega)
                                                            refine k_iinc C (i := 4) (p := 2) (lv := [(4, _), (3, _), (5, _), (2, _), (1, _), (0, _)]) (Nat.le_of_ble_eq_true rfl) rfl (inc2 i) rfl dL_law_375 ?_
                                                            refine k_goto C (tgt := 161) (by decide) dL_law_378 ?_
                                                            refine k_sub [0, 1, 3, 4, 5] rfl ?_
                                                            refine k_widen ?_ ?_ (ih161 (i + 1) _ _ _ _ _ _ _ _ _ (by omega) hx16 hR16 hL16 hz16 (by omega))
                                                            · (try dsimp only); omega
                                                            · (try dsimp only); omega
                                        · skip
                                          have hq2 : q < 9 := by omega
                                          refine k_iload_n C (f := 3) (i := 3) (p := 2) rfl rfl dL_law_249 ?_
                                          first
                                          | refine k_ifb_eq C (tgt := 284) (by decide) dL_law_250 (fun hc250 => ?_) (fun hc250 => ?_)
                                          | refine k_if_eq C (tgt := 284) (by decide) dL_law_250 (fun hc250 => ?_) (fun hc250 => ?_)
                                          · skip
                                            first
                                            | exact absurd hc250 (by decide)
                                            | exact absurd (by decide) hc250
                                          · skip
                                            refine k_aload_n C (f := 2) (i := 2) (p := 3) rfl rfl dL_law_253 ?_
                                            refine k_aload_n C (f := 1) (i := 1) (p := 4) rfl rfl dL_law_254 ?_
                                            refine k_iload C (i := 4) (p := 1) rfl dL_law_255 ?_
                                            refine k_iald C (hzc) (rfl) (by omega) (by decide) (rfl) dL_law_257 ?_
                                            refine k_iconst C ic_3 dL_law_258 ?_
                                            refine k_iload C (i := 5) (p := 0) rfl dL_law_259 ?_
                                            refine k_imul C dL_law_261 ?_
                                            refine k_ishr C dL_law_262 ?_
                                            refine k_aload_n C (f := 1) (i := 1) (p := 4) rfl rfl dL_law_263 ?_
                                            refine k_iload C (i := 4) (p := 1) rfl dL_law_264 ?_
                                            refine k_iconst C ic_1 dL_law_266 ?_
                                            refine k_iadd C dL_law_267 ?_
                                            rw [nI_add]
                                            refine k_iald C (hzc) (rfl) (by omega) (by decide) (rfl) dL_law_268 ?_
                                            refine k_iconst C ic_2 dL_law_269 ?_
                                            refine k_iload C (i := 5) (p := 0) rfl dL_law_270 ?_
                                            refine k_imul C dL_law_272 ?_
                                            refine k_ishr C dL_law_273 ?_
                                            refine k_callSl C s_L_295 h_L_does (ct_L_does hxc hRc hLc) rfl rfl (Nat.le_of_ble_eq_true rfl) ⟨Nat.le_of_ble_eq_true rfl, Nat.le_of_ble_eq_true rfl⟩ ⟨rfl, rfl⟩ ⟨by show _ ≤ 600086; (try dsimp only); omega, by show _ ≤ 7301441; (try dsimp only); omega⟩ dL_law_274 ?_
                                            intro w10 Λ10 I10 J10 hv
                                            obtain ⟨hlk10, rfl, r10, ct10, hs10, kp10, sn10, hR10, hL10⟩ := hv
                                            show am_K G X _ _ _ _ _ _ _ _ _ (.int (nI 1) :: _)
                                            have hx10 := hlk10.lay hxc
                                            have hz10 := hlk10.at hzc (by decide)
                                            refine k_istore_n C (f := 3) (i := 3) (lv := [(3, _), (5, _), (4, _), (2, _), (1, _), (0, _)]) rfl (Nat.le_of_ble_eq_true rfl) rfl dL_law_277 ?_
                                            refine k_iinc C (i := 5) (p := 1) (lv := [(5, _), (3, _), (4, _), (2, _), (1, _), (0, _)]) (Nat.le_of_ble_eq_true rfl) rfl (by first | exact am_inc1 _ | rfl) rfl dL_law_278 ?_
                                            refine k_goto C (tgt := 242) (by decide) dL_law_281 ?_
                                            refine k_sub [0, 2, 1, 3, 4, 5] rfl ?_
                                            refine k_widen ?_ ?_ (ih242 (q + 1) _ _ _ _ _ _ _ _ (by omega) hx10 hR10 hL10 hz10 (by omega))
                                            · (try dsimp only); omega
                                            · (try dsimp only); omega
                                    refine k_sub [0, 1, 2, 3, 4, 5] rfl ?_
                                    refine k_widen ?_ ?_ (loop242 11 0 _ _ _ _ _ _ _ _ (by omega) hxb hRb hLb hzb (by omega))
                                    · (try dsimp only); omega
                                    · (try dsimp only); omega
                                  refine k_iload C (i := 4) (p := 0) rfl dL_law_174 ?_
                                  refine k_iconst C ic_2 dL_law_176 ?_
                                  first
                                  | refine k_icmpN_eq C (tgt := 239) (by omega) (by omega) (by decide) dL_law_177 (fun hc177 => ?_) (fun hc177 => ?_)
                                  | refine k_icmp_eq C (tgt := 239) (by decide) dL_law_177 (fun hc177 => ?_) (fun hc177 => ?_)
                                  · skip
                                    have hxq := hxa
                                    have hRq := hRa
                                    have hLq := hLa
                                    have hzq := hza
                                    refine k_sub [0, 1, 2, 3, 4] rfl ?_
                                    refine k_widen ?_ ?_ (join239 _ _ _ _ _ _ _ _ _ hxq hRq hLq hzq)
                                    · (try dsimp only); omega
                                    · (try dsimp only); omega
                                  · skip
                                    refine k_aload_n C (f := 2) (i := 2) (p := 2) rfl rfl dL_law_180 ?_
                                    refine k_aload_n C (f := 1) (i := 1) (p := 3) rfl rfl dL_law_181 ?_
                                    refine k_iload C (i := 4) (p := 0) rfl dL_law_182 ?_
                                    refine k_iald C (hza) (rfl) (by omega) (by decide) (rfl) dL_law_184 ?_
                                    refine k_aload_n C (f := 1) (i := 1) (p := 3) rfl rfl dL_law_185 ?_
                                    refine k_iload C (i := 4) (p := 0) rfl dL_law_186 ?_
                                    refine k_iconst C ic_1 dL_law_188 ?_
                                    refine k_iadd C dL_law_189 ?_
                                    rw [nI_add]
                                    refine k_iald C (hza) (rfl) (by omega) (by decide) (rfl) dL_law_190 ?_
                                    refine k_callSl C s_L_284 h_L_route ct_L_route rfl rfl (Nat.le_of_ble_eq_true rfl) ⟨Nat.le_of_ble_eq_true rfl, Nat.le_of_ble_eq_true rfl⟩ ⟨rfl, rfl⟩ ⟨by show _ ≤ 600086; (try dsimp only); omega, by show _ ≤ 7301441; (try dsimp only); omega⟩ dL_law_191 ?_
                                    intro w7 Λ7 I7 J7 hv
                                    obtain ⟨hk7, s, sv, l, rfl, hfs, hfv, hst, hl3, hgood⟩ := hv
                                    show am_K G X _ _ _ _ _ _ _ _ _ (.ref s :: _)
                                    have hx7 : RouLay Λ7 (z + 1) := RouLay_agree hxa (fun b g1 g2 => ⟨(hk7 b (Rou_nz hxa g1 g2)).1, (hk7 b (Rou_nz hxa g1 g2)).2.1⟩)
                                    have hR7 := RouRel_agree hRa (fun b g1 g2 => (hk7 b (Rou_nz hxa g1 g2)).2.2)
                                    have hz7 : Λ7.1 z = (2, 6) := (hk7 z (by rw [hza]; decide)).1.trans hza
                                    refine k_callSl C s_L_288 h_L_feeds (ct_L_feeds hx7 hR7 hst hl3 (Good_128 hgood) (Rou_far hxa hfs) (Rou_far hxa hfv)) rfl rfl (Nat.le_of_ble_eq_true rfl) ⟨Nat.le_of_ble_eq_true rfl, Nat.le_of_ble_eq_true rfl⟩ ⟨rfl, rfl⟩ ⟨by show _ ≤ 600086; (try dsimp only); omega, by show _ ≤ 7301441; (try dsimp only); omega⟩ dL_law_194 ?_
                                    intro w8 Λ8 I8 J8 hv
                                    obtain ⟨hlk8, rfl, tb8, hR8, htb8⟩ := hv
                                    show am_K G X _ _ _ _ _ _ _ _ _ (.int (nI 1) :: _)
                                    have hx8 := hlk8.lay hx7
                                    have hz8 := hlk8.at hz7 (by decide)
                                    obtain ⟨rp, hpp, hlegp⟩ := parse_good hgood htb8
                                    first
                                    | refine k_ifb_eq C (tgt := 237) (by decide) dL_law_197 (fun hc197 => ?_) (fun hc197 => ?_)
                                    | refine k_if_eq C (tgt := 237) (by decide) dL_law_197 (fun hc197 => ?_) (fun hc197 => ?_)
                                    · skip
                                      first
                                      | exact absurd hc197 (by decide)
                                      | exact absurd (by decide) hc197
                                    · skip
                                      refine k_aload_n C (f := 2) (i := 2) (p := 2) rfl rfl dL_law_200 ?_
                                      refine k_bipush C bc_10 dL_law_201 ?_
                                      refine k_iconst C ic_0 dL_law_203 ?_
                                      refine k_callSgq C s_L_163 h_L_call__ (ct_L_call__ (ct_c10 (u1 := nI 0) (u2 := nI 0) (u3 := nI 0) (u4 := nI 0) (u5 := nI 0) hx8 hR8 (fun r1 h => by rw [hpp] at h; cases h; exact RK_3 hlegp.1)) (fun _ _ _ _ h => h.2.2.2.elim (fun ⟨_, _, e, _⟩ => ⟨_, e⟩) (fun ⟨_, _, e, _⟩ => ⟨_, e⟩))) rfl rfl (Nat.le_of_ble_eq_true rfl) ⟨Nat.le_of_ble_eq_true rfl, Nat.le_of_ble_eq_true rfl⟩ ⟨rfl, rfl⟩ ⟨by show _ ≤ 600086; (try dsimp only); omega, by show _ ≤ 7301441; (try dsimp only); omega⟩ dL_law_204 ?_
                                      intro v I9 hv
                                      obtain ⟨hF9, hv2⟩ := hv
                                      have hv9 : v = some (.int (nI (sp_nc rp))) ∧ RouRel I9 (z + 1) tb8 0 (-1) rp 0 hsa (fun _ => false) sna (0, fun _ => 0) := by
                                        rcases hv2 with ⟨r', h1, h2, h3⟩ | ⟨e, h1, -⟩
                                        · rw [hpp] at h1; cases h1; exact ⟨h2, h3⟩
                                        · rw [hpp] at h1; cases h1
                                      obtain ⟨rfl, hR9⟩ := hv9
                                      obtain ⟨kp9, hkp9⟩ : ∃ kp9 : Nat → Bool, kp9 = fun _ => false := ⟨_, rfl⟩
                                      rw [← hkp9] at hR9
                                      have hL9 : LSt rp 0 hsa kp9 sna := LSt_new hlegp hkp9
                                      have hncp := hlegp.1.2.2.2.2.1
                                      show am_K G X _ _ _ _ _ _ _ _ _ (.int (nI (sp_nc rp)) :: _)
                                      refine k_aload_n C (f := 2) (i := 2) (p := 2) rfl rfl dL_law_207 ?_
                                      refine k_callVp C s_L_222 h_X5_camelCount (L5_s (by assumption)) rfl (ct_X5_camelCount hx8 (RR_r hR9)) rfl rfl (Nat.le_of_ble_eq_true rfl) ⟨Nat.le_of_ble_eq_true rfl, Nat.le_of_ble_eq_true rfl⟩ ⟨by show _ ≤ 600086; (try dsimp only); omega, by show _ ≤ 7301441; (try dsimp only); omega⟩ ⟨rfl, rfl⟩ dL_law_208 ?_
                                      first
                                      | refine k_icmpN_ne C (tgt := 237) (by omega) (by omega) (by decide) dL_law_211 (fun hc211 => ?_) (fun hc211 => ?_)
                                      | refine k_icmp_ne C (tgt := 237) (by decide) dL_law_211 (fun hc211 => ?_) (fun hc211 => ?_)
                                      · skip
                                        first
                                        | omega
                                        | exact absurd hc211 (nI_ge (by omega) (by omega))
                                        | exact absurd hc211 (by decide)
                                        | exact absurd hc211 (nI_pos (by omega))
                                        | exact absurd (nI_pos' (by omega)) hc211
                                        | exact absurd rfl hc211
                                        | exact absurd hc211 (nI_ne0 (by omega) (by omega))
                                        | exact hc211 rfl
                                        | exact absurd hc211 (nI_n101 (by omega))
                                        | exact absurd hc211.symm (nI_n101 (by omega))
                                      · skip
                                        refine k_aload_n C (f := 2) (i := 2) (p := 2) rfl rfl dL_law_214 ?_
                                        refine k_callVp C s_L_292 h_X5_hasError (L5_s (by assumption)) rfl (ct_X5_hasError hx8 (RR_e hR9)) rfl rfl (Nat.le_of_ble_eq_true rfl) ⟨Nat.le_of_ble_eq_true rfl, Nat.le_of_ble_eq_true rfl⟩ ⟨by show _ ≤ 600086; (try dsimp only); omega, by show _ ≤ 7301441; (try dsimp only); omega⟩ ⟨rfl, rfl⟩ dL_law_215 ?_
                                        first
                                        | refine k_ifb_ne C (tgt := 237) (by decide) dL_law_218 (fun hc218 => ?_) (fun hc218 => ?_)
                                        | refine k_if_ne C (tgt := 237) (by decide) dL_law_218 (fun hc218 => ?_) (fun hc218 => ?_)
                                        · skip
                                          first
                                          | omega
                                          | exact absurd hc218 (nI_ge (by omega) (by omega))
                                          | exact absurd hc218 (by decide)
                                          | exact absurd hc218 (nI_pos (by omega))
                                          | exact absurd (nI_pos' (by omega)) hc218
                                          | exact absurd rfl hc218
                                          | exact absurd hc218 (nI_ne0 (by omega) (by omega))
                                          | exact hc218 rfl
                                          | exact absurd hc218 (nI_n101 (by omega))
                                          | exact absurd hc218.symm (nI_n101 (by omega))
                                        · skip
                                          refine k_aload_n C (f := 2) (i := 2) (p := 2) rfl rfl dL_law_221 ?_
                                          refine k_bipush C bc_7 dL_law_222 ?_
                                          refine k_iconst C ic_0 dL_law_224 ?_
                                          refine k_callSgq C s_L_163 h_L_call__ (ct_L_call__ (ct_c7 (u1 := nI 0) (u2 := nI 0) (u3 := nI 0) (u4 := nI 0) (u5 := nI 0) hx8 hR9 hlegp.1) (fun _ _ _ _ h => ⟨_, h.2.2.1⟩)) rfl rfl (Nat.le_of_ble_eq_true rfl) ⟨Nat.le_of_ble_eq_true rfl, Nat.le_of_ble_eq_true rfl⟩ ⟨rfl, rfl⟩ ⟨by show _ ≤ 600086; (try dsimp only); omega, by show _ ≤ 7301441; (try dsimp only); omega⟩ dL_law_225 ?_
                                          intro v I4 hv
                                          obtain ⟨rfl, -, hv3⟩ := hv
                                          have e4 := (hv3 (by decide)).symm
                                          subst e4
                                          rw [if_neg (by decide)]
                                          show am_K G X _ _ _ _ _ _ _ _ _ (.int (-102) :: _)
                                          refine k_bipush C bc_m102 dL_law_228 ?_
                                          refine k_icmp_ne C (tgt := 237) (by decide) dL_law_230 (fun hc230 => ?_) (fun hc230 => ?_)
                                          · skip
                                            first
                                            | omega
                                            | exact absurd hc230 (nI_ge (by omega) (by omega))
                                            | exact absurd hc230 (by decide)
                                            | exact absurd hc230 (nI_pos (by omega))
                                            | exact absurd (nI_pos' (by omega)) hc230
                                            | exact absurd rfl hc230
                                            | exact absurd hc230 (nI_ne0 (by omega) (by omega))
                                            | exact hc230 rfl
                                            | exact absurd hc230 (nI_n101 (by omega))
                                            | exact absurd hc230.symm (nI_n101 (by omega))
                                          · skip
                                            refine k_iconst C ic_1 dL_law_233 ?_
                                            refine k_goto C (tgt := 238) (by decide) dL_law_234 ?_
                                            refine k_istore_n C (f := 3) (i := 3) (lv := [(3, _), (4, _), (2, _), (1, _), (0, _)]) rfl (Nat.le_of_ble_eq_true rfl) rfl dL_law_238 ?_
                                            have hxq := hx8
                                            have hRq := hR9
                                            have hLq := hL9
                                            have hzq := hz8
                                            refine k_sub [1, 0, 2, 3, 4] rfl ?_
                                            refine k_widen ?_ ?_ (join239 _ _ _ _ _ _ _ _ _ hxq hRq hLq hzq)
                                            · (try dsimp only); omega
                                            · (try dsimp only); omega
                          refine k_sub [0, 1, 2, 3, 4] rfl ?_
                          refine k_widen ?_ ?_ (loop161 5 0 _ _ _ _ _ _ _ _ _ (by omega) hx6 hR6 hL6 hz6 (by omega))
                          · (try dsimp only); omega
                          · (try dsimp only); omega
  refine k_iconst C ic_0 dL_law_5 ?_
  refine k_istore_n C (f := 2) (i := 2) (lv := [(2, _), (1, _), (0, _)]) rfl (Nat.le_of_ble_eq_true rfl) rfl dL_law_6 ?_
  have loop7 : ∀ (f : Nat) (k : Nat) (S : am_I), (k ≤ 6) → (7 - k) < f → am_K G X room_1 7 Λ1 S J1 (1) (6) 7 [(2, .int (nI k)), (1, .ref z), (0, .ref b)] [] := by
    intro f
    induction f with
    | zero => intro k S hk hf; exact absurd hf (Nat.not_lt_zero _)
    | succ f ih7 =>
      intro k S hk hf
      refine k_iload_n C (f := 2) (i := 2) (p := 0) rfl rfl dL_law_7 ?_
      refine k_bipush C bc_6 dL_law_8 ?_
      first
      | refine k_icmpN_ge C (tgt := 35) (by omega) (by omega) (by decide) dL_law_10 (fun hc10 => ?_) (fun hc10 => ?_)
      | refine k_icmp_ge C (tgt := 35) (by decide) dL_law_10 (fun hc10 => ?_) (fun hc10 => ?_)
      · skip
        refine k_sub [1, 2] rfl ?_
        refine k_widen ?_ ?_ (join35 S)
        · (try dsimp only); omega
        · (try dsimp only); omega
      · skip
        refine k_iload_n C (f := 2) (i := 2) (p := 0) rfl rfl dL_law_13 ?_
        refine k_aload_n C (f := 0) (i := 0) (p := 2) rfl rfl dL_law_14 ?_
        refine k_slenA C S0 dL_law_15 ?_
        first
        | refine k_icmpN_ge C (tgt := 35) (by omega) (by omega) (by decide) dL_law_16 (fun hc16 => ?_) (fun hc16 => ?_)
        | refine k_icmp_ge C (tgt := 35) (by decide) dL_law_16 (fun hc16 => ?_) (fun hc16 => ?_)
        · skip
          refine k_sub [1, 2] rfl ?_
          refine k_widen ?_ ?_ (join35 S)
          · (try dsimp only); omega
          · (try dsimp only); omega
        · skip
          refine k_aload_n C (f := 1) (i := 1) (p := 1) rfl rfl dL_law_19 ?_
          refine k_iload_n C (f := 2) (i := 2) (p := 0) rfl rfl dL_law_20 ?_
          refine k_aload_n C (f := 0) (i := 0) (p := 2) rfl rfl dL_law_21 ?_
          refine k_iload_n C (f := 2) (i := 2) (p := 0) rfl rfl dL_law_22 ?_
          refine k_sld C S0 hL rfl (by omega) dL_law_23 ?_
          refine k_ldcwI C ki_L_279 dL_law_24 ?_
          refine k_iand C dL_law_27 ?_
          refine k_iast C (s1) (rfl) (by omega) (by decide) dL_law_28 ?_
          refine k_iinc C (i := 2) (p := 0) (lv := [(2, _), (1, _), (0, _)]) (Nat.le_of_ble_eq_true rfl) rfl (by first | exact am_inc1 _ | rfl) rfl dL_law_29 ?_
          refine k_goto C (tgt := 7) (by decide) dL_law_32 ?_
          refine k_sub [0, 1, 2] rfl ?_
          exact ih7 (k + 1) _ (by omega) (by omega)
  refine k_sub [0, 1, 2] rfl ?_
  refine k_widen ?_ ?_ (loop7 8 0 _ (by omega) (by omega))
  · (try dsimp only); omega
  · (try dsimp only); omega
