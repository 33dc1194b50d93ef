set_option maxHeartbeats 4000000 in
set_option maxRecDepth 100000 in
theorem ct_L_ahead {G : am_G} {Λ : am_L} {I : am_I} {J : am_J} {wv : Int32} {x n ct : Nat} {tb : Nat → Nat} {err : Int32} {r : Nat → Int32} {hs : Nat → Nat → Int32} {kp : Nat → Bool} {sn : Nat → Nat → Int32} {w : Nat × (Nat → Int32)} (hx : RouLay Λ x) (hR : RouRel I x tb n err r ct hs kp sn w) (hleg : Leg r) : am_Ct G yL_ahead cL_ahead 11 (some .boolean) { frames := 13, cells := 5400, slots := 33000, locals := 400 } [.ref x, .int wv] Λ I J (am_lk x Λ I (fun v I' => v = some (.int (nI 1)) ∧ ∃ ct' : Nat, ct' ≤ ct ∧ RouRel I' x tb n err r ct' hs kp sn w)) am_never := by
  refine am_ct_of (own := RL) rfl (by decide) (Nat.le_of_ble_eq_true rfl) (fun X C => ?_)
  change am_K G X { frames := 13, cells := 5400, slots := 33000, locals := 400 } 11 Λ I J 0 0 0 [(0, .ref x), (1, .int wv)] []
  have hok := hleg.1
  obtain ⟨L, km, hL, hk, hL1, hL9, hkL, hww⟩ := RK_L hok
  obtain ⟨dy, hdy, hdy2, hLd⟩ := LX_d hleg.2
  have hnc := hok.2.2.2.2.1
  have hr := RR_r hR
  have h3 := RK_3 hok
  have hct8 : ct ≤ 8 := by obtain ⟨nx, hh⟩ := RR_h hR; exact hh.2.2.2.1
  obtain ⟨T, hT9, hTc, hTn, hTe, hTd⟩ := goN_stop hleg hdy hdy2
  obtain ⟨c0, hc0, hc9⟩ := and_le wv (M := 255) (by omega)
  have hD9 : c0 % 8 < 8 := Nat.mod_lt _ (by omega)
  refine k_aload_n C (f := 0) (i := 0) (p := 0) rfl rfl dL_ahead_0 ?_
  refine k_callSq C s_L_257 h_L_state (ct_L_state (by first | assumption | omega) (by first | assumption | omega) (by first | assumption | omega)) rfl rfl (Nat.le_of_ble_eq_true rfl) ⟨Nat.le_of_ble_eq_true rfl, Nat.le_of_ble_eq_true rfl⟩ ⟨rfl, rfl⟩ ⟨by show _ ≤ 5400; (try dsimp only); omega, by show _ ≤ 33000; (try dsimp only); omega⟩ dL_ahead_1 ?_
  refine k_lstore_n C (f := 2) (i := 2) (lv := [(2, _), (0, _), (1, _)]) rfl (Nat.le_of_ble_eq_true rfl) rfl dL_ahead_4 ?_
  refine k_iload_n C (f := 1) (i := 1) (p := 2) rfl rfl dL_ahead_5 ?_
  refine k_sipush C sc_255 dL_ahead_6 ?_
  refine k_iand C dL_ahead_9 ?_
  rw [hc0]
  refine k_bipush C bc_8 dL_ahead_10 ?_
  refine k_irem C (by decide) dL_ahead_12 ?_
  rw [pk_rem (by omega) (by omega) (by omega)]
  generalize c0 % 8 = D at hD9 ⊢
  refine k_istore C (i := 4) (lv := [(4, _), (2, _), (0, _), (1, _)]) (Nat.le_of_ble_eq_true rfl) rfl dL_ahead_13 ?_
  refine k_aload_n C (f := 0) (i := 0) (p := 2) rfl rfl dL_ahead_15 ?_
  refine k_bipush C bc_38 dL_ahead_16 ?_
  refine k_iload C (i := 4) (p := 0) rfl dL_ahead_18 ?_
  refine k_callSgq C s_L_163 h_L_call__ (ct_L_call__ (ct_c38 (a := nI D) (u1 := nI 0) (u2 := nI 0) (u3 := nI 0) (u4 := nI 0) hx hR hok) (fun _ _ _ _ h => ⟨_, h.2.2.1⟩)) rfl rfl (Nat.le_of_ble_eq_true rfl) ⟨Nat.le_of_ble_eq_true rfl, Nat.le_of_ble_eq_true rfl⟩ ⟨rfl, rfl⟩ ⟨by show _ ≤ 5400; (try dsimp only); omega, by show _ ≤ 33000; (try dsimp only); omega⟩ dL_ahead_20 ?_
  intro v I1 hv
  rw [nI_clamp (show D < 2 ^ 31 by omega)] at hv
  obtain ⟨rfl, hv2, -⟩ := hv
  have hcd : (if nI D < 0 ∨ nI 50 < nI D then 1 else 0) = 0 := if_neg (fun z => z.elim (nI_pos (by omega)) (nI_nlt (by omega) (by omega)))
  obtain ⟨hR1, hF1⟩ := hv2 hcd
  rw [if_pos hcd]
  show am_K G X _ _ _ _ _ _ _ _ _ (.int (nI (sp_living (sp_goN r D))) :: _)
  refine k_istore C (i := 5) (lv := [(5, _), (4, _), (2, _), (0, _), (1, _)]) (Nat.le_of_ble_eq_true rfl) rfl dL_ahead_23 ?_
  by_cases har : sp_goN r 200 0 ≤ sp_goN r 200 1
  · skip
    have hav : (if (if sp_goN r 200 0 ≤ sp_goN r 200 1 then 0 else 1) = 0 then (sp_goN r 200 2 - r 2) else (-101)) = nI T := by
      rw [if_pos (if_pos har), hTe, hTd, hdy, pk_sub (show dy ≤ dy + T by omega), show dy + T - dy = T by omega]
    rw [hTe] at har
    refine k_aload_n C (f := 0) (i := 0) (p := 3) rfl rfl dL_ahead_25 ?_
    refine k_bipush C bc_39 dL_ahead_26 ?_
    refine k_iconst C ic_0 dL_ahead_28 ?_
    refine k_callSgq C s_L_163 h_L_call__ (ct_L_call__ (ct_c39 (u1 := nI 0) (u2 := nI 0) (u3 := nI 0) (u4 := nI 0) (u5 := nI 0) hx hR1 hok) (fun _ _ _ _ h => ⟨_, h.2.2.1⟩)) rfl rfl (Nat.le_of_ble_eq_true rfl) ⟨Nat.le_of_ble_eq_true rfl, Nat.le_of_ble_eq_true rfl⟩ ⟨rfl, rfl⟩ ⟨by show _ ≤ 5400; (try dsimp only); omega, by show _ ≤ 33000; (try dsimp only); omega⟩ dL_ahead_29 ?_
    intro v I2 hv
    rw [hav] at hv
    obtain ⟨rfl, hR2, hF2⟩ := hv
    show am_K G X _ _ _ _ _ _ _ _ _ (.int (nI T) :: _)
    refine k_istore C (i := 6) (lv := [(6, _), (5, _), (4, _), (2, _), (0, _), (1, _)]) (Nat.le_of_ble_eq_true rfl) rfl dL_ahead_32 ?_
    have join102 : ∀ (m : Nat) (S : am_I), (m ≤ D) → (∀ j : Nat, j < m → sp_can (sp_goN r j)) → (RFr x I S) → (RouRel S x tb n err (sp_goN r m) (min 8 (ct + m)) (hsN r hs m) kp sn w) → (sp_living (sp_goN r m) = sp_living (sp_goN r D)) → am_K G X { frames := 13, cells := 5400, slots := 33000, locals := 400 } 11 Λ S J (1320 + 42) (7900 + 252) 102 [(7, .int (nI m)), (6, .int (nI T)), (5, .int (nI (sp_living (sp_goN r D)))), (4, .int (nI D)), (2, .long (hash r)), (1, .int wv), (0, .ref x)] [] := by
      intro m S hm hcan hS hRS hlv
      have hlegm := Leg_goN hleg m
      have hrm := RR_r hRS
      have hmT := (stop_uniq hTc hTn hcan).1
      rcases (show m < T ∨ m = T by omega) with hmt | hmt
      · skip
        refine k_aload_n C (f := 0) (i := 0) (p := 6) rfl rfl dL_ahead_102 ?_
        refine k_callVp C s_L_240 h_X5_livingCamels (L5_s (by assumption)) rfl (ct_X5_livingCamels hx hrm) rfl rfl (Nat.le_of_ble_eq_true rfl) ⟨Nat.le_of_ble_eq_true rfl, Nat.le_of_ble_eq_true rfl⟩ ⟨by show _ ≤ 5400; (try dsimp only); omega, by show _ ≤ 33000; (try dsimp only); omega⟩ ⟨rfl, rfl⟩ dL_ahead_103 ?_
        rw [hlv]
        refine k_iload C (i := 5) (p := 2) rfl dL_ahead_106 ?_
        first
        | refine k_icmpN_ne C (tgt := 141) (by omega) (by omega) (by decide) dL_ahead_108 (fun hc108 => ?_) (fun hc108 => ?_)
        | refine k_icmp_ne C (tgt := 141) (by decide) dL_ahead_108 (fun hc108 => ?_) (fun hc108 => ?_)
        · skip
          first
          | omega
          | exact absurd hc108 (nI_ge (by omega) (by omega))
          | exact absurd hc108 (by decide)
          | exact absurd hc108 (nI_pos (by omega))
          | exact absurd (nI_pos' (by omega)) hc108
          | exact absurd rfl hc108
          | exact absurd hc108 (nI_ne0 (by omega) (by omega))
          | exact hc108 rfl
          | exact absurd hc108 (nI_n101 (by omega))
          | exact absurd hc108.symm (nI_n101 (by omega))
        · skip
          refine k_iload C (i := 6) (p := 1) rfl dL_ahead_111 ?_
          refine k_if_lt C (tgt := 130) (by decide) dL_ahead_113 (fun hc113 => ?_) (fun hc113 => ?_)
          · skip
            first
            | omega
            | exact absurd hc113 (nI_ge (by omega) (by omega))
            | exact absurd hc113 (by decide)
            | exact absurd hc113 (nI_pos (by omega))
            | exact absurd (nI_pos' (by omega)) hc113
            | exact absurd rfl hc113
            | exact absurd hc113 (nI_ne0 (by omega) (by omega))
            | exact hc113 rfl
            | exact absurd hc113 (nI_n101 (by omega))
            | exact absurd hc113.symm (nI_n101 (by omega))
          · skip
            refine k_iload C (i := 6) (p := 1) rfl dL_ahead_116 ?_
            refine k_iload C (i := 7) (p := 0) rfl dL_ahead_118 ?_
            first
            | refine k_icmpN_gt C (tgt := 130) (by omega) (by omega) (by decide) dL_ahead_120 (fun hc120 => ?_) (fun hc120 => ?_)
            | refine k_icmp_gt C (tgt := 130) (by decide) dL_ahead_120 (fun hc120 => ?_) (fun hc120 => ?_)
            · skip
              refine k_aload_n C (f := 0) (i := 0) (p := 6) rfl rfl dL_ahead_130 ?_
              refine k_callSl C s_L_268 h_L_caravan (ct_L_caravan hx hRS hlegm) rfl rfl (Nat.le_of_ble_eq_true rfl) ⟨Nat.le_of_ble_eq_true rfl, Nat.le_of_ble_eq_true rfl⟩ ⟨rfl, rfl⟩ ⟨by show _ ≤ 5400; (try dsimp only); omega, by show _ ≤ 33000; (try dsimp only); omega⟩ dL_ahead_131 ?_
              intro v Λ3 I3 J3 hv
              obtain ⟨hlk3, rfl, hkp3⟩ := hv
              show am_K G X _ _ _ _ _ _ _ _ _ (.int (nI 1) :: _)
              have hx3 := hlk3.lay hx
              have hlk4 := (LK.fr (Λ := Λ) hS).tr hlk3
              first
              | refine k_ifb_eq C (tgt := 141) (by decide) dL_ahead_134 (fun hc134 => ?_) (fun hc134 => ?_)
              | refine k_if_eq C (tgt := 141) (by decide) dL_ahead_134 (fun hc134 => ?_) (fun hc134 => ?_)
              · skip
                first
                | omega
                | exact absurd hc134 (nI_ge (by omega) (by omega))
                | exact absurd hc134 (by decide)
                | exact absurd hc134 (nI_pos (by omega))
                | exact absurd (nI_pos' (by omega)) hc134
                | exact absurd rfl hc134
                | exact absurd hc134 (nI_ne0 (by omega) (by omega))
                | exact hc134 rfl
                | exact absurd hc134 (nI_n101 (by omega))
                | exact absurd hc134.symm (nI_n101 (by omega))
              · skip
                refine k_iconst C ic_1 dL_ahead_137 ?_
                refine k_goto C (tgt := 142) (by decide) dL_ahead_138 ?_
                refine k_istore C (i := 9) (lv := [(9, _), (7, _), (6, _), (5, _), (4, _), (2, _), (1, _), (0, _)]) (Nat.le_of_ble_eq_true rfl) rfl dL_ahead_142 ?_
                refine k_iconst C ic_0 dL_ahead_144 ?_
                refine k_istore C (i := 10) (lv := [(10, _), (9, _), (7, _), (6, _), (5, _), (4, _), (2, _), (1, _), (0, _)]) (Nat.le_of_ble_eq_true rfl) rfl dL_ahead_145 ?_
                have loop147 : ∀ (f : Nat) (q : Nat) (S2 : am_I), (q ≤ m) → (LK x Λ I Λ3 S2) → (RouRel S2 x tb n err (sp_goN r (m - q)) (min 8 (ct + m) - q) (hsN r hs (m - q)) kp sn w) → (m - q) < f → am_K G X { frames := 13, cells := 5400, slots := 33000, locals := 400 } 11 Λ3 S2 J3 (3970 + 6 * q) (24160 + 36 * q) 147 [(10, .int (nI q)), (9, .int (nI 1)), (7, .int (nI m)), (6, .int (nI T)), (5, .int (nI (sp_living (sp_goN r D)))), (4, .int (nI D)), (2, .long (hash r)), (1, .int wv), (0, .ref x)] [] := by
                  intro f
                  induction f with
                  | zero => intro q S2 hq hLK hR2b hf; exact absurd hf (Nat.not_lt_zero _)
                  | succ f ih147 =>
                    intro q S2 hq hLK hR2b hf
                    refine k_iload C (i := 10) (p := 0) rfl dL_ahead_147 ?_
                    refine k_iload C (i := 7) (p := 2) rfl dL_ahead_149 ?_
                    first
                    | refine k_icmpN_ge C (tgt := 182) (by omega) (by omega) (by decide) dL_ahead_151 (fun hc151 => ?_) (fun hc151 => ?_)
                    | refine k_icmp_ge C (tgt := 182) (by decide) dL_ahead_151 (fun hc151 => ?_) (fun hc151 => ?_)
                    · skip
                      obtain rfl : q = m := by omega
                      rw [Nat.sub_self] at hR2b
                      have hR7 : RouRel S2 x tb n err r (min 8 (ct + q) - q) hs kp sn w := by rw [goN_0, hsN_0] at hR2b; exact hR2b
                      have hr7 := RR_r hR7
                      by_cases ha0 : r 0 ≤ r 1
                      · skip
                        have eab0 : am_b (r 0 ≤ r 1) = nI 1 := (am_bt ha0).symm
                        have eT0 : 0 = T := stop_uniq0 hTc hTn ha0
                        refine k_iload C (i := 9) (p := 1) rfl dL_ahead_182 ?_
                        first
                        | refine k_ifb_eq C (tgt := 220) (by decide) dL_ahead_184 (fun hc184 => ?_) (fun hc184 => ?_)
                        | refine k_if_eq C (tgt := 220) (by decide) dL_ahead_184 (fun hc184 => ?_) (fun hc184 => ?_)
                        · skip
                          first
                          | omega
                          | exact absurd hc184 (nI_ge (by omega) (by omega))
                          | exact absurd hc184 (by decide)
                          | exact absurd hc184 (nI_pos (by omega))
                          | exact absurd (nI_pos' (by omega)) hc184
                          | exact absurd rfl hc184
                          | exact absurd hc184 (nI_ne0 (by omega) (by omega))
                          | exact hc184 rfl
                          | exact absurd hc184 (nI_n101 (by omega))
                          | exact absurd hc184.symm (nI_n101 (by omega))
                        · skip
                          refine k_aload_n C (f := 0) (i := 0) (p := 8) rfl rfl dL_ahead_187 ?_
                          refine k_callVp C s_L_232 h_X5_hasArrived (L5_s (by assumption)) rfl (ct_X5_hasArrived hx3 hr7) rfl rfl (Nat.le_of_ble_eq_true rfl) ⟨Nat.le_of_ble_eq_true rfl, Nat.le_of_ble_eq_true rfl⟩ ⟨by show _ ≤ 5400; (try dsimp only); omega, by show _ ≤ 33000; (try dsimp only); omega⟩ ⟨rfl, rfl⟩ dL_ahead_188 ?_
                          rw [eab0]
                          first
                          | refine k_ifb_eq C (tgt := 202) (by decide) dL_ahead_191 (fun hc191 => ?_) (fun hc191 => ?_)
                          | refine k_if_eq C (tgt := 202) (by decide) dL_ahead_191 (fun hc191 => ?_) (fun hc191 => ?_)
                          · skip
                            first
                            | omega
                            | exact absurd hc191 (nI_ge (by omega) (by omega))
                            | exact absurd hc191 (by decide)
                            | exact absurd hc191 (nI_pos (by omega))
                            | exact absurd (nI_pos' (by omega)) hc191
                            | exact absurd rfl hc191
                            | exact absurd hc191 (nI_ne0 (by omega) (by omega))
                            | exact hc191 rfl
                            | exact absurd hc191 (nI_n101 (by omega))
                            | exact absurd hc191.symm (nI_n101 (by omega))
                          · skip
                            rw [← eT0]
                            refine k_iload C (i := 6) (p := 3) rfl dL_ahead_194 ?_
                            first
                            | refine k_ifb_ne C (tgt := 220) (by decide) dL_ahead_196 (fun hc196 => ?_) (fun hc196 => ?_)
                            | refine k_if_ne C (tgt := 220) (by decide) dL_ahead_196 (fun hc196 => ?_) (fun hc196 => ?_)
                            · skip
                              first
                              | omega
                              | exact absurd hc196 (nI_ge (by omega) (by omega))
                              | exact absurd hc196 (by decide)
                              | exact absurd hc196 (nI_pos (by omega))
                              | exact absurd (nI_pos' (by omega)) hc196
                              | exact absurd rfl hc196
                              | exact absurd hc196 (nI_ne0 (by omega) (by omega))
                              | exact hc196 rfl
                              | exact absurd hc196 (nI_n101 (by omega))
                              | exact absurd hc196.symm (nI_n101 (by omega))
                            · skip
                              refine k_goto C (tgt := 207) (by decide) dL_ahead_199 ?_
                              refine k_aload_n C (f := 0) (i := 0) (p := 8) rfl rfl dL_ahead_207 ?_
                              refine k_callSq C s_L_257 h_L_state (ct_L_state hx3 hr7 h3) rfl rfl (Nat.le_of_ble_eq_true rfl) ⟨Nat.le_of_ble_eq_true rfl, Nat.le_of_ble_eq_true rfl⟩ ⟨rfl, rfl⟩ ⟨by show _ ≤ 5400; (try dsimp only); omega, by show _ ≤ 33000; (try dsimp only); omega⟩ dL_ahead_208 ?_
                              refine k_lload_n C (f := 2) (i := 2) (p := 6) rfl rfl dL_ahead_211 ?_
                              refine k_lcmp C dL_ahead_212 ?_
                              rw [lg_self]
                              first
                              | refine k_ifb_ne C (tgt := 220) (by decide) dL_ahead_213 (fun hc213 => ?_) (fun hc213 => ?_)
                              | refine k_if_ne C (tgt := 220) (by decide) dL_ahead_213 (fun hc213 => ?_) (fun hc213 => ?_)
                              · skip
                                first
                                | omega
                                | exact absurd hc213 (nI_ge (by omega) (by omega))
                                | exact absurd hc213 (by decide)
                                | exact absurd hc213 (nI_pos (by omega))
                                | exact absurd (nI_pos' (by omega)) hc213
                                | exact absurd rfl hc213
                                | exact absurd hc213 (nI_ne0 (by omega) (by omega))
                                | exact hc213 rfl
                                | exact absurd hc213 (nI_n101 (by omega))
                                | exact absurd hc213.symm (nI_n101 (by omega))
                              · skip
                                refine k_iconst C ic_1 dL_ahead_216 ?_
                                refine k_goto C (tgt := 221) (by decide) dL_ahead_217 ?_
                                exact k_zret C (by first | rfl | exact am_bz) (by show _ ≤ 5400; (try dsimp only); omega) (by show _ ≤ 33000; (try dsimp only); omega) (⟨hLK, rfl, _, by omega, hR7⟩) dL_ahead_221
                      · skip
                        have eab0 : am_b (r 0 ≤ r 1) = nI 0 := (am_bf ha0).symm
                        have hT0 : 0 < T := Nat.pos_of_ne_zero (fun z => ha0 (by rw [z, goN_0] at har; exact har))
                        refine k_iload C (i := 9) (p := 1) rfl dL_ahead_182 ?_
                        first
                        | refine k_ifb_eq C (tgt := 220) (by decide) dL_ahead_184 (fun hc184 => ?_) (fun hc184 => ?_)
                        | refine k_if_eq C (tgt := 220) (by decide) dL_ahead_184 (fun hc184 => ?_) (fun hc184 => ?_)
                        · skip
                          first
                          | omega
                          | exact absurd hc184 (nI_ge (by omega) (by omega))
                          | exact absurd hc184 (by decide)
                          | exact absurd hc184 (nI_pos (by omega))
                          | exact absurd (nI_pos' (by omega)) hc184
                          | exact absurd rfl hc184
                          | exact absurd hc184 (nI_ne0 (by omega) (by omega))
                          | exact hc184 rfl
                          | exact absurd hc184 (nI_n101 (by omega))
                          | exact absurd hc184.symm (nI_n101 (by omega))
                        · skip
                          refine k_aload_n C (f := 0) (i := 0) (p := 8) rfl rfl dL_ahead_187 ?_
                          refine k_callVp C s_L_232 h_X5_hasArrived (L5_s (by assumption)) rfl (ct_X5_hasArrived hx3 hr7) rfl rfl (Nat.le_of_ble_eq_true rfl) ⟨Nat.le_of_ble_eq_true rfl, Nat.le_of_ble_eq_true rfl⟩ ⟨by show _ ≤ 5400; (try dsimp only); omega, by show _ ≤ 33000; (try dsimp only); omega⟩ ⟨rfl, rfl⟩ dL_ahead_188 ?_
                          rw [eab0]
                          first
                          | refine k_ifb_eq C (tgt := 202) (by decide) dL_ahead_191 (fun hc191 => ?_) (fun hc191 => ?_)
                          | refine k_if_eq C (tgt := 202) (by decide) dL_ahead_191 (fun hc191 => ?_) (fun hc191 => ?_)
                          · skip
                            refine k_iload C (i := 6) (p := 3) rfl dL_ahead_202 ?_
                            first
                            | refine k_ifb_eq C (tgt := 220) (by decide) dL_ahead_204 (fun hc204 => ?_) (fun hc204 => ?_)
                            | refine k_if_eq C (tgt := 220) (by decide) dL_ahead_204 (fun hc204 => ?_) (fun hc204 => ?_)
                            · skip
                              first
                              | omega
                              | exact absurd hc204 (nI_ge (by omega) (by omega))
                              | exact absurd hc204 (by decide)
                              | exact absurd hc204 (nI_pos (by omega))
                              | exact absurd (nI_pos' (by omega)) hc204
                              | exact absurd rfl hc204
                              | exact absurd hc204 (nI_ne0 (by omega) (by omega))
                              | exact hc204 rfl
                              | exact absurd hc204 (nI_n101 (by omega))
                              | exact absurd hc204.symm (nI_n101 (by omega))
                            · skip
                              refine k_aload_n C (f := 0) (i := 0) (p := 8) rfl rfl dL_ahead_207 ?_
                              refine k_callSq C s_L_257 h_L_state (ct_L_state hx3 hr7 h3) rfl rfl (Nat.le_of_ble_eq_true rfl) ⟨Nat.le_of_ble_eq_true rfl, Nat.le_of_ble_eq_true rfl⟩ ⟨rfl, rfl⟩ ⟨by show _ ≤ 5400; (try dsimp only); omega, by show _ ≤ 33000; (try dsimp only); omega⟩ dL_ahead_208 ?_
                              refine k_lload_n C (f := 2) (i := 2) (p := 6) rfl rfl dL_ahead_211 ?_
                              refine k_lcmp C dL_ahead_212 ?_
                              rw [lg_self]
                              first
                              | refine k_ifb_ne C (tgt := 220) (by decide) dL_ahead_213 (fun hc213 => ?_) (fun hc213 => ?_)
                              | refine k_if_ne C (tgt := 220) (by decide) dL_ahead_213 (fun hc213 => ?_) (fun hc213 => ?_)
                              · skip
                                first
                                | omega
                                | exact absurd hc213 (nI_ge (by omega) (by omega))
                                | exact absurd hc213 (by decide)
                                | exact absurd hc213 (nI_pos (by omega))
                                | exact absurd (nI_pos' (by omega)) hc213
                                | exact absurd rfl hc213
                                | exact absurd hc213 (nI_ne0 (by omega) (by omega))
                                | exact hc213 rfl
                                | exact absurd hc213 (nI_n101 (by omega))
                                | exact absurd hc213.symm (nI_n101 (by omega))
                              · skip
                                refine k_iconst C ic_1 dL_ahead_216 ?_
                                refine k_goto C (tgt := 221) (by decide) dL_ahead_217 ?_
                                exact k_zret C (by first | rfl | exact am_bz) (by show _ ≤ 5400; (try dsimp only); omega) (by show _ ≤ 33000; (try dsimp only); omega) (⟨hLK, rfl, _, by omega, hR7⟩) dL_ahead_221
                          · skip
                            first
                            | omega
                            | exact absurd hc191 (nI_ge (by omega) (by omega))
                            | exact absurd hc191 (by decide)
                            | exact absurd hc191 (nI_pos (by omega))
                            | exact absurd (nI_pos' (by omega)) hc191
                            | exact absurd rfl hc191
                            | exact absurd hc191 (nI_ne0 (by omega) (by omega))
                            | exact hc191 rfl
                            | exact absurd hc191 (nI_n101 (by omega))
                            | exact absurd hc191.symm (nI_n101 (by omega))
                    · skip
                      obtain ⟨p, hp⟩ : ∃ p : Nat, m - q = p + 1 := ⟨m - q - 1, by omega⟩
                      rw [hp] at hR2b
                      refine k_iload C (i := 9) (p := 1) rfl dL_ahead_154 ?_
                      first
                      | refine k_ifb_eq C (tgt := 182) (by decide) dL_ahead_156 (fun hc156 => ?_) (fun hc156 => ?_)
                      | refine k_if_eq C (tgt := 182) (by decide) dL_ahead_156 (fun hc156 => ?_) (fun hc156 => ?_)
                      · skip
                        first
                        | omega
                        | exact absurd hc156 (nI_ge (by omega) (by omega))
                        | exact absurd hc156 (by decide)
                        | exact absurd hc156 (nI_pos (by omega))
                        | exact absurd (nI_pos' (by omega)) hc156
                        | exact absurd rfl hc156
                        | exact absurd hc156 (nI_ne0 (by omega) (by omega))
                        | exact hc156 rfl
                        | exact absurd hc156 (nI_n101 (by omega))
                        | exact absurd hc156.symm (nI_n101 (by omega))
                      · skip
                        refine k_aload_n C (f := 0) (i := 0) (p := 8) rfl rfl dL_ahead_159 ?_
                        refine k_bipush C bc_7 dL_ahead_160 ?_
                        refine k_iconst C ic_0 dL_ahead_162 ?_
                        refine k_callSgq C s_L_163 h_L_call__ (ct_L_call__ (ct_c7 (u1 := nI 0) (u2 := nI 0) (u3 := nI 0) (u4 := nI 0) (u5 := nI 0) hx3 hR2b (Leg_goN hleg (p + 1)).1) (fun _ _ _ _ h => ⟨_, h.2.2.1⟩)) rfl rfl (Nat.le_of_ble_eq_true rfl) ⟨Nat.le_of_ble_eq_true rfl, Nat.le_of_ble_eq_true rfl⟩ ⟨rfl, rfl⟩ ⟨by show _ ≤ 5400; (try dsimp only); omega, by show _ ≤ 33000; (try dsimp only); omega⟩ dL_ahead_163 ?_
                        intro v I6 hv
                        obtain ⟨rfl, hv2, -⟩ := hv
                        have hct : ¬ min 8 (ct + m) - q = 0 := by omega
                        obtain ⟨hR6, hF6⟩ := hv2 (if_neg hct)
                        rw [if_pos (if_neg hct)]
                        rw [show hsN r hs (p + 1) = sp_push (sp_goN r p) (hsN r hs p) from rfl, push_0, push_s] at hR6
                        show am_K G X _ _ _ _ _ _ _ _ _ (.int (nI (min 8 (ct + m) - q - 1)) :: _)
                        refine k_if_lt C (tgt := 173) (by decide) dL_ahead_166 (fun hc166 => ?_) (fun hc166 => ?_)
                        · skip
                          first
                          | omega
                          | exact absurd hc166 (nI_ge (by omega) (by omega))
                          | exact absurd hc166 (by decide)
                          | exact absurd hc166 (nI_pos (by omega))
                          | exact absurd (nI_pos' (by omega)) hc166
                          | exact absurd rfl hc166
                          | exact absurd hc166 (nI_ne0 (by omega) (by omega))
                          | exact hc166 rfl
                          | exact absurd hc166 (nI_n101 (by omega))
                          | exact absurd hc166.symm (nI_n101 (by omega))
                        · skip
                          refine k_iconst C ic_1 dL_ahead_169 ?_
                          refine k_goto C (tgt := 174) (by decide) dL_ahead_170 ?_
                          refine k_istore C (i := 9) (lv := [(9, _), (10, _), (7, _), (6, _), (5, _), (4, _), (2, _), (1, _), (0, _)]) (Nat.le_of_ble_eq_true rfl) rfl dL_ahead_174 ?_
                          refine k_iinc C (i := 10) (p := 1) (lv := [(10, _), (9, _), (7, _), (6, _), (5, _), (4, _), (2, _), (1, _), (0, _)]) (Nat.le_of_ble_eq_true rfl) rfl (by first | exact am_inc1 _ | rfl) rfl dL_ahead_176 ?_
                          refine k_goto C (tgt := 147) (by decide) dL_ahead_179 ?_
                          refine k_sub [0, 1, 2, 3, 4, 5, 6, 7, 8] rfl ?_
                          refine k_widen ?_ ?_ (ih147 (q + 1) _ (by omega) (hLK.tr (LK.fr hF6)) (by rw [show m - (q + 1) = p by omega, show min 8 (ct + m) - (q + 1) = min 8 (ct + m) - q - 1 by omega]; exact hR6) (by omega))
                          · (try dsimp only); omega
                          · (try dsimp only); omega
                refine k_sub [0, 1, 2, 3, 4, 5, 6, 7, 8] rfl ?_
                refine k_widen ?_ ?_ (loop147 (m + 1) 0 I3 (Nat.zero_le _) hlk4 (RouRel_agree hRS hkp3) (by omega))
                · (try dsimp only); omega
                · (try dsimp only); omega
            · skip
              first
              | omega
              | exact absurd hc120 (nI_ge (by omega) (by omega))
              | exact absurd hc120 (by decide)
              | exact absurd hc120 (nI_pos (by omega))
              | exact absurd (nI_pos' (by omega)) hc120
              | exact absurd rfl hc120
              | exact absurd hc120 (nI_ne0 (by omega) (by omega))
              | exact hc120 rfl
              | exact absurd hc120 (nI_n101 (by omega))
              | exact absurd hc120.symm (nI_n101 (by omega))
      · skip
        have eab : am_b (sp_goN r m 0 ≤ sp_goN r m 1) = nI 1 := (am_bt (by rw [hmt]; exact har)).symm
        refine k_aload_n C (f := 0) (i := 0) (p := 6) rfl rfl dL_ahead_102 ?_
        refine k_callVp C s_L_240 h_X5_livingCamels (L5_s (by assumption)) rfl (ct_X5_livingCamels hx hrm) rfl rfl (Nat.le_of_ble_eq_true rfl) ⟨Nat.le_of_ble_eq_true rfl, Nat.le_of_ble_eq_true rfl⟩ ⟨by show _ ≤ 5400; (try dsimp only); omega, by show _ ≤ 33000; (try dsimp only); omega⟩ ⟨rfl, rfl⟩ dL_ahead_103 ?_
        rw [hlv]
        refine k_iload C (i := 5) (p := 2) rfl dL_ahead_106 ?_
        first
        | refine k_icmpN_ne C (tgt := 141) (by omega) (by omega) (by decide) dL_ahead_108 (fun hc108 => ?_) (fun hc108 => ?_)
        | refine k_icmp_ne C (tgt := 141) (by decide) dL_ahead_108 (fun hc108 => ?_) (fun hc108 => ?_)
        · skip
          first
          | omega
          | exact absurd hc108 (nI_ge (by omega) (by omega))
          | exact absurd hc108 (by decide)
          | exact absurd hc108 (nI_pos (by omega))
          | exact absurd (nI_pos' (by omega)) hc108
          | exact absurd rfl hc108
          | exact absurd hc108 (nI_ne0 (by omega) (by omega))
          | exact hc108 rfl
          | exact absurd hc108 (nI_n101 (by omega))
          | exact absurd hc108.symm (nI_n101 (by omega))
        · skip
          refine k_iload C (i := 6) (p := 1) rfl dL_ahead_111 ?_
          refine k_if_lt C (tgt := 130) (by decide) dL_ahead_113 (fun hc113 => ?_) (fun hc113 => ?_)
          · skip
            first
            | omega
            | exact absurd hc113 (nI_ge (by omega) (by omega))
            | exact absurd hc113 (by decide)
            | exact absurd hc113 (nI_pos (by omega))
            | exact absurd (nI_pos' (by omega)) hc113
            | exact absurd rfl hc113
            | exact absurd hc113 (nI_ne0 (by omega) (by omega))
            | exact hc113 rfl
            | exact absurd hc113 (nI_n101 (by omega))
            | exact absurd hc113.symm (nI_n101 (by omega))
          · skip
            refine k_iload C (i := 6) (p := 1) rfl dL_ahead_116 ?_
            refine k_iload C (i := 7) (p := 0) rfl dL_ahead_118 ?_
            first
            | refine k_icmpN_gt C (tgt := 130) (by omega) (by omega) (by decide) dL_ahead_120 (fun hc120 => ?_) (fun hc120 => ?_)
            | refine k_icmp_gt C (tgt := 130) (by decide) dL_ahead_120 (fun hc120 => ?_) (fun hc120 => ?_)
            · skip
              first
              | omega
              | exact absurd hc120 (nI_ge (by omega) (by omega))
              | exact absurd hc120 (by decide)
              | exact absurd hc120 (nI_pos (by omega))
              | exact absurd (nI_pos' (by omega)) hc120
              | exact absurd rfl hc120
              | exact absurd hc120 (nI_ne0 (by omega) (by omega))
              | exact hc120 rfl
              | exact absurd hc120 (nI_n101 (by omega))
              | exact absurd hc120.symm (nI_n101 (by omega))
            · skip
              refine k_aload_n C (f := 0) (i := 0) (p := 6) rfl rfl dL_ahead_123 ?_
              refine k_callVp C s_L_232 h_X5_hasArrived (L5_s (by assumption)) rfl (ct_X5_hasArrived hx hrm) rfl rfl (Nat.le_of_ble_eq_true rfl) ⟨Nat.le_of_ble_eq_true rfl, Nat.le_of_ble_eq_true rfl⟩ ⟨by show _ ≤ 5400; (try dsimp only); omega, by show _ ≤ 33000; (try dsimp only); omega⟩ ⟨rfl, rfl⟩ dL_ahead_124 ?_
              rw [eab]
              first
              | refine k_ifb_eq C (tgt := 141) (by decide) dL_ahead_127 (fun hc127 => ?_) (fun hc127 => ?_)
              | refine k_if_eq C (tgt := 141) (by decide) dL_ahead_127 (fun hc127 => ?_) (fun hc127 => ?_)
              · skip
                first
                | omega
                | exact absurd hc127 (nI_ge (by omega) (by omega))
                | exact absurd hc127 (by decide)
                | exact absurd hc127 (nI_pos (by omega))
                | exact absurd (nI_pos' (by omega)) hc127
                | exact absurd rfl hc127
                | exact absurd hc127 (nI_ne0 (by omega) (by omega))
                | exact hc127 rfl
                | exact absurd hc127 (nI_n101 (by omega))
                | exact absurd hc127.symm (nI_n101 (by omega))
              · skip
                refine k_aload_n C (f := 0) (i := 0) (p := 6) rfl rfl dL_ahead_130 ?_
                refine k_callSl C s_L_268 h_L_caravan (ct_L_caravan hx hRS hlegm) rfl rfl (Nat.le_of_ble_eq_true rfl) ⟨Nat.le_of_ble_eq_true rfl, Nat.le_of_ble_eq_true rfl⟩ ⟨rfl, rfl⟩ ⟨by show _ ≤ 5400; (try dsimp only); omega, by show _ ≤ 33000; (try dsimp only); omega⟩ dL_ahead_131 ?_
                intro v Λ3 I3 J3 hv
                obtain ⟨hlk3, rfl, hkp3⟩ := hv
                show am_K G X _ _ _ _ _ _ _ _ _ (.int (nI 1) :: _)
                have hx3 := hlk3.lay hx
                have hlk4 := (LK.fr (Λ := Λ) hS).tr hlk3
                first
                | refine k_ifb_eq C (tgt := 141) (by decide) dL_ahead_134 (fun hc134 => ?_) (fun hc134 => ?_)
                | refine k_if_eq C (tgt := 141) (by decide) dL_ahead_134 (fun hc134 => ?_) (fun hc134 => ?_)
                · skip
                  first
                  | omega
                  | exact absurd hc134 (nI_ge (by omega) (by omega))
                  | exact absurd hc134 (by decide)
                  | exact absurd hc134 (nI_pos (by omega))
                  | exact absurd (nI_pos' (by omega)) hc134
                  | exact absurd rfl hc134
                  | exact absurd hc134 (nI_ne0 (by omega) (by omega))
                  | exact hc134 rfl
                  | exact absurd hc134 (nI_n101 (by omega))
                  | exact absurd hc134.symm (nI_n101 (by omega))
                · skip
                  refine k_iconst C ic_1 dL_ahead_137 ?_
                  refine k_goto C (tgt := 142) (by decide) dL_ahead_138 ?_
                  refine k_istore C (i := 9) (lv := [(9, _), (7, _), (6, _), (5, _), (4, _), (2, _), (1, _), (0, _)]) (Nat.le_of_ble_eq_true rfl) rfl dL_ahead_142 ?_
                  refine k_iconst C ic_0 dL_ahead_144 ?_
                  refine k_istore C (i := 10) (lv := [(10, _), (9, _), (7, _), (6, _), (5, _), (4, _), (2, _), (1, _), (0, _)]) (Nat.le_of_ble_eq_true rfl) rfl dL_ahead_145 ?_
                  have loop147 : ∀ (f : Nat) (q : Nat) (S2 : am_I), (q ≤ m) → (LK x Λ I Λ3 S2) → (RouRel S2 x tb n err (sp_goN r (m - q)) (min 8 (ct + m) - q) (hsN r hs (m - q)) kp sn w) → (m - q) < f → am_K G X { frames := 13, cells := 5400, slots := 33000, locals := 400 } 11 Λ3 S2 J3 (3970 + 6 * q) (24160 + 36 * q) 147 [(10, .int (nI q)), (9, .int (nI 1)), (7, .int (nI m)), (6, .int (nI T)), (5, .int (nI (sp_living (sp_goN r D)))), (4, .int (nI D)), (2, .long (hash r)), (1, .int wv), (0, .ref x)] [] := by
                    intro f
                    induction f with
                    | zero => intro q S2 hq hLK hR2b hf; exact absurd hf (Nat.not_lt_zero _)
                    | succ f ih147 =>
                      intro q S2 hq hLK hR2b hf
                      refine k_iload C (i := 10) (p := 0) rfl dL_ahead_147 ?_
                      refine k_iload C (i := 7) (p := 2) rfl dL_ahead_149 ?_
                      first
                      | refine k_icmpN_ge C (tgt := 182) (by omega) (by omega) (by decide) dL_ahead_151 (fun hc151 => ?_) (fun hc151 => ?_)
                      | refine k_icmp_ge C (tgt := 182) (by decide) dL_ahead_151 (fun hc151 => ?_) (fun hc151 => ?_)
                      · skip
                        obtain rfl : q = m := by omega
                        rw [Nat.sub_self] at hR2b
                        have hR7 : RouRel S2 x tb n err r (min 8 (ct + q) - q) hs kp sn w := by rw [goN_0, hsN_0] at hR2b; exact hR2b
                        have hr7 := RR_r hR7
                        by_cases ha0 : r 0 ≤ r 1
                        · skip
                          have eab0 : am_b (r 0 ≤ r 1) = nI 1 := (am_bt ha0).symm
                          have eT0 : 0 = T := stop_uniq0 hTc hTn ha0
                          refine k_iload C (i := 9) (p := 1) rfl dL_ahead_182 ?_
                          first
                          | refine k_ifb_eq C (tgt := 220) (by decide) dL_ahead_184 (fun hc184 => ?_) (fun hc184 => ?_)
                          | refine k_if_eq C (tgt := 220) (by decide) dL_ahead_184 (fun hc184 => ?_) (fun hc184 => ?_)
                          · skip
                            first
                            | omega
                            | exact absurd hc184 (nI_ge (by omega) (by omega))
                            | exact absurd hc184 (by decide)
                            | exact absurd hc184 (nI_pos (by omega))
                            | exact absurd (nI_pos' (by omega)) hc184
                            | exact absurd rfl hc184
                            | exact absurd hc184 (nI_ne0 (by omega) (by omega))
                            | exact hc184 rfl
                            | exact absurd hc184 (nI_n101 (by omega))
                            | exact absurd hc184.symm (nI_n101 (by omega))
                          · skip
                            refine k_aload_n C (f := 0) (i := 0) (p := 8) rfl rfl dL_ahead_187 ?_
                            refine k_callVp C s_L_232 h_X5_hasArrived (L5_s (by assumption)) rfl (ct_X5_hasArrived hx3 hr7) rfl rfl (Nat.le_of_ble_eq_true rfl) ⟨Nat.le_of_ble_eq_true rfl, Nat.le_of_ble_eq_true rfl⟩ ⟨by show _ ≤ 5400; (try dsimp only); omega, by show _ ≤ 33000; (try dsimp only); omega⟩ ⟨rfl, rfl⟩ dL_ahead_188 ?_
                            rw [eab0]
                            first
                            | refine k_ifb_eq C (tgt := 202) (by decide) dL_ahead_191 (fun hc191 => ?_) (fun hc191 => ?_)
                            | refine k_if_eq C (tgt := 202) (by decide) dL_ahead_191 (fun hc191 => ?_) (fun hc191 => ?_)
                            · skip
                              first
                              | omega
                              | exact absurd hc191 (nI_ge (by omega) (by omega))
                              | exact absurd hc191 (by decide)
                              | exact absurd hc191 (nI_pos (by omega))
                              | exact absurd (nI_pos' (by omega)) hc191
                              | exact absurd rfl hc191
                              | exact absurd hc191 (nI_ne0 (by omega) (by omega))
                              | exact hc191 rfl
                              | exact absurd hc191 (nI_n101 (by omega))
                              | exact absurd hc191.symm (nI_n101 (by omega))
                            · skip
                              rw [← eT0]
                              refine k_iload C (i := 6) (p := 3) rfl dL_ahead_194 ?_
                              first
                              | refine k_ifb_ne C (tgt := 220) (by decide) dL_ahead_196 (fun hc196 => ?_) (fun hc196 => ?_)
                              | refine k_if_ne C (tgt := 220) (by decide) dL_ahead_196 (fun hc196 => ?_) (fun hc196 => ?_)
                              · skip
                                first
                                | omega
                                | exact absurd hc196 (nI_ge (by omega) (by omega))
                                | exact absurd hc196 (by decide)
                                | exact absurd hc196 (nI_pos (by omega))
                                | exact absurd (nI_pos' (by omega)) hc196
                                | exact absurd rfl hc196
                                | exact absurd hc196 (nI_ne0 (by omega) (by omega))
                                | exact hc196 rfl
                                | exact absurd hc196 (nI_n101 (by omega))
                                | exact absurd hc196.symm (nI_n101 (by omega))
                              · skip
                                refine k_goto C (tgt := 207) (by decide) dL_ahead_199 ?_
                                refine k_aload_n C (f := 0) (i := 0) (p := 8) rfl rfl dL_ahead_207 ?_
                                refine k_callSq C s_L_257 h_L_state (ct_L_state hx3 hr7 h3) rfl rfl (Nat.le_of_ble_eq_true rfl) ⟨Nat.le_of_ble_eq_true rfl, Nat.le_of_ble_eq_true rfl⟩ ⟨rfl, rfl⟩ ⟨by show _ ≤ 5400; (try dsimp only); omega, by show _ ≤ 33000; (try dsimp only); omega⟩ dL_ahead_208 ?_
                                refine k_lload_n C (f := 2) (i := 2) (p := 6) rfl rfl dL_ahead_211 ?_
                                refine k_lcmp C dL_ahead_212 ?_
                                rw [lg_self]
                                first
                                | refine k_ifb_ne C (tgt := 220) (by decide) dL_ahead_213 (fun hc213 => ?_) (fun hc213 => ?_)
                                | refine k_if_ne C (tgt := 220) (by decide) dL_ahead_213 (fun hc213 => ?_) (fun hc213 => ?_)
                                · skip
                                  first
                                  | omega
                                  | exact absurd hc213 (nI_ge (by omega) (by omega))
                                  | exact absurd hc213 (by decide)
                                  | exact absurd hc213 (nI_pos (by omega))
                                  | exact absurd (nI_pos' (by omega)) hc213
                                  | exact absurd rfl hc213
                                  | exact absurd hc213 (nI_ne0 (by omega) (by omega))
                                  | exact hc213 rfl
                                  | exact absurd hc213 (nI_n101 (by omega))
                                  | exact absurd hc213.symm (nI_n101 (by omega))
                                · skip
                                  refine k_iconst C ic_1 dL_ahead_216 ?_
                                  refine k_goto C (tgt := 221) (by decide) dL_ahead_217 ?_
                                  exact k_zret C (by first | rfl | exact am_bz) (by show _ ≤ 5400; (try dsimp only); omega) (by show _ ≤ 33000; (try dsimp only); omega) (⟨hLK, rfl, _, by omega, hR7⟩) dL_ahead_221
                        · skip
                          have eab0 : am_b (r 0 ≤ r 1) = nI 0 := (am_bf ha0).symm
                          have hT0 : 0 < T := Nat.pos_of_ne_zero (fun z => ha0 (by rw [z, goN_0] at har; exact har))
                          refine k_iload C (i := 9) (p := 1) rfl dL_ahead_182 ?_
                          first
                          | refine k_ifb_eq C (tgt := 220) (by decide) dL_ahead_184 (fun hc184 => ?_) (fun hc184 => ?_)
                          | refine k_if_eq C (tgt := 220) (by decide) dL_ahead_184 (fun hc184 => ?_) (fun hc184 => ?_)
                          · skip
                            first
                            | omega
                            | exact absurd hc184 (nI_ge (by omega) (by omega))
                            | exact absurd hc184 (by decide)
                            | exact absurd hc184 (nI_pos (by omega))
                            | exact absurd (nI_pos' (by omega)) hc184
                            | exact absurd rfl hc184
                            | exact absurd hc184 (nI_ne0 (by omega) (by omega))
                            | exact hc184 rfl
                            | exact absurd hc184 (nI_n101 (by omega))
                            | exact absurd hc184.symm (nI_n101 (by omega))
                          · skip
                            refine k_aload_n C (f := 0) (i := 0) (p := 8) rfl rfl dL_ahead_187 ?_
                            refine k_callVp C s_L_232 h_X5_hasArrived (L5_s (by assumption)) rfl (ct_X5_hasArrived hx3 hr7) rfl rfl (Nat.le_of_ble_eq_true rfl) ⟨Nat.le_of_ble_eq_true rfl, Nat.le_of_ble_eq_true rfl⟩ ⟨by show _ ≤ 5400; (try dsimp only); omega, by show _ ≤ 33000; (try dsimp only); omega⟩ ⟨rfl, rfl⟩ dL_ahead_188 ?_
                            rw [eab0]
                            first
                            | refine k_ifb_eq C (tgt := 202) (by decide) dL_ahead_191 (fun hc191 => ?_) (fun hc191 => ?_)
                            | refine k_if_eq C (tgt := 202) (by decide) dL_ahead_191 (fun hc191 => ?_) (fun hc191 => ?_)
                            · skip
                              refine k_iload C (i := 6) (p := 3) rfl dL_ahead_202 ?_
                              first
                              | refine k_ifb_eq C (tgt := 220) (by decide) dL_ahead_204 (fun hc204 => ?_) (fun hc204 => ?_)
                              | refine k_if_eq C (tgt := 220) (by decide) dL_ahead_204 (fun hc204 => ?_) (fun hc204 => ?_)
                              · skip
                                first
                                | omega
                                | exact absurd hc204 (nI_ge (by omega) (by omega))
                                | exact absurd hc204 (by decide)
                                | exact absurd hc204 (nI_pos (by omega))
                                | exact absurd (nI_pos' (by omega)) hc204
                                | exact absurd rfl hc204
                                | exact absurd hc204 (nI_ne0 (by omega) (by omega))
                                | exact hc204 rfl
                                | exact absurd hc204 (nI_n101 (by omega))
                                | exact absurd hc204.symm (nI_n101 (by omega))
                              · skip
                                refine k_aload_n C (f := 0) (i := 0) (p := 8) rfl rfl dL_ahead_207 ?_
                                refine k_callSq C s_L_257 h_L_state (ct_L_state hx3 hr7 h3) rfl rfl (Nat.le_of_ble_eq_true rfl) ⟨Nat.le_of_ble_eq_true rfl, Nat.le_of_ble_eq_true rfl⟩ ⟨rfl, rfl⟩ ⟨by show _ ≤ 5400; (try dsimp only); omega, by show _ ≤ 33000; (try dsimp only); omega⟩ dL_ahead_208 ?_
                                refine k_lload_n C (f := 2) (i := 2) (p := 6) rfl rfl dL_ahead_211 ?_
                                refine k_lcmp C dL_ahead_212 ?_
                                rw [lg_self]
                                first
                                | refine k_ifb_ne C (tgt := 220) (by decide) dL_ahead_213 (fun hc213 => ?_) (fun hc213 => ?_)
                                | refine k_if_ne C (tgt := 220) (by decide) dL_ahead_213 (fun hc213 => ?_) (fun hc213 => ?_)
                                · skip
                                  first
                                  | omega
                                  | exact absurd hc213 (nI_ge (by omega) (by omega))
                                  | exact absurd hc213 (by decide)
                                  | exact absurd hc213 (nI_pos (by omega))
                                  | exact absurd (nI_pos' (by omega)) hc213
                                  | exact absurd rfl hc213
                                  | exact absurd hc213 (nI_ne0 (by omega) (by omega))
                                  | exact hc213 rfl
                                  | exact absurd hc213 (nI_n101 (by omega))
                                  | exact absurd hc213.symm (nI_n101 (by omega))
                                · skip
                                  refine k_iconst C ic_1 dL_ahead_216 ?_
                                  refine k_goto C (tgt := 221) (by decide) dL_ahead_217 ?_
                                  exact k_zret C (by first | rfl | exact am_bz) (by show _ ≤ 5400; (try dsimp only); omega) (by show _ ≤ 33000; (try dsimp only); omega) (⟨hLK, rfl, _, by omega, hR7⟩) dL_ahead_221
                            · skip
                              first
                              | omega
                              | exact absurd hc191 (nI_ge (by omega) (by omega))
                              | exact absurd hc191 (by decide)
                              | exact absurd hc191 (nI_pos (by omega))
                              | exact absurd (nI_pos' (by omega)) hc191
                              | exact absurd rfl hc191
                              | exact absurd hc191 (nI_ne0 (by omega) (by omega))
                              | exact hc191 rfl
                              | exact absurd hc191 (nI_n101 (by omega))
                              | exact absurd hc191.symm (nI_n101 (by omega))
                      · skip
                        obtain ⟨p, hp⟩ : ∃ p : Nat, m - q = p + 1 := ⟨m - q - 1, by omega⟩
                        rw [hp] at hR2b
                        refine k_iload C (i := 9) (p := 1) rfl dL_ahead_154 ?_
                        first
                        | refine k_ifb_eq C (tgt := 182) (by decide) dL_ahead_156 (fun hc156 => ?_) (fun hc156 => ?_)
                        | refine k_if_eq C (tgt := 182) (by decide) dL_ahead_156 (fun hc156 => ?_) (fun hc156 => ?_)
                        · skip
                          first
                          | omega
                          | exact absurd hc156 (nI_ge (by omega) (by omega))
                          | exact absurd hc156 (by decide)
                          | exact absurd hc156 (nI_pos (by omega))
                          | exact absurd (nI_pos' (by omega)) hc156
                          | exact absurd rfl hc156
                          | exact absurd hc156 (nI_ne0 (by omega) (by omega))
                          | exact hc156 rfl
                          | exact absurd hc156 (nI_n101 (by omega))
                          | exact absurd hc156.symm (nI_n101 (by omega))
                        · skip
                          refine k_aload_n C (f := 0) (i := 0) (p := 8) rfl rfl dL_ahead_159 ?_
                          refine k_bipush C bc_7 dL_ahead_160 ?_
                          refine k_iconst C ic_0 dL_ahead_162 ?_
                          refine k_callSgq C s_L_163 h_L_call__ (ct_L_call__ (ct_c7 (u1 := nI 0) (u2 := nI 0) (u3 := nI 0) (u4 := nI 0) (u5 := nI 0) hx3 hR2b (Leg_goN hleg (p + 1)).1) (fun _ _ _ _ h => ⟨_, h.2.2.1⟩)) rfl rfl (Nat.le_of_ble_eq_true rfl) ⟨Nat.le_of_ble_eq_true rfl, Nat.le_of_ble_eq_true rfl⟩ ⟨rfl, rfl⟩ ⟨by show _ ≤ 5400; (try dsimp only); omega, by show _ ≤ 33000; (try dsimp only); omega⟩ dL_ahead_163 ?_
                          intro v I6 hv
                          obtain ⟨rfl, hv2, -⟩ := hv
                          have hct : ¬ min 8 (ct + m) - q = 0 := by omega
                          obtain ⟨hR6, hF6⟩ := hv2 (if_neg hct)
                          rw [if_pos (if_neg hct)]
                          rw [show hsN r hs (p + 1) = sp_push (sp_goN r p) (hsN r hs p) from rfl, push_0, push_s] at hR6
                          show am_K G X _ _ _ _ _ _ _ _ _ (.int (nI (min 8 (ct + m) - q - 1)) :: _)
                          refine k_if_lt C (tgt := 173) (by decide) dL_ahead_166 (fun hc166 => ?_) (fun hc166 => ?_)
                          · skip
                            first
                            | omega
                            | exact absurd hc166 (nI_ge (by omega) (by omega))
                            | exact absurd hc166 (by decide)
                            | exact absurd hc166 (nI_pos (by omega))
                            | exact absurd (nI_pos' (by omega)) hc166
                            | exact absurd rfl hc166
                            | exact absurd hc166 (nI_ne0 (by omega) (by omega))
                            | exact hc166 rfl
                            | exact absurd hc166 (nI_n101 (by omega))
                            | exact absurd hc166.symm (nI_n101 (by omega))
                          · skip
                            refine k_iconst C ic_1 dL_ahead_169 ?_
                            refine k_goto C (tgt := 174) (by decide) dL_ahead_170 ?_
                            refine k_istore C (i := 9) (lv := [(9, _), (10, _), (7, _), (6, _), (5, _), (4, _), (2, _), (1, _), (0, _)]) (Nat.le_of_ble_eq_true rfl) rfl dL_ahead_174 ?_
                            refine k_iinc C (i := 10) (p := 1) (lv := [(10, _), (9, _), (7, _), (6, _), (5, _), (4, _), (2, _), (1, _), (0, _)]) (Nat.le_of_ble_eq_true rfl) rfl (by first | exact am_inc1 _ | rfl) rfl dL_ahead_176 ?_
                            refine k_goto C (tgt := 147) (by decide) dL_ahead_179 ?_
                            refine k_sub [0, 1, 2, 3, 4, 5, 6, 7, 8] rfl ?_
                            refine k_widen ?_ ?_ (ih147 (q + 1) _ (by omega) (hLK.tr (LK.fr hF6)) (by rw [show m - (q + 1) = p by omega, show min 8 (ct + m) - (q + 1) = min 8 (ct + m) - q - 1 by omega]; exact hR6) (by omega))
                            · (try dsimp only); omega
                            · (try dsimp only); omega
                  refine k_sub [0, 1, 2, 3, 4, 5, 6, 7, 8] rfl ?_
                  refine k_widen ?_ ?_ (loop147 (m + 1) 0 I3 (Nat.zero_le _) hlk4 (RouRel_agree hRS hkp3) (by omega))
                  · (try dsimp only); omega
                  · (try dsimp only); omega
    refine k_iconst C ic_0 dL_ahead_34 ?_
    refine k_istore C (i := 7) (lv := [(7, _), (6, _), (5, _), (4, _), (2, _), (0, _), (1, _)]) (Nat.le_of_ble_eq_true rfl) rfl dL_ahead_35 ?_
    refine k_iconst C ic_0 dL_ahead_37 ?_
    refine k_istore C (i := 8) (lv := [(8, _), (7, _), (6, _), (5, _), (4, _), (2, _), (0, _), (1, _)]) (Nat.le_of_ble_eq_true rfl) rfl dL_ahead_38 ?_
    have loop40 : ∀ (f : Nat) (m : Nat) (A : Nat) (S : am_I), (m ≤ D) → (∀ j : Nat, j < m → sp_can (sp_goN r j)) → ((A = 1 ∧ 0 < m ∧ sp_goN r m 0 ≤ sp_goN r m 1) ∨ (A = 0 ∧ (m = 0 ∨ ¬ sp_goN r m 0 ≤ sp_goN r m 1))) → (RFr x I S) → (RouRel S x tb n err (sp_goN r m) (min 8 (ct + m)) (hsN r hs m) kp sn w) → (D - m) < f → am_K G X { frames := 13, cells := 5400, slots := 33000, locals := 400 } 11 Λ S J (1320 + 6 * m) (7900 + 36 * m) 40 [(8, .int (nI A)), (7, .int (nI m)), (6, .int (nI T)), (5, .int (nI (sp_living (sp_goN r D)))), (4, .int (nI D)), (2, .long (hash r)), (1, .int wv), (0, .ref x)] [] := by
      intro f
      induction f with
      | zero => intro m A S hm hcan hA hS hRS hf; exact absurd hf (Nat.not_lt_zero _)
      | succ f ih40 =>
        intro m A S hm hcan hA hS hRS hf
        have hlegm := Leg_goN hleg m
        have hrS := RR_r hRS
        obtain ⟨ldm, hldm, hlcm⟩ := RK_ld hlegm.1
        have hncm := hlegm.1.2.2.2.2.1
        refine k_iload C (i := 7) (p := 1) rfl dL_ahead_40 ?_
        refine k_iload C (i := 4) (p := 4) rfl dL_ahead_42 ?_
        first
        | refine k_icmpN_ge C (tgt := 102) (by omega) (by omega) (by decide) dL_ahead_44 (fun hc44 => ?_) (fun hc44 => ?_)
        | refine k_icmp_ge C (tgt := 102) (by decide) dL_ahead_44 (fun hc44 => ?_) (fun hc44 => ?_)
        · skip
          skip
          have hlegm := Leg_goN hleg m
          have hrm := RR_r hRS
          have hmT := (stop_uniq hTc hTn hcan).1
          rcases (show m < T ∨ m = T by omega) with hmt | hmt
          · skip
            refine k_sub [1, 2, 3, 4, 5, 6, 7] rfl ?_
            refine k_widen ?_ ?_ (join102 m S hm hcan hS hRS (by first | (rw [show m = D by omega]) | exact hlvno))
            · (try dsimp only); omega
            · (try dsimp only); omega
          · skip
            have eab : am_b (sp_goN r m 0 ≤ sp_goN r m 1) = nI 1 := (am_bt (by rw [hmt]; exact har)).symm
            refine k_sub [1, 2, 3, 4, 5, 6, 7] rfl ?_
            refine k_widen ?_ ?_ (join102 m S hm hcan hS hRS (by first | (rw [show m = D by omega]) | exact hlvno))
            · (try dsimp only); omega
            · (try dsimp only); omega
        · skip
          by_cases hc : sp_can (sp_goN r m)
          · skip
            obtain rfl : A = 0 := by
              rcases hA with ⟨-, -, h⟩ | ⟨h, -⟩
              · exact absurd h hc.1
              · exact h
            have hcan1 : ∀ j : Nat, j < m + 1 → sp_can (sp_goN r j) := fun j hj => by
              by_cases e : j = m
              · subst e; exact hc
              · exact hcan j (by omega)
            have hc2 : ¬ sp_goN r m 0 ≤ sp_goN r m 1 ∧ (sp_goN r m 2 < nI 200 ∧ 0 < sp_living (sp_goN r m)) := hc
            have egs : sp_travel (sp_goN r m) ldm = sp_goN r (m + 1) := by
              rw [goN_s, sp_go1_t hc, hldm, nI_clamp (by omega)]
            obtain ⟨Lm, kmm, hLm, hkm, hLm1, hLm9, hkLm, hwwm⟩ := RK_L hlegm.1
            obtain ⟨dm, hdm, hkdm⟩ := dist_b hlegm.1 hlcm hLm hkm hkLm hLm9
            refine k_aload_n C (f := 0) (i := 0) (p := 7) rfl rfl dL_ahead_47 ?_
            refine k_iconst C ic_0 dL_ahead_48 ?_
            refine k_iconst C ic_0 dL_ahead_49 ?_
            refine k_callSgq C s_L_163 h_L_call__ (ct_L_call__ (ct_c0 (u1 := nI 0) (u2 := nI 0) (u3 := nI 0) (u4 := nI 0) (u5 := nI 0) hx hRS hlegm.1 hldm hlcm) (fun _ _ _ _ h => ⟨_, h.2.2.1⟩)) rfl rfl (Nat.le_of_ble_eq_true rfl) ⟨Nat.le_of_ble_eq_true rfl, Nat.le_of_ble_eq_true rfl⟩ ⟨rfl, rfl⟩ ⟨by show _ ≤ 5400; (try dsimp only); omega, by show _ ≤ 33000; (try dsimp only); omega⟩ dL_ahead_50 ?_
            intro v S1 hv
            obtain ⟨rfl, hv2, -⟩ := hv
            obtain ⟨hRS1, hFS⟩ := hv2 (if_pos hc2)
            rw [egs, show min 8 (min 8 (ct + m) + 1) = min 8 (ct + (m + 1)) by omega] at hRS1
            rw [if_pos (if_pos hc2), hdm]
            show am_K G X _ _ _ _ _ _ _ _ _ (.int (nI dm) :: _)
            have hS1 := hS.tr hFS
            have hrS1 := RR_r hRS1
            refine k_if_lt C (tgt := 102) (by decide) dL_ahead_53 (fun hc53 => ?_) (fun hc53 => ?_)
            · skip
              first
              | omega
              | exact absurd hc53 (nI_ge (by omega) (by omega))
              | exact absurd hc53 (by decide)
              | exact absurd hc53 (nI_pos (by omega))
              | exact absurd (nI_pos' (by omega)) hc53
              | exact absurd rfl hc53
              | exact absurd hc53 (nI_ne0 (by omega) (by omega))
              | exact hc53 rfl
              | exact absurd hc53 (nI_n101 (by omega))
              | exact absurd hc53.symm (nI_n101 (by omega))
            · skip
              refine k_iinc C (i := 7) (p := 1) (lv := [(7, _), (8, _), (6, _), (5, _), (4, _), (2, _), (1, _), (0, _)]) (Nat.le_of_ble_eq_true rfl) rfl (by first | exact am_inc1 _ | rfl) rfl dL_ahead_56 ?_
              by_cases ha : sp_goN r (m + 1) 0 ≤ sp_goN r (m + 1) 1
              · skip
                have eab : am_b (sp_goN r (m + 1) 0 ≤ sp_goN r (m + 1) 1) = nI 1 := (am_bt ha).symm
                have eT : m + 1 = T := (stop_uniq hTc hTn hcan1).2 (fun c => c.1 ha)
                refine k_aload_n C (f := 0) (i := 0) (p := 7) rfl rfl dL_ahead_59 ?_
                refine k_callVp C s_L_232 h_X5_hasArrived (L5_s (by assumption)) rfl (ct_X5_hasArrived hx hrS1) rfl rfl (Nat.le_of_ble_eq_true rfl) ⟨Nat.le_of_ble_eq_true rfl, Nat.le_of_ble_eq_true rfl⟩ ⟨by show _ ≤ 5400; (try dsimp only); omega, by show _ ≤ 33000; (try dsimp only); omega⟩ ⟨rfl, rfl⟩ dL_ahead_60 ?_
                rw [eab]
                first
                | refine k_ifb_eq C (tgt := 80) (by decide) dL_ahead_63 (fun hc63 => ?_) (fun hc63 => ?_)
                | refine k_if_eq C (tgt := 80) (by decide) dL_ahead_63 (fun hc63 => ?_) (fun hc63 => ?_)
                · skip
                  first
                  | omega
                  | exact absurd hc63 (nI_ge (by omega) (by omega))
                  | exact absurd hc63 (by decide)
                  | exact absurd hc63 (nI_pos (by omega))
                  | exact absurd (nI_pos' (by omega)) hc63
                  | exact absurd rfl hc63
                  | exact absurd hc63 (nI_ne0 (by omega) (by omega))
                  | exact hc63 rfl
                  | exact absurd hc63 (nI_n101 (by omega))
                  | exact absurd hc63.symm (nI_n101 (by omega))
                · skip
                  refine k_iload C (i := 8) (p := 1) rfl dL_ahead_66 ?_
                  first
                  | refine k_ifb_ne C (tgt := 80) (by decide) dL_ahead_68 (fun hc68 => ?_) (fun hc68 => ?_)
                  | refine k_if_ne C (tgt := 80) (by decide) dL_ahead_68 (fun hc68 => ?_) (fun hc68 => ?_)
                  · skip
                    first
                    | omega
                    | exact absurd hc68 (nI_ge (by omega) (by omega))
                    | exact absurd hc68 (by decide)
                    | exact absurd hc68 (nI_pos (by omega))
                    | exact absurd (nI_pos' (by omega)) hc68
                    | exact absurd rfl hc68
                    | exact absurd hc68 (nI_ne0 (by omega) (by omega))
                    | exact hc68 rfl
                    | exact absurd hc68 (nI_n101 (by omega))
                    | exact absurd hc68.symm (nI_n101 (by omega))
                  · skip
                    refine k_iload C (i := 6) (p := 2) rfl dL_ahead_71 ?_
                    refine k_iload C (i := 7) (p := 0) rfl dL_ahead_73 ?_
                    first
                    | refine k_icmpN_eq C (tgt := 80) (by omega) (by omega) (by decide) dL_ahead_75 (fun hc75 => ?_) (fun hc75 => ?_)
                    | refine k_icmp_eq C (tgt := 80) (by decide) dL_ahead_75 (fun hc75 => ?_) (fun hc75 => ?_)
                    · skip
                      refine k_iload C (i := 8) (p := 1) rfl dL_ahead_80 ?_
                      first
                      | refine k_ifb_ne C (tgt := 92) (by decide) dL_ahead_82 (fun hc82 => ?_) (fun hc82 => ?_)
                      | refine k_if_ne C (tgt := 92) (by decide) dL_ahead_82 (fun hc82 => ?_) (fun hc82 => ?_)
                      · skip
                        first
                        | omega
                        | exact absurd hc82 (nI_ge (by omega) (by omega))
                        | exact absurd hc82 (by decide)
                        | exact absurd hc82 (nI_pos (by omega))
                        | exact absurd (nI_pos' (by omega)) hc82
                        | exact absurd rfl hc82
                        | exact absurd hc82 (nI_ne0 (by omega) (by omega))
                        | exact hc82 rfl
                        | exact absurd hc82 (nI_n101 (by omega))
                        | exact absurd hc82.symm (nI_n101 (by omega))
                      · skip
                        refine k_aload_n C (f := 0) (i := 0) (p := 7) rfl rfl dL_ahead_85 ?_
                        refine k_callVp C s_L_232 h_X5_hasArrived (L5_s (by assumption)) rfl (ct_X5_hasArrived hx hrS1) rfl rfl (Nat.le_of_ble_eq_true rfl) ⟨Nat.le_of_ble_eq_true rfl, Nat.le_of_ble_eq_true rfl⟩ ⟨by show _ ≤ 5400; (try dsimp only); omega, by show _ ≤ 33000; (try dsimp only); omega⟩ ⟨rfl, rfl⟩ dL_ahead_86 ?_
                        rw [eab]
                        first
                        | refine k_ifb_eq C (tgt := 96) (by decide) dL_ahead_89 (fun hc89 => ?_) (fun hc89 => ?_)
                        | refine k_if_eq C (tgt := 96) (by decide) dL_ahead_89 (fun hc89 => ?_) (fun hc89 => ?_)
                        · skip
                          first
                          | omega
                          | exact absurd hc89 (nI_ge (by omega) (by omega))
                          | exact absurd hc89 (by decide)
                          | exact absurd hc89 (nI_pos (by omega))
                          | exact absurd (nI_pos' (by omega)) hc89
                          | exact absurd rfl hc89
                          | exact absurd hc89 (nI_ne0 (by omega) (by omega))
                          | exact hc89 rfl
                          | exact absurd hc89 (nI_n101 (by omega))
                          | exact absurd hc89.symm (nI_n101 (by omega))
                        · skip
                          refine k_iconst C ic_1 dL_ahead_92 ?_
                          refine k_goto C (tgt := 97) (by decide) dL_ahead_93 ?_
                          refine k_istore C (i := 8) (lv := [(8, _), (7, _), (6, _), (5, _), (4, _), (2, _), (1, _), (0, _)]) (Nat.le_of_ble_eq_true rfl) rfl dL_ahead_97 ?_
                          refine k_goto C (tgt := 40) (by decide) dL_ahead_99 ?_
                          refine k_sub [0, 1, 2, 3, 4, 5, 6, 7] rfl ?_
                          refine k_widen ?_ ?_ (ih40 (m + 1) _ _ (by omega) hcan1 (Or.inl ⟨rfl, Nat.succ_pos m, ha⟩) hS1 hRS1 (by omega))
                          · (try dsimp only); omega
                          · (try dsimp only); omega
                    · skip
                      first
                      | omega
                      | exact absurd hc75 (nI_ge (by omega) (by omega))
                      | exact absurd hc75 (by decide)
                      | exact absurd hc75 (nI_pos (by omega))
                      | exact absurd (nI_pos' (by omega)) hc75
                      | exact absurd rfl hc75
                      | exact absurd hc75 (nI_ne0 (by omega) (by omega))
                      | exact hc75 rfl
                      | exact absurd hc75 (nI_n101 (by omega))
                      | exact absurd hc75.symm (nI_n101 (by omega))
              · skip
                have eab : am_b (sp_goN r (m + 1) 0 ≤ sp_goN r (m + 1) 1) = nI 0 := (am_bf ha).symm
                refine k_aload_n C (f := 0) (i := 0) (p := 7) rfl rfl dL_ahead_59 ?_
                refine k_callVp C s_L_232 h_X5_hasArrived (L5_s (by assumption)) rfl (ct_X5_hasArrived hx hrS1) rfl rfl (Nat.le_of_ble_eq_true rfl) ⟨Nat.le_of_ble_eq_true rfl, Nat.le_of_ble_eq_true rfl⟩ ⟨by show _ ≤ 5400; (try dsimp only); omega, by show _ ≤ 33000; (try dsimp only); omega⟩ ⟨rfl, rfl⟩ dL_ahead_60 ?_
                rw [eab]
                first
                | refine k_ifb_eq C (tgt := 80) (by decide) dL_ahead_63 (fun hc63 => ?_) (fun hc63 => ?_)
                | refine k_if_eq C (tgt := 80) (by decide) dL_ahead_63 (fun hc63 => ?_) (fun hc63 => ?_)
                · skip
                  refine k_iload C (i := 8) (p := 1) rfl dL_ahead_80 ?_
                  first
                  | refine k_ifb_ne C (tgt := 92) (by decide) dL_ahead_82 (fun hc82 => ?_) (fun hc82 => ?_)
                  | refine k_if_ne C (tgt := 92) (by decide) dL_ahead_82 (fun hc82 => ?_) (fun hc82 => ?_)
                  · skip
                    first
                    | omega
                    | exact absurd hc82 (nI_ge (by omega) (by omega))
                    | exact absurd hc82 (by decide)
                    | exact absurd hc82 (nI_pos (by omega))
                    | exact absurd (nI_pos' (by omega)) hc82
                    | exact absurd rfl hc82
                    | exact absurd hc82 (nI_ne0 (by omega) (by omega))
                    | exact hc82 rfl
                    | exact absurd hc82 (nI_n101 (by omega))
                    | exact absurd hc82.symm (nI_n101 (by omega))
                  · skip
                    refine k_aload_n C (f := 0) (i := 0) (p := 7) rfl rfl dL_ahead_85 ?_
                    refine k_callVp C s_L_232 h_X5_hasArrived (L5_s (by assumption)) rfl (ct_X5_hasArrived hx hrS1) rfl rfl (Nat.le_of_ble_eq_true rfl) ⟨Nat.le_of_ble_eq_true rfl, Nat.le_of_ble_eq_true rfl⟩ ⟨by show _ ≤ 5400; (try dsimp only); omega, by show _ ≤ 33000; (try dsimp only); omega⟩ ⟨rfl, rfl⟩ dL_ahead_86 ?_
                    rw [eab]
                    first
                    | refine k_ifb_eq C (tgt := 96) (by decide) dL_ahead_89 (fun hc89 => ?_) (fun hc89 => ?_)
                    | refine k_if_eq C (tgt := 96) (by decide) dL_ahead_89 (fun hc89 => ?_) (fun hc89 => ?_)
                    · skip
                      refine k_iconst C ic_0 dL_ahead_96 ?_
                      refine k_istore C (i := 8) (lv := [(8, _), (7, _), (6, _), (5, _), (4, _), (2, _), (1, _), (0, _)]) (Nat.le_of_ble_eq_true rfl) rfl dL_ahead_97 ?_
                      refine k_goto C (tgt := 40) (by decide) dL_ahead_99 ?_
                      refine k_sub [0, 1, 2, 3, 4, 5, 6, 7] rfl ?_
                      refine k_widen ?_ ?_ (ih40 (m + 1) _ _ (by omega) hcan1 (Or.inr ⟨rfl, Or.inr ha⟩) hS1 hRS1 (by omega))
                      · (try dsimp only); omega
                      · (try dsimp only); omega
                    · skip
                      first
                      | omega
                      | exact absurd hc89 (nI_ge (by omega) (by omega))
                      | exact absurd hc89 (by decide)
                      | exact absurd hc89 (nI_pos (by omega))
                      | exact absurd (nI_pos' (by omega)) hc89
                      | exact absurd rfl hc89
                      | exact absurd hc89 (nI_ne0 (by omega) (by omega))
                      | exact hc89 rfl
                      | exact absurd hc89 (nI_n101 (by omega))
                      | exact absurd hc89.symm (nI_n101 (by omega))
                · skip
                  first
                  | omega
                  | exact absurd hc63 (nI_ge (by omega) (by omega))
                  | exact absurd hc63 (by decide)
                  | exact absurd hc63 (nI_pos (by omega))
                  | exact absurd (nI_pos' (by omega)) hc63
                  | exact absurd rfl hc63
                  | exact absurd hc63 (nI_ne0 (by omega) (by omega))
                  | exact hc63 rfl
                  | exact absurd hc63 (nI_n101 (by omega))
                  | exact absurd hc63.symm (nI_n101 (by omega))
          · skip
            have hc2 : ¬ (¬ sp_goN r m 0 ≤ sp_goN r m 1 ∧ (sp_goN r m 2 < nI 200 ∧ 0 < sp_living (sp_goN r m))) := hc
            have hlvno : sp_living (sp_goN r m) = sp_living (sp_goN r D) := by
              have e := sp_goN_fix hc (D - m)
              rw [show m + (D - m) = D by omega] at e
              rw [e]
            refine k_aload_n C (f := 0) (i := 0) (p := 7) rfl rfl dL_ahead_47 ?_
            refine k_iconst C ic_0 dL_ahead_48 ?_
            refine k_iconst C ic_0 dL_ahead_49 ?_
            refine k_callSgq C s_L_163 h_L_call__ (ct_L_call__ (ct_c0 (u1 := nI 0) (u2 := nI 0) (u3 := nI 0) (u4 := nI 0) (u5 := nI 0) hx hRS hlegm.1 hldm hlcm) (fun _ _ _ _ h => ⟨_, h.2.2.1⟩)) rfl rfl (Nat.le_of_ble_eq_true rfl) ⟨Nat.le_of_ble_eq_true rfl, Nat.le_of_ble_eq_true rfl⟩ ⟨rfl, rfl⟩ ⟨by show _ ≤ 5400; (try dsimp only); omega, by show _ ≤ 33000; (try dsimp only); omega⟩ dL_ahead_50 ?_
            intro v S1 hv
            obtain ⟨rfl, -, hv3⟩ := hv
            have e2 := (hv3 (by rw [if_neg hc2]; decide)).symm
            subst e2
            rw [if_neg (by rw [if_neg hc2]; decide)]
            show am_K G X _ _ _ _ _ _ _ _ _ (.int (-102) :: _)
            refine k_if_lt C (tgt := 102) (by decide) dL_ahead_53 (fun hc53 => ?_) (fun hc53 => ?_)
            · skip
              have hlegm := Leg_goN hleg m
              have hrm := RR_r hRS
              have hmT := (stop_uniq hTc hTn hcan).1
              rcases (show m < T ∨ m = T by omega) with hmt | hmt
              · skip
                refine k_sub [1, 2, 3, 4, 5, 6, 7] rfl ?_
                refine k_widen ?_ ?_ (join102 m S hm hcan hS hRS (by first | (rw [show m = D by omega]) | exact hlvno))
                · (try dsimp only); omega
                · (try dsimp only); omega
              · skip
                have eab : am_b (sp_goN r m 0 ≤ sp_goN r m 1) = nI 1 := (am_bt (by rw [hmt]; exact har)).symm
                refine k_sub [1, 2, 3, 4, 5, 6, 7] rfl ?_
                refine k_widen ?_ ?_ (join102 m S hm hcan hS hRS (by first | (rw [show m = D by omega]) | exact hlvno))
                · (try dsimp only); omega
                · (try dsimp only); omega
            · skip
              first
              | omega
              | exact absurd hc53 (nI_ge (by omega) (by omega))
              | exact absurd hc53 (by decide)
              | exact absurd hc53 (nI_pos (by omega))
              | exact absurd (nI_pos' (by omega)) hc53
              | exact absurd rfl hc53
              | exact absurd hc53 (nI_ne0 (by omega) (by omega))
              | exact hc53 rfl
              | exact absurd hc53 (nI_n101 (by omega))
              | exact absurd hc53.symm (nI_n101 (by omega))
    refine k_sub [0, 1, 2, 3, 4, 5, 7, 6] rfl ?_
    refine k_widen ?_ ?_ (loop40 (D + 1) 0 0 I2 (Nat.zero_le _) (fun j hj => absurd hj (Nat.not_lt_zero j)) (Or.inr ⟨rfl, Or.inl rfl⟩) (hF1.tr hF2) (by rw [goN_0, hsN_0, show min 8 (ct + 0) = ct by omega]; exact hR2) (by omega))
    · (try dsimp only); omega
    · (try dsimp only); omega
  · skip
    have hav : (if (if sp_goN r 200 0 ≤ sp_goN r 200 1 then 0 else 1) = 0 then (sp_goN r 200 2 - r 2) else (-101)) = -101 := by
      rw [if_neg (by rw [if_neg har]; decide)]
    rw [hTe] at har
    refine k_aload_n C (f := 0) (i := 0) (p := 3) rfl rfl dL_ahead_25 ?_
    refine k_bipush C bc_39 dL_ahead_26 ?_
    refine k_iconst C ic_0 dL_ahead_28 ?_
    refine k_callSgq C s_L_163 h_L_call__ (ct_L_call__ (ct_c39 (u1 := nI 0) (u2 := nI 0) (u3 := nI 0) (u4 := nI 0) (u5 := nI 0) hx hR1 hok) (fun _ _ _ _ h => ⟨_, h.2.2.1⟩)) rfl rfl (Nat.le_of_ble_eq_true rfl) ⟨Nat.le_of_ble_eq_true rfl, Nat.le_of_ble_eq_true rfl⟩ ⟨rfl, rfl⟩ ⟨by show _ ≤ 5400; (try dsimp only); omega, by show _ ≤ 33000; (try dsimp only); omega⟩ dL_ahead_29 ?_
    intro v I2 hv
    rw [hav] at hv
    obtain ⟨rfl, hR2, hF2⟩ := hv
    show am_K G X _ _ _ _ _ _ _ _ _ (.int (-101) :: _)
    refine k_istore C (i := 6) (lv := [(6, _), (5, _), (4, _), (2, _), (0, _), (1, _)]) (Nat.le_of_ble_eq_true rfl) rfl dL_ahead_32 ?_
    have join102 : ∀ (m : Nat) (S : am_I), (m ≤ D) → (∀ j : Nat, j < m → sp_can (sp_goN r j)) → (RFr x I S) → (RouRel S x tb n err (sp_goN r m) (min 8 (ct + m)) (hsN r hs m) kp sn w) → (sp_living (sp_goN r m) = sp_living (sp_goN r D)) → am_K G X { frames := 13, cells := 5400, slots := 33000, locals := 400 } 11 Λ S J (1320 + 42) (7900 + 252) 102 [(7, .int (nI m)), (6, .int (-101)), (5, .int (nI (sp_living (sp_goN r D)))), (4, .int (nI D)), (2, .long (hash r)), (1, .int wv), (0, .ref x)] [] := by
      intro m S hm hcan hS hRS hlv
      have hlegm := Leg_goN hleg m
      have hrm := RR_r hRS
      have hmT := (stop_uniq hTc hTn hcan).1
      skip
      · skip
        refine k_aload_n C (f := 0) (i := 0) (p := 6) rfl rfl dL_ahead_102 ?_
        refine k_callVp C s_L_240 h_X5_livingCamels (L5_s (by assumption)) rfl (ct_X5_livingCamels hx hrm) rfl rfl (Nat.le_of_ble_eq_true rfl) ⟨Nat.le_of_ble_eq_true rfl, Nat.le_of_ble_eq_true rfl⟩ ⟨by show _ ≤ 5400; (try dsimp only); omega, by show _ ≤ 33000; (try dsimp only); omega⟩ ⟨rfl, rfl⟩ dL_ahead_103 ?_
        rw [hlv]
        refine k_iload C (i := 5) (p := 2) rfl dL_ahead_106 ?_
        first
        | refine k_icmpN_ne C (tgt := 141) (by omega) (by omega) (by decide) dL_ahead_108 (fun hc108 => ?_) (fun hc108 => ?_)
        | refine k_icmp_ne C (tgt := 141) (by decide) dL_ahead_108 (fun hc108 => ?_) (fun hc108 => ?_)
        · skip
          first
          | omega
          | exact absurd hc108 (nI_ge (by omega) (by omega))
          | exact absurd hc108 (by decide)
          | exact absurd hc108 (nI_pos (by omega))
          | exact absurd (nI_pos' (by omega)) hc108
          | exact absurd rfl hc108
          | exact absurd hc108 (nI_ne0 (by omega) (by omega))
          | exact hc108 rfl
          | exact absurd hc108 (nI_n101 (by omega))
          | exact absurd hc108.symm (nI_n101 (by omega))
        · skip
          refine k_iload C (i := 6) (p := 1) rfl dL_ahead_111 ?_
          refine k_if_lt C (tgt := 130) (by decide) dL_ahead_113 (fun hc113 => ?_) (fun hc113 => ?_)
          · skip
            refine k_aload_n C (f := 0) (i := 0) (p := 6) rfl rfl dL_ahead_130 ?_
            refine k_callSl C s_L_268 h_L_caravan (ct_L_caravan hx hRS hlegm) rfl rfl (Nat.le_of_ble_eq_true rfl) ⟨Nat.le_of_ble_eq_true rfl, Nat.le_of_ble_eq_true rfl⟩ ⟨rfl, rfl⟩ ⟨by show _ ≤ 5400; (try dsimp only); omega, by show _ ≤ 33000; (try dsimp only); omega⟩ dL_ahead_131 ?_
            intro v Λ3 I3 J3 hv
            obtain ⟨hlk3, rfl, hkp3⟩ := hv
            show am_K G X _ _ _ _ _ _ _ _ _ (.int (nI 1) :: _)
            have hx3 := hlk3.lay hx
            have hlk4 := (LK.fr (Λ := Λ) hS).tr hlk3
            first
            | refine k_ifb_eq C (tgt := 141) (by decide) dL_ahead_134 (fun hc134 => ?_) (fun hc134 => ?_)
            | refine k_if_eq C (tgt := 141) (by decide) dL_ahead_134 (fun hc134 => ?_) (fun hc134 => ?_)
            · skip
              first
              | omega
              | exact absurd hc134 (nI_ge (by omega) (by omega))
              | exact absurd hc134 (by decide)
              | exact absurd hc134 (nI_pos (by omega))
              | exact absurd (nI_pos' (by omega)) hc134
              | exact absurd rfl hc134
              | exact absurd hc134 (nI_ne0 (by omega) (by omega))
              | exact hc134 rfl
              | exact absurd hc134 (nI_n101 (by omega))
              | exact absurd hc134.symm (nI_n101 (by omega))
            · skip
              refine k_iconst C ic_1 dL_ahead_137 ?_
              refine k_goto C (tgt := 142) (by decide) dL_ahead_138 ?_
              refine k_istore C (i := 9) (lv := [(9, _), (7, _), (6, _), (5, _), (4, _), (2, _), (1, _), (0, _)]) (Nat.le_of_ble_eq_true rfl) rfl dL_ahead_142 ?_
              refine k_iconst C ic_0 dL_ahead_144 ?_
              refine k_istore C (i := 10) (lv := [(10, _), (9, _), (7, _), (6, _), (5, _), (4, _), (2, _), (1, _), (0, _)]) (Nat.le_of_ble_eq_true rfl) rfl dL_ahead_145 ?_
              have loop147 : ∀ (f : Nat) (q : Nat) (S2 : am_I), (q ≤ m) → (LK x Λ I Λ3 S2) → (RouRel S2 x tb n err (sp_goN r (m - q)) (min 8 (ct + m) - q) (hsN r hs (m - q)) kp sn w) → (m - q) < f → am_K G X { frames := 13, cells := 5400, slots := 33000, locals := 400 } 11 Λ3 S2 J3 (3970 + 6 * q) (24160 + 36 * q) 147 [(10, .int (nI q)), (9, .int (nI 1)), (7, .int (nI m)), (6, .int (-101)), (5, .int (nI (sp_living (sp_goN r D)))), (4, .int (nI D)), (2, .long (hash r)), (1, .int wv), (0, .ref x)] [] := by
                intro f
                induction f with
                | zero => intro q S2 hq hLK hR2b hf; exact absurd hf (Nat.not_lt_zero _)
                | succ f ih147 =>
                  intro q S2 hq hLK hR2b hf
                  refine k_iload C (i := 10) (p := 0) rfl dL_ahead_147 ?_
                  refine k_iload C (i := 7) (p := 2) rfl dL_ahead_149 ?_
                  first
                  | refine k_icmpN_ge C (tgt := 182) (by omega) (by omega) (by decide) dL_ahead_151 (fun hc151 => ?_) (fun hc151 => ?_)
                  | refine k_icmp_ge C (tgt := 182) (by decide) dL_ahead_151 (fun hc151 => ?_) (fun hc151 => ?_)
                  · skip
                    obtain rfl : q = m := by omega
                    rw [Nat.sub_self] at hR2b
                    have hR7 : RouRel S2 x tb n err r (min 8 (ct + q) - q) hs kp sn w := by rw [goN_0, hsN_0] at hR2b; exact hR2b
                    have hr7 := RR_r hR7
                    have ha0 : ¬ r 0 ≤ r 1 := fun z => har (by rw [← stop_uniq0 hTc hTn z, goN_0]; exact z)
                    · skip
                      have eab0 : am_b (r 0 ≤ r 1) = nI 0 := (am_bf ha0).symm
                      refine k_iload C (i := 9) (p := 1) rfl dL_ahead_182 ?_
                      first
                      | refine k_ifb_eq C (tgt := 220) (by decide) dL_ahead_184 (fun hc184 => ?_) (fun hc184 => ?_)
                      | refine k_if_eq C (tgt := 220) (by decide) dL_ahead_184 (fun hc184 => ?_) (fun hc184 => ?_)
                      · skip
                        first
                        | omega
                        | exact absurd hc184 (nI_ge (by omega) (by omega))
                        | exact absurd hc184 (by decide)
                        | exact absurd hc184 (nI_pos (by omega))
                        | exact absurd (nI_pos' (by omega)) hc184
                        | exact absurd rfl hc184
                        | exact absurd hc184 (nI_ne0 (by omega) (by omega))
                        | exact hc184 rfl
                        | exact absurd hc184 (nI_n101 (by omega))
                        | exact absurd hc184.symm (nI_n101 (by omega))
                      · skip
                        refine k_aload_n C (f := 0) (i := 0) (p := 8) rfl rfl dL_ahead_187 ?_
                        refine k_callVp C s_L_232 h_X5_hasArrived (L5_s (by assumption)) rfl (ct_X5_hasArrived hx3 hr7) rfl rfl (Nat.le_of_ble_eq_true rfl) ⟨Nat.le_of_ble_eq_true rfl, Nat.le_of_ble_eq_true rfl⟩ ⟨by show _ ≤ 5400; (try dsimp only); omega, by show _ ≤ 33000; (try dsimp only); omega⟩ ⟨rfl, rfl⟩ dL_ahead_188 ?_
                        rw [eab0]
                        first
                        | refine k_ifb_eq C (tgt := 202) (by decide) dL_ahead_191 (fun hc191 => ?_) (fun hc191 => ?_)
                        | refine k_if_eq C (tgt := 202) (by decide) dL_ahead_191 (fun hc191 => ?_) (fun hc191 => ?_)
                        · skip
                          refine k_iload C (i := 6) (p := 3) rfl dL_ahead_202 ?_
                          first
                          | refine k_ifb_eq C (tgt := 220) (by decide) dL_ahead_204 (fun hc204 => ?_) (fun hc204 => ?_)
                          | refine k_if_eq C (tgt := 220) (by decide) dL_ahead_204 (fun hc204 => ?_) (fun hc204 => ?_)
                          · skip
                            first
                            | omega
                            | exact absurd hc204 (nI_ge (by omega) (by omega))
                            | exact absurd hc204 (by decide)
                            | exact absurd hc204 (nI_pos (by omega))
                            | exact absurd (nI_pos' (by omega)) hc204
                            | exact absurd rfl hc204
                            | exact absurd hc204 (nI_ne0 (by omega) (by omega))
                            | exact hc204 rfl
                            | exact absurd hc204 (nI_n101 (by omega))
                            | exact absurd hc204.symm (nI_n101 (by omega))
                          · skip
                            refine k_aload_n C (f := 0) (i := 0) (p := 8) rfl rfl dL_ahead_207 ?_
                            refine k_callSq C s_L_257 h_L_state (ct_L_state hx3 hr7 h3) rfl rfl (Nat.le_of_ble_eq_true rfl) ⟨Nat.le_of_ble_eq_true rfl, Nat.le_of_ble_eq_true rfl⟩ ⟨rfl, rfl⟩ ⟨by show _ ≤ 5400; (try dsimp only); omega, by show _ ≤ 33000; (try dsimp only); omega⟩ dL_ahead_208 ?_
                            refine k_lload_n C (f := 2) (i := 2) (p := 6) rfl rfl dL_ahead_211 ?_
                            refine k_lcmp C dL_ahead_212 ?_
                            rw [lg_self]
                            first
                            | refine k_ifb_ne C (tgt := 220) (by decide) dL_ahead_213 (fun hc213 => ?_) (fun hc213 => ?_)
                            | refine k_if_ne C (tgt := 220) (by decide) dL_ahead_213 (fun hc213 => ?_) (fun hc213 => ?_)
                            · skip
                              first
                              | omega
                              | exact absurd hc213 (nI_ge (by omega) (by omega))
                              | exact absurd hc213 (by decide)
                              | exact absurd hc213 (nI_pos (by omega))
                              | exact absurd (nI_pos' (by omega)) hc213
                              | exact absurd rfl hc213
                              | exact absurd hc213 (nI_ne0 (by omega) (by omega))
                              | exact hc213 rfl
                              | exact absurd hc213 (nI_n101 (by omega))
                              | exact absurd hc213.symm (nI_n101 (by omega))
                            · skip
                              refine k_iconst C ic_1 dL_ahead_216 ?_
                              refine k_goto C (tgt := 221) (by decide) dL_ahead_217 ?_
                              exact k_zret C (by first | rfl | exact am_bz) (by show _ ≤ 5400; (try dsimp only); omega) (by show _ ≤ 33000; (try dsimp only); omega) (⟨hLK, rfl, _, by omega, hR7⟩) dL_ahead_221
                        · skip
                          first
                          | omega
                          | exact absurd hc191 (nI_ge (by omega) (by omega))
                          | exact absurd hc191 (by decide)
                          | exact absurd hc191 (nI_pos (by omega))
                          | exact absurd (nI_pos' (by omega)) hc191
                          | exact absurd rfl hc191
                          | exact absurd hc191 (nI_ne0 (by omega) (by omega))
                          | exact hc191 rfl
                          | exact absurd hc191 (nI_n101 (by omega))
                          | exact absurd hc191.symm (nI_n101 (by omega))
                  · skip
                    obtain ⟨p, hp⟩ : ∃ p : Nat, m - q = p + 1 := ⟨m - q - 1, by omega⟩
                    rw [hp] at hR2b
                    refine k_iload C (i := 9) (p := 1) rfl dL_ahead_154 ?_
                    first
                    | refine k_ifb_eq C (tgt := 182) (by decide) dL_ahead_156 (fun hc156 => ?_) (fun hc156 => ?_)
                    | refine k_if_eq C (tgt := 182) (by decide) dL_ahead_156 (fun hc156 => ?_) (fun hc156 => ?_)
                    · skip
                      first
                      | omega
                      | exact absurd hc156 (nI_ge (by omega) (by omega))
                      | exact absurd hc156 (by decide)
                      | exact absurd hc156 (nI_pos (by omega))
                      | exact absurd (nI_pos' (by omega)) hc156
                      | exact absurd rfl hc156
                      | exact absurd hc156 (nI_ne0 (by omega) (by omega))
                      | exact hc156 rfl
                      | exact absurd hc156 (nI_n101 (by omega))
                      | exact absurd hc156.symm (nI_n101 (by omega))
                    · skip
                      refine k_aload_n C (f := 0) (i := 0) (p := 8) rfl rfl dL_ahead_159 ?_
                      refine k_bipush C bc_7 dL_ahead_160 ?_
                      refine k_iconst C ic_0 dL_ahead_162 ?_
                      refine k_callSgq C s_L_163 h_L_call__ (ct_L_call__ (ct_c7 (u1 := nI 0) (u2 := nI 0) (u3 := nI 0) (u4 := nI 0) (u5 := nI 0) hx3 hR2b (Leg_goN hleg (p + 1)).1) (fun _ _ _ _ h => ⟨_, h.2.2.1⟩)) rfl rfl (Nat.le_of_ble_eq_true rfl) ⟨Nat.le_of_ble_eq_true rfl, Nat.le_of_ble_eq_true rfl⟩ ⟨rfl, rfl⟩ ⟨by show _ ≤ 5400; (try dsimp only); omega, by show _ ≤ 33000; (try dsimp only); omega⟩ dL_ahead_163 ?_
                      intro v I6 hv
                      obtain ⟨rfl, hv2, -⟩ := hv
                      have hct : ¬ min 8 (ct + m) - q = 0 := by omega
                      obtain ⟨hR6, hF6⟩ := hv2 (if_neg hct)
                      rw [if_pos (if_neg hct)]
                      rw [show hsN r hs (p + 1) = sp_push (sp_goN r p) (hsN r hs p) from rfl, push_0, push_s] at hR6
                      show am_K G X _ _ _ _ _ _ _ _ _ (.int (nI (min 8 (ct + m) - q - 1)) :: _)
                      refine k_if_lt C (tgt := 173) (by decide) dL_ahead_166 (fun hc166 => ?_) (fun hc166 => ?_)
                      · skip
                        first
                        | omega
                        | exact absurd hc166 (nI_ge (by omega) (by omega))
                        | exact absurd hc166 (by decide)
                        | exact absurd hc166 (nI_pos (by omega))
                        | exact absurd (nI_pos' (by omega)) hc166
                        | exact absurd rfl hc166
                        | exact absurd hc166 (nI_ne0 (by omega) (by omega))
                        | exact hc166 rfl
                        | exact absurd hc166 (nI_n101 (by omega))
                        | exact absurd hc166.symm (nI_n101 (by omega))
                      · skip
                        refine k_iconst C ic_1 dL_ahead_169 ?_
                        refine k_goto C (tgt := 174) (by decide) dL_ahead_170 ?_
                        refine k_istore C (i := 9) (lv := [(9, _), (10, _), (7, _), (6, _), (5, _), (4, _), (2, _), (1, _), (0, _)]) (Nat.le_of_ble_eq_true rfl) rfl dL_ahead_174 ?_
                        refine k_iinc C (i := 10) (p := 1) (lv := [(10, _), (9, _), (7, _), (6, _), (5, _), (4, _), (2, _), (1, _), (0, _)]) (Nat.le_of_ble_eq_true rfl) rfl (by first | exact am_inc1 _ | rfl) rfl dL_ahead_176 ?_
                        refine k_goto C (tgt := 147) (by decide) dL_ahead_179 ?_
                        refine k_sub [0, 1, 2, 3, 4, 5, 6, 7, 8] rfl ?_
                        refine k_widen ?_ ?_ (ih147 (q + 1) _ (by omega) (hLK.tr (LK.fr hF6)) (by rw [show m - (q + 1) = p by omega, show min 8 (ct + m) - (q + 1) = min 8 (ct + m) - q - 1 by omega]; exact hR6) (by omega))
                        · (try dsimp only); omega
                        · (try dsimp only); omega
              refine k_sub [0, 1, 2, 3, 4, 5, 6, 7, 8] rfl ?_
              refine k_widen ?_ ?_ (loop147 (m + 1) 0 I3 (Nat.zero_le _) hlk4 (RouRel_agree hRS hkp3) (by omega))
              · (try dsimp only); omega
              · (try dsimp only); omega
          · skip
            first
            | omega
            | exact absurd hc113 (nI_ge (by omega) (by omega))
            | exact absurd hc113 (by decide)
            | exact absurd hc113 (nI_pos (by omega))
            | exact absurd (nI_pos' (by omega)) hc113
            | exact absurd rfl hc113
            | exact absurd hc113 (nI_ne0 (by omega) (by omega))
            | exact hc113 rfl
            | exact absurd hc113 (nI_n101 (by omega))
            | exact absurd hc113.symm (nI_n101 (by omega))
    refine k_iconst C ic_0 dL_ahead_34 ?_
    refine k_istore C (i := 7) (lv := [(7, _), (6, _), (5, _), (4, _), (2, _), (0, _), (1, _)]) (Nat.le_of_ble_eq_true rfl) rfl dL_ahead_35 ?_
    refine k_iconst C ic_0 dL_ahead_37 ?_
    refine k_istore C (i := 8) (lv := [(8, _), (7, _), (6, _), (5, _), (4, _), (2, _), (0, _), (1, _)]) (Nat.le_of_ble_eq_true rfl) rfl dL_ahead_38 ?_
    have loop40 : ∀ (f : Nat) (m : Nat) (A : Nat) (S : am_I), (m ≤ D) → (∀ j : Nat, j < m → sp_can (sp_goN r j)) → ((A = 1 ∧ 0 < m ∧ sp_goN r m 0 ≤ sp_goN r m 1) ∨ (A = 0 ∧ (m = 0 ∨ ¬ sp_goN r m 0 ≤ sp_goN r m 1))) → (RFr x I S) → (RouRel S x tb n err (sp_goN r m) (min 8 (ct + m)) (hsN r hs m) kp sn w) → (D - m) < f → am_K G X { frames := 13, cells := 5400, slots := 33000, locals := 400 } 11 Λ S J (1320 + 6 * m) (7900 + 36 * m) 40 [(8, .int (nI A)), (7, .int (nI m)), (6, .int (-101)), (5, .int (nI (sp_living (sp_goN r D)))), (4, .int (nI D)), (2, .long (hash r)), (1, .int wv), (0, .ref x)] [] := by
      intro f
      induction f with
      | zero => intro m A S hm hcan hA hS hRS hf; exact absurd hf (Nat.not_lt_zero _)
      | succ f ih40 =>
        intro m A S hm hcan hA hS hRS hf
        have hlegm := Leg_goN hleg m
        have hrS := RR_r hRS
        obtain ⟨ldm, hldm, hlcm⟩ := RK_ld hlegm.1
        have hncm := hlegm.1.2.2.2.2.1
        refine k_iload C (i := 7) (p := 1) rfl dL_ahead_40 ?_
        refine k_iload C (i := 4) (p := 4) rfl dL_ahead_42 ?_
        first
        | refine k_icmpN_ge C (tgt := 102) (by omega) (by omega) (by decide) dL_ahead_44 (fun hc44 => ?_) (fun hc44 => ?_)
        | refine k_icmp_ge C (tgt := 102) (by decide) dL_ahead_44 (fun hc44 => ?_) (fun hc44 => ?_)
        · skip
          skip
          have hlegm := Leg_goN hleg m
          have hrm := RR_r hRS
          have hmT := (stop_uniq hTc hTn hcan).1
          skip
          · skip
            refine k_sub [1, 2, 3, 4, 5, 6, 7] rfl ?_
            refine k_widen ?_ ?_ (join102 m S hm hcan hS hRS (by first | (rw [show m = D by omega]) | exact hlvno))
            · (try dsimp only); omega
            · (try dsimp only); omega
        · skip
          by_cases hc : sp_can (sp_goN r m)
          · skip
            obtain rfl : A = 0 := by
              rcases hA with ⟨-, -, h⟩ | ⟨h, -⟩
              · exact absurd h hc.1
              · exact h
            have hcan1 : ∀ j : Nat, j < m + 1 → sp_can (sp_goN r j) := fun j hj => by
              by_cases e : j = m
              · subst e; exact hc
              · exact hcan j (by omega)
            have hc2 : ¬ sp_goN r m 0 ≤ sp_goN r m 1 ∧ (sp_goN r m 2 < nI 200 ∧ 0 < sp_living (sp_goN r m)) := hc
            have egs : sp_travel (sp_goN r m) ldm = sp_goN r (m + 1) := by
              rw [goN_s, sp_go1_t hc, hldm, nI_clamp (by omega)]
            obtain ⟨Lm, kmm, hLm, hkm, hLm1, hLm9, hkLm, hwwm⟩ := RK_L hlegm.1
            obtain ⟨dm, hdm, hkdm⟩ := dist_b hlegm.1 hlcm hLm hkm hkLm hLm9
            refine k_aload_n C (f := 0) (i := 0) (p := 7) rfl rfl dL_ahead_47 ?_
            refine k_iconst C ic_0 dL_ahead_48 ?_
            refine k_iconst C ic_0 dL_ahead_49 ?_
            refine k_callSgq C s_L_163 h_L_call__ (ct_L_call__ (ct_c0 (u1 := nI 0) (u2 := nI 0) (u3 := nI 0) (u4 := nI 0) (u5 := nI 0) hx hRS hlegm.1 hldm hlcm) (fun _ _ _ _ h => ⟨_, h.2.2.1⟩)) rfl rfl (Nat.le_of_ble_eq_true rfl) ⟨Nat.le_of_ble_eq_true rfl, Nat.le_of_ble_eq_true rfl⟩ ⟨rfl, rfl⟩ ⟨by show _ ≤ 5400; (try dsimp only); omega, by show _ ≤ 33000; (try dsimp only); omega⟩ dL_ahead_50 ?_
            intro v S1 hv
            obtain ⟨rfl, hv2, -⟩ := hv
            obtain ⟨hRS1, hFS⟩ := hv2 (if_pos hc2)
            rw [egs, show min 8 (min 8 (ct + m) + 1) = min 8 (ct + (m + 1)) by omega] at hRS1
            rw [if_pos (if_pos hc2), hdm]
            show am_K G X _ _ _ _ _ _ _ _ _ (.int (nI dm) :: _)
            have hS1 := hS.tr hFS
            have hrS1 := RR_r hRS1
            refine k_if_lt C (tgt := 102) (by decide) dL_ahead_53 (fun hc53 => ?_) (fun hc53 => ?_)
            · skip
              first
              | omega
              | exact absurd hc53 (nI_ge (by omega) (by omega))
              | exact absurd hc53 (by decide)
              | exact absurd hc53 (nI_pos (by omega))
              | exact absurd (nI_pos' (by omega)) hc53
              | exact absurd rfl hc53
              | exact absurd hc53 (nI_ne0 (by omega) (by omega))
              | exact hc53 rfl
              | exact absurd hc53 (nI_n101 (by omega))
              | exact absurd hc53.symm (nI_n101 (by omega))
            · skip
              refine k_iinc C (i := 7) (p := 1) (lv := [(7, _), (8, _), (6, _), (5, _), (4, _), (2, _), (1, _), (0, _)]) (Nat.le_of_ble_eq_true rfl) rfl (by first | exact am_inc1 _ | rfl) rfl dL_ahead_56 ?_
              have ha : ¬ sp_goN r (m + 1) 0 ≤ sp_goN r (m + 1) 1 := fun z => har (by rw [← (stop_uniq hTc hTn hcan1).2 (fun c => c.1 z)]; exact z)
              · skip
                have eab : am_b (sp_goN r (m + 1) 0 ≤ sp_goN r (m + 1) 1) = nI 0 := (am_bf ha).symm
                refine k_aload_n C (f := 0) (i := 0) (p := 7) rfl rfl dL_ahead_59 ?_
                refine k_callVp C s_L_232 h_X5_hasArrived (L5_s (by assumption)) rfl (ct_X5_hasArrived hx hrS1) rfl rfl (Nat.le_of_ble_eq_true rfl) ⟨Nat.le_of_ble_eq_true rfl, Nat.le_of_ble_eq_true rfl⟩ ⟨by show _ ≤ 5400; (try dsimp only); omega, by show _ ≤ 33000; (try dsimp only); omega⟩ ⟨rfl, rfl⟩ dL_ahead_60 ?_
                rw [eab]
                first
                | refine k_ifb_eq C (tgt := 80) (by decide) dL_ahead_63 (fun hc63 => ?_) (fun hc63 => ?_)
                | refine k_if_eq C (tgt := 80) (by decide) dL_ahead_63 (fun hc63 => ?_) (fun hc63 => ?_)
                · skip
                  refine k_iload C (i := 8) (p := 1) rfl dL_ahead_80 ?_
                  first
                  | refine k_ifb_ne C (tgt := 92) (by decide) dL_ahead_82 (fun hc82 => ?_) (fun hc82 => ?_)
                  | refine k_if_ne C (tgt := 92) (by decide) dL_ahead_82 (fun hc82 => ?_) (fun hc82 => ?_)
                  · skip
                    first
                    | omega
                    | exact absurd hc82 (nI_ge (by omega) (by omega))
                    | exact absurd hc82 (by decide)
                    | exact absurd hc82 (nI_pos (by omega))
                    | exact absurd (nI_pos' (by omega)) hc82
                    | exact absurd rfl hc82
                    | exact absurd hc82 (nI_ne0 (by omega) (by omega))
                    | exact hc82 rfl
                    | exact absurd hc82 (nI_n101 (by omega))
                    | exact absurd hc82.symm (nI_n101 (by omega))
                  · skip
                    refine k_aload_n C (f := 0) (i := 0) (p := 7) rfl rfl dL_ahead_85 ?_
                    refine k_callVp C s_L_232 h_X5_hasArrived (L5_s (by assumption)) rfl (ct_X5_hasArrived hx hrS1) rfl rfl (Nat.le_of_ble_eq_true rfl) ⟨Nat.le_of_ble_eq_true rfl, Nat.le_of_ble_eq_true rfl⟩ ⟨by show _ ≤ 5400; (try dsimp only); omega, by show _ ≤ 33000; (try dsimp only); omega⟩ ⟨rfl, rfl⟩ dL_ahead_86 ?_
                    rw [eab]
                    first
                    | refine k_ifb_eq C (tgt := 96) (by decide) dL_ahead_89 (fun hc89 => ?_) (fun hc89 => ?_)
                    | refine k_if_eq C (tgt := 96) (by decide) dL_ahead_89 (fun hc89 => ?_) (fun hc89 => ?_)
                    · skip
                      refine k_iconst C ic_0 dL_ahead_96 ?_
                      refine k_istore C (i := 8) (lv := [(8, _), (7, _), (6, _), (5, _), (4, _), (2, _), (1, _), (0, _)]) (Nat.le_of_ble_eq_true rfl) rfl dL_ahead_97 ?_
                      refine k_goto C (tgt := 40) (by decide) dL_ahead_99 ?_
                      refine k_sub [0, 1, 2, 3, 4, 5, 6, 7] rfl ?_
                      refine k_widen ?_ ?_ (ih40 (m + 1) _ _ (by omega) hcan1 (Or.inr ⟨rfl, Or.inr ha⟩) hS1 hRS1 (by omega))
                      · (try dsimp only); omega
                      · (try dsimp only); omega
                    · skip
                      first
                      | omega
                      | exact absurd hc89 (nI_ge (by omega) (by omega))
                      | exact absurd hc89 (by decide)
                      | exact absurd hc89 (nI_pos (by omega))
                      | exact absurd (nI_pos' (by omega)) hc89
                      | exact absurd rfl hc89
                      | exact absurd hc89 (nI_ne0 (by omega) (by omega))
                      | exact hc89 rfl
                      | exact absurd hc89 (nI_n101 (by omega))
                      | exact absurd hc89.symm (nI_n101 (by omega))
                · skip
                  first
                  | omega
                  | exact absurd hc63 (nI_ge (by omega) (by omega))
                  | exact absurd hc63 (by decide)
                  | exact absurd hc63 (nI_pos (by omega))
                  | exact absurd (nI_pos' (by omega)) hc63
                  | exact absurd rfl hc63
                  | exact absurd hc63 (nI_ne0 (by omega) (by omega))
                  | exact hc63 rfl
                  | exact absurd hc63 (nI_n101 (by omega))
                  | exact absurd hc63.symm (nI_n101 (by omega))
          · skip
            have hc2 : ¬ (¬ sp_goN r m 0 ≤ sp_goN r m 1 ∧ (sp_goN r m 2 < nI 200 ∧ 0 < sp_living (sp_goN r m))) := hc
            have hlvno : sp_living (sp_goN r m) = sp_living (sp_goN r D) := by
              have e := sp_goN_fix hc (D - m)
              rw [show m + (D - m) = D by omega] at e
              rw [e]
            refine k_aload_n C (f := 0) (i := 0) (p := 7) rfl rfl dL_ahead_47 ?_
            refine k_iconst C ic_0 dL_ahead_48 ?_
            refine k_iconst C ic_0 dL_ahead_49 ?_
            refine k_callSgq C s_L_163 h_L_call__ (ct_L_call__ (ct_c0 (u1 := nI 0) (u2 := nI 0) (u3 := nI 0) (u4 := nI 0) (u5 := nI 0) hx hRS hlegm.1 hldm hlcm) (fun _ _ _ _ h => ⟨_, h.2.2.1⟩)) rfl rfl (Nat.le_of_ble_eq_true rfl) ⟨Nat.le_of_ble_eq_true rfl, Nat.le_of_ble_eq_true rfl⟩ ⟨rfl, rfl⟩ ⟨by show _ ≤ 5400; (try dsimp only); omega, by show _ ≤ 33000; (try dsimp only); omega⟩ dL_ahead_50 ?_
            intro v S1 hv
            obtain ⟨rfl, -, hv3⟩ := hv
            have e2 := (hv3 (by rw [if_neg hc2]; decide)).symm
            subst e2
            rw [if_neg (by rw [if_neg hc2]; decide)]
            show am_K G X _ _ _ _ _ _ _ _ _ (.int (-102) :: _)
            refine k_if_lt C (tgt := 102) (by decide) dL_ahead_53 (fun hc53 => ?_) (fun hc53 => ?_)
            · skip
              have hlegm := Leg_goN hleg m
              have hrm := RR_r hRS
              have hmT := (stop_uniq hTc hTn hcan).1
              skip
              · skip
                refine k_sub [1, 2, 3, 4, 5, 6, 7] rfl ?_
                refine k_widen ?_ ?_ (join102 m S hm hcan hS hRS (by first | (rw [show m = D by omega]) | exact hlvno))
                · (try dsimp only); omega
                · (try dsimp only); omega
            · skip
              first
              | omega
              | exact absurd hc53 (nI_ge (by omega) (by omega))
              | exact absurd hc53 (by decide)
              | exact absurd hc53 (nI_pos (by omega))
              | exact absurd (nI_pos' (by omega)) hc53
              | exact absurd rfl hc53
              | exact absurd hc53 (nI_ne0 (by omega) (by omega))
              | exact hc53 rfl
              | exact absurd hc53 (nI_n101 (by omega))
              | exact absurd hc53.symm (nI_n101 (by omega))
    refine k_sub [0, 1, 2, 3, 4, 5, 7, 6] rfl ?_
    refine k_widen ?_ ?_ (loop40 (D + 1) 0 0 I2 (Nat.zero_le _) (fun j hj => absurd hj (Nat.not_lt_zero j)) (Or.inr ⟨rfl, Or.inl rfl⟩) (hF1.tr hF2) (by rw [goN_0, hsN_0, show min 8 (ct + 0) = ct by omega]; exact hR2) (by omega))
    · (try dsimp only); omega
    · (try dsimp only); omega
