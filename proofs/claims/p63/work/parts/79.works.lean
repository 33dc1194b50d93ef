set_option maxHeartbeats 4000000 in
set_option maxRecDepth 100000 in
theorem ct_L_works {G : am_G} {Λ : am_L} {I : am_I} {J : am_J} {wv : Int32} {x n ct : Nat} {tb : Nat → Nat} {err : Int32} {r : Nat → Int32} {hs : Nat → Nat → Int32} {kp : Nat → Bool} {sn : Nat → Nat → Int32} {w : Nat × (Nat → Int32)} (hx : RouLay Λ x) (hR : RouRel I x tb n err r ct hs kp sn w) (hleg : Leg r) : am_Ct G yL_works cL_works 18 (some .boolean) { frames := 13, cells := 60600, slots := 374000, locals := 400 } [.ref x, .int wv] Λ I J (am_lk x Λ I (fun v I' => v = some (.int (nI 1)) ∧ ∃ ct' : Nat, ct' ≤ ct ∧ RouRel I' x tb n err r ct' hs kp sn w)) am_never := by
  refine am_ct_of (own := RL) rfl (by decide) (Nat.le_of_ble_eq_true rfl) (fun X C => ?_)
  change am_K G X { frames := 13, cells := 60600, slots := 374000, locals := 400 } 18 Λ I J 0 0 0 [(0, .ref x), (1, .int wv)] []
  have hok := hleg.1
  obtain ⟨L, km, hL, hk, hL1, hL9, hkL, hww⟩ := RK_L hok
  obtain ⟨ld, hld, hlc⟩ := RK_ld hok
  have hnc := hok.2.2.2.2.1
  have hwk := RK_w hok
  have hr := RR_r hR
  have h3 := RK_3 hok
  refine k_aload_n C (f := 0) (i := 0) (p := 0) rfl rfl dL_works_0 ?_
  refine k_callSq C s_L_257 h_L_state (ct_L_state (by first | assumption | omega) (by first | assumption | omega) (by first | assumption | omega)) rfl rfl (Nat.le_of_ble_eq_true rfl) ⟨Nat.le_of_ble_eq_true rfl, Nat.le_of_ble_eq_true rfl⟩ ⟨rfl, rfl⟩ ⟨by show _ ≤ 60600; (try dsimp only); omega, by show _ ≤ 374000; (try dsimp only); omega⟩ dL_works_1 ?_
  refine k_lstore_n C (f := 2) (i := 2) (lv := [(2, _), (0, _), (1, _)]) rfl (Nat.le_of_ble_eq_true rfl) rfl dL_works_4 ?_
  refine k_iconst C ic_1 dL_works_5 ?_
  refine k_istore C (i := 4) (lv := [(4, _), (2, _), (0, _), (1, _)]) (Nat.le_of_ble_eq_true rfl) rfl dL_works_6 ?_
  have join369 : ∀ (Λa : am_L) (Ia : am_I) (Ja : am_J) (ca : Nat), (LK x Λ I Λa Ia) → (RouRel Ia x tb n err r ca hs kp sn w) → (ca ≤ ct) → am_K G X { frames := 13, cells := 60600, slots := 374000, locals := 400 } 18 Λa Ia Ja (4300) (26200) 369 [(6, .int (nI (sp_nc r))), (4, .int (nI 1)), (2, .long (hash r)), (1, .int wv), (0, .ref x)] [] := by
    intro Λa Ia Ja ca ha1 ha2 ha3
    refine k_iconst C ic_0 dL_works_369 ?_
    refine k_istore C (i := 12) (lv := [(12, _), (6, _), (4, _), (2, _), (1, _), (0, _)]) (Nat.le_of_ble_eq_true rfl) rfl dL_works_370 ?_
    have loop372 : ∀ (f : Nat) (k : Nat) (Λb : am_L) (Sb : am_I) (Jb : am_J) (cb : Nat), (k ≤ sp_nl r) → (LK x Λ I Λb Sb) → (RouRel Sb x tb n err r cb hs kp sn w) → (cb ≤ ct) → (sp_nl r - k) < f → am_K G X { frames := 13, cells := 60600, slots := 374000, locals := 400 } 18 Λb Sb Jb (4310 + 2700 * k) (26300 + 16700 * k) 372 [(12, .int (nI k)), (6, .int (nI (sp_nc r))), (4, .int (nI 1)), (2, .long (hash r)), (1, .int wv), (0, .ref x)] [] := by
      intro f
      induction f with
      | zero => intro k Λb Sb Jb cb hk1 hb1 hb2 hb3 hf; exact absurd hf (Nat.not_lt_zero _)
      | succ f ih372 =>
        intro k Λb Sb Jb cb hk1 hb1 hb2 hb3 hf
        have hxb := hb1.lay hx
        have hrb := RR_r hb2
        refine k_iload C (i := 12) (p := 0) rfl dL_works_372 ?_
        refine k_aload_n C (f := 0) (i := 0) (p := 5) rfl rfl dL_works_374 ?_
        refine k_callVp C s_L_228 h_X5_loadCount (L5_s (by assumption)) rfl (ct_X5_loadCount (by first | assumption | omega) (by first | assumption | omega)) rfl rfl (Nat.le_of_ble_eq_true rfl) ⟨Nat.le_of_ble_eq_true rfl, Nat.le_of_ble_eq_true rfl⟩ ⟨by show _ ≤ 60600; (try dsimp only); omega, by show _ ≤ 374000; (try dsimp only); omega⟩ ⟨rfl, rfl⟩ dL_works_375 ?_
        first
        | refine k_icmpN_ge C (tgt := 653) (by omega) (by omega) (by decide) dL_works_378 (fun hc378 => ?_) (fun hc378 => ?_)
        | refine k_icmp_ge C (tgt := 653) (by decide) dL_works_378 (fun hc378 => ?_) (fun hc378 => ?_)
        · skip
          obtain rfl : k = sp_nl r := by omega
          refine k_iconst C ic_0 dL_works_653 ?_
          refine k_istore C (i := 12) (lv := [(12, _), (6, _), (4, _), (2, _), (1, _), (0, _)]) (Nat.le_of_ble_eq_true rfl) rfl dL_works_654 ?_
          have loop656 : ∀ (f : Nat) (k : Nat) (Sd : am_I) (cd : Nat), (k ≤ sp_nc r) → (LK x Λ I Λb Sd) → (RouRel Sd x tb n err r cd hs kp sn w) → (cd ≤ ct) → (sp_nc r - k) < f → am_K G X { frames := 13, cells := 60600, slots := 374000, locals := 400 } 18 Λb Sd Jb (58400 + 60 * k) (360400 + 370 * k) 656 [(12, .int (nI k)), (6, .int (nI (sp_nc r))), (4, .int (nI 1)), (2, .long (hash r)), (1, .int wv), (0, .ref x)] [] := by
            intro f
            induction f with
            | zero => intro k Sd cd hk1 hd1 hd2 hd3 hf; exact absurd hf (Nat.not_lt_zero _)
            | succ f ih656 =>
              intro k Sd cd hk1 hd1 hd2 hd3 hf
              have hrd := RR_r hd2
              refine k_iload C (i := 12) (p := 0) rfl dL_works_656 ?_
              refine k_iload C (i := 6) (p := 1) rfl dL_works_658 ?_
              first
              | refine k_icmpN_ge C (tgt := 760) (by omega) (by omega) (by decide) dL_works_660 (fun hc660 => ?_) (fun hc660 => ?_)
              | refine k_icmp_ge C (tgt := 760) (by decide) dL_works_660 (fun hc660 => ?_) (fun hc660 => ?_)
              · skip
                obtain rfl : k = sp_nc r := by omega
                have hR18 := hd2
                rcases h3 with hst | hst
                · skip
                  have eb : am_b (r 3 = nI 1) = nI 0 := (am_bf (by rw [hst]; decide)).symm
                  refine k_aload_n C (f := 0) (i := 0) (p := 5) rfl rfl dL_works_760 ?_
                  refine k_callVp C s_L_213 h_X5_isStopping (L5_s (by assumption)) rfl (ct_X5_isStopping hxb hrd (RK_3 hok)) rfl rfl (Nat.le_of_ble_eq_true rfl) ⟨Nat.le_of_ble_eq_true rfl, Nat.le_of_ble_eq_true rfl⟩ ⟨by show _ ≤ 60600; (try dsimp only); omega, by show _ ≤ 374000; (try dsimp only); omega⟩ ⟨rfl, rfl⟩ dL_works_761 ?_
                  rw [eb]
                  refine k_istore C (i := 12) (lv := [(12, _), (6, _), (4, _), (2, _), (1, _), (0, _)]) (Nat.le_of_ble_eq_true rfl) rfl dL_works_764 ?_
                  refine k_iload C (i := 4) (p := 2) rfl dL_works_766 ?_
                  first
                  | refine k_ifb_eq C (tgt := 832) (by decide) dL_works_768 (fun hc768 => ?_) (fun hc768 => ?_)
                  | refine k_if_eq C (tgt := 832) (by decide) dL_works_768 (fun hc768 => ?_) (fun hc768 => ?_)
                  · skip
                    first
                    | omega
                    | exact absurd hc768 (nI_ge (by omega) (by omega))
                    | exact absurd hc768 (by decide)
                    | exact absurd hc768 (nI_pos (by omega))
                    | exact absurd (nI_pos' (by omega)) hc768
                    | exact absurd rfl hc768
                    | exact absurd hc768 (nI_ne0 (by omega) (by omega))
                    | exact hc768 rfl
                    | contradiction
                    | exact absurd hc768 (nI_n101 (by omega))
                    | exact absurd hc768.symm (nI_n101 (by omega))
                    | (simp_all; done)
                  · skip
                    refine k_aload_n C (f := 0) (i := 0) (p := 5) rfl rfl dL_works_771 ?_
                    refine k_iload C (i := 12) (p := 0) rfl dL_works_772 ?_
                    first
                    | refine k_ifb_ne C (tgt := 781) (by decide) dL_works_774 (fun hc774 => ?_) (fun hc774 => ?_)
                    | refine k_if_ne C (tgt := 781) (by decide) dL_works_774 (fun hc774 => ?_) (fun hc774 => ?_)
                    · skip
                      first
                      | omega
                      | exact absurd hc774 (nI_ge (by omega) (by omega))
                      | exact absurd hc774 (by decide)
                      | exact absurd hc774 (nI_pos (by omega))
                      | exact absurd (nI_pos' (by omega)) hc774
                      | exact absurd rfl hc774
                      | exact absurd hc774 (nI_ne0 (by omega) (by omega))
                      | exact hc774 rfl
                      | contradiction
                      | exact absurd hc774 (nI_n101 (by omega))
                      | exact absurd hc774.symm (nI_n101 (by omega))
                      | (simp_all; done)
                    · skip
                      refine k_iconst C ic_1 dL_works_777 ?_
                      refine k_goto C (tgt := 782) (by decide) dL_works_778 ?_
                      refine k_callVl C s_L_275 h_X5_setStopping (L5_s (by assumption)) rfl (ct_X5_setStopping (b := nI 1) hxb hd2 hok (Or.inr rfl)) rfl rfl (Nat.le_of_ble_eq_true rfl) ⟨Nat.le_of_ble_eq_true rfl, Nat.le_of_ble_eq_true rfl⟩ ⟨rfl, rfl⟩ ⟨by show _ ≤ 60600; (try dsimp only); omega, by show _ ≤ 374000; (try dsimp only); omega⟩ dL_works_782 ?_
                      intro v Λ9 I19 J9 hv
                      obtain ⟨rfl, -, rfl, rfl, hR19, hF19⟩ := hv
                      rw [eb]
                      show am_K G X _ _ _ _ _ _ _ _ _ (.int (nI 0) :: _)
                      have hleg19 : Leg (upd r 3 (nI 1)) := Leg_stop hleg (Or.inr rfl)
                      have q3 : am_b (upd r 3 (nI 1) 3 = nI 1) = nI 1 := by rw [upd_eq]; rfl
                      have q4 : upd r 3 (nI 1) 4 = nI ld := by rw [upd_ne (by decide), hld]
                      have q6 : sp_nc (upd r 3 (nI 1)) = sp_nc r := sp_nc_upd (by decide)
                      generalize upd r 3 (nI 1) = R at hR19 hleg19 q3 q4 q6
                      have hr19 := RR_r hR19
                      have hok19 := hleg19.1
                      have hwk19 := RK_w hok19
                      have h319 := RK_3 hok19
                      have hlc19 : ld < sp_nc R := by omega
                      refine k_iload C (i := 12) (p := 0) rfl dL_works_785 ?_
                      first
                      | refine k_icmpN_ne C (tgt := 832) (by omega) (by omega) (by decide) dL_works_787 (fun hc787 => ?_) (fun hc787 => ?_)
                      | refine k_icmp_ne C (tgt := 832) (by decide) dL_works_787 (fun hc787 => ?_) (fun hc787 => ?_)
                      · skip
                        first
                        | omega
                        | exact absurd hc787 (nI_ge (by omega) (by omega))
                        | exact absurd hc787 (by decide)
                        | exact absurd hc787 (nI_pos (by omega))
                        | exact absurd (nI_pos' (by omega)) hc787
                        | exact absurd rfl hc787
                        | exact absurd hc787 (nI_ne0 (by omega) (by omega))
                        | exact hc787 rfl
                        | contradiction
                        | exact absurd hc787 (nI_n101 (by omega))
                        | exact absurd hc787.symm (nI_n101 (by omega))
                        | (simp_all; done)
                      · skip
                        refine k_aload_n C (f := 0) (i := 0) (p := 5) rfl rfl dL_works_790 ?_
                        refine k_callVp C s_L_213 h_X5_isStopping (L5_s (by assumption)) rfl (ct_X5_isStopping hxb hr19 h319) rfl rfl (Nat.le_of_ble_eq_true rfl) ⟨Nat.le_of_ble_eq_true rfl, Nat.le_of_ble_eq_true rfl⟩ ⟨by show _ ≤ 60600; (try dsimp only); omega, by show _ ≤ 374000; (try dsimp only); omega⟩ ⟨rfl, rfl⟩ dL_works_791 ?_
                        rw [q3]
                        refine k_iload C (i := 12) (p := 0) rfl dL_works_794 ?_
                        first
                        | refine k_ifb_ne C (tgt := 803) (by decide) dL_works_796 (fun hc796 => ?_) (fun hc796 => ?_)
                        | refine k_if_ne C (tgt := 803) (by decide) dL_works_796 (fun hc796 => ?_) (fun hc796 => ?_)
                        · skip
                          first
                          | omega
                          | exact absurd hc796 (nI_ge (by omega) (by omega))
                          | exact absurd hc796 (by decide)
                          | exact absurd hc796 (nI_pos (by omega))
                          | exact absurd (nI_pos' (by omega)) hc796
                          | exact absurd rfl hc796
                          | exact absurd hc796 (nI_ne0 (by omega) (by omega))
                          | exact hc796 rfl
                          | contradiction
                          | exact absurd hc796 (nI_n101 (by omega))
                          | exact absurd hc796.symm (nI_n101 (by omega))
                          | (simp_all; done)
                        · skip
                          refine k_iconst C ic_1 dL_works_799 ?_
                          refine k_goto C (tgt := 804) (by decide) dL_works_800 ?_
                          first
                          | refine k_icmpN_ne C (tgt := 832) (by omega) (by omega) (by decide) dL_works_804 (fun hc804 => ?_) (fun hc804 => ?_)
                          | refine k_icmp_ne C (tgt := 832) (by decide) dL_works_804 (fun hc804 => ?_) (fun hc804 => ?_)
                          · skip
                            first
                            | omega
                            | exact absurd hc804 (nI_ge (by omega) (by omega))
                            | exact absurd hc804 (by decide)
                            | exact absurd hc804 (nI_pos (by omega))
                            | exact absurd (nI_pos' (by omega)) hc804
                            | exact absurd rfl hc804
                            | exact absurd hc804 (nI_ne0 (by omega) (by omega))
                            | exact hc804 rfl
                            | contradiction
                            | exact absurd hc804 (nI_n101 (by omega))
                            | exact absurd hc804.symm (nI_n101 (by omega))
                            | (simp_all; done)
                          · skip
                            refine k_aload_n C (f := 0) (i := 0) (p := 5) rfl rfl dL_works_807 ?_
                            refine k_callVp C s_L_265 h_X5_distanceToday (L5_s (by assumption)) rfl (ct_X5_distanceToday hxb hr19 q4 hlc19 h319 hwk19) rfl rfl (Nat.le_of_ble_eq_true rfl) ⟨Nat.le_of_ble_eq_true rfl, Nat.le_of_ble_eq_true rfl⟩ ⟨by show _ ≤ 60600; (try dsimp only); omega, by show _ ≤ 374000; (try dsimp only); omega⟩ ⟨rfl, rfl⟩ dL_works_808 ?_
                            rw [show (if sp_living R = 0 then nI 0 else sp_dist R ld) = dis R ld from rfl]
                            refine k_aload_n C (f := 0) (i := 0) (p := 5) rfl rfl dL_works_811 ?_
                            refine k_callSq C s_L_261 h_L_distance (ct_L_distance hxb hr19 hok19 q4 hlc19) rfl rfl (Nat.le_of_ble_eq_true rfl) ⟨Nat.le_of_ble_eq_true rfl, Nat.le_of_ble_eq_true rfl⟩ ⟨rfl, rfl⟩ ⟨by show _ ≤ 60600; (try dsimp only); omega, by show _ ≤ 374000; (try dsimp only); omega⟩ dL_works_812 ?_
                            first
                            | refine k_icmpN_ne C (tgt := 832) (by omega) (by omega) (by decide) dL_works_815 (fun hc815 => ?_) (fun hc815 => ?_)
                            | refine k_icmp_ne C (tgt := 832) (by decide) dL_works_815 (fun hc815 => ?_) (fun hc815 => ?_)
                            · skip
                              first
                              | omega
                              | exact absurd hc815 (nI_ge (by omega) (by omega))
                              | exact absurd hc815 (by decide)
                              | exact absurd hc815 (nI_pos (by omega))
                              | exact absurd (nI_pos' (by omega)) hc815
                              | exact absurd rfl hc815
                              | exact absurd hc815 (nI_ne0 (by omega) (by omega))
                              | exact hc815 rfl
                              | contradiction
                              | exact absurd hc815 (nI_n101 (by omega))
                              | exact absurd hc815.symm (nI_n101 (by omega))
                              | (simp_all; done)
                            · skip
                              refine k_aload_n C (f := 0) (i := 0) (p := 5) rfl rfl dL_works_818 ?_
                              refine k_bipush C bc_7 dL_works_819 ?_
                              refine k_iconst C ic_0 dL_works_821 ?_
                              refine k_callSgq C s_L_163 h_L_call__ (ct_L_call__ (ct_c7 (u1 := nI 0) (u2 := nI 0) (u3 := nI 0) (u4 := nI 0) (u5 := nI 0) (hxb) (hR19) (hok19)) (fun _ _ _ _ h => ⟨_, h.2.2.1⟩)) rfl rfl (Nat.le_of_ble_eq_true rfl) ⟨Nat.le_of_ble_eq_true rfl, Nat.le_of_ble_eq_true rfl⟩ ⟨rfl, rfl⟩ ⟨by show _ ≤ 60600; (try dsimp only); omega, by show _ ≤ 374000; (try dsimp only); omega⟩ dL_works_822 ?_
                              intro v I20 hv
                              obtain ⟨rfl, hv2, -⟩ := hv
                              have hct20 : ¬ min 8 (cd + 1) = 0 := by omega
                              obtain ⟨hR20, hF20⟩ := hv2 (if_neg hct20)
                              rw [if_pos (if_neg hct20)]
                              rw [push_0, push_s] at hR20
                              show am_K G X _ _ _ _ _ _ _ _ _ (.int (nI (min 8 (cd + 1) - 1)) :: _)
                              refine k_if_lt C (tgt := 832) (by decide) dL_works_825 (fun hc825 => ?_) (fun hc825 => ?_)
                              · skip
                                first
                                | omega
                                | exact absurd hc825 (nI_ge (by omega) (by omega))
                                | exact absurd hc825 (by decide)
                                | exact absurd hc825 (nI_pos (by omega))
                                | exact absurd (nI_pos' (by omega)) hc825
                                | exact absurd rfl hc825
                                | exact absurd hc825 (nI_ne0 (by omega) (by omega))
                                | exact hc825 rfl
                                | contradiction
                                | exact absurd hc825 (nI_n101 (by omega))
                                | exact absurd hc825.symm (nI_n101 (by omega))
                                | (simp_all; done)
                              · skip
                                refine k_iconst C ic_1 dL_works_828 ?_
                                refine k_goto C (tgt := 833) (by decide) dL_works_829 ?_
                                refine k_istore C (i := 4) (lv := [(4, _), (12, _), (6, _), (2, _), (1, _), (0, _)]) (Nat.le_of_ble_eq_true rfl) rfl dL_works_833 ?_
                                refine k_iload C (i := 4) (p := 0) rfl dL_works_835 ?_
                                first
                                | refine k_ifb_eq C (tgt := 853) (by decide) dL_works_837 (fun hc837 => ?_) (fun hc837 => ?_)
                                | refine k_if_eq C (tgt := 853) (by decide) dL_works_837 (fun hc837 => ?_) (fun hc837 => ?_)
                                · skip
                                  first
                                  | exact absurd hc837 (by decide)
                                  | exact absurd (by decide) hc837
                                · skip
                                  refine k_aload_n C (f := 0) (i := 0) (p := 5) rfl rfl dL_works_840 ?_
                                  refine k_callSq C s_L_257 h_L_state (ct_L_state hxb (RR_r hR20) (RK_3 hok)) rfl rfl (Nat.le_of_ble_eq_true rfl) ⟨Nat.le_of_ble_eq_true rfl, Nat.le_of_ble_eq_true rfl⟩ ⟨rfl, rfl⟩ ⟨by show _ ≤ 60600; (try dsimp only); omega, by show _ ≤ 374000; (try dsimp only); omega⟩ dL_works_841 ?_
                                  refine k_lload_n C (f := 2) (i := 2) (p := 3) rfl rfl dL_works_844 ?_
                                  refine k_lcmp C dL_works_845 ?_
                                  rw [lg_self]
                                  first
                                  | refine k_ifb_ne C (tgt := 853) (by decide) dL_works_846 (fun hc846 => ?_) (fun hc846 => ?_)
                                  | refine k_if_ne C (tgt := 853) (by decide) dL_works_846 (fun hc846 => ?_) (fun hc846 => ?_)
                                  · skip
                                    first
                                    | omega
                                    | exact absurd hc846 (nI_ge (by omega) (by omega))
                                    | exact absurd hc846 (by decide)
                                    | exact absurd hc846 (nI_pos (by omega))
                                    | exact absurd (nI_pos' (by omega)) hc846
                                    | exact absurd rfl hc846
                                    | exact absurd hc846 (nI_ne0 (by omega) (by omega))
                                    | exact hc846 rfl
                                    | contradiction
                                    | exact absurd hc846 (nI_n101 (by omega))
                                    | exact absurd hc846.symm (nI_n101 (by omega))
                                    | (simp_all; done)
                                  · skip
                                    refine k_iconst C ic_1 dL_works_849 ?_
                                    refine k_goto C (tgt := 854) (by decide) dL_works_850 ?_
                                    exact k_zret C (by first | rfl | exact am_bz) (by show _ ≤ 60600; (try dsimp only); omega) (by show _ ≤ 374000; (try dsimp only); omega) (⟨hd1.tr (LK.fr (hF19.tr hF20)), rfl, _, by omega, hR20⟩) dL_works_854
                · skip
                  have eb : am_b (r 3 = nI 1) = nI 1 := (am_bt hst).symm
                  refine k_aload_n C (f := 0) (i := 0) (p := 5) rfl rfl dL_works_760 ?_
                  refine k_callVp C s_L_213 h_X5_isStopping (L5_s (by assumption)) rfl (ct_X5_isStopping hxb hrd (RK_3 hok)) rfl rfl (Nat.le_of_ble_eq_true rfl) ⟨Nat.le_of_ble_eq_true rfl, Nat.le_of_ble_eq_true rfl⟩ ⟨by show _ ≤ 60600; (try dsimp only); omega, by show _ ≤ 374000; (try dsimp only); omega⟩ ⟨rfl, rfl⟩ dL_works_761 ?_
                  rw [eb]
                  refine k_istore C (i := 12) (lv := [(12, _), (6, _), (4, _), (2, _), (1, _), (0, _)]) (Nat.le_of_ble_eq_true rfl) rfl dL_works_764 ?_
                  refine k_iload C (i := 4) (p := 2) rfl dL_works_766 ?_
                  first
                  | refine k_ifb_eq C (tgt := 832) (by decide) dL_works_768 (fun hc768 => ?_) (fun hc768 => ?_)
                  | refine k_if_eq C (tgt := 832) (by decide) dL_works_768 (fun hc768 => ?_) (fun hc768 => ?_)
                  · skip
                    first
                    | omega
                    | exact absurd hc768 (nI_ge (by omega) (by omega))
                    | exact absurd hc768 (by decide)
                    | exact absurd hc768 (nI_pos (by omega))
                    | exact absurd (nI_pos' (by omega)) hc768
                    | exact absurd rfl hc768
                    | exact absurd hc768 (nI_ne0 (by omega) (by omega))
                    | exact hc768 rfl
                    | contradiction
                    | exact absurd hc768 (nI_n101 (by omega))
                    | exact absurd hc768.symm (nI_n101 (by omega))
                    | (simp_all; done)
                  · skip
                    refine k_aload_n C (f := 0) (i := 0) (p := 5) rfl rfl dL_works_771 ?_
                    refine k_iload C (i := 12) (p := 0) rfl dL_works_772 ?_
                    first
                    | refine k_ifb_ne C (tgt := 781) (by decide) dL_works_774 (fun hc774 => ?_) (fun hc774 => ?_)
                    | refine k_if_ne C (tgt := 781) (by decide) dL_works_774 (fun hc774 => ?_) (fun hc774 => ?_)
                    · skip
                      refine k_iconst C ic_0 dL_works_781 ?_
                      refine k_callVl C s_L_275 h_X5_setStopping (L5_s (by assumption)) rfl (ct_X5_setStopping (b := nI 0) hxb hd2 hok (Or.inl rfl)) rfl rfl (Nat.le_of_ble_eq_true rfl) ⟨Nat.le_of_ble_eq_true rfl, Nat.le_of_ble_eq_true rfl⟩ ⟨rfl, rfl⟩ ⟨by show _ ≤ 60600; (try dsimp only); omega, by show _ ≤ 374000; (try dsimp only); omega⟩ dL_works_782 ?_
                      intro v Λ9 I19 J9 hv
                      obtain ⟨rfl, -, rfl, rfl, hR19, hF19⟩ := hv
                      rw [eb]
                      show am_K G X _ _ _ _ _ _ _ _ _ (.int (nI 1) :: _)
                      have hleg19 : Leg (upd r 3 (nI 0)) := Leg_stop hleg (Or.inl rfl)
                      have q3 : am_b (upd r 3 (nI 0) 3 = nI 1) = nI 0 := by rw [upd_eq]; rfl
                      have q4 : upd r 3 (nI 0) 4 = nI ld := by rw [upd_ne (by decide), hld]
                      have q6 : sp_nc (upd r 3 (nI 0)) = sp_nc r := sp_nc_upd (by decide)
                      generalize upd r 3 (nI 0) = R at hR19 hleg19 q3 q4 q6
                      have hr19 := RR_r hR19
                      have hok19 := hleg19.1
                      have hwk19 := RK_w hok19
                      have h319 := RK_3 hok19
                      have hlc19 : ld < sp_nc R := by omega
                      refine k_iload C (i := 12) (p := 0) rfl dL_works_785 ?_
                      first
                      | refine k_icmpN_ne C (tgt := 832) (by omega) (by omega) (by decide) dL_works_787 (fun hc787 => ?_) (fun hc787 => ?_)
                      | refine k_icmp_ne C (tgt := 832) (by decide) dL_works_787 (fun hc787 => ?_) (fun hc787 => ?_)
                      · skip
                        first
                        | omega
                        | exact absurd hc787 (nI_ge (by omega) (by omega))
                        | exact absurd hc787 (by decide)
                        | exact absurd hc787 (nI_pos (by omega))
                        | exact absurd (nI_pos' (by omega)) hc787
                        | exact absurd rfl hc787
                        | exact absurd hc787 (nI_ne0 (by omega) (by omega))
                        | exact hc787 rfl
                        | contradiction
                        | exact absurd hc787 (nI_n101 (by omega))
                        | exact absurd hc787.symm (nI_n101 (by omega))
                        | (simp_all; done)
                      · skip
                        refine k_aload_n C (f := 0) (i := 0) (p := 5) rfl rfl dL_works_790 ?_
                        refine k_callVp C s_L_213 h_X5_isStopping (L5_s (by assumption)) rfl (ct_X5_isStopping hxb hr19 h319) rfl rfl (Nat.le_of_ble_eq_true rfl) ⟨Nat.le_of_ble_eq_true rfl, Nat.le_of_ble_eq_true rfl⟩ ⟨by show _ ≤ 60600; (try dsimp only); omega, by show _ ≤ 374000; (try dsimp only); omega⟩ ⟨rfl, rfl⟩ dL_works_791 ?_
                        rw [q3]
                        refine k_iload C (i := 12) (p := 0) rfl dL_works_794 ?_
                        first
                        | refine k_ifb_ne C (tgt := 803) (by decide) dL_works_796 (fun hc796 => ?_) (fun hc796 => ?_)
                        | refine k_if_ne C (tgt := 803) (by decide) dL_works_796 (fun hc796 => ?_) (fun hc796 => ?_)
                        · skip
                          refine k_iconst C ic_0 dL_works_803 ?_
                          first
                          | refine k_icmpN_ne C (tgt := 832) (by omega) (by omega) (by decide) dL_works_804 (fun hc804 => ?_) (fun hc804 => ?_)
                          | refine k_icmp_ne C (tgt := 832) (by decide) dL_works_804 (fun hc804 => ?_) (fun hc804 => ?_)
                          · skip
                            first
                            | omega
                            | exact absurd hc804 (nI_ge (by omega) (by omega))
                            | exact absurd hc804 (by decide)
                            | exact absurd hc804 (nI_pos (by omega))
                            | exact absurd (nI_pos' (by omega)) hc804
                            | exact absurd rfl hc804
                            | exact absurd hc804 (nI_ne0 (by omega) (by omega))
                            | exact hc804 rfl
                            | contradiction
                            | exact absurd hc804 (nI_n101 (by omega))
                            | exact absurd hc804.symm (nI_n101 (by omega))
                            | (simp_all; done)
                          · skip
                            refine k_aload_n C (f := 0) (i := 0) (p := 5) rfl rfl dL_works_807 ?_
                            refine k_callVp C s_L_265 h_X5_distanceToday (L5_s (by assumption)) rfl (ct_X5_distanceToday hxb hr19 q4 hlc19 h319 hwk19) rfl rfl (Nat.le_of_ble_eq_true rfl) ⟨Nat.le_of_ble_eq_true rfl, Nat.le_of_ble_eq_true rfl⟩ ⟨by show _ ≤ 60600; (try dsimp only); omega, by show _ ≤ 374000; (try dsimp only); omega⟩ ⟨rfl, rfl⟩ dL_works_808 ?_
                            rw [show (if sp_living R = 0 then nI 0 else sp_dist R ld) = dis R ld from rfl]
                            refine k_aload_n C (f := 0) (i := 0) (p := 5) rfl rfl dL_works_811 ?_
                            refine k_callSq C s_L_261 h_L_distance (ct_L_distance hxb hr19 hok19 q4 hlc19) rfl rfl (Nat.le_of_ble_eq_true rfl) ⟨Nat.le_of_ble_eq_true rfl, Nat.le_of_ble_eq_true rfl⟩ ⟨rfl, rfl⟩ ⟨by show _ ≤ 60600; (try dsimp only); omega, by show _ ≤ 374000; (try dsimp only); omega⟩ dL_works_812 ?_
                            first
                            | refine k_icmpN_ne C (tgt := 832) (by omega) (by omega) (by decide) dL_works_815 (fun hc815 => ?_) (fun hc815 => ?_)
                            | refine k_icmp_ne C (tgt := 832) (by decide) dL_works_815 (fun hc815 => ?_) (fun hc815 => ?_)
                            · skip
                              first
                              | omega
                              | exact absurd hc815 (nI_ge (by omega) (by omega))
                              | exact absurd hc815 (by decide)
                              | exact absurd hc815 (nI_pos (by omega))
                              | exact absurd (nI_pos' (by omega)) hc815
                              | exact absurd rfl hc815
                              | exact absurd hc815 (nI_ne0 (by omega) (by omega))
                              | exact hc815 rfl
                              | contradiction
                              | exact absurd hc815 (nI_n101 (by omega))
                              | exact absurd hc815.symm (nI_n101 (by omega))
                              | (simp_all; done)
                            · skip
                              refine k_aload_n C (f := 0) (i := 0) (p := 5) rfl rfl dL_works_818 ?_
                              refine k_bipush C bc_7 dL_works_819 ?_
                              refine k_iconst C ic_0 dL_works_821 ?_
                              refine k_callSgq C s_L_163 h_L_call__ (ct_L_call__ (ct_c7 (u1 := nI 0) (u2 := nI 0) (u3 := nI 0) (u4 := nI 0) (u5 := nI 0) (hxb) (hR19) (hok19)) (fun _ _ _ _ h => ⟨_, h.2.2.1⟩)) rfl rfl (Nat.le_of_ble_eq_true rfl) ⟨Nat.le_of_ble_eq_true rfl, Nat.le_of_ble_eq_true rfl⟩ ⟨rfl, rfl⟩ ⟨by show _ ≤ 60600; (try dsimp only); omega, by show _ ≤ 374000; (try dsimp only); omega⟩ dL_works_822 ?_
                              intro v I20 hv
                              obtain ⟨rfl, hv2, -⟩ := hv
                              have hct20 : ¬ min 8 (cd + 1) = 0 := by omega
                              obtain ⟨hR20, hF20⟩ := hv2 (if_neg hct20)
                              rw [if_pos (if_neg hct20)]
                              rw [push_0, push_s] at hR20
                              show am_K G X _ _ _ _ _ _ _ _ _ (.int (nI (min 8 (cd + 1) - 1)) :: _)
                              refine k_if_lt C (tgt := 832) (by decide) dL_works_825 (fun hc825 => ?_) (fun hc825 => ?_)
                              · skip
                                first
                                | omega
                                | exact absurd hc825 (nI_ge (by omega) (by omega))
                                | exact absurd hc825 (by decide)
                                | exact absurd hc825 (nI_pos (by omega))
                                | exact absurd (nI_pos' (by omega)) hc825
                                | exact absurd rfl hc825
                                | exact absurd hc825 (nI_ne0 (by omega) (by omega))
                                | exact hc825 rfl
                                | contradiction
                                | exact absurd hc825 (nI_n101 (by omega))
                                | exact absurd hc825.symm (nI_n101 (by omega))
                                | (simp_all; done)
                              · skip
                                refine k_iconst C ic_1 dL_works_828 ?_
                                refine k_goto C (tgt := 833) (by decide) dL_works_829 ?_
                                refine k_istore C (i := 4) (lv := [(4, _), (12, _), (6, _), (2, _), (1, _), (0, _)]) (Nat.le_of_ble_eq_true rfl) rfl dL_works_833 ?_
                                refine k_iload C (i := 4) (p := 0) rfl dL_works_835 ?_
                                first
                                | refine k_ifb_eq C (tgt := 853) (by decide) dL_works_837 (fun hc837 => ?_) (fun hc837 => ?_)
                                | refine k_if_eq C (tgt := 853) (by decide) dL_works_837 (fun hc837 => ?_) (fun hc837 => ?_)
                                · skip
                                  first
                                  | exact absurd hc837 (by decide)
                                  | exact absurd (by decide) hc837
                                · skip
                                  refine k_aload_n C (f := 0) (i := 0) (p := 5) rfl rfl dL_works_840 ?_
                                  refine k_callSq C s_L_257 h_L_state (ct_L_state hxb (RR_r hR20) (RK_3 hok)) rfl rfl (Nat.le_of_ble_eq_true rfl) ⟨Nat.le_of_ble_eq_true rfl, Nat.le_of_ble_eq_true rfl⟩ ⟨rfl, rfl⟩ ⟨by show _ ≤ 60600; (try dsimp only); omega, by show _ ≤ 374000; (try dsimp only); omega⟩ dL_works_841 ?_
                                  refine k_lload_n C (f := 2) (i := 2) (p := 3) rfl rfl dL_works_844 ?_
                                  refine k_lcmp C dL_works_845 ?_
                                  rw [lg_self]
                                  first
                                  | refine k_ifb_ne C (tgt := 853) (by decide) dL_works_846 (fun hc846 => ?_) (fun hc846 => ?_)
                                  | refine k_if_ne C (tgt := 853) (by decide) dL_works_846 (fun hc846 => ?_) (fun hc846 => ?_)
                                  · skip
                                    first
                                    | omega
                                    | exact absurd hc846 (nI_ge (by omega) (by omega))
                                    | exact absurd hc846 (by decide)
                                    | exact absurd hc846 (nI_pos (by omega))
                                    | exact absurd (nI_pos' (by omega)) hc846
                                    | exact absurd rfl hc846
                                    | exact absurd hc846 (nI_ne0 (by omega) (by omega))
                                    | exact hc846 rfl
                                    | contradiction
                                    | exact absurd hc846 (nI_n101 (by omega))
                                    | exact absurd hc846.symm (nI_n101 (by omega))
                                    | (simp_all; done)
                                  · skip
                                    refine k_iconst C ic_1 dL_works_849 ?_
                                    refine k_goto C (tgt := 854) (by decide) dL_works_850 ?_
                                    exact k_zret C (by first | rfl | exact am_bz) (by show _ ≤ 60600; (try dsimp only); omega) (by show _ ≤ 374000; (try dsimp only); omega) (⟨hd1.tr (LK.fr (hF19.tr hF20)), rfl, _, by omega, hR20⟩) dL_works_854
                        · skip
                          first
                          | omega
                          | exact absurd hc796 (nI_ge (by omega) (by omega))
                          | exact absurd hc796 (by decide)
                          | exact absurd hc796 (nI_pos (by omega))
                          | exact absurd (nI_pos' (by omega)) hc796
                          | exact absurd rfl hc796
                          | exact absurd hc796 (nI_ne0 (by omega) (by omega))
                          | exact hc796 rfl
                          | contradiction
                          | exact absurd hc796 (nI_n101 (by omega))
                          | exact absurd hc796.symm (nI_n101 (by omega))
                          | (simp_all; done)
                    · skip
                      first
                      | omega
                      | exact absurd hc774 (nI_ge (by omega) (by omega))
                      | exact absurd hc774 (by decide)
                      | exact absurd hc774 (nI_pos (by omega))
                      | exact absurd (nI_pos' (by omega)) hc774
                      | exact absurd rfl hc774
                      | exact absurd hc774 (nI_ne0 (by omega) (by omega))
                      | exact hc774 rfl
                      | contradiction
                      | exact absurd hc774 (nI_n101 (by omega))
                      | exact absurd hc774.symm (nI_n101 (by omega))
                      | (simp_all; done)
              · skip
                have hk2 : k < sp_nc r := by omega
                have hv20 := dz_of hleg hk2
                refine k_iload C (i := 4) (p := 2) rfl dL_works_663 ?_
                first
                | refine k_ifb_eq C (tgt := 760) (by decide) dL_works_665 (fun hc665 => ?_) (fun hc665 => ?_)
                | refine k_if_eq C (tgt := 760) (by decide) dL_works_665 (fun hc665 => ?_) (fun hc665 => ?_)
                · skip
                  first
                  | omega
                  | exact absurd hc665 (nI_ge (by omega) (by omega))
                  | exact absurd hc665 (by decide)
                  | exact absurd hc665 (nI_pos (by omega))
                  | exact absurd (nI_pos' (by omega)) hc665
                  | exact absurd rfl hc665
                  | exact absurd hc665 (nI_ne0 (by omega) (by omega))
                  | exact hc665 rfl
                  | contradiction
                  | exact absurd hc665 (nI_n101 (by omega))
                  | exact absurd hc665.symm (nI_n101 (by omega))
                  | (simp_all; done)
                · skip
                  refine k_aload_n C (f := 0) (i := 0) (p := 5) rfl rfl dL_works_668 ?_
                  refine k_callVp C s_L_210 h_X5_leader (L5_s (by assumption)) rfl (ct_X5_leader (by first | assumption | omega) (by first | assumption | omega)) rfl rfl (Nat.le_of_ble_eq_true rfl) ⟨Nat.le_of_ble_eq_true rfl, Nat.le_of_ble_eq_true rfl⟩ ⟨by show _ ≤ 60600; (try dsimp only); omega, by show _ ≤ 374000; (try dsimp only); omega⟩ ⟨rfl, rfl⟩ dL_works_669 ?_
                  rw [hld]
                  refine k_istore C (i := 13) (lv := [(13, _), (12, _), (6, _), (4, _), (2, _), (1, _), (0, _)]) (Nat.le_of_ble_eq_true rfl) rfl dL_works_672 ?_
                  by_cases hal : zd r k < 3
                  · skip
                    have hal2 := (zd_lt hleg hk2).mpr hal
                    refine k_aload_n C (f := 0) (i := 0) (p := 6) rfl rfl dL_works_674 ?_
                    refine k_iconst C ic_3 dL_works_675 ?_
                    refine k_iload C (i := 12) (p := 1) rfl dL_works_676 ?_
                    refine k_callSgq C s_L_163 h_L_call__ (ct_L_call__ (ct_c3 (c := nI k) (u1 := nI 0) (u2 := nI 0) (u3 := nI 0) (u4 := nI 0) hxb hd2 hok) (fun _ _ _ _ h => ⟨_, h.2.2.1⟩)) rfl rfl (Nat.le_of_ble_eq_true rfl) ⟨Nat.le_of_ble_eq_true rfl, Nat.le_of_ble_eq_true rfl⟩ ⟨rfl, rfl⟩ ⟨by show _ ≤ 60600; (try dsimp only); omega, by show _ ≤ 374000; (try dsimp only); omega⟩ dL_works_678 ?_
                    intro v I16 hv
                    rw [nI_clamp (show k < 2 ^ 31 by omega)] at hv
                    rw [if_pos (cdI_k hk2 (by omega))] at hv
                    rw [if_pos hal2] at hv
                    obtain ⟨rfl, hv2, -⟩ := hv
                    obtain ⟨hR16, hF16⟩ := hv2 rfl
                    rw [if_pos rfl, hld]
                    show am_K G X _ _ _ _ _ _ _ _ _ (.int (nI ld) :: _)
                    have hleg16 := Leg_lead hleg hk2 hal2
                    have q4 : upd r 4 (nI k) 4 = nI k := upd_eq
                    have q16 : upd r 4 (nI k) (16 + 8 * k) = r (16 + 8 * k) := upd_ne (by omega)
                    have q6 : sp_nc (upd r 4 (nI k)) = sp_nc r := sp_nc_upd (by decide)
                    generalize upd r 4 (nI k) = R at hR16 hleg16 q4 q16 q6
                    have hr16 := RR_r hR16
                    have hk3 : k < sp_nc R := by omega
                    have hok16 := hleg16.1
                    have hwk16 := RK_w hok16
                    have h316 := RK_3 hok16
                    have q20 : am_b (¬ R (16 + 8 * k) < nI 3) = nI 0 := by rw [q16, hv20]; exact congrArg nI (if_pos hal)
                    refine k_istore C (i := 11) (lv := [(11, _), (13, _), (12, _), (6, _), (4, _), (2, _), (1, _), (0, _)]) (Nat.le_of_ble_eq_true rfl) rfl dL_works_681 ?_
                    refine k_aload_n C (f := 0) (i := 0) (p := 7) rfl rfl dL_works_683 ?_
                    refine k_bipush C bc_20 dL_works_684 ?_
                    refine k_iload C (i := 12) (p := 2) rfl dL_works_686 ?_
                    refine k_callSq C s_L_163 h_L_call__ (ct_k20 hxb hr16 hk3 q20) rfl rfl (Nat.le_of_ble_eq_true rfl) ⟨Nat.le_of_ble_eq_true rfl, Nat.le_of_ble_eq_true rfl⟩ ⟨rfl, rfl⟩ ⟨by show _ ≤ 60600; (try dsimp only); omega, by show _ ≤ 374000; (try dsimp only); omega⟩ dL_works_688 ?_
                    refine k_iconst C ic_1 dL_works_691 ?_
                    first
                    | refine k_icmpN_ne C (tgt := 710) (by omega) (by omega) (by decide) dL_works_692 (fun hc692 => ?_) (fun hc692 => ?_)
                    | refine k_icmp_ne C (tgt := 710) (by decide) dL_works_692 (fun hc692 => ?_) (fun hc692 => ?_)
                    · skip
                      refine k_iload C (i := 11) (p := 0) rfl dL_works_710 ?_
                      refine k_iload C (i := 13) (p := 1) rfl dL_works_712 ?_
                      first
                      | refine k_icmpN_ne C (tgt := 751) (by omega) (by omega) (by decide) dL_works_714 (fun hc714 => ?_) (fun hc714 => ?_)
                      | refine k_icmp_ne C (tgt := 751) (by decide) dL_works_714 (fun hc714 => ?_) (fun hc714 => ?_)
                      · skip
                        first
                        | omega
                        | exact absurd hc714 (nI_ge (by omega) (by omega))
                        | exact absurd hc714 (by decide)
                        | exact absurd hc714 (nI_pos (by omega))
                        | exact absurd (nI_pos' (by omega)) hc714
                        | exact absurd rfl hc714
                        | exact absurd hc714 (nI_ne0 (by omega) (by omega))
                        | exact hc714 rfl
                        | contradiction
                        | exact absurd hc714 (nI_n101 (by omega))
                        | exact absurd hc714.symm (nI_n101 (by omega))
                        | (simp_all; done)
                      · skip
                        refine k_aload_n C (f := 0) (i := 0) (p := 7) rfl rfl dL_works_717 ?_
                        refine k_callVp C s_L_210 h_X5_leader (L5_s (by assumption)) rfl (ct_X5_leader (by first | assumption | omega) (by first | assumption | omega)) rfl rfl (Nat.le_of_ble_eq_true rfl) ⟨Nat.le_of_ble_eq_true rfl, Nat.le_of_ble_eq_true rfl⟩ ⟨by show _ ≤ 60600; (try dsimp only); omega, by show _ ≤ 374000; (try dsimp only); omega⟩ ⟨rfl, rfl⟩ dL_works_718 ?_
                        rw [q4]
                        refine k_iload C (i := 12) (p := 2) rfl dL_works_721 ?_
                        first
                        | refine k_icmpN_ne C (tgt := 751) (by omega) (by omega) (by decide) dL_works_723 (fun hc723 => ?_) (fun hc723 => ?_)
                        | refine k_icmp_ne C (tgt := 751) (by decide) dL_works_723 (fun hc723 => ?_) (fun hc723 => ?_)
                        · skip
                          first
                          | omega
                          | exact absurd hc723 (nI_ge (by omega) (by omega))
                          | exact absurd hc723 (by decide)
                          | exact absurd hc723 (nI_pos (by omega))
                          | exact absurd (nI_pos' (by omega)) hc723
                          | exact absurd rfl hc723
                          | exact absurd hc723 (nI_ne0 (by omega) (by omega))
                          | exact hc723 rfl
                          | contradiction
                          | exact absurd hc723 (nI_n101 (by omega))
                          | exact absurd hc723.symm (nI_n101 (by omega))
                          | (simp_all; done)
                        · skip
                          refine k_aload_n C (f := 0) (i := 0) (p := 7) rfl rfl dL_works_726 ?_
                          refine k_callVp C s_L_265 h_X5_distanceToday (L5_s (by assumption)) rfl (ct_X5_distanceToday hxb hr16 q4 hk3 h316 hwk16) rfl rfl (Nat.le_of_ble_eq_true rfl) ⟨Nat.le_of_ble_eq_true rfl, Nat.le_of_ble_eq_true rfl⟩ ⟨by show _ ≤ 60600; (try dsimp only); omega, by show _ ≤ 374000; (try dsimp only); omega⟩ ⟨rfl, rfl⟩ dL_works_727 ?_
                          rw [show (if sp_living R = 0 then nI 0 else sp_dist R k) = dis R k from rfl]
                          refine k_aload_n C (f := 0) (i := 0) (p := 7) rfl rfl dL_works_730 ?_
                          refine k_callSq C s_L_261 h_L_distance (ct_L_distance hxb hr16 hok16 q4 hk3) rfl rfl (Nat.le_of_ble_eq_true rfl) ⟨Nat.le_of_ble_eq_true rfl, Nat.le_of_ble_eq_true rfl⟩ ⟨rfl, rfl⟩ ⟨by show _ ≤ 60600; (try dsimp only); omega, by show _ ≤ 374000; (try dsimp only); omega⟩ dL_works_731 ?_
                          first
                          | refine k_icmpN_ne C (tgt := 751) (by omega) (by omega) (by decide) dL_works_734 (fun hc734 => ?_) (fun hc734 => ?_)
                          | refine k_icmp_ne C (tgt := 751) (by decide) dL_works_734 (fun hc734 => ?_) (fun hc734 => ?_)
                          · skip
                            first
                            | omega
                            | exact absurd hc734 (nI_ge (by omega) (by omega))
                            | exact absurd hc734 (by decide)
                            | exact absurd hc734 (nI_pos (by omega))
                            | exact absurd (nI_pos' (by omega)) hc734
                            | exact absurd rfl hc734
                            | exact absurd hc734 (nI_ne0 (by omega) (by omega))
                            | exact hc734 rfl
                            | contradiction
                            | exact absurd hc734 (nI_n101 (by omega))
                            | exact absurd hc734.symm (nI_n101 (by omega))
                            | (simp_all; done)
                          · skip
                            refine k_aload_n C (f := 0) (i := 0) (p := 7) rfl rfl dL_works_737 ?_
                            refine k_bipush C bc_7 dL_works_738 ?_
                            refine k_iconst C ic_0 dL_works_740 ?_
                            refine k_callSgq C s_L_163 h_L_call__ (ct_L_call__ (ct_c7 (u1 := nI 0) (u2 := nI 0) (u3 := nI 0) (u4 := nI 0) (u5 := nI 0) (hxb) (hR16) (hok16)) (fun _ _ _ _ h => ⟨_, h.2.2.1⟩)) rfl rfl (Nat.le_of_ble_eq_true rfl) ⟨Nat.le_of_ble_eq_true rfl, Nat.le_of_ble_eq_true rfl⟩ ⟨rfl, rfl⟩ ⟨by show _ ≤ 60600; (try dsimp only); omega, by show _ ≤ 374000; (try dsimp only); omega⟩ dL_works_741 ?_
                            intro v I17 hv
                            obtain ⟨rfl, hv2, -⟩ := hv
                            have hct17 : ¬ min 8 (cd + 1) = 0 := by omega
                            obtain ⟨hR17, hF17⟩ := hv2 (if_neg hct17)
                            rw [if_pos (if_neg hct17)]
                            rw [push_0, push_s] at hR17
                            show am_K G X _ _ _ _ _ _ _ _ _ (.int (nI (min 8 (cd + 1) - 1)) :: _)
                            refine k_if_lt C (tgt := 751) (by decide) dL_works_744 (fun hc744 => ?_) (fun hc744 => ?_)
                            · skip
                              first
                              | omega
                              | exact absurd hc744 (nI_ge (by omega) (by omega))
                              | exact absurd hc744 (by decide)
                              | exact absurd hc744 (nI_pos (by omega))
                              | exact absurd (nI_pos' (by omega)) hc744
                              | exact absurd rfl hc744
                              | exact absurd hc744 (nI_ne0 (by omega) (by omega))
                              | exact hc744 rfl
                              | contradiction
                              | exact absurd hc744 (nI_n101 (by omega))
                              | exact absurd hc744.symm (nI_n101 (by omega))
                              | (simp_all; done)
                            · skip
                              refine k_iconst C ic_1 dL_works_747 ?_
                              refine k_goto C (tgt := 752) (by decide) dL_works_748 ?_
                              refine k_istore C (i := 4) (lv := [(4, _), (11, _), (13, _), (12, _), (6, _), (2, _), (1, _), (0, _)]) (Nat.le_of_ble_eq_true rfl) rfl dL_works_752 ?_
                              refine k_iinc C (i := 12) (p := 3) (lv := [(12, _), (4, _), (11, _), (13, _), (6, _), (2, _), (1, _), (0, _)]) (Nat.le_of_ble_eq_true rfl) rfl (by first | exact am_inc1 _ | rfl) rfl dL_works_754 ?_
                              refine k_goto C (tgt := 656) (by decide) dL_works_757 ?_
                              refine k_sub [0, 4, 1, 5, 6, 7] rfl ?_
                              refine k_widen ?_ ?_ (ih656 (k + 1) _ _ (by omega) (hd1.tr (LK.fr (hF16.tr hF17))) hR17 (by omega) (by omega))
                              · (try dsimp only); omega
                              · (try dsimp only); omega
                    · skip
                      first
                      | omega
                      | exact absurd hc692 (nI_ge (by omega) (by omega))
                      | exact absurd hc692 (by decide)
                      | exact absurd hc692 (nI_pos (by omega))
                      | exact absurd (nI_pos' (by omega)) hc692
                      | exact absurd rfl hc692
                      | exact absurd hc692 (nI_ne0 (by omega) (by omega))
                      | exact hc692 rfl
                      | contradiction
                      | exact absurd hc692 (nI_n101 (by omega))
                      | exact absurd hc692.symm (nI_n101 (by omega))
                      | (simp_all; done)
                  · skip
                    have hal2 : ¬ r (16 + 8 * k) < nI 3 := fun z => hal ((zd_lt hleg hk2).mp z)
                    refine k_aload_n C (f := 0) (i := 0) (p := 6) rfl rfl dL_works_674 ?_
                    refine k_iconst C ic_3 dL_works_675 ?_
                    refine k_iload C (i := 12) (p := 1) rfl dL_works_676 ?_
                    refine k_callSgq C s_L_163 h_L_call__ (ct_L_call__ (ct_c3 (c := nI k) (u1 := nI 0) (u2 := nI 0) (u3 := nI 0) (u4 := nI 0) hxb hd2 hok) (fun _ _ _ _ h => ⟨_, h.2.2.1⟩)) rfl rfl (Nat.le_of_ble_eq_true rfl) ⟨Nat.le_of_ble_eq_true rfl, Nat.le_of_ble_eq_true rfl⟩ ⟨rfl, rfl⟩ ⟨by show _ ≤ 60600; (try dsimp only); omega, by show _ ≤ 374000; (try dsimp only); omega⟩ dL_works_678 ?_
                    intro v I16 hv
                    rw [nI_clamp (show k < 2 ^ 31 by omega)] at hv
                    rw [if_pos (cdI_k hk2 (by omega))] at hv
                    rw [if_neg hal2] at hv
                    obtain ⟨rfl, -, hv3⟩ := hv
                    have e2 := (hv3 (by decide)).symm
                    subst e2
                    rw [if_neg (by decide), if_neg (by decide)]
                    show am_K G X _ _ _ _ _ _ _ _ _ (.int (-102) :: _)
                    have q20 : am_b (¬ r (16 + 8 * k) < nI 3) = nI 1 := by rw [hv20]; exact congrArg nI (if_neg hal)
                    refine k_istore C (i := 11) (lv := [(11, _), (13, _), (12, _), (6, _), (4, _), (2, _), (1, _), (0, _)]) (Nat.le_of_ble_eq_true rfl) rfl dL_works_681 ?_
                    refine k_aload_n C (f := 0) (i := 0) (p := 7) rfl rfl dL_works_683 ?_
                    refine k_bipush C bc_20 dL_works_684 ?_
                    refine k_iload C (i := 12) (p := 2) rfl dL_works_686 ?_
                    refine k_callSq C s_L_163 h_L_call__ (ct_k20 hxb hrd hk2 q20) rfl rfl (Nat.le_of_ble_eq_true rfl) ⟨Nat.le_of_ble_eq_true rfl, Nat.le_of_ble_eq_true rfl⟩ ⟨rfl, rfl⟩ ⟨by show _ ≤ 60600; (try dsimp only); omega, by show _ ≤ 374000; (try dsimp only); omega⟩ dL_works_688 ?_
                    refine k_iconst C ic_1 dL_works_691 ?_
                    first
                    | refine k_icmpN_ne C (tgt := 710) (by omega) (by omega) (by decide) dL_works_692 (fun hc692 => ?_) (fun hc692 => ?_)
                    | refine k_icmp_ne C (tgt := 710) (by decide) dL_works_692 (fun hc692 => ?_) (fun hc692 => ?_)
                    · skip
                      first
                      | omega
                      | exact absurd hc692 (nI_ge (by omega) (by omega))
                      | exact absurd hc692 (by decide)
                      | exact absurd hc692 (nI_pos (by omega))
                      | exact absurd (nI_pos' (by omega)) hc692
                      | exact absurd rfl hc692
                      | exact absurd hc692 (nI_ne0 (by omega) (by omega))
                      | exact hc692 rfl
                      | contradiction
                      | exact absurd hc692 (nI_n101 (by omega))
                      | exact absurd hc692.symm (nI_n101 (by omega))
                      | (simp_all; done)
                    · skip
                      refine k_iload C (i := 11) (p := 0) rfl dL_works_695 ?_
                      refine k_bipush C bc_m102 dL_works_697 ?_
                      first
                      | refine k_icmpN_ne C (tgt := 706) (by omega) (by omega) (by decide) dL_works_699 (fun hc699 => ?_) (fun hc699 => ?_)
                      | refine k_icmp_ne C (tgt := 706) (by decide) dL_works_699 (fun hc699 => ?_) (fun hc699 => ?_)
                      · skip
                        first
                        | omega
                        | exact absurd hc699 (nI_ge (by omega) (by omega))
                        | exact absurd hc699 (by decide)
                        | exact absurd hc699 (nI_pos (by omega))
                        | exact absurd (nI_pos' (by omega)) hc699
                        | exact absurd rfl hc699
                        | exact absurd hc699 (nI_ne0 (by omega) (by omega))
                        | exact hc699 rfl
                        | contradiction
                        | exact absurd hc699 (nI_n101 (by omega))
                        | exact absurd hc699.symm (nI_n101 (by omega))
                        | (simp_all; done)
                      · skip
                        refine k_iconst C ic_1 dL_works_702 ?_
                        refine k_goto C (tgt := 752) (by decide) dL_works_703 ?_
                        refine k_istore C (i := 4) (lv := [(4, _), (11, _), (13, _), (12, _), (6, _), (2, _), (1, _), (0, _)]) (Nat.le_of_ble_eq_true rfl) rfl dL_works_752 ?_
                        refine k_iinc C (i := 12) (p := 3) (lv := [(12, _), (4, _), (11, _), (13, _), (6, _), (2, _), (1, _), (0, _)]) (Nat.le_of_ble_eq_true rfl) rfl (by first | exact am_inc1 _ | rfl) rfl dL_works_754 ?_
                        refine k_goto C (tgt := 656) (by decide) dL_works_757 ?_
                        refine k_sub [0, 4, 1, 5, 6, 7] rfl ?_
                        refine k_widen ?_ ?_ (ih656 (k + 1) _ _ (by omega) hd1 hd2 hd3 (by omega))
                        · (try dsimp only); omega
                        · (try dsimp only); omega
          refine k_sub [0, 1, 2, 3, 4, 5] rfl ?_
          refine k_widen ?_ ?_ (loop656 (sp_nc r + 1) 0 Sb cb (Nat.zero_le _) hb1 hb2 hb3 (by omega))
          · (try dsimp only); omega
          · (try dsimp only); omega
        · skip
          have hk2 : k < sp_nl r := by omega
          obtain ⟨c0, hc0, hc9⟩ := and_le (wv >>> (nI k &&& 31)) (M := 255) (by omega)
          have hj0 : c0 % sp_nc r < sp_nc r := Nat.mod_lt _ (by omega)
          refine k_iload C (i := 4) (p := 2) rfl dL_works_381 ?_
          first
          | refine k_ifb_eq C (tgt := 653) (by decide) dL_works_383 (fun hc383 => ?_) (fun hc383 => ?_)
          | refine k_if_eq C (tgt := 653) (by decide) dL_works_383 (fun hc383 => ?_) (fun hc383 => ?_)
          · skip
            first
            | omega
            | exact absurd hc383 (nI_ge (by omega) (by omega))
            | exact absurd hc383 (by decide)
            | exact absurd hc383 (nI_pos (by omega))
            | exact absurd (nI_pos' (by omega)) hc383
            | exact absurd rfl hc383
            | exact absurd hc383 (nI_ne0 (by omega) (by omega))
            | exact hc383 rfl
            | contradiction
            | exact absurd hc383 (nI_n101 (by omega))
            | exact absurd hc383.symm (nI_n101 (by omega))
            | (simp_all; done)
          · skip
            refine k_iload_n C (f := 1) (i := 1) (p := 4) rfl rfl dL_works_386 ?_
            refine k_iload C (i := 12) (p := 0) rfl dL_works_387 ?_
            refine k_ishr C dL_works_389 ?_
            refine k_sipush C sc_255 dL_works_390 ?_
            refine k_iand C dL_works_393 ?_
            rw [hc0]
            refine k_iload C (i := 6) (p := 1) rfl dL_works_394 ?_
            refine k_irem C (nI_ne0 (by omega) (by omega)) dL_works_396 ?_
            rw [pk_rem (by omega) (by omega) (by omega)]
            generalize c0 % sp_nc r = j at hj0 ⊢
            obtain ⟨wt, hwt, wt1, wt9⟩ := (RK_lo hok k hk2).1
            obtain ⟨f0, hf, hf9⟩ := free_of hleg hj0
            have hv20 := dz_of hleg hj0
            have hzd := zd_lt hleg hj0
            refine k_istore C (i := 13) (lv := [(13, _), (12, _), (6, _), (4, _), (2, _), (1, _), (0, _)]) (Nat.le_of_ble_eq_true rfl) rfl dL_works_397 ?_
            rcases (RK_lo hok k hk2).2 with hcar | ⟨jj, hcar, hjj⟩
            · skip
              have hv35 : (if r (142 + 4 * k) = -1 then (-101) else r (142 + 4 * k)) = (-101 : Int32) := if_pos hcar
              obtain ⟨p, km', hp, hk', hpk, hk9⟩ := LX_p hleg.2 k hk2 hcar
              have ekm : km = km' := nI_inj (by omega) (by omega) (hk.symm.trans hk')
              subst ekm
              have hv36 : (if r (142 + 4 * k) = -1 then r (143 + 4 * k) else r 1) = nI p := by rw [if_pos hcar, hp]
              have hMY : (r (16 + 8 * j) < nI 3 ∧ ¬ r (142 + 4 * k) = nI j ∧ (if r (142 + 4 * k) = -1 then r (143 + 4 * k) else r 1) = r 1 ∧ ¬ sp_free r j < r (140 + 4 * k)) ↔ (zd r j < 3 ∧ p = km ∧ wt ≤ f0) := by
                rw [hv36, hk, hcar, hf, hwt, hzd]
                exact ⟨fun z => ⟨z.1, nI_inj (by omega) (by omega) z.2.2.1, by have := z.2.2.2; exact Nat.le_of_not_lt (fun q => this (nI_lt q (by omega)))⟩, fun z => ⟨z.1, fun q => nI_m1 (n := j) (by omega) q.symm, by rw [z.2.1], nI_nlt z.2.2 (by omega)⟩⟩
              refine k_aload_n C (f := 0) (i := 0) (p := 6) rfl rfl dL_works_399 ?_
              refine k_bipush C bc_35 dL_works_400 ?_
              refine k_iload C (i := 12) (p := 1) rfl dL_works_402 ?_
              refine k_callSq C s_L_163 h_L_call__ (ct_k35 hxb hrb hk2 hv35) rfl rfl (Nat.le_of_ble_eq_true rfl) ⟨Nat.le_of_ble_eq_true rfl, Nat.le_of_ble_eq_true rfl⟩ ⟨rfl, rfl⟩ ⟨by show _ ≤ 60600; (try dsimp only); omega, by show _ ≤ 374000; (try dsimp only); omega⟩ dL_works_404 ?_
              refine k_istore C (i := 14) (lv := [(14, _), (13, _), (12, _), (6, _), (4, _), (2, _), (1, _), (0, _)]) (Nat.le_of_ble_eq_true rfl) rfl dL_works_407 ?_
              refine k_aload_n C (f := 0) (i := 0) (p := 7) rfl rfl dL_works_409 ?_
              refine k_bipush C bc_32 dL_works_410 ?_
              refine k_iload C (i := 12) (p := 2) rfl dL_works_412 ?_
              refine k_callSq C s_L_163 h_L_call__ (ct_k32 hxb hrb hk2 hwt) rfl rfl (Nat.le_of_ble_eq_true rfl) ⟨Nat.le_of_ble_eq_true rfl, Nat.le_of_ble_eq_true rfl⟩ ⟨rfl, rfl⟩ ⟨by show _ ≤ 60600; (try dsimp only); omega, by show _ ≤ 374000; (try dsimp only); omega⟩ dL_works_414 ?_
              refine k_istore C (i := 15) (lv := [(15, _), (14, _), (13, _), (12, _), (6, _), (4, _), (2, _), (1, _), (0, _)]) (Nat.le_of_ble_eq_true rfl) rfl dL_works_417 ?_
              refine k_aload_n C (f := 0) (i := 0) (p := 8) rfl rfl dL_works_419 ?_
              refine k_bipush C bc_28 dL_works_420 ?_
              refine k_iload C (i := 13) (p := 2) rfl dL_works_422 ?_
              refine k_callSq C s_L_163 h_L_call__ (ct_k28 hxb hrb hj0 hf) rfl rfl (Nat.le_of_ble_eq_true rfl) ⟨Nat.le_of_ble_eq_true rfl, Nat.le_of_ble_eq_true rfl⟩ ⟨rfl, rfl⟩ ⟨by show _ ≤ 60600; (try dsimp only); omega, by show _ ≤ 374000; (try dsimp only); omega⟩ dL_works_424 ?_
              refine k_istore C (i := 16) (lv := [(16, _), (15, _), (14, _), (13, _), (12, _), (6, _), (4, _), (2, _), (1, _), (0, _)]) (Nat.le_of_ble_eq_true rfl) rfl dL_works_427 ?_
              have join474 : ∀ (b : Int32), ((b = nI 1 ∧ (r (16 + 8 * j) < nI 3 ∧ ¬ r (142 + 4 * k) = nI j ∧ (if r (142 + 4 * k) = -1 then r (143 + 4 * k) else r 1) = r 1 ∧ ¬ sp_free r j < r (140 + 4 * k))) ∨ (b = nI 0 ∧ ¬ (r (16 + 8 * j) < nI 3 ∧ ¬ r (142 + 4 * k) = nI j ∧ (if r (142 + 4 * k) = -1 then r (143 + 4 * k) else r 1) = r 1 ∧ ¬ sp_free r j < r (140 + 4 * k)))) → am_K G X { frames := 13, cells := 60600, slots := 374000, locals := 400 } 18 Λb Sb Jb (4310 + 2700 * k + 30) (26300 + 16700 * k + 180) 474 [(14, .int (-101)), (16, .int (nI f0)), (15, .int (nI wt)), (13, .int (nI j)), (12, .int (nI k)), (6, .int (nI (sp_nc r))), (4, .int (nI 1)), (2, .long (hash r)), (1, .int wv), (0, .ref x)] [.int b] := by
                intro b hb
                refine k_istore C (i := 17) (lv := [(17, _), (14, _), (16, _), (15, _), (13, _), (12, _), (6, _), (4, _), (2, _), (1, _), (0, _)]) (Nat.le_of_ble_eq_true rfl) rfl dL_works_474 ?_
                have join556 : ∀ (Λc : am_L) (Sc : am_I) (Jc : am_J) (cc : Nat), (LK x Λ I Λc Sc) → (RouRel Sc x tb n err r cc hs kp sn w) → (cc ≤ ct) → am_K G X { frames := 13, cells := 60600, slots := 374000, locals := 400 } 18 Λc Sc Jc (4310 + 2700 * k + 2660) (26300 + 16700 * k + 16500) 556 [(14, .int (-101)), (12, .int (nI k)), (6, .int (nI (sp_nc r))), (4, .int (nI 1)), (2, .long (hash r)), (1, .int wv), (0, .ref x)] [] := by
                  intro Λc Sc Jc cc hc1 hc2 hc3
                  refine k_aload_n C (f := 0) (i := 0) (p := 6) rfl rfl dL_works_556 ?_
                  refine k_iconst C ic_5 dL_works_557 ?_
                  refine k_iload C (i := 12) (p := 1) rfl dL_works_558 ?_
                  refine k_callSgq C s_L_163 h_L_call__ (ct_L_call__ (ct_c5 (c := nI k) (u1 := nI 0) (u2 := nI 0) (u3 := nI 0) (u4 := nI 0) (hc1.lay hx) hc2 hok) (fun _ _ _ _ h => ⟨_, h.2.2.1⟩)) rfl rfl (Nat.le_of_ble_eq_true rfl) ⟨Nat.le_of_ble_eq_true rfl, Nat.le_of_ble_eq_true rfl⟩ ⟨rfl, rfl⟩ ⟨by show _ ≤ 60600; (try dsimp only); omega, by show _ ≤ 374000; (try dsimp only); omega⟩ dL_works_560 ?_
                  intro v I14 hv
                  rw [nI_clamp (show k < 2 ^ 31 by omega)] at hv
                  rw [if_pos (cdI_k hk2 (by omega))] at hv
                  rw [if_pos hcar] at hv
                  obtain ⟨rfl, -, hv3⟩ := hv
                  have e2 := (hv3 (by decide)).symm
                  subst e2
                  rw [if_neg (by decide), if_neg (by decide)]
                  show am_K G X _ _ _ _ _ _ _ _ _ (.int (-102) :: _)
                  refine k_istore C (i := 11) (lv := [(11, _), (14, _), (12, _), (6, _), (4, _), (2, _), (1, _), (0, _)]) (Nat.le_of_ble_eq_true rfl) rfl dL_works_563 ?_
                  refine k_iload C (i := 14) (p := 1) rfl dL_works_565 ?_
                  refine k_if_ge C (tgt := 592) (by decide) dL_works_567 (fun hc567 => ?_) (fun hc567 => ?_)
                  · skip
                    first
                    | omega
                    | exact absurd hc567 (nI_ge (by omega) (by omega))
                    | exact absurd hc567 (by decide)
                    | exact absurd hc567 (nI_pos (by omega))
                    | exact absurd (nI_pos' (by omega)) hc567
                    | exact absurd rfl hc567
                    | exact absurd hc567 (nI_ne0 (by omega) (by omega))
                    | exact hc567 rfl
                    | contradiction
                    | exact absurd hc567 (nI_n101 (by omega))
                    | exact absurd hc567.symm (nI_n101 (by omega))
                    | (simp_all; done)
                  · skip
                    refine k_iload C (i := 4) (p := 4) rfl dL_works_570 ?_
                    first
                    | refine k_ifb_eq C (tgt := 586) (by decide) dL_works_572 (fun hc572 => ?_) (fun hc572 => ?_)
                    | refine k_if_eq C (tgt := 586) (by decide) dL_works_572 (fun hc572 => ?_) (fun hc572 => ?_)
                    · skip
                      first
                      | omega
                      | exact absurd hc572 (nI_ge (by omega) (by omega))
                      | exact absurd hc572 (by decide)
                      | exact absurd hc572 (nI_pos (by omega))
                      | exact absurd (nI_pos' (by omega)) hc572
                      | exact absurd rfl hc572
                      | exact absurd hc572 (nI_ne0 (by omega) (by omega))
                      | exact hc572 rfl
                      | contradiction
                      | exact absurd hc572 (nI_n101 (by omega))
                      | exact absurd hc572.symm (nI_n101 (by omega))
                      | (simp_all; done)
                    · skip
                      refine k_iload C (i := 11) (p := 0) rfl dL_works_575 ?_
                      refine k_bipush C bc_m102 dL_works_577 ?_
                      first
                      | refine k_icmpN_ne C (tgt := 586) (by omega) (by omega) (by decide) dL_works_579 (fun hc579 => ?_) (fun hc579 => ?_)
                      | refine k_icmp_ne C (tgt := 586) (by decide) dL_works_579 (fun hc579 => ?_) (fun hc579 => ?_)
                      · skip
                        first
                        | omega
                        | exact absurd hc579 (nI_ge (by omega) (by omega))
                        | exact absurd hc579 (by decide)
                        | exact absurd hc579 (nI_pos (by omega))
                        | exact absurd (nI_pos' (by omega)) hc579
                        | exact absurd rfl hc579
                        | exact absurd hc579 (nI_ne0 (by omega) (by omega))
                        | exact hc579 rfl
                        | contradiction
                        | exact absurd hc579 (nI_n101 (by omega))
                        | exact absurd hc579.symm (nI_n101 (by omega))
                        | (simp_all; done)
                      · skip
                        refine k_iconst C ic_1 dL_works_582 ?_
                        refine k_goto C (tgt := 587) (by decide) dL_works_583 ?_
                        refine k_istore C (i := 4) (lv := [(4, _), (11, _), (14, _), (12, _), (6, _), (2, _), (1, _), (0, _)]) (Nat.le_of_ble_eq_true rfl) rfl dL_works_587 ?_
                        refine k_goto C (tgt := 647) (by decide) dL_works_589 ?_
                        refine k_iinc C (i := 12) (p := 3) (lv := [(12, _), (4, _), (11, _), (14, _), (6, _), (2, _), (1, _), (0, _)]) (Nat.le_of_ble_eq_true rfl) rfl (by first | exact am_inc1 _ | rfl) rfl dL_works_647 ?_
                        refine k_goto C (tgt := 372) (by decide) dL_works_650 ?_
                        refine k_sub [0, 4, 1, 5, 6, 7] rfl ?_
                        refine k_widen ?_ ?_ (ih372 (k + 1) _ _ _ _ (by omega) hc1 hc2 hc3 (by omega))
                        · (try dsimp only); omega
                        · (try dsimp only); omega
                rcases hb with ⟨rfl, hmy⟩ | ⟨rfl, hmy⟩
                · skip
                  refine k_aload_n C (f := 0) (i := 0) (p := 10) rfl rfl dL_works_476 ?_
                  refine k_iconst C ic_4 dL_works_477 ?_
                  refine k_iload C (i := 12) (p := 5) rfl dL_works_478 ?_
                  refine k_iload C (i := 13) (p := 4) rfl dL_works_480 ?_
                  refine k_callSgq C s_L_272 h_L_call_ (ct_L_call_ (ct_c4 (a := nI k) (c := nI j) (u1 := nI 0) (u2 := nI 0) (u3 := nI 0) hxb hb2 hok) (fun _ _ _ _ h => ⟨_, h.2.2.1⟩)) rfl rfl (Nat.le_of_ble_eq_true rfl) ⟨Nat.le_of_ble_eq_true rfl, Nat.le_of_ble_eq_true rfl⟩ ⟨rfl, rfl⟩ ⟨by show _ ≤ 60600; (try dsimp only); omega, by show _ ≤ 374000; (try dsimp only); omega⟩ dL_works_482 ?_
                  intro v I12 hv
                  rw [nI_clamp (show k < 2 ^ 31 by omega), nI_clamp (show j < 2 ^ 31 by omega)] at hv
                  have hcc : cdI (sp_nl r) (nI k) = 0 ∧ cdI (sp_nc r) (nI j) = 0 := ⟨cdI_k hk2 (by omega), cdI_k hj0 (by omega)⟩
                  rw [if_pos hcc] at hv
                  rw [if_pos hmy] at hv
                  obtain ⟨rfl, hv2, -⟩ := hv
                  obtain ⟨hR12, hF12⟩ := hv2 rfl
                  rw [if_pos rfl]
                  have hmn := hMY.mp hmy
                  obtain ⟨hleg12, hfr⟩ := hang_facts hleg hk2 hj0 hmy.1 hmy.2.1 hwt ⟨f0, hf, by omega, by omega⟩
                  rw [hfr, hf, pk_sub (show wt ≤ f0 by omega)]
                  show am_K G X _ _ _ _ _ _ _ _ _ (.int (nI (f0 - wt)) :: _)
                  have q35 : sp_hang (sp_lay r k) k j (142 + 4 * k) = nI j := by unfold sp_hang; rw [upd_eq]
                  have q9 : sp_nl (sp_hang (sp_lay r k) k j) = sp_nl r := by
                    obtain ⟨-, -, -, s9⟩ := sc_hang (sp_lay r k) k j
                    obtain ⟨-, -, -, t9⟩ := sc_lay r k
                    exact s9.trans t9
                  generalize sp_hang (sp_lay r k) k j = R at hR12 hleg12 q35 q9
                  have hr12 := RR_r hR12
                  have hv35b : (if R (142 + 4 * k) = -1 then (-101) else R (142 + 4 * k)) = nI j := by rw [q35, if_neg (nI_m1 (by omega))]
                  refine k_istore C (i := 11) (lv := [(11, _), (17, _), (14, _), (16, _), (15, _), (13, _), (12, _), (6, _), (4, _), (2, _), (1, _), (0, _)]) (Nat.le_of_ble_eq_true rfl) rfl dL_works_485 ?_
                  refine k_iload C (i := 17) (p := 1) rfl dL_works_487 ?_
                  first
                  | refine k_ifb_eq C (tgt := 542) (by decide) dL_works_489 (fun hc489 => ?_) (fun hc489 => ?_)
                  | refine k_if_eq C (tgt := 542) (by decide) dL_works_489 (fun hc489 => ?_) (fun hc489 => ?_)
                  · skip
                    first
                    | omega
                    | exact absurd hc489 (nI_ge (by omega) (by omega))
                    | exact absurd hc489 (by decide)
                    | exact absurd hc489 (nI_pos (by omega))
                    | exact absurd (nI_pos' (by omega)) hc489
                    | exact absurd rfl hc489
                    | exact absurd hc489 (nI_ne0 (by omega) (by omega))
                    | exact hc489 rfl
                    | contradiction
                    | exact absurd hc489 (nI_n101 (by omega))
                    | exact absurd hc489.symm (nI_n101 (by omega))
                    | (simp_all; done)
                  · skip
                    refine k_iload C (i := 11) (p := 0) rfl dL_works_492 ?_
                    refine k_iload C (i := 16) (p := 3) rfl dL_works_494 ?_
                    refine k_iload C (i := 15) (p := 4) rfl dL_works_496 ?_
                    refine k_isub C dL_works_498 ?_
                    rw [pk_sub (show wt ≤ f0 by omega)]
                    first
                    | refine k_icmpN_ne C (tgt := 536) (by omega) (by omega) (by decide) dL_works_499 (fun hc499 => ?_) (fun hc499 => ?_)
                    | refine k_icmp_ne C (tgt := 536) (by decide) dL_works_499 (fun hc499 => ?_) (fun hc499 => ?_)
                    · skip
                      first
                      | omega
                      | exact absurd hc499 (nI_ge (by omega) (by omega))
                      | exact absurd hc499 (by decide)
                      | exact absurd hc499 (nI_pos (by omega))
                      | exact absurd (nI_pos' (by omega)) hc499
                      | exact absurd rfl hc499
                      | exact absurd hc499 (nI_ne0 (by omega) (by omega))
                      | exact hc499 rfl
                      | contradiction
                      | exact absurd hc499 (nI_n101 (by omega))
                      | exact absurd hc499.symm (nI_n101 (by omega))
                      | (simp_all; done)
                    · skip
                      refine k_aload_n C (f := 0) (i := 0) (p := 11) rfl rfl dL_works_502 ?_
                      refine k_bipush C bc_35 dL_works_503 ?_
                      refine k_iload C (i := 12) (p := 6) rfl dL_works_505 ?_
                      refine k_callSq C s_L_163 h_L_call__ (ct_k35 hxb hr12 (show k < sp_nl R by omega) hv35b) rfl rfl (Nat.le_of_ble_eq_true rfl) ⟨Nat.le_of_ble_eq_true rfl, Nat.le_of_ble_eq_true rfl⟩ ⟨rfl, rfl⟩ ⟨by show _ ≤ 60600; (try dsimp only); omega, by show _ ≤ 374000; (try dsimp only); omega⟩ dL_works_507 ?_
                      refine k_iload C (i := 13) (p := 5) rfl dL_works_510 ?_
                      first
                      | refine k_icmpN_ne C (tgt := 536) (by omega) (by omega) (by decide) dL_works_512 (fun hc512 => ?_) (fun hc512 => ?_)
                      | refine k_icmp_ne C (tgt := 536) (by decide) dL_works_512 (fun hc512 => ?_) (fun hc512 => ?_)
                      · skip
                        first
                        | omega
                        | exact absurd hc512 (nI_ge (by omega) (by omega))
                        | exact absurd hc512 (by decide)
                        | exact absurd hc512 (nI_pos (by omega))
                        | exact absurd (nI_pos' (by omega)) hc512
                        | exact absurd rfl hc512
                        | exact absurd hc512 (nI_ne0 (by omega) (by omega))
                        | exact hc512 rfl
                        | contradiction
                        | exact absurd hc512 (nI_n101 (by omega))
                        | exact absurd hc512.symm (nI_n101 (by omega))
                        | (simp_all; done)
                      · skip
                        refine k_aload_n C (f := 0) (i := 0) (p := 11) rfl rfl dL_works_515 ?_
                        refine k_callSl C s_L_268 h_L_caravan (ct_L_caravan hxb hR12 hleg12) rfl rfl (Nat.le_of_ble_eq_true rfl) ⟨Nat.le_of_ble_eq_true rfl, Nat.le_of_ble_eq_true rfl⟩ ⟨rfl, rfl⟩ ⟨by show _ ≤ 60600; (try dsimp only); omega, by show _ ≤ 374000; (try dsimp only); omega⟩ dL_works_516 ?_
                        intro v Λ13 I13 J13 hv
                        obtain ⟨hlk13, rfl, hkp13⟩ := hv
                        show am_K G X _ _ _ _ _ _ _ _ _ (.int (nI 1) :: _)
                        first
                        | refine k_ifb_eq C (tgt := 536) (by decide) dL_works_519 (fun hc519 => ?_) (fun hc519 => ?_)
                        | refine k_if_eq C (tgt := 536) (by decide) dL_works_519 (fun hc519 => ?_) (fun hc519 => ?_)
                        · skip
                          first
                          | omega
                          | exact absurd hc519 (nI_ge (by omega) (by omega))
                          | exact absurd hc519 (by decide)
                          | exact absurd hc519 (nI_pos (by omega))
                          | exact absurd (nI_pos' (by omega)) hc519
                          | exact absurd rfl hc519
                          | exact absurd hc519 (nI_ne0 (by omega) (by omega))
                          | exact hc519 rfl
                          | contradiction
                          | exact absurd hc519 (nI_n101 (by omega))
                          | exact absurd hc519.symm (nI_n101 (by omega))
                          | (simp_all; done)
                        · skip
                          refine k_aload_n C (f := 0) (i := 0) (p := 11) rfl rfl dL_works_522 ?_
                          refine k_bipush C bc_7 dL_works_523 ?_
                          refine k_iconst C ic_0 dL_works_525 ?_
                          refine k_callSgq C s_L_163 h_L_call__ (ct_L_call__ (ct_c7 (u1 := nI 0) (u2 := nI 0) (u3 := nI 0) (u4 := nI 0) (u5 := nI 0) (hlk13.lay hxb) (RouRel_agree hR12 hkp13) (hleg12.1)) (fun _ _ _ _ h => ⟨_, h.2.2.1⟩)) rfl rfl (Nat.le_of_ble_eq_true rfl) ⟨Nat.le_of_ble_eq_true rfl, Nat.le_of_ble_eq_true rfl⟩ ⟨rfl, rfl⟩ ⟨by show _ ≤ 60600; (try dsimp only); omega, by show _ ≤ 374000; (try dsimp only); omega⟩ dL_works_526 ?_
                          intro v I13b hv
                          obtain ⟨rfl, hv2, -⟩ := hv
                          have hct13 : ¬ min 8 (cb + 1) = 0 := by omega
                          obtain ⟨hR13, hF13⟩ := hv2 (if_neg hct13)
                          rw [if_pos (if_neg hct13)]
                          rw [push_0, push_s] at hR13
                          show am_K G X _ _ _ _ _ _ _ _ _ (.int (nI (min 8 (cb + 1) - 1)) :: _)
                          refine k_if_lt C (tgt := 536) (by decide) dL_works_529 (fun hc529 => ?_) (fun hc529 => ?_)
                          · skip
                            first
                            | omega
                            | exact absurd hc529 (nI_ge (by omega) (by omega))
                            | exact absurd hc529 (by decide)
                            | exact absurd hc529 (nI_pos (by omega))
                            | exact absurd (nI_pos' (by omega)) hc529
                            | exact absurd rfl hc529
                            | exact absurd hc529 (nI_ne0 (by omega) (by omega))
                            | exact hc529 rfl
                            | contradiction
                            | exact absurd hc529 (nI_n101 (by omega))
                            | exact absurd hc529.symm (nI_n101 (by omega))
                            | (simp_all; done)
                          · skip
                            refine k_iconst C ic_1 dL_works_532 ?_
                            refine k_goto C (tgt := 537) (by decide) dL_works_533 ?_
                            refine k_istore C (i := 4) (lv := [(4, _), (11, _), (17, _), (14, _), (16, _), (15, _), (13, _), (12, _), (6, _), (2, _), (1, _), (0, _)]) (Nat.le_of_ble_eq_true rfl) rfl dL_works_537 ?_
                            refine k_goto C (tgt := 556) (by decide) dL_works_539 ?_
                            refine k_sub [3, 7, 8, 0, 9, 10, 11] rfl ?_
                            refine k_widen ?_ ?_ (join556 _ _ _ _ ((hb1.tr (LK.fr hF12)).tr (hlk13.tr (LK.fr hF13))) hR13 (by omega))
                            · (try dsimp only); omega
                            · (try dsimp only); omega
                · skip
                  refine k_aload_n C (f := 0) (i := 0) (p := 10) rfl rfl dL_works_476 ?_
                  refine k_iconst C ic_4 dL_works_477 ?_
                  refine k_iload C (i := 12) (p := 5) rfl dL_works_478 ?_
                  refine k_iload C (i := 13) (p := 4) rfl dL_works_480 ?_
                  refine k_callSgq C s_L_272 h_L_call_ (ct_L_call_ (ct_c4 (a := nI k) (c := nI j) (u1 := nI 0) (u2 := nI 0) (u3 := nI 0) hxb hb2 hok) (fun _ _ _ _ h => ⟨_, h.2.2.1⟩)) rfl rfl (Nat.le_of_ble_eq_true rfl) ⟨Nat.le_of_ble_eq_true rfl, Nat.le_of_ble_eq_true rfl⟩ ⟨rfl, rfl⟩ ⟨by show _ ≤ 60600; (try dsimp only); omega, by show _ ≤ 374000; (try dsimp only); omega⟩ dL_works_482 ?_
                  intro v I12 hv
                  rw [nI_clamp (show k < 2 ^ 31 by omega), nI_clamp (show j < 2 ^ 31 by omega)] at hv
                  have hcc : cdI (sp_nl r) (nI k) = 0 ∧ cdI (sp_nc r) (nI j) = 0 := ⟨cdI_k hk2 (by omega), cdI_k hj0 (by omega)⟩
                  rw [if_pos hcc] at hv
                  rw [if_neg hmy] at hv
                  obtain ⟨rfl, -, hv3⟩ := hv
                  have e2 := (hv3 (by decide)).symm
                  subst e2
                  rw [if_neg (by decide), if_neg (by decide)]
                  show am_K G X _ _ _ _ _ _ _ _ _ (.int (-102) :: _)
                  refine k_istore C (i := 11) (lv := [(11, _), (17, _), (14, _), (16, _), (15, _), (13, _), (12, _), (6, _), (4, _), (2, _), (1, _), (0, _)]) (Nat.le_of_ble_eq_true rfl) rfl dL_works_485 ?_
                  refine k_iload C (i := 17) (p := 1) rfl dL_works_487 ?_
                  first
                  | refine k_ifb_eq C (tgt := 542) (by decide) dL_works_489 (fun hc489 => ?_) (fun hc489 => ?_)
                  | refine k_if_eq C (tgt := 542) (by decide) dL_works_489 (fun hc489 => ?_) (fun hc489 => ?_)
                  · skip
                    refine k_iload C (i := 11) (p := 0) rfl dL_works_542 ?_
                    refine k_bipush C bc_m102 dL_works_544 ?_
                    first
                    | refine k_icmpN_ne C (tgt := 553) (by omega) (by omega) (by decide) dL_works_546 (fun hc546 => ?_) (fun hc546 => ?_)
                    | refine k_icmp_ne C (tgt := 553) (by decide) dL_works_546 (fun hc546 => ?_) (fun hc546 => ?_)
                    · skip
                      first
                      | omega
                      | exact absurd hc546 (nI_ge (by omega) (by omega))
                      | exact absurd hc546 (by decide)
                      | exact absurd hc546 (nI_pos (by omega))
                      | exact absurd (nI_pos' (by omega)) hc546
                      | exact absurd rfl hc546
                      | exact absurd hc546 (nI_ne0 (by omega) (by omega))
                      | exact hc546 rfl
                      | contradiction
                      | exact absurd hc546 (nI_n101 (by omega))
                      | exact absurd hc546.symm (nI_n101 (by omega))
                      | (simp_all; done)
                    · skip
                      refine k_iconst C ic_1 dL_works_549 ?_
                      refine k_goto C (tgt := 554) (by decide) dL_works_550 ?_
                      refine k_istore C (i := 4) (lv := [(4, _), (11, _), (17, _), (14, _), (16, _), (15, _), (13, _), (12, _), (6, _), (2, _), (1, _), (0, _)]) (Nat.le_of_ble_eq_true rfl) rfl dL_works_554 ?_
                      refine k_sub [3, 7, 8, 0, 9, 10, 11] rfl ?_
                      refine k_widen ?_ ?_ (join556 _ _ _ _ hb1 hb2 hb3)
                      · (try dsimp only); omega
                      · (try dsimp only); omega
                  · skip
                    first
                    | omega
                    | exact absurd hc489 (nI_ge (by omega) (by omega))
                    | exact absurd hc489 (by decide)
                    | exact absurd hc489 (nI_pos (by omega))
                    | exact absurd (nI_pos' (by omega)) hc489
                    | exact absurd rfl hc489
                    | exact absurd hc489 (nI_ne0 (by omega) (by omega))
                    | exact hc489 rfl
                    | contradiction
                    | exact absurd hc489 (nI_n101 (by omega))
                    | exact absurd hc489.symm (nI_n101 (by omega))
                    | (simp_all; done)
              rcases (show ¬ zd r j < 3 ∨ (zd r j < 3 ∧ ¬ p = km) ∨ (zd r j < 3 ∧ p = km ∧ f0 < wt) ∨ (zd r j < 3 ∧ p = km ∧ wt ≤ f0) by omega) with h0 | ⟨h0, h0b⟩ | ⟨h0, h0b, h0c⟩ | ⟨h0, h0b, h0c⟩
              · skip
                refine k_aload_n C (f := 0) (i := 0) (p := 9) rfl rfl dL_works_429 ?_
                refine k_bipush C bc_20 dL_works_430 ?_
                refine k_iload C (i := 13) (p := 3) rfl dL_works_432 ?_
                refine k_callSq C s_L_163 h_L_call__ (ct_k20 hxb hrb hj0 hv20) rfl rfl (Nat.le_of_ble_eq_true rfl) ⟨Nat.le_of_ble_eq_true rfl, Nat.le_of_ble_eq_true rfl⟩ ⟨rfl, rfl⟩ ⟨by show _ ≤ 60600; (try dsimp only); omega, by show _ ≤ 374000; (try dsimp only); omega⟩ dL_works_434 ?_
                rw [show dz r j = 1 from if_neg h0]
                first
                | refine k_ifb_ne C (tgt := 473) (by decide) dL_works_437 (fun hc437 => ?_) (fun hc437 => ?_)
                | refine k_if_ne C (tgt := 473) (by decide) dL_works_437 (fun hc437 => ?_) (fun hc437 => ?_)
                · skip
                  refine k_iconst C ic_0 dL_works_473 ?_
                  refine k_sub [2, 0, 1, 3, 4, 5, 6, 7, 8, 9] rfl ?_
                  refine k_widen ?_ ?_ (join474 _ (Or.inr ⟨rfl, fun z => by have := hMY.mp z; omega⟩))
                  · (try dsimp only); omega
                  · (try dsimp only); omega
                · skip
                  first
                  | omega
                  | exact absurd hc437 (nI_ge (by omega) (by omega))
                  | exact absurd hc437 (by decide)
                  | exact absurd hc437 (nI_pos (by omega))
                  | exact absurd (nI_pos' (by omega)) hc437
                  | exact absurd rfl hc437
                  | exact absurd hc437 (nI_ne0 (by omega) (by omega))
                  | exact hc437 rfl
                  | contradiction
                  | exact absurd hc437 (nI_n101 (by omega))
                  | exact absurd hc437.symm (nI_n101 (by omega))
                  | (simp_all; done)
              · skip
                refine k_aload_n C (f := 0) (i := 0) (p := 9) rfl rfl dL_works_429 ?_
                refine k_bipush C bc_20 dL_works_430 ?_
                refine k_iload C (i := 13) (p := 3) rfl dL_works_432 ?_
                refine k_callSq C s_L_163 h_L_call__ (ct_k20 hxb hrb hj0 hv20) rfl rfl (Nat.le_of_ble_eq_true rfl) ⟨Nat.le_of_ble_eq_true rfl, Nat.le_of_ble_eq_true rfl⟩ ⟨rfl, rfl⟩ ⟨by show _ ≤ 60600; (try dsimp only); omega, by show _ ≤ 374000; (try dsimp only); omega⟩ dL_works_434 ?_
                rw [show dz r j = 0 from if_pos h0]
                first
                | refine k_ifb_ne C (tgt := 473) (by decide) dL_works_437 (fun hc437 => ?_) (fun hc437 => ?_)
                | refine k_if_ne C (tgt := 473) (by decide) dL_works_437 (fun hc437 => ?_) (fun hc437 => ?_)
                · skip
                  first
                  | omega
                  | exact absurd hc437 (nI_ge (by omega) (by omega))
                  | exact absurd hc437 (by decide)
                  | exact absurd hc437 (nI_pos (by omega))
                  | exact absurd (nI_pos' (by omega)) hc437
                  | exact absurd rfl hc437
                  | exact absurd hc437 (nI_ne0 (by omega) (by omega))
                  | exact hc437 rfl
                  | contradiction
                  | exact absurd hc437 (nI_n101 (by omega))
                  | exact absurd hc437.symm (nI_n101 (by omega))
                  | (simp_all; done)
                · skip
                  refine k_iload C (i := 14) (p := 2) rfl dL_works_440 ?_
                  refine k_iload C (i := 13) (p := 3) rfl dL_works_442 ?_
                  first
                  | refine k_icmpN_eq C (tgt := 473) (by omega) (by omega) (by decide) dL_works_444 (fun hc444 => ?_) (fun hc444 => ?_)
                  | refine k_icmp_eq C (tgt := 473) (by decide) dL_works_444 (fun hc444 => ?_) (fun hc444 => ?_)
                  · skip
                    first
                    | omega
                    | exact absurd hc444 (nI_ge (by omega) (by omega))
                    | exact absurd hc444 (by decide)
                    | exact absurd hc444 (nI_pos (by omega))
                    | exact absurd (nI_pos' (by omega)) hc444
                    | exact absurd rfl hc444
                    | exact absurd hc444 (nI_ne0 (by omega) (by omega))
                    | exact hc444 rfl
                    | contradiction
                    | exact absurd hc444 (nI_n101 (by omega))
                    | exact absurd hc444.symm (nI_n101 (by omega))
                    | (simp_all; done)
                  · skip
                    refine k_aload_n C (f := 0) (i := 0) (p := 9) rfl rfl dL_works_447 ?_
                    refine k_bipush C bc_36 dL_works_448 ?_
                    refine k_iload C (i := 12) (p := 4) rfl dL_works_450 ?_
                    refine k_callSq C s_L_163 h_L_call__ (ct_k36 hxb hrb hk2 hv36) rfl rfl (Nat.le_of_ble_eq_true rfl) ⟨Nat.le_of_ble_eq_true rfl, Nat.le_of_ble_eq_true rfl⟩ ⟨rfl, rfl⟩ ⟨by show _ ≤ 60600; (try dsimp only); omega, by show _ ≤ 374000; (try dsimp only); omega⟩ dL_works_452 ?_
                    refine k_aload_n C (f := 0) (i := 0) (p := 9) rfl rfl dL_works_455 ?_
                    refine k_callVp C s_L_202 h_X5_kilometre (L5_s (by assumption)) rfl (ct_X5_kilometre (by first | assumption | omega) (by first | assumption | omega)) rfl rfl (Nat.le_of_ble_eq_true rfl) ⟨Nat.le_of_ble_eq_true rfl, Nat.le_of_ble_eq_true rfl⟩ ⟨by show _ ≤ 60600; (try dsimp only); omega, by show _ ≤ 374000; (try dsimp only); omega⟩ ⟨rfl, rfl⟩ dL_works_456 ?_
                    rw [hk]
                    first
                    | refine k_icmpN_ne C (tgt := 473) (by omega) (by omega) (by decide) dL_works_459 (fun hc459 => ?_) (fun hc459 => ?_)
                    | refine k_icmp_ne C (tgt := 473) (by decide) dL_works_459 (fun hc459 => ?_) (fun hc459 => ?_)
                    · skip
                      refine k_iconst C ic_0 dL_works_473 ?_
                      refine k_sub [2, 0, 1, 3, 4, 5, 6, 7, 8, 9] rfl ?_
                      refine k_widen ?_ ?_ (join474 _ (Or.inr ⟨rfl, fun z => by have := hMY.mp z; omega⟩))
                      · (try dsimp only); omega
                      · (try dsimp only); omega
                    · skip
                      first
                      | omega
                      | exact absurd hc459 (nI_ge (by omega) (by omega))
                      | exact absurd hc459 (by decide)
                      | exact absurd hc459 (nI_pos (by omega))
                      | exact absurd (nI_pos' (by omega)) hc459
                      | exact absurd rfl hc459
                      | exact absurd hc459 (nI_ne0 (by omega) (by omega))
                      | exact hc459 rfl
                      | contradiction
                      | exact absurd hc459 (nI_n101 (by omega))
                      | exact absurd hc459.symm (nI_n101 (by omega))
                      | (simp_all; done)
              · skip
                refine k_aload_n C (f := 0) (i := 0) (p := 9) rfl rfl dL_works_429 ?_
                refine k_bipush C bc_20 dL_works_430 ?_
                refine k_iload C (i := 13) (p := 3) rfl dL_works_432 ?_
                refine k_callSq C s_L_163 h_L_call__ (ct_k20 hxb hrb hj0 hv20) rfl rfl (Nat.le_of_ble_eq_true rfl) ⟨Nat.le_of_ble_eq_true rfl, Nat.le_of_ble_eq_true rfl⟩ ⟨rfl, rfl⟩ ⟨by show _ ≤ 60600; (try dsimp only); omega, by show _ ≤ 374000; (try dsimp only); omega⟩ dL_works_434 ?_
                rw [show dz r j = 0 from if_pos h0]
                first
                | refine k_ifb_ne C (tgt := 473) (by decide) dL_works_437 (fun hc437 => ?_) (fun hc437 => ?_)
                | refine k_if_ne C (tgt := 473) (by decide) dL_works_437 (fun hc437 => ?_) (fun hc437 => ?_)
                · skip
                  first
                  | omega
                  | exact absurd hc437 (nI_ge (by omega) (by omega))
                  | exact absurd hc437 (by decide)
                  | exact absurd hc437 (nI_pos (by omega))
                  | exact absurd (nI_pos' (by omega)) hc437
                  | exact absurd rfl hc437
                  | exact absurd hc437 (nI_ne0 (by omega) (by omega))
                  | exact hc437 rfl
                  | contradiction
                  | exact absurd hc437 (nI_n101 (by omega))
                  | exact absurd hc437.symm (nI_n101 (by omega))
                  | (simp_all; done)
                · skip
                  refine k_iload C (i := 14) (p := 2) rfl dL_works_440 ?_
                  refine k_iload C (i := 13) (p := 3) rfl dL_works_442 ?_
                  first
                  | refine k_icmpN_eq C (tgt := 473) (by omega) (by omega) (by decide) dL_works_444 (fun hc444 => ?_) (fun hc444 => ?_)
                  | refine k_icmp_eq C (tgt := 473) (by decide) dL_works_444 (fun hc444 => ?_) (fun hc444 => ?_)
                  · skip
                    first
                    | omega
                    | exact absurd hc444 (nI_ge (by omega) (by omega))
                    | exact absurd hc444 (by decide)
                    | exact absurd hc444 (nI_pos (by omega))
                    | exact absurd (nI_pos' (by omega)) hc444
                    | exact absurd rfl hc444
                    | exact absurd hc444 (nI_ne0 (by omega) (by omega))
                    | exact hc444 rfl
                    | contradiction
                    | exact absurd hc444 (nI_n101 (by omega))
                    | exact absurd hc444.symm (nI_n101 (by omega))
                    | (simp_all; done)
                  · skip
                    refine k_aload_n C (f := 0) (i := 0) (p := 9) rfl rfl dL_works_447 ?_
                    refine k_bipush C bc_36 dL_works_448 ?_
                    refine k_iload C (i := 12) (p := 4) rfl dL_works_450 ?_
                    refine k_callSq C s_L_163 h_L_call__ (ct_k36 hxb hrb hk2 hv36) rfl rfl (Nat.le_of_ble_eq_true rfl) ⟨Nat.le_of_ble_eq_true rfl, Nat.le_of_ble_eq_true rfl⟩ ⟨rfl, rfl⟩ ⟨by show _ ≤ 60600; (try dsimp only); omega, by show _ ≤ 374000; (try dsimp only); omega⟩ dL_works_452 ?_
                    refine k_aload_n C (f := 0) (i := 0) (p := 9) rfl rfl dL_works_455 ?_
                    refine k_callVp C s_L_202 h_X5_kilometre (L5_s (by assumption)) rfl (ct_X5_kilometre (by first | assumption | omega) (by first | assumption | omega)) rfl rfl (Nat.le_of_ble_eq_true rfl) ⟨Nat.le_of_ble_eq_true rfl, Nat.le_of_ble_eq_true rfl⟩ ⟨by show _ ≤ 60600; (try dsimp only); omega, by show _ ≤ 374000; (try dsimp only); omega⟩ ⟨rfl, rfl⟩ dL_works_456 ?_
                    rw [hk]
                    first
                    | refine k_icmpN_ne C (tgt := 473) (by omega) (by omega) (by decide) dL_works_459 (fun hc459 => ?_) (fun hc459 => ?_)
                    | refine k_icmp_ne C (tgt := 473) (by decide) dL_works_459 (fun hc459 => ?_) (fun hc459 => ?_)
                    · skip
                      first
                      | omega
                      | exact absurd hc459 (nI_ge (by omega) (by omega))
                      | exact absurd hc459 (by decide)
                      | exact absurd hc459 (nI_pos (by omega))
                      | exact absurd (nI_pos' (by omega)) hc459
                      | exact absurd rfl hc459
                      | exact absurd hc459 (nI_ne0 (by omega) (by omega))
                      | exact hc459 rfl
                      | contradiction
                      | exact absurd hc459 (nI_n101 (by omega))
                      | exact absurd hc459.symm (nI_n101 (by omega))
                      | (simp_all; done)
                    · skip
                      refine k_iload C (i := 15) (p := 1) rfl dL_works_462 ?_
                      refine k_iload C (i := 16) (p := 0) rfl dL_works_464 ?_
                      first
                      | refine k_icmpN_gt C (tgt := 473) (by omega) (by omega) (by decide) dL_works_466 (fun hc466 => ?_) (fun hc466 => ?_)
                      | refine k_icmp_gt C (tgt := 473) (by decide) dL_works_466 (fun hc466 => ?_) (fun hc466 => ?_)
                      · skip
                        refine k_iconst C ic_0 dL_works_473 ?_
                        refine k_sub [2, 0, 1, 3, 4, 5, 6, 7, 8, 9] rfl ?_
                        refine k_widen ?_ ?_ (join474 _ (Or.inr ⟨rfl, fun z => by have := hMY.mp z; omega⟩))
                        · (try dsimp only); omega
                        · (try dsimp only); omega
                      · skip
                        first
                        | omega
                        | exact absurd hc466 (nI_ge (by omega) (by omega))
                        | exact absurd hc466 (by decide)
                        | exact absurd hc466 (nI_pos (by omega))
                        | exact absurd (nI_pos' (by omega)) hc466
                        | exact absurd rfl hc466
                        | exact absurd hc466 (nI_ne0 (by omega) (by omega))
                        | exact hc466 rfl
                        | contradiction
                        | exact absurd hc466 (nI_n101 (by omega))
                        | exact absurd hc466.symm (nI_n101 (by omega))
                        | (simp_all; done)
              · skip
                refine k_aload_n C (f := 0) (i := 0) (p := 9) rfl rfl dL_works_429 ?_
                refine k_bipush C bc_20 dL_works_430 ?_
                refine k_iload C (i := 13) (p := 3) rfl dL_works_432 ?_
                refine k_callSq C s_L_163 h_L_call__ (ct_k20 hxb hrb hj0 hv20) rfl rfl (Nat.le_of_ble_eq_true rfl) ⟨Nat.le_of_ble_eq_true rfl, Nat.le_of_ble_eq_true rfl⟩ ⟨rfl, rfl⟩ ⟨by show _ ≤ 60600; (try dsimp only); omega, by show _ ≤ 374000; (try dsimp only); omega⟩ dL_works_434 ?_
                rw [show dz r j = 0 from if_pos h0]
                first
                | refine k_ifb_ne C (tgt := 473) (by decide) dL_works_437 (fun hc437 => ?_) (fun hc437 => ?_)
                | refine k_if_ne C (tgt := 473) (by decide) dL_works_437 (fun hc437 => ?_) (fun hc437 => ?_)
                · skip
                  first
                  | omega
                  | exact absurd hc437 (nI_ge (by omega) (by omega))
                  | exact absurd hc437 (by decide)
                  | exact absurd hc437 (nI_pos (by omega))
                  | exact absurd (nI_pos' (by omega)) hc437
                  | exact absurd rfl hc437
                  | exact absurd hc437 (nI_ne0 (by omega) (by omega))
                  | exact hc437 rfl
                  | contradiction
                  | exact absurd hc437 (nI_n101 (by omega))
                  | exact absurd hc437.symm (nI_n101 (by omega))
                  | (simp_all; done)
                · skip
                  refine k_iload C (i := 14) (p := 2) rfl dL_works_440 ?_
                  refine k_iload C (i := 13) (p := 3) rfl dL_works_442 ?_
                  first
                  | refine k_icmpN_eq C (tgt := 473) (by omega) (by omega) (by decide) dL_works_444 (fun hc444 => ?_) (fun hc444 => ?_)
                  | refine k_icmp_eq C (tgt := 473) (by decide) dL_works_444 (fun hc444 => ?_) (fun hc444 => ?_)
                  · skip
                    first
                    | omega
                    | exact absurd hc444 (nI_ge (by omega) (by omega))
                    | exact absurd hc444 (by decide)
                    | exact absurd hc444 (nI_pos (by omega))
                    | exact absurd (nI_pos' (by omega)) hc444
                    | exact absurd rfl hc444
                    | exact absurd hc444 (nI_ne0 (by omega) (by omega))
                    | exact hc444 rfl
                    | contradiction
                    | exact absurd hc444 (nI_n101 (by omega))
                    | exact absurd hc444.symm (nI_n101 (by omega))
                    | (simp_all; done)
                  · skip
                    refine k_aload_n C (f := 0) (i := 0) (p := 9) rfl rfl dL_works_447 ?_
                    refine k_bipush C bc_36 dL_works_448 ?_
                    refine k_iload C (i := 12) (p := 4) rfl dL_works_450 ?_
                    refine k_callSq C s_L_163 h_L_call__ (ct_k36 hxb hrb hk2 hv36) rfl rfl (Nat.le_of_ble_eq_true rfl) ⟨Nat.le_of_ble_eq_true rfl, Nat.le_of_ble_eq_true rfl⟩ ⟨rfl, rfl⟩ ⟨by show _ ≤ 60600; (try dsimp only); omega, by show _ ≤ 374000; (try dsimp only); omega⟩ dL_works_452 ?_
                    refine k_aload_n C (f := 0) (i := 0) (p := 9) rfl rfl dL_works_455 ?_
                    refine k_callVp C s_L_202 h_X5_kilometre (L5_s (by assumption)) rfl (ct_X5_kilometre (by first | assumption | omega) (by first | assumption | omega)) rfl rfl (Nat.le_of_ble_eq_true rfl) ⟨Nat.le_of_ble_eq_true rfl, Nat.le_of_ble_eq_true rfl⟩ ⟨by show _ ≤ 60600; (try dsimp only); omega, by show _ ≤ 374000; (try dsimp only); omega⟩ ⟨rfl, rfl⟩ dL_works_456 ?_
                    rw [hk]
                    first
                    | refine k_icmpN_ne C (tgt := 473) (by omega) (by omega) (by decide) dL_works_459 (fun hc459 => ?_) (fun hc459 => ?_)
                    | refine k_icmp_ne C (tgt := 473) (by decide) dL_works_459 (fun hc459 => ?_) (fun hc459 => ?_)
                    · skip
                      first
                      | omega
                      | exact absurd hc459 (nI_ge (by omega) (by omega))
                      | exact absurd hc459 (by decide)
                      | exact absurd hc459 (nI_pos (by omega))
                      | exact absurd (nI_pos' (by omega)) hc459
                      | exact absurd rfl hc459
                      | exact absurd hc459 (nI_ne0 (by omega) (by omega))
                      | exact hc459 rfl
                      | contradiction
                      | exact absurd hc459 (nI_n101 (by omega))
                      | exact absurd hc459.symm (nI_n101 (by omega))
                      | (simp_all; done)
                    · skip
                      refine k_iload C (i := 15) (p := 1) rfl dL_works_462 ?_
                      refine k_iload C (i := 16) (p := 0) rfl dL_works_464 ?_
                      first
                      | refine k_icmpN_gt C (tgt := 473) (by omega) (by omega) (by decide) dL_works_466 (fun hc466 => ?_) (fun hc466 => ?_)
                      | refine k_icmp_gt C (tgt := 473) (by decide) dL_works_466 (fun hc466 => ?_) (fun hc466 => ?_)
                      · skip
                        first
                        | omega
                        | exact absurd hc466 (nI_ge (by omega) (by omega))
                        | exact absurd hc466 (by decide)
                        | exact absurd hc466 (nI_pos (by omega))
                        | exact absurd (nI_pos' (by omega)) hc466
                        | exact absurd rfl hc466
                        | exact absurd hc466 (nI_ne0 (by omega) (by omega))
                        | exact hc466 rfl
                        | contradiction
                        | exact absurd hc466 (nI_n101 (by omega))
                        | exact absurd hc466.symm (nI_n101 (by omega))
                        | (simp_all; done)
                      · skip
                        refine k_iconst C ic_1 dL_works_469 ?_
                        refine k_goto C (tgt := 474) (by decide) dL_works_470 ?_
                        refine k_sub [2, 0, 1, 3, 4, 5, 6, 7, 8, 9] rfl ?_
                        refine k_widen ?_ ?_ (join474 _ (Or.inl ⟨rfl, hMY.mpr (by omega)⟩))
                        · (try dsimp only); omega
                        · (try dsimp only); omega
            · skip
              have hne : ¬ r (142 + 4 * k) = -1 := by rw [hcar]; exact nI_m1 (by omega)
              have hv35 : (if r (142 + 4 * k) = -1 then (-101) else r (142 + 4 * k)) = nI jj := by rw [if_neg hne, hcar]
              have hv36 : (if r (142 + 4 * k) = -1 then r (143 + 4 * k) else r 1) = nI km := by rw [if_neg hne, hk]
              have hMY : (r (16 + 8 * j) < nI 3 ∧ ¬ r (142 + 4 * k) = nI j ∧ (if r (142 + 4 * k) = -1 then r (143 + 4 * k) else r 1) = r 1 ∧ ¬ sp_free r j < r (140 + 4 * k)) ↔ (zd r j < 3 ∧ ¬ jj = j ∧ wt ≤ f0) := by
                rw [hv36, hk, hcar, hf, hwt, hzd]
                exact ⟨fun z => ⟨z.1, fun q => z.2.1 (by rw [q]), by have := z.2.2.2; exact Nat.le_of_not_lt (fun q => this (nI_lt q (by omega)))⟩, fun z => ⟨z.1, fun q => z.2.1 (nI_inj (by omega) (by omega) q), rfl, nI_nlt z.2.2 (by omega)⟩⟩
              refine k_aload_n C (f := 0) (i := 0) (p := 6) rfl rfl dL_works_399 ?_
              refine k_bipush C bc_35 dL_works_400 ?_
              refine k_iload C (i := 12) (p := 1) rfl dL_works_402 ?_
              refine k_callSq C s_L_163 h_L_call__ (ct_k35 hxb hrb hk2 hv35) rfl rfl (Nat.le_of_ble_eq_true rfl) ⟨Nat.le_of_ble_eq_true rfl, Nat.le_of_ble_eq_true rfl⟩ ⟨rfl, rfl⟩ ⟨by show _ ≤ 60600; (try dsimp only); omega, by show _ ≤ 374000; (try dsimp only); omega⟩ dL_works_404 ?_
              refine k_istore C (i := 14) (lv := [(14, _), (13, _), (12, _), (6, _), (4, _), (2, _), (1, _), (0, _)]) (Nat.le_of_ble_eq_true rfl) rfl dL_works_407 ?_
              refine k_aload_n C (f := 0) (i := 0) (p := 7) rfl rfl dL_works_409 ?_
              refine k_bipush C bc_32 dL_works_410 ?_
              refine k_iload C (i := 12) (p := 2) rfl dL_works_412 ?_
              refine k_callSq C s_L_163 h_L_call__ (ct_k32 hxb hrb hk2 hwt) rfl rfl (Nat.le_of_ble_eq_true rfl) ⟨Nat.le_of_ble_eq_true rfl, Nat.le_of_ble_eq_true rfl⟩ ⟨rfl, rfl⟩ ⟨by show _ ≤ 60600; (try dsimp only); omega, by show _ ≤ 374000; (try dsimp only); omega⟩ dL_works_414 ?_
              refine k_istore C (i := 15) (lv := [(15, _), (14, _), (13, _), (12, _), (6, _), (4, _), (2, _), (1, _), (0, _)]) (Nat.le_of_ble_eq_true rfl) rfl dL_works_417 ?_
              refine k_aload_n C (f := 0) (i := 0) (p := 8) rfl rfl dL_works_419 ?_
              refine k_bipush C bc_28 dL_works_420 ?_
              refine k_iload C (i := 13) (p := 2) rfl dL_works_422 ?_
              refine k_callSq C s_L_163 h_L_call__ (ct_k28 hxb hrb hj0 hf) rfl rfl (Nat.le_of_ble_eq_true rfl) ⟨Nat.le_of_ble_eq_true rfl, Nat.le_of_ble_eq_true rfl⟩ ⟨rfl, rfl⟩ ⟨by show _ ≤ 60600; (try dsimp only); omega, by show _ ≤ 374000; (try dsimp only); omega⟩ dL_works_424 ?_
              refine k_istore C (i := 16) (lv := [(16, _), (15, _), (14, _), (13, _), (12, _), (6, _), (4, _), (2, _), (1, _), (0, _)]) (Nat.le_of_ble_eq_true rfl) rfl dL_works_427 ?_
              have join474 : ∀ (b : Int32), ((b = nI 1 ∧ (r (16 + 8 * j) < nI 3 ∧ ¬ r (142 + 4 * k) = nI j ∧ (if r (142 + 4 * k) = -1 then r (143 + 4 * k) else r 1) = r 1 ∧ ¬ sp_free r j < r (140 + 4 * k))) ∨ (b = nI 0 ∧ ¬ (r (16 + 8 * j) < nI 3 ∧ ¬ r (142 + 4 * k) = nI j ∧ (if r (142 + 4 * k) = -1 then r (143 + 4 * k) else r 1) = r 1 ∧ ¬ sp_free r j < r (140 + 4 * k)))) → am_K G X { frames := 13, cells := 60600, slots := 374000, locals := 400 } 18 Λb Sb Jb (4310 + 2700 * k + 30) (26300 + 16700 * k + 180) 474 [(14, .int (nI jj)), (16, .int (nI f0)), (15, .int (nI wt)), (13, .int (nI j)), (12, .int (nI k)), (6, .int (nI (sp_nc r))), (4, .int (nI 1)), (2, .long (hash r)), (1, .int wv), (0, .ref x)] [.int b] := by
                intro b hb
                refine k_istore C (i := 17) (lv := [(17, _), (14, _), (16, _), (15, _), (13, _), (12, _), (6, _), (4, _), (2, _), (1, _), (0, _)]) (Nat.le_of_ble_eq_true rfl) rfl dL_works_474 ?_
                have join556 : ∀ (Λc : am_L) (Sc : am_I) (Jc : am_J) (cc : Nat), (LK x Λ I Λc Sc) → (RouRel Sc x tb n err r cc hs kp sn w) → (cc ≤ ct) → am_K G X { frames := 13, cells := 60600, slots := 374000, locals := 400 } 18 Λc Sc Jc (4310 + 2700 * k + 2660) (26300 + 16700 * k + 16500) 556 [(14, .int (nI jj)), (12, .int (nI k)), (6, .int (nI (sp_nc r))), (4, .int (nI 1)), (2, .long (hash r)), (1, .int wv), (0, .ref x)] [] := by
                  intro Λc Sc Jc cc hc1 hc2 hc3
                  refine k_aload_n C (f := 0) (i := 0) (p := 6) rfl rfl dL_works_556 ?_
                  refine k_iconst C ic_5 dL_works_557 ?_
                  refine k_iload C (i := 12) (p := 1) rfl dL_works_558 ?_
                  refine k_callSgq C s_L_163 h_L_call__ (ct_L_call__ (ct_c5 (c := nI k) (u1 := nI 0) (u2 := nI 0) (u3 := nI 0) (u4 := nI 0) (hc1.lay hx) hc2 hok) (fun _ _ _ _ h => ⟨_, h.2.2.1⟩)) rfl rfl (Nat.le_of_ble_eq_true rfl) ⟨Nat.le_of_ble_eq_true rfl, Nat.le_of_ble_eq_true rfl⟩ ⟨rfl, rfl⟩ ⟨by show _ ≤ 60600; (try dsimp only); omega, by show _ ≤ 374000; (try dsimp only); omega⟩ dL_works_560 ?_
                  intro v I14 hv
                  rw [nI_clamp (show k < 2 ^ 31 by omega)] at hv
                  rw [if_pos (cdI_k hk2 (by omega))] at hv
                  rw [if_neg hne] at hv
                  obtain ⟨rfl, hv2, -⟩ := hv
                  obtain ⟨hR14, hF14⟩ := hv2 rfl
                  rw [if_pos rfl, hcar]
                  show am_K G X _ _ _ _ _ _ _ _ _ (.int (nI jj) :: _)
                  have hleg14 := Leg_lay hleg hk2
                  have q1 : sp_lay r k 1 = nI km := by unfold sp_lay; rw [upd_ne (by omega), upd_ne (by omega), hk]
                  have q142 : sp_lay r k (142 + 4 * k) = -1 := by unfold sp_lay; rw [upd_ne (by omega), upd_eq]
                  have q143 : sp_lay r k (143 + 4 * k) = nI km := by unfold sp_lay; rw [upd_eq, hk]
                  have q9 : sp_nl (sp_lay r k) = sp_nl r := (sc_lay r k).2.2.2
                  generalize sp_lay r k = R at hR14 hleg14 q1 q142 q143 q9
                  have hr14 := RR_r hR14
                  have hxc := hc1.lay hx
                  have hk4 : k < sp_nl R := by omega
                  have q34 : am_b (¬ R (142 + 4 * k) = -1) = nI 0 := (am_bf (fun z => z q142)).symm
                  have q36 : (if R (142 + 4 * k) = -1 then R (143 + 4 * k) else R 1) = nI km := by rw [if_pos q142, q143]
                  refine k_istore C (i := 11) (lv := [(11, _), (14, _), (12, _), (6, _), (4, _), (2, _), (1, _), (0, _)]) (Nat.le_of_ble_eq_true rfl) rfl dL_works_563 ?_
                  refine k_iload C (i := 14) (p := 1) rfl dL_works_565 ?_
                  refine k_if_ge C (tgt := 592) (by decide) dL_works_567 (fun hc567 => ?_) (fun hc567 => ?_)
                  · skip
                    refine k_iload C (i := 4) (p := 4) rfl dL_works_592 ?_
                    first
                    | refine k_ifb_eq C (tgt := 644) (by decide) dL_works_594 (fun hc594 => ?_) (fun hc594 => ?_)
                    | refine k_if_eq C (tgt := 644) (by decide) dL_works_594 (fun hc594 => ?_) (fun hc594 => ?_)
                    · skip
                      first
                      | omega
                      | exact absurd hc594 (nI_ge (by omega) (by omega))
                      | exact absurd hc594 (by decide)
                      | exact absurd hc594 (nI_pos (by omega))
                      | exact absurd (nI_pos' (by omega)) hc594
                      | exact absurd rfl hc594
                      | exact absurd hc594 (nI_ne0 (by omega) (by omega))
                      | exact hc594 rfl
                      | contradiction
                      | exact absurd hc594 (nI_n101 (by omega))
                      | exact absurd hc594.symm (nI_n101 (by omega))
                      | (simp_all; done)
                    · skip
                      refine k_iload C (i := 11) (p := 0) rfl dL_works_597 ?_
                      refine k_iload C (i := 14) (p := 1) rfl dL_works_599 ?_
                      first
                      | refine k_icmpN_ne C (tgt := 644) (by omega) (by omega) (by decide) dL_works_601 (fun hc601 => ?_) (fun hc601 => ?_)
                      | refine k_icmp_ne C (tgt := 644) (by decide) dL_works_601 (fun hc601 => ?_) (fun hc601 => ?_)
                      · skip
                        first
                        | omega
                        | exact absurd hc601 (nI_ge (by omega) (by omega))
                        | exact absurd hc601 (by decide)
                        | exact absurd hc601 (nI_pos (by omega))
                        | exact absurd (nI_pos' (by omega)) hc601
                        | exact absurd rfl hc601
                        | exact absurd hc601 (nI_ne0 (by omega) (by omega))
                        | exact hc601 rfl
                        | contradiction
                        | exact absurd hc601 (nI_n101 (by omega))
                        | exact absurd hc601.symm (nI_n101 (by omega))
                        | (simp_all; done)
                      · skip
                        refine k_aload_n C (f := 0) (i := 0) (p := 7) rfl rfl dL_works_604 ?_
                        refine k_bipush C bc_34 dL_works_605 ?_
                        refine k_iload C (i := 12) (p := 2) rfl dL_works_607 ?_
                        refine k_callSq C s_L_163 h_L_call__ (ct_k34 hxc hr14 hk4 q34) rfl rfl (Nat.le_of_ble_eq_true rfl) ⟨Nat.le_of_ble_eq_true rfl, Nat.le_of_ble_eq_true rfl⟩ ⟨rfl, rfl⟩ ⟨by show _ ≤ 60600; (try dsimp only); omega, by show _ ≤ 374000; (try dsimp only); omega⟩ dL_works_609 ?_
                        first
                        | refine k_ifb_ne C (tgt := 644) (by decide) dL_works_612 (fun hc612 => ?_) (fun hc612 => ?_)
                        | refine k_if_ne C (tgt := 644) (by decide) dL_works_612 (fun hc612 => ?_) (fun hc612 => ?_)
                        · skip
                          first
                          | omega
                          | exact absurd hc612 (nI_ge (by omega) (by omega))
                          | exact absurd hc612 (by decide)
                          | exact absurd hc612 (nI_pos (by omega))
                          | exact absurd (nI_pos' (by omega)) hc612
                          | exact absurd rfl hc612
                          | exact absurd hc612 (nI_ne0 (by omega) (by omega))
                          | exact hc612 rfl
                          | contradiction
                          | exact absurd hc612 (nI_n101 (by omega))
                          | exact absurd hc612.symm (nI_n101 (by omega))
                          | (simp_all; done)
                        · skip
                          refine k_aload_n C (f := 0) (i := 0) (p := 7) rfl rfl dL_works_615 ?_
                          refine k_bipush C bc_36 dL_works_616 ?_
                          refine k_iload C (i := 12) (p := 2) rfl dL_works_618 ?_
                          refine k_callSq C s_L_163 h_L_call__ (ct_k36 hxc hr14 hk4 q36) rfl rfl (Nat.le_of_ble_eq_true rfl) ⟨Nat.le_of_ble_eq_true rfl, Nat.le_of_ble_eq_true rfl⟩ ⟨rfl, rfl⟩ ⟨by show _ ≤ 60600; (try dsimp only); omega, by show _ ≤ 374000; (try dsimp only); omega⟩ dL_works_620 ?_
                          refine k_aload_n C (f := 0) (i := 0) (p := 7) rfl rfl dL_works_623 ?_
                          refine k_callVp C s_L_202 h_X5_kilometre (L5_s (by assumption)) rfl (ct_X5_kilometre (by first | assumption | omega) (by first | assumption | omega)) rfl rfl (Nat.le_of_ble_eq_true rfl) ⟨Nat.le_of_ble_eq_true rfl, Nat.le_of_ble_eq_true rfl⟩ ⟨by show _ ≤ 60600; (try dsimp only); omega, by show _ ≤ 374000; (try dsimp only); omega⟩ ⟨rfl, rfl⟩ dL_works_624 ?_
                          rw [q1]
                          first
                          | refine k_icmpN_ne C (tgt := 644) (by omega) (by omega) (by decide) dL_works_627 (fun hc627 => ?_) (fun hc627 => ?_)
                          | refine k_icmp_ne C (tgt := 644) (by decide) dL_works_627 (fun hc627 => ?_) (fun hc627 => ?_)
                          · skip
                            first
                            | omega
                            | exact absurd hc627 (nI_ge (by omega) (by omega))
                            | exact absurd hc627 (by decide)
                            | exact absurd hc627 (nI_pos (by omega))
                            | exact absurd (nI_pos' (by omega)) hc627
                            | exact absurd rfl hc627
                            | exact absurd hc627 (nI_ne0 (by omega) (by omega))
                            | exact hc627 rfl
                            | contradiction
                            | exact absurd hc627 (nI_n101 (by omega))
                            | exact absurd hc627.symm (nI_n101 (by omega))
                            | (simp_all; done)
                          · skip
                            refine k_aload_n C (f := 0) (i := 0) (p := 7) rfl rfl dL_works_630 ?_
                            refine k_bipush C bc_7 dL_works_631 ?_
                            refine k_iconst C ic_0 dL_works_633 ?_
                            refine k_callSgq C s_L_163 h_L_call__ (ct_L_call__ (ct_c7 (u1 := nI 0) (u2 := nI 0) (u3 := nI 0) (u4 := nI 0) (u5 := nI 0) (hxc) (hR14) (hleg14.1)) (fun _ _ _ _ h => ⟨_, h.2.2.1⟩)) rfl rfl (Nat.le_of_ble_eq_true rfl) ⟨Nat.le_of_ble_eq_true rfl, Nat.le_of_ble_eq_true rfl⟩ ⟨rfl, rfl⟩ ⟨by show _ ≤ 60600; (try dsimp only); omega, by show _ ≤ 374000; (try dsimp only); omega⟩ dL_works_634 ?_
                            intro v I15 hv
                            obtain ⟨rfl, hv2, -⟩ := hv
                            have hct15 : ¬ min 8 (cc + 1) = 0 := by omega
                            obtain ⟨hR15, hF15⟩ := hv2 (if_neg hct15)
                            rw [if_pos (if_neg hct15)]
                            rw [push_0, push_s] at hR15
                            show am_K G X _ _ _ _ _ _ _ _ _ (.int (nI (min 8 (cc + 1) - 1)) :: _)
                            refine k_if_lt C (tgt := 644) (by decide) dL_works_637 (fun hc637 => ?_) (fun hc637 => ?_)
                            · skip
                              first
                              | omega
                              | exact absurd hc637 (nI_ge (by omega) (by omega))
                              | exact absurd hc637 (by decide)
                              | exact absurd hc637 (nI_pos (by omega))
                              | exact absurd (nI_pos' (by omega)) hc637
                              | exact absurd rfl hc637
                              | exact absurd hc637 (nI_ne0 (by omega) (by omega))
                              | exact hc637 rfl
                              | contradiction
                              | exact absurd hc637 (nI_n101 (by omega))
                              | exact absurd hc637.symm (nI_n101 (by omega))
                              | (simp_all; done)
                            · skip
                              refine k_iconst C ic_1 dL_works_640 ?_
                              refine k_goto C (tgt := 645) (by decide) dL_works_641 ?_
                              refine k_istore C (i := 4) (lv := [(4, _), (11, _), (14, _), (12, _), (6, _), (2, _), (1, _), (0, _)]) (Nat.le_of_ble_eq_true rfl) rfl dL_works_645 ?_
                              refine k_iinc C (i := 12) (p := 3) (lv := [(12, _), (4, _), (11, _), (14, _), (6, _), (2, _), (1, _), (0, _)]) (Nat.le_of_ble_eq_true rfl) rfl (by first | exact am_inc1 _ | rfl) rfl dL_works_647 ?_
                              refine k_goto C (tgt := 372) (by decide) dL_works_650 ?_
                              refine k_sub [0, 4, 1, 5, 6, 7] rfl ?_
                              refine k_widen ?_ ?_ (ih372 (k + 1) _ _ _ _ (by omega) (hc1.tr (LK.fr (hF14.tr hF15))) hR15 (by omega) (by omega))
                              · (try dsimp only); omega
                              · (try dsimp only); omega
                  · skip
                    first
                    | omega
                    | exact absurd hc567 (nI_ge (by omega) (by omega))
                    | exact absurd hc567 (by decide)
                    | exact absurd hc567 (nI_pos (by omega))
                    | exact absurd (nI_pos' (by omega)) hc567
                    | exact absurd rfl hc567
                    | exact absurd hc567 (nI_ne0 (by omega) (by omega))
                    | exact hc567 rfl
                    | contradiction
                    | exact absurd hc567 (nI_n101 (by omega))
                    | exact absurd hc567.symm (nI_n101 (by omega))
                    | (simp_all; done)
                rcases hb with ⟨rfl, hmy⟩ | ⟨rfl, hmy⟩
                · skip
                  refine k_aload_n C (f := 0) (i := 0) (p := 10) rfl rfl dL_works_476 ?_
                  refine k_iconst C ic_4 dL_works_477 ?_
                  refine k_iload C (i := 12) (p := 5) rfl dL_works_478 ?_
                  refine k_iload C (i := 13) (p := 4) rfl dL_works_480 ?_
                  refine k_callSgq C s_L_272 h_L_call_ (ct_L_call_ (ct_c4 (a := nI k) (c := nI j) (u1 := nI 0) (u2 := nI 0) (u3 := nI 0) hxb hb2 hok) (fun _ _ _ _ h => ⟨_, h.2.2.1⟩)) rfl rfl (Nat.le_of_ble_eq_true rfl) ⟨Nat.le_of_ble_eq_true rfl, Nat.le_of_ble_eq_true rfl⟩ ⟨rfl, rfl⟩ ⟨by show _ ≤ 60600; (try dsimp only); omega, by show _ ≤ 374000; (try dsimp only); omega⟩ dL_works_482 ?_
                  intro v I12 hv
                  rw [nI_clamp (show k < 2 ^ 31 by omega), nI_clamp (show j < 2 ^ 31 by omega)] at hv
                  have hcc : cdI (sp_nl r) (nI k) = 0 ∧ cdI (sp_nc r) (nI j) = 0 := ⟨cdI_k hk2 (by omega), cdI_k hj0 (by omega)⟩
                  rw [if_pos hcc] at hv
                  rw [if_pos hmy] at hv
                  obtain ⟨rfl, hv2, -⟩ := hv
                  obtain ⟨hR12, hF12⟩ := hv2 rfl
                  rw [if_pos rfl]
                  have hmn := hMY.mp hmy
                  obtain ⟨hleg12, hfr⟩ := hang_facts hleg hk2 hj0 hmy.1 hmy.2.1 hwt ⟨f0, hf, by omega, by omega⟩
                  rw [hfr, hf, pk_sub (show wt ≤ f0 by omega)]
                  show am_K G X _ _ _ _ _ _ _ _ _ (.int (nI (f0 - wt)) :: _)
                  have q35 : sp_hang (sp_lay r k) k j (142 + 4 * k) = nI j := by unfold sp_hang; rw [upd_eq]
                  have q9 : sp_nl (sp_hang (sp_lay r k) k j) = sp_nl r := by
                    obtain ⟨-, -, -, s9⟩ := sc_hang (sp_lay r k) k j
                    obtain ⟨-, -, -, t9⟩ := sc_lay r k
                    exact s9.trans t9
                  generalize sp_hang (sp_lay r k) k j = R at hR12 hleg12 q35 q9
                  have hr12 := RR_r hR12
                  have hv35b : (if R (142 + 4 * k) = -1 then (-101) else R (142 + 4 * k)) = nI j := by rw [q35, if_neg (nI_m1 (by omega))]
                  refine k_istore C (i := 11) (lv := [(11, _), (17, _), (14, _), (16, _), (15, _), (13, _), (12, _), (6, _), (4, _), (2, _), (1, _), (0, _)]) (Nat.le_of_ble_eq_true rfl) rfl dL_works_485 ?_
                  refine k_iload C (i := 17) (p := 1) rfl dL_works_487 ?_
                  first
                  | refine k_ifb_eq C (tgt := 542) (by decide) dL_works_489 (fun hc489 => ?_) (fun hc489 => ?_)
                  | refine k_if_eq C (tgt := 542) (by decide) dL_works_489 (fun hc489 => ?_) (fun hc489 => ?_)
                  · skip
                    first
                    | omega
                    | exact absurd hc489 (nI_ge (by omega) (by omega))
                    | exact absurd hc489 (by decide)
                    | exact absurd hc489 (nI_pos (by omega))
                    | exact absurd (nI_pos' (by omega)) hc489
                    | exact absurd rfl hc489
                    | exact absurd hc489 (nI_ne0 (by omega) (by omega))
                    | exact hc489 rfl
                    | contradiction
                    | exact absurd hc489 (nI_n101 (by omega))
                    | exact absurd hc489.symm (nI_n101 (by omega))
                    | (simp_all; done)
                  · skip
                    refine k_iload C (i := 11) (p := 0) rfl dL_works_492 ?_
                    refine k_iload C (i := 16) (p := 3) rfl dL_works_494 ?_
                    refine k_iload C (i := 15) (p := 4) rfl dL_works_496 ?_
                    refine k_isub C dL_works_498 ?_
                    rw [pk_sub (show wt ≤ f0 by omega)]
                    first
                    | refine k_icmpN_ne C (tgt := 536) (by omega) (by omega) (by decide) dL_works_499 (fun hc499 => ?_) (fun hc499 => ?_)
                    | refine k_icmp_ne C (tgt := 536) (by decide) dL_works_499 (fun hc499 => ?_) (fun hc499 => ?_)
                    · skip
                      first
                      | omega
                      | exact absurd hc499 (nI_ge (by omega) (by omega))
                      | exact absurd hc499 (by decide)
                      | exact absurd hc499 (nI_pos (by omega))
                      | exact absurd (nI_pos' (by omega)) hc499
                      | exact absurd rfl hc499
                      | exact absurd hc499 (nI_ne0 (by omega) (by omega))
                      | exact hc499 rfl
                      | contradiction
                      | exact absurd hc499 (nI_n101 (by omega))
                      | exact absurd hc499.symm (nI_n101 (by omega))
                      | (simp_all; done)
                    · skip
                      refine k_aload_n C (f := 0) (i := 0) (p := 11) rfl rfl dL_works_502 ?_
                      refine k_bipush C bc_35 dL_works_503 ?_
                      refine k_iload C (i := 12) (p := 6) rfl dL_works_505 ?_
                      refine k_callSq C s_L_163 h_L_call__ (ct_k35 hxb hr12 (show k < sp_nl R by omega) hv35b) rfl rfl (Nat.le_of_ble_eq_true rfl) ⟨Nat.le_of_ble_eq_true rfl, Nat.le_of_ble_eq_true rfl⟩ ⟨rfl, rfl⟩ ⟨by show _ ≤ 60600; (try dsimp only); omega, by show _ ≤ 374000; (try dsimp only); omega⟩ dL_works_507 ?_
                      refine k_iload C (i := 13) (p := 5) rfl dL_works_510 ?_
                      first
                      | refine k_icmpN_ne C (tgt := 536) (by omega) (by omega) (by decide) dL_works_512 (fun hc512 => ?_) (fun hc512 => ?_)
                      | refine k_icmp_ne C (tgt := 536) (by decide) dL_works_512 (fun hc512 => ?_) (fun hc512 => ?_)
                      · skip
                        first
                        | omega
                        | exact absurd hc512 (nI_ge (by omega) (by omega))
                        | exact absurd hc512 (by decide)
                        | exact absurd hc512 (nI_pos (by omega))
                        | exact absurd (nI_pos' (by omega)) hc512
                        | exact absurd rfl hc512
                        | exact absurd hc512 (nI_ne0 (by omega) (by omega))
                        | exact hc512 rfl
                        | contradiction
                        | exact absurd hc512 (nI_n101 (by omega))
                        | exact absurd hc512.symm (nI_n101 (by omega))
                        | (simp_all; done)
                      · skip
                        refine k_aload_n C (f := 0) (i := 0) (p := 11) rfl rfl dL_works_515 ?_
                        refine k_callSl C s_L_268 h_L_caravan (ct_L_caravan hxb hR12 hleg12) rfl rfl (Nat.le_of_ble_eq_true rfl) ⟨Nat.le_of_ble_eq_true rfl, Nat.le_of_ble_eq_true rfl⟩ ⟨rfl, rfl⟩ ⟨by show _ ≤ 60600; (try dsimp only); omega, by show _ ≤ 374000; (try dsimp only); omega⟩ dL_works_516 ?_
                        intro v Λ13 I13 J13 hv
                        obtain ⟨hlk13, rfl, hkp13⟩ := hv
                        show am_K G X _ _ _ _ _ _ _ _ _ (.int (nI 1) :: _)
                        first
                        | refine k_ifb_eq C (tgt := 536) (by decide) dL_works_519 (fun hc519 => ?_) (fun hc519 => ?_)
                        | refine k_if_eq C (tgt := 536) (by decide) dL_works_519 (fun hc519 => ?_) (fun hc519 => ?_)
                        · skip
                          first
                          | omega
                          | exact absurd hc519 (nI_ge (by omega) (by omega))
                          | exact absurd hc519 (by decide)
                          | exact absurd hc519 (nI_pos (by omega))
                          | exact absurd (nI_pos' (by omega)) hc519
                          | exact absurd rfl hc519
                          | exact absurd hc519 (nI_ne0 (by omega) (by omega))
                          | exact hc519 rfl
                          | contradiction
                          | exact absurd hc519 (nI_n101 (by omega))
                          | exact absurd hc519.symm (nI_n101 (by omega))
                          | (simp_all; done)
                        · skip
                          refine k_aload_n C (f := 0) (i := 0) (p := 11) rfl rfl dL_works_522 ?_
                          refine k_bipush C bc_7 dL_works_523 ?_
                          refine k_iconst C ic_0 dL_works_525 ?_
                          refine k_callSgq C s_L_163 h_L_call__ (ct_L_call__ (ct_c7 (u1 := nI 0) (u2 := nI 0) (u3 := nI 0) (u4 := nI 0) (u5 := nI 0) (hlk13.lay hxb) (RouRel_agree hR12 hkp13) (hleg12.1)) (fun _ _ _ _ h => ⟨_, h.2.2.1⟩)) rfl rfl (Nat.le_of_ble_eq_true rfl) ⟨Nat.le_of_ble_eq_true rfl, Nat.le_of_ble_eq_true rfl⟩ ⟨rfl, rfl⟩ ⟨by show _ ≤ 60600; (try dsimp only); omega, by show _ ≤ 374000; (try dsimp only); omega⟩ dL_works_526 ?_
                          intro v I13b hv
                          obtain ⟨rfl, hv2, -⟩ := hv
                          have hct13 : ¬ min 8 (cb + 1) = 0 := by omega
                          obtain ⟨hR13, hF13⟩ := hv2 (if_neg hct13)
                          rw [if_pos (if_neg hct13)]
                          rw [push_0, push_s] at hR13
                          show am_K G X _ _ _ _ _ _ _ _ _ (.int (nI (min 8 (cb + 1) - 1)) :: _)
                          refine k_if_lt C (tgt := 536) (by decide) dL_works_529 (fun hc529 => ?_) (fun hc529 => ?_)
                          · skip
                            first
                            | omega
                            | exact absurd hc529 (nI_ge (by omega) (by omega))
                            | exact absurd hc529 (by decide)
                            | exact absurd hc529 (nI_pos (by omega))
                            | exact absurd (nI_pos' (by omega)) hc529
                            | exact absurd rfl hc529
                            | exact absurd hc529 (nI_ne0 (by omega) (by omega))
                            | exact hc529 rfl
                            | contradiction
                            | exact absurd hc529 (nI_n101 (by omega))
                            | exact absurd hc529.symm (nI_n101 (by omega))
                            | (simp_all; done)
                          · skip
                            refine k_iconst C ic_1 dL_works_532 ?_
                            refine k_goto C (tgt := 537) (by decide) dL_works_533 ?_
                            refine k_istore C (i := 4) (lv := [(4, _), (11, _), (17, _), (14, _), (16, _), (15, _), (13, _), (12, _), (6, _), (2, _), (1, _), (0, _)]) (Nat.le_of_ble_eq_true rfl) rfl dL_works_537 ?_
                            refine k_goto C (tgt := 556) (by decide) dL_works_539 ?_
                            refine k_sub [3, 7, 8, 0, 9, 10, 11] rfl ?_
                            refine k_widen ?_ ?_ (join556 _ _ _ _ ((hb1.tr (LK.fr hF12)).tr (hlk13.tr (LK.fr hF13))) hR13 (by omega))
                            · (try dsimp only); omega
                            · (try dsimp only); omega
                · skip
                  refine k_aload_n C (f := 0) (i := 0) (p := 10) rfl rfl dL_works_476 ?_
                  refine k_iconst C ic_4 dL_works_477 ?_
                  refine k_iload C (i := 12) (p := 5) rfl dL_works_478 ?_
                  refine k_iload C (i := 13) (p := 4) rfl dL_works_480 ?_
                  refine k_callSgq C s_L_272 h_L_call_ (ct_L_call_ (ct_c4 (a := nI k) (c := nI j) (u1 := nI 0) (u2 := nI 0) (u3 := nI 0) hxb hb2 hok) (fun _ _ _ _ h => ⟨_, h.2.2.1⟩)) rfl rfl (Nat.le_of_ble_eq_true rfl) ⟨Nat.le_of_ble_eq_true rfl, Nat.le_of_ble_eq_true rfl⟩ ⟨rfl, rfl⟩ ⟨by show _ ≤ 60600; (try dsimp only); omega, by show _ ≤ 374000; (try dsimp only); omega⟩ dL_works_482 ?_
                  intro v I12 hv
                  rw [nI_clamp (show k < 2 ^ 31 by omega), nI_clamp (show j < 2 ^ 31 by omega)] at hv
                  have hcc : cdI (sp_nl r) (nI k) = 0 ∧ cdI (sp_nc r) (nI j) = 0 := ⟨cdI_k hk2 (by omega), cdI_k hj0 (by omega)⟩
                  rw [if_pos hcc] at hv
                  rw [if_neg hmy] at hv
                  obtain ⟨rfl, -, hv3⟩ := hv
                  have e2 := (hv3 (by decide)).symm
                  subst e2
                  rw [if_neg (by decide), if_neg (by decide)]
                  show am_K G X _ _ _ _ _ _ _ _ _ (.int (-102) :: _)
                  refine k_istore C (i := 11) (lv := [(11, _), (17, _), (14, _), (16, _), (15, _), (13, _), (12, _), (6, _), (4, _), (2, _), (1, _), (0, _)]) (Nat.le_of_ble_eq_true rfl) rfl dL_works_485 ?_
                  refine k_iload C (i := 17) (p := 1) rfl dL_works_487 ?_
                  first
                  | refine k_ifb_eq C (tgt := 542) (by decide) dL_works_489 (fun hc489 => ?_) (fun hc489 => ?_)
                  | refine k_if_eq C (tgt := 542) (by decide) dL_works_489 (fun hc489 => ?_) (fun hc489 => ?_)
                  · skip
                    refine k_iload C (i := 11) (p := 0) rfl dL_works_542 ?_
                    refine k_bipush C bc_m102 dL_works_544 ?_
                    first
                    | refine k_icmpN_ne C (tgt := 553) (by omega) (by omega) (by decide) dL_works_546 (fun hc546 => ?_) (fun hc546 => ?_)
                    | refine k_icmp_ne C (tgt := 553) (by decide) dL_works_546 (fun hc546 => ?_) (fun hc546 => ?_)
                    · skip
                      first
                      | omega
                      | exact absurd hc546 (nI_ge (by omega) (by omega))
                      | exact absurd hc546 (by decide)
                      | exact absurd hc546 (nI_pos (by omega))
                      | exact absurd (nI_pos' (by omega)) hc546
                      | exact absurd rfl hc546
                      | exact absurd hc546 (nI_ne0 (by omega) (by omega))
                      | exact hc546 rfl
                      | contradiction
                      | exact absurd hc546 (nI_n101 (by omega))
                      | exact absurd hc546.symm (nI_n101 (by omega))
                      | (simp_all; done)
                    · skip
                      refine k_iconst C ic_1 dL_works_549 ?_
                      refine k_goto C (tgt := 554) (by decide) dL_works_550 ?_
                      refine k_istore C (i := 4) (lv := [(4, _), (11, _), (17, _), (14, _), (16, _), (15, _), (13, _), (12, _), (6, _), (2, _), (1, _), (0, _)]) (Nat.le_of_ble_eq_true rfl) rfl dL_works_554 ?_
                      refine k_sub [3, 7, 8, 0, 9, 10, 11] rfl ?_
                      refine k_widen ?_ ?_ (join556 _ _ _ _ hb1 hb2 hb3)
                      · (try dsimp only); omega
                      · (try dsimp only); omega
                  · skip
                    first
                    | omega
                    | exact absurd hc489 (nI_ge (by omega) (by omega))
                    | exact absurd hc489 (by decide)
                    | exact absurd hc489 (nI_pos (by omega))
                    | exact absurd (nI_pos' (by omega)) hc489
                    | exact absurd rfl hc489
                    | exact absurd hc489 (nI_ne0 (by omega) (by omega))
                    | exact hc489 rfl
                    | contradiction
                    | exact absurd hc489 (nI_n101 (by omega))
                    | exact absurd hc489.symm (nI_n101 (by omega))
                    | (simp_all; done)
              rcases (show ¬ zd r j < 3 ∨ (zd r j < 3 ∧ jj = j) ∨ (zd r j < 3 ∧ ¬ jj = j ∧ f0 < wt) ∨ (zd r j < 3 ∧ ¬ jj = j ∧ wt ≤ f0) by omega) with h0 | ⟨h0, h0b⟩ | ⟨h0, h0b, h0c⟩ | ⟨h0, h0b, h0c⟩
              · skip
                refine k_aload_n C (f := 0) (i := 0) (p := 9) rfl rfl dL_works_429 ?_
                refine k_bipush C bc_20 dL_works_430 ?_
                refine k_iload C (i := 13) (p := 3) rfl dL_works_432 ?_
                refine k_callSq C s_L_163 h_L_call__ (ct_k20 hxb hrb hj0 hv20) rfl rfl (Nat.le_of_ble_eq_true rfl) ⟨Nat.le_of_ble_eq_true rfl, Nat.le_of_ble_eq_true rfl⟩ ⟨rfl, rfl⟩ ⟨by show _ ≤ 60600; (try dsimp only); omega, by show _ ≤ 374000; (try dsimp only); omega⟩ dL_works_434 ?_
                rw [show dz r j = 1 from if_neg h0]
                first
                | refine k_ifb_ne C (tgt := 473) (by decide) dL_works_437 (fun hc437 => ?_) (fun hc437 => ?_)
                | refine k_if_ne C (tgt := 473) (by decide) dL_works_437 (fun hc437 => ?_) (fun hc437 => ?_)
                · skip
                  refine k_iconst C ic_0 dL_works_473 ?_
                  refine k_sub [2, 0, 1, 3, 4, 5, 6, 7, 8, 9] rfl ?_
                  refine k_widen ?_ ?_ (join474 _ (Or.inr ⟨rfl, fun z => by have := hMY.mp z; omega⟩))
                  · (try dsimp only); omega
                  · (try dsimp only); omega
                · skip
                  first
                  | omega
                  | exact absurd hc437 (nI_ge (by omega) (by omega))
                  | exact absurd hc437 (by decide)
                  | exact absurd hc437 (nI_pos (by omega))
                  | exact absurd (nI_pos' (by omega)) hc437
                  | exact absurd rfl hc437
                  | exact absurd hc437 (nI_ne0 (by omega) (by omega))
                  | exact hc437 rfl
                  | contradiction
                  | exact absurd hc437 (nI_n101 (by omega))
                  | exact absurd hc437.symm (nI_n101 (by omega))
                  | (simp_all; done)
              · skip
                refine k_aload_n C (f := 0) (i := 0) (p := 9) rfl rfl dL_works_429 ?_
                refine k_bipush C bc_20 dL_works_430 ?_
                refine k_iload C (i := 13) (p := 3) rfl dL_works_432 ?_
                refine k_callSq C s_L_163 h_L_call__ (ct_k20 hxb hrb hj0 hv20) rfl rfl (Nat.le_of_ble_eq_true rfl) ⟨Nat.le_of_ble_eq_true rfl, Nat.le_of_ble_eq_true rfl⟩ ⟨rfl, rfl⟩ ⟨by show _ ≤ 60600; (try dsimp only); omega, by show _ ≤ 374000; (try dsimp only); omega⟩ dL_works_434 ?_
                rw [show dz r j = 0 from if_pos h0]
                first
                | refine k_ifb_ne C (tgt := 473) (by decide) dL_works_437 (fun hc437 => ?_) (fun hc437 => ?_)
                | refine k_if_ne C (tgt := 473) (by decide) dL_works_437 (fun hc437 => ?_) (fun hc437 => ?_)
                · skip
                  first
                  | omega
                  | exact absurd hc437 (nI_ge (by omega) (by omega))
                  | exact absurd hc437 (by decide)
                  | exact absurd hc437 (nI_pos (by omega))
                  | exact absurd (nI_pos' (by omega)) hc437
                  | exact absurd rfl hc437
                  | exact absurd hc437 (nI_ne0 (by omega) (by omega))
                  | exact hc437 rfl
                  | contradiction
                  | exact absurd hc437 (nI_n101 (by omega))
                  | exact absurd hc437.symm (nI_n101 (by omega))
                  | (simp_all; done)
                · skip
                  refine k_iload C (i := 14) (p := 2) rfl dL_works_440 ?_
                  refine k_iload C (i := 13) (p := 3) rfl dL_works_442 ?_
                  first
                  | refine k_icmpN_eq C (tgt := 473) (by omega) (by omega) (by decide) dL_works_444 (fun hc444 => ?_) (fun hc444 => ?_)
                  | refine k_icmp_eq C (tgt := 473) (by decide) dL_works_444 (fun hc444 => ?_) (fun hc444 => ?_)
                  · skip
                    refine k_iconst C ic_0 dL_works_473 ?_
                    refine k_sub [2, 0, 1, 3, 4, 5, 6, 7, 8, 9] rfl ?_
                    refine k_widen ?_ ?_ (join474 _ (Or.inr ⟨rfl, fun z => by have := hMY.mp z; omega⟩))
                    · (try dsimp only); omega
                    · (try dsimp only); omega
                  · skip
                    first
                    | omega
                    | exact absurd hc444 (nI_ge (by omega) (by omega))
                    | exact absurd hc444 (by decide)
                    | exact absurd hc444 (nI_pos (by omega))
                    | exact absurd (nI_pos' (by omega)) hc444
                    | exact absurd rfl hc444
                    | exact absurd hc444 (nI_ne0 (by omega) (by omega))
                    | exact hc444 rfl
                    | contradiction
                    | exact absurd hc444 (nI_n101 (by omega))
                    | exact absurd hc444.symm (nI_n101 (by omega))
                    | (simp_all; done)
              · skip
                refine k_aload_n C (f := 0) (i := 0) (p := 9) rfl rfl dL_works_429 ?_
                refine k_bipush C bc_20 dL_works_430 ?_
                refine k_iload C (i := 13) (p := 3) rfl dL_works_432 ?_
                refine k_callSq C s_L_163 h_L_call__ (ct_k20 hxb hrb hj0 hv20) rfl rfl (Nat.le_of_ble_eq_true rfl) ⟨Nat.le_of_ble_eq_true rfl, Nat.le_of_ble_eq_true rfl⟩ ⟨rfl, rfl⟩ ⟨by show _ ≤ 60600; (try dsimp only); omega, by show _ ≤ 374000; (try dsimp only); omega⟩ dL_works_434 ?_
                rw [show dz r j = 0 from if_pos h0]
                first
                | refine k_ifb_ne C (tgt := 473) (by decide) dL_works_437 (fun hc437 => ?_) (fun hc437 => ?_)
                | refine k_if_ne C (tgt := 473) (by decide) dL_works_437 (fun hc437 => ?_) (fun hc437 => ?_)
                · skip
                  first
                  | omega
                  | exact absurd hc437 (nI_ge (by omega) (by omega))
                  | exact absurd hc437 (by decide)
                  | exact absurd hc437 (nI_pos (by omega))
                  | exact absurd (nI_pos' (by omega)) hc437
                  | exact absurd rfl hc437
                  | exact absurd hc437 (nI_ne0 (by omega) (by omega))
                  | exact hc437 rfl
                  | contradiction
                  | exact absurd hc437 (nI_n101 (by omega))
                  | exact absurd hc437.symm (nI_n101 (by omega))
                  | (simp_all; done)
                · skip
                  refine k_iload C (i := 14) (p := 2) rfl dL_works_440 ?_
                  refine k_iload C (i := 13) (p := 3) rfl dL_works_442 ?_
                  first
                  | refine k_icmpN_eq C (tgt := 473) (by omega) (by omega) (by decide) dL_works_444 (fun hc444 => ?_) (fun hc444 => ?_)
                  | refine k_icmp_eq C (tgt := 473) (by decide) dL_works_444 (fun hc444 => ?_) (fun hc444 => ?_)
                  · skip
                    first
                    | omega
                    | exact absurd hc444 (nI_ge (by omega) (by omega))
                    | exact absurd hc444 (by decide)
                    | exact absurd hc444 (nI_pos (by omega))
                    | exact absurd (nI_pos' (by omega)) hc444
                    | exact absurd rfl hc444
                    | exact absurd hc444 (nI_ne0 (by omega) (by omega))
                    | exact hc444 rfl
                    | contradiction
                    | exact absurd hc444 (nI_n101 (by omega))
                    | exact absurd hc444.symm (nI_n101 (by omega))
                    | (simp_all; done)
                  · skip
                    refine k_aload_n C (f := 0) (i := 0) (p := 9) rfl rfl dL_works_447 ?_
                    refine k_bipush C bc_36 dL_works_448 ?_
                    refine k_iload C (i := 12) (p := 4) rfl dL_works_450 ?_
                    refine k_callSq C s_L_163 h_L_call__ (ct_k36 hxb hrb hk2 hv36) rfl rfl (Nat.le_of_ble_eq_true rfl) ⟨Nat.le_of_ble_eq_true rfl, Nat.le_of_ble_eq_true rfl⟩ ⟨rfl, rfl⟩ ⟨by show _ ≤ 60600; (try dsimp only); omega, by show _ ≤ 374000; (try dsimp only); omega⟩ dL_works_452 ?_
                    refine k_aload_n C (f := 0) (i := 0) (p := 9) rfl rfl dL_works_455 ?_
                    refine k_callVp C s_L_202 h_X5_kilometre (L5_s (by assumption)) rfl (ct_X5_kilometre (by first | assumption | omega) (by first | assumption | omega)) rfl rfl (Nat.le_of_ble_eq_true rfl) ⟨Nat.le_of_ble_eq_true rfl, Nat.le_of_ble_eq_true rfl⟩ ⟨by show _ ≤ 60600; (try dsimp only); omega, by show _ ≤ 374000; (try dsimp only); omega⟩ ⟨rfl, rfl⟩ dL_works_456 ?_
                    rw [hk]
                    first
                    | refine k_icmpN_ne C (tgt := 473) (by omega) (by omega) (by decide) dL_works_459 (fun hc459 => ?_) (fun hc459 => ?_)
                    | refine k_icmp_ne C (tgt := 473) (by decide) dL_works_459 (fun hc459 => ?_) (fun hc459 => ?_)
                    · skip
                      first
                      | omega
                      | exact absurd hc459 (nI_ge (by omega) (by omega))
                      | exact absurd hc459 (by decide)
                      | exact absurd hc459 (nI_pos (by omega))
                      | exact absurd (nI_pos' (by omega)) hc459
                      | exact absurd rfl hc459
                      | exact absurd hc459 (nI_ne0 (by omega) (by omega))
                      | exact hc459 rfl
                      | contradiction
                      | exact absurd hc459 (nI_n101 (by omega))
                      | exact absurd hc459.symm (nI_n101 (by omega))
                      | (simp_all; done)
                    · skip
                      refine k_iload C (i := 15) (p := 1) rfl dL_works_462 ?_
                      refine k_iload C (i := 16) (p := 0) rfl dL_works_464 ?_
                      first
                      | refine k_icmpN_gt C (tgt := 473) (by omega) (by omega) (by decide) dL_works_466 (fun hc466 => ?_) (fun hc466 => ?_)
                      | refine k_icmp_gt C (tgt := 473) (by decide) dL_works_466 (fun hc466 => ?_) (fun hc466 => ?_)
                      · skip
                        refine k_iconst C ic_0 dL_works_473 ?_
                        refine k_sub [2, 0, 1, 3, 4, 5, 6, 7, 8, 9] rfl ?_
                        refine k_widen ?_ ?_ (join474 _ (Or.inr ⟨rfl, fun z => by have := hMY.mp z; omega⟩))
                        · (try dsimp only); omega
                        · (try dsimp only); omega
                      · skip
                        first
                        | omega
                        | exact absurd hc466 (nI_ge (by omega) (by omega))
                        | exact absurd hc466 (by decide)
                        | exact absurd hc466 (nI_pos (by omega))
                        | exact absurd (nI_pos' (by omega)) hc466
                        | exact absurd rfl hc466
                        | exact absurd hc466 (nI_ne0 (by omega) (by omega))
                        | exact hc466 rfl
                        | contradiction
                        | exact absurd hc466 (nI_n101 (by omega))
                        | exact absurd hc466.symm (nI_n101 (by omega))
                        | (simp_all; done)
              · skip
                refine k_aload_n C (f := 0) (i := 0) (p := 9) rfl rfl dL_works_429 ?_
                refine k_bipush C bc_20 dL_works_430 ?_
                refine k_iload C (i := 13) (p := 3) rfl dL_works_432 ?_
                refine k_callSq C s_L_163 h_L_call__ (ct_k20 hxb hrb hj0 hv20) rfl rfl (Nat.le_of_ble_eq_true rfl) ⟨Nat.le_of_ble_eq_true rfl, Nat.le_of_ble_eq_true rfl⟩ ⟨rfl, rfl⟩ ⟨by show _ ≤ 60600; (try dsimp only); omega, by show _ ≤ 374000; (try dsimp only); omega⟩ dL_works_434 ?_
                rw [show dz r j = 0 from if_pos h0]
                first
                | refine k_ifb_ne C (tgt := 473) (by decide) dL_works_437 (fun hc437 => ?_) (fun hc437 => ?_)
                | refine k_if_ne C (tgt := 473) (by decide) dL_works_437 (fun hc437 => ?_) (fun hc437 => ?_)
                · skip
                  first
                  | omega
                  | exact absurd hc437 (nI_ge (by omega) (by omega))
                  | exact absurd hc437 (by decide)
                  | exact absurd hc437 (nI_pos (by omega))
                  | exact absurd (nI_pos' (by omega)) hc437
                  | exact absurd rfl hc437
                  | exact absurd hc437 (nI_ne0 (by omega) (by omega))
                  | exact hc437 rfl
                  | contradiction
                  | exact absurd hc437 (nI_n101 (by omega))
                  | exact absurd hc437.symm (nI_n101 (by omega))
                  | (simp_all; done)
                · skip
                  refine k_iload C (i := 14) (p := 2) rfl dL_works_440 ?_
                  refine k_iload C (i := 13) (p := 3) rfl dL_works_442 ?_
                  first
                  | refine k_icmpN_eq C (tgt := 473) (by omega) (by omega) (by decide) dL_works_444 (fun hc444 => ?_) (fun hc444 => ?_)
                  | refine k_icmp_eq C (tgt := 473) (by decide) dL_works_444 (fun hc444 => ?_) (fun hc444 => ?_)
                  · skip
                    first
                    | omega
                    | exact absurd hc444 (nI_ge (by omega) (by omega))
                    | exact absurd hc444 (by decide)
                    | exact absurd hc444 (nI_pos (by omega))
                    | exact absurd (nI_pos' (by omega)) hc444
                    | exact absurd rfl hc444
                    | exact absurd hc444 (nI_ne0 (by omega) (by omega))
                    | exact hc444 rfl
                    | contradiction
                    | exact absurd hc444 (nI_n101 (by omega))
                    | exact absurd hc444.symm (nI_n101 (by omega))
                    | (simp_all; done)
                  · skip
                    refine k_aload_n C (f := 0) (i := 0) (p := 9) rfl rfl dL_works_447 ?_
                    refine k_bipush C bc_36 dL_works_448 ?_
                    refine k_iload C (i := 12) (p := 4) rfl dL_works_450 ?_
                    refine k_callSq C s_L_163 h_L_call__ (ct_k36 hxb hrb hk2 hv36) rfl rfl (Nat.le_of_ble_eq_true rfl) ⟨Nat.le_of_ble_eq_true rfl, Nat.le_of_ble_eq_true rfl⟩ ⟨rfl, rfl⟩ ⟨by show _ ≤ 60600; (try dsimp only); omega, by show _ ≤ 374000; (try dsimp only); omega⟩ dL_works_452 ?_
                    refine k_aload_n C (f := 0) (i := 0) (p := 9) rfl rfl dL_works_455 ?_
                    refine k_callVp C s_L_202 h_X5_kilometre (L5_s (by assumption)) rfl (ct_X5_kilometre (by first | assumption | omega) (by first | assumption | omega)) rfl rfl (Nat.le_of_ble_eq_true rfl) ⟨Nat.le_of_ble_eq_true rfl, Nat.le_of_ble_eq_true rfl⟩ ⟨by show _ ≤ 60600; (try dsimp only); omega, by show _ ≤ 374000; (try dsimp only); omega⟩ ⟨rfl, rfl⟩ dL_works_456 ?_
                    rw [hk]
                    first
                    | refine k_icmpN_ne C (tgt := 473) (by omega) (by omega) (by decide) dL_works_459 (fun hc459 => ?_) (fun hc459 => ?_)
                    | refine k_icmp_ne C (tgt := 473) (by decide) dL_works_459 (fun hc459 => ?_) (fun hc459 => ?_)
                    · skip
                      first
                      | omega
                      | exact absurd hc459 (nI_ge (by omega) (by omega))
                      | exact absurd hc459 (by decide)
                      | exact absurd hc459 (nI_pos (by omega))
                      | exact absurd (nI_pos' (by omega)) hc459
                      | exact absurd rfl hc459
                      | exact absurd hc459 (nI_ne0 (by omega) (by omega))
                      | exact hc459 rfl
                      | contradiction
                      | exact absurd hc459 (nI_n101 (by omega))
                      | exact absurd hc459.symm (nI_n101 (by omega))
                      | (simp_all; done)
                    · skip
                      refine k_iload C (i := 15) (p := 1) rfl dL_works_462 ?_
                      refine k_iload C (i := 16) (p := 0) rfl dL_works_464 ?_
                      first
                      | refine k_icmpN_gt C (tgt := 473) (by omega) (by omega) (by decide) dL_works_466 (fun hc466 => ?_) (fun hc466 => ?_)
                      | refine k_icmp_gt C (tgt := 473) (by decide) dL_works_466 (fun hc466 => ?_) (fun hc466 => ?_)
                      · skip
                        first
                        | omega
                        | exact absurd hc466 (nI_ge (by omega) (by omega))
                        | exact absurd hc466 (by decide)
                        | exact absurd hc466 (nI_pos (by omega))
                        | exact absurd (nI_pos' (by omega)) hc466
                        | exact absurd rfl hc466
                        | exact absurd hc466 (nI_ne0 (by omega) (by omega))
                        | exact hc466 rfl
                        | contradiction
                        | exact absurd hc466 (nI_n101 (by omega))
                        | exact absurd hc466.symm (nI_n101 (by omega))
                        | (simp_all; done)
                      · skip
                        refine k_iconst C ic_1 dL_works_469 ?_
                        refine k_goto C (tgt := 474) (by decide) dL_works_470 ?_
                        refine k_sub [2, 0, 1, 3, 4, 5, 6, 7, 8, 9] rfl ?_
                        refine k_widen ?_ ?_ (join474 _ (Or.inl ⟨rfl, hMY.mpr (by omega)⟩))
                        · (try dsimp only); omega
                        · (try dsimp only); omega
    refine k_sub [0, 1, 2, 3, 4, 5] rfl ?_
    refine k_widen ?_ ?_ (loop372 (sp_nl r + 1) 0 Λa Ia Ja ca (Nat.zero_le _) ha1 ha2 ha3 (by omega))
    · (try dsimp only); omega
    · (try dsimp only); omega
  rcases wellOn_or r (r 1) with hwo | ⟨wi, hwo, hwi⟩
  · skip
    have hv18 : (if (if sp_wellOn r (r 1) = -1 then 1 else 0) = 0 then sp_wellOn r (r 1) else (-101)) = (-101) := by rw [hwo]; decide
    refine k_aload_n C (f := 0) (i := 0) (p := 2) rfl rfl dL_works_8 ?_
    refine k_bipush C bc_18 dL_works_9 ?_
    refine k_iconst C ic_0 dL_works_11 ?_
    refine k_callSq C s_L_163 h_L_call__ (ct_q18 hx hr hv18) rfl rfl (Nat.le_of_ble_eq_true rfl) ⟨Nat.le_of_ble_eq_true rfl, Nat.le_of_ble_eq_true rfl⟩ ⟨rfl, rfl⟩ ⟨by show _ ≤ 60600; (try dsimp only); omega, by show _ ≤ 374000; (try dsimp only); omega⟩ dL_works_12 ?_
    refine k_istore C (i := 5) (lv := [(5, _), (4, _), (2, _), (0, _), (1, _)]) (Nat.le_of_ble_eq_true rfl) rfl dL_works_15 ?_
    refine k_aload_n C (f := 0) (i := 0) (p := 3) rfl rfl dL_works_17 ?_
    refine k_callVp C s_L_222 h_X5_camelCount (L5_s (by assumption)) rfl (ct_X5_camelCount (by first | assumption | omega) (by first | assumption | omega)) rfl rfl (Nat.le_of_ble_eq_true rfl) ⟨Nat.le_of_ble_eq_true rfl, Nat.le_of_ble_eq_true rfl⟩ ⟨by show _ ≤ 60600; (try dsimp only); omega, by show _ ≤ 374000; (try dsimp only); omega⟩ ⟨rfl, rfl⟩ dL_works_18 ?_
    refine k_istore C (i := 6) (lv := [(6, _), (5, _), (4, _), (2, _), (0, _), (1, _)]) (Nat.le_of_ble_eq_true rfl) rfl dL_works_21 ?_
    refine k_iconst C ic_0 dL_works_23 ?_
    refine k_istore C (i := 7) (lv := [(7, _), (6, _), (5, _), (4, _), (2, _), (0, _), (1, _)]) (Nat.le_of_ble_eq_true rfl) rfl dL_works_24 ?_
    refine k_bipush C bc_10 dL_works_26 ?_
    refine k_newA2 C am_ar_i (rfl) (Nat.le_of_ble_eq_true rfl) (Or.inl ⟨rfl, rfl⟩) ⟨by show _ ≤ 60600; (try dsimp only); omega, by show _ ≤ 374000; (try dsimp only); omega⟩ dL_works_28 (fun h8 hh28 => ?_)
    have hN : NewOk x Λ I Λ I := ⟨LK.rf, hx, fun _ _ _ => rfl⟩
    obtain ⟨hN, hsh8, hxh8, hzh8, hp⟩ := new_step (s := (2, 10)) hN hh28
    clear hp
    generalize am_nS Λ h8 (2, 10) = Λ1 at hN hsh8  ⊢
    generalize am_nI I h8 = I1 at hN ⊢
    generalize am_nJ _ h8 = J1
    have hx1 := hN.2.1
    have hR1 := RouRel_agree hR hN.2.2
    refine k_astore C (i := 8) (lv := [(8, _), (7, _), (6, _), (5, _), (4, _), (2, _), (0, _), (1, _)]) (Nat.le_of_ble_eq_true rfl) rfl dL_works_30 ?_
    refine k_iconst C ic_0 dL_works_32 ?_
    refine k_istore C (i := 9) (lv := [(9, _), (8, _), (7, _), (6, _), (5, _), (4, _), (2, _), (0, _), (1, _)]) (Nat.le_of_ble_eq_true rfl) rfl dL_works_33 ?_
    have loop35 : ∀ (f : Nat) (k : Nat) (V : Int32) (S : am_I), (k ≤ sp_nc r) → (LK x Λ I Λ1 S) → (RouRel S x tb n err r ct hs kp sn w) → (sp_nc r - k) < f → am_K G X { frames := 13, cells := 60600, slots := 374000, locals := 400 } 18 Λ1 S J1 (1310 + 12 * k) (7850 + 72 * k) 35 [(9, .int (nI k)), (8, .ref h8), (7, .int V), (6, .int (nI (sp_nc r))), (5, .int (-101)), (4, .int (nI 1)), (2, .long (hash r)), (1, .int wv), (0, .ref x)] [] := by
      intro f
      induction f with
      | zero => intro k V S hk1 hS hRS hf; exact absurd hf (Nat.not_lt_zero _)
      | succ f ih35 =>
        intro k V S hk1 hS hRS hf
        have hrS := RR_r hRS
        refine k_iload C (i := 9) (p := 0) rfl dL_works_35 ?_
        refine k_iload C (i := 6) (p := 3) rfl dL_works_37 ?_
        first
        | refine k_icmpN_ge C (tgt := 118) (by omega) (by omega) (by decide) dL_works_39 (fun hc39 => ?_) (fun hc39 => ?_)
        | refine k_icmp_ge C (tgt := 118) (by decide) dL_works_39 (fun hc39 => ?_) (fun hc39 => ?_)
        · skip
          obtain rfl : k = sp_nc r := by omega
          refine k_aload_n C (f := 0) (i := 0) (p := 8) rfl rfl dL_works_118 ?_
          refine k_callVp C s_L_219 h_X5_drunk (L5_s (by assumption)) rfl (ct_X5_drunk (by first | assumption | omega) (by first | assumption | omega)) rfl rfl (Nat.le_of_ble_eq_true rfl) ⟨Nat.le_of_ble_eq_true rfl, Nat.le_of_ble_eq_true rfl⟩ ⟨by show _ ≤ 60600; (try dsimp only); omega, by show _ ≤ 374000; (try dsimp only); omega⟩ ⟨rfl, rfl⟩ dL_works_119 ?_
          refine k_istore C (i := 9) (lv := [(9, _), (8, _), (7, _), (6, _), (5, _), (4, _), (2, _), (1, _), (0, _)]) (Nat.le_of_ble_eq_true rfl) rfl dL_works_122 ?_
          refine k_iload C (i := 5) (p := 4) rfl dL_works_124 ?_
          refine k_if_ge C (tgt := 133) (by decide) dL_works_126 (fun hc126 => ?_) (fun hc126 => ?_)
          · skip
            first
            | omega
            | exact absurd hc126 (nI_ge (by omega) (by omega))
            | exact absurd hc126 (by decide)
            | exact absurd hc126 (nI_pos (by omega))
            | exact absurd (nI_pos' (by omega)) hc126
            | exact absurd rfl hc126
            | exact absurd hc126 (nI_ne0 (by omega) (by omega))
            | exact hc126 rfl
            | contradiction
            | exact absurd hc126 (nI_n101 (by omega))
            | exact absurd hc126.symm (nI_n101 (by omega))
            | (simp_all; done)
          · skip
            refine k_iconst C ic_0 dL_works_129 ?_
            refine k_goto C (tgt := 141) (by decide) dL_works_130 ?_
            refine k_istore C (i := 10) (lv := [(10, _), (9, _), (8, _), (7, _), (6, _), (5, _), (4, _), (2, _), (1, _), (0, _)]) (Nat.le_of_ble_eq_true rfl) rfl dL_works_141 ?_
            refine k_aload_n C (f := 0) (i := 0) (p := 9) rfl rfl dL_works_143 ?_
            refine k_iconst C ic_2 dL_works_144 ?_
            refine k_iconst C ic_0 dL_works_145 ?_
            refine k_callSgq C s_L_163 h_L_call__ (ct_L_call__ (ct_c2 (u1 := nI 0) (u2 := nI 0) (u3 := nI 0) (u4 := nI 0) (u5 := nI 0) hx1 hRS hok) (fun _ _ _ _ h => ⟨_, h.2.2.1⟩)) rfl rfl (Nat.le_of_ble_eq_true rfl) ⟨Nat.le_of_ble_eq_true rfl, Nat.le_of_ble_eq_true rfl⟩ ⟨rfl, rfl⟩ ⟨by show _ ≤ 60600; (try dsimp only); omega, by show _ ≤ 374000; (try dsimp only); omega⟩ dL_works_146 ?_
            intro v I9 hv
            obtain ⟨rfl, -, hv3⟩ := hv
            have e2 := (hv3 (by rw [if_pos hwo]; decide)).symm
            subst e2
            rw [if_neg (by rw [if_pos hwo]; decide)]
            show am_K G X _ _ _ _ _ _ _ _ _ (.int (-102) :: _)
            refine k_istore C (i := 11) (lv := [(11, _), (10, _), (9, _), (8, _), (7, _), (6, _), (5, _), (4, _), (2, _), (1, _), (0, _)]) (Nat.le_of_ble_eq_true rfl) rfl dL_works_149 ?_
            refine k_iload C (i := 5) (p := 6) rfl dL_works_151 ?_
            refine k_if_ge C (tgt := 178) (by decide) dL_works_153 (fun hc153 => ?_) (fun hc153 => ?_)
            · skip
              first
              | omega
              | exact absurd hc153 (nI_ge (by omega) (by omega))
              | exact absurd hc153 (by decide)
              | exact absurd hc153 (nI_pos (by omega))
              | exact absurd (nI_pos' (by omega)) hc153
              | exact absurd rfl hc153
              | exact absurd hc153 (nI_ne0 (by omega) (by omega))
              | exact hc153 rfl
              | contradiction
              | exact absurd hc153 (nI_n101 (by omega))
              | exact absurd hc153.symm (nI_n101 (by omega))
              | (simp_all; done)
            · skip
              refine k_iload C (i := 4) (p := 7) rfl dL_works_156 ?_
              first
              | refine k_ifb_eq C (tgt := 172) (by decide) dL_works_158 (fun hc158 => ?_) (fun hc158 => ?_)
              | refine k_if_eq C (tgt := 172) (by decide) dL_works_158 (fun hc158 => ?_) (fun hc158 => ?_)
              · skip
                first
                | omega
                | exact absurd hc158 (nI_ge (by omega) (by omega))
                | exact absurd hc158 (by decide)
                | exact absurd hc158 (nI_pos (by omega))
                | exact absurd (nI_pos' (by omega)) hc158
                | exact absurd rfl hc158
                | exact absurd hc158 (nI_ne0 (by omega) (by omega))
                | exact hc158 rfl
                | contradiction
                | exact absurd hc158 (nI_n101 (by omega))
                | exact absurd hc158.symm (nI_n101 (by omega))
                | (simp_all; done)
              · skip
                refine k_iload C (i := 11) (p := 0) rfl dL_works_161 ?_
                refine k_bipush C bc_m102 dL_works_163 ?_
                first
                | refine k_icmpN_ne C (tgt := 172) (by omega) (by omega) (by decide) dL_works_165 (fun hc165 => ?_) (fun hc165 => ?_)
                | refine k_icmp_ne C (tgt := 172) (by decide) dL_works_165 (fun hc165 => ?_) (fun hc165 => ?_)
                · skip
                  first
                  | omega
                  | exact absurd hc165 (nI_ge (by omega) (by omega))
                  | exact absurd hc165 (by decide)
                  | exact absurd hc165 (nI_pos (by omega))
                  | exact absurd (nI_pos' (by omega)) hc165
                  | exact absurd rfl hc165
                  | exact absurd hc165 (nI_ne0 (by omega) (by omega))
                  | exact hc165 rfl
                  | contradiction
                  | exact absurd hc165 (nI_n101 (by omega))
                  | exact absurd hc165.symm (nI_n101 (by omega))
                  | (simp_all; done)
                · skip
                  refine k_iconst C ic_1 dL_works_168 ?_
                  refine k_goto C (tgt := 173) (by decide) dL_works_169 ?_
                  refine k_istore C (i := 4) (lv := [(4, _), (11, _), (10, _), (9, _), (8, _), (7, _), (6, _), (5, _), (2, _), (1, _), (0, _)]) (Nat.le_of_ble_eq_true rfl) rfl dL_works_173 ?_
                  refine k_goto C (tgt := 369) (by decide) dL_works_175 ?_
                  refine k_sub [6, 0, 8, 9, 10] rfl ?_
                  refine k_widen ?_ ?_ (join369 _ _ _ _ hS hRS (Nat.le_refl _))
                  · (try dsimp only); omega
                  · (try dsimp only); omega
        · skip
          have hk2 : k < sp_nc r := by omega
          obtain ⟨hv23, -, -, -, b23, -, -, -⟩ := NumR_of hleg k hk2
          refine k_iload C (i := 4) (p := 5) rfl dL_works_42 ?_
          first
          | refine k_ifb_eq C (tgt := 118) (by decide) dL_works_44 (fun hc44 => ?_) (fun hc44 => ?_)
          | refine k_if_eq C (tgt := 118) (by decide) dL_works_44 (fun hc44 => ?_) (fun hc44 => ?_)
          · skip
            first
            | omega
            | exact absurd hc44 (nI_ge (by omega) (by omega))
            | exact absurd hc44 (by decide)
            | exact absurd hc44 (nI_pos (by omega))
            | exact absurd (nI_pos' (by omega)) hc44
            | exact absurd rfl hc44
            | exact absurd hc44 (nI_ne0 (by omega) (by omega))
            | exact hc44 rfl
            | contradiction
            | exact absurd hc44 (nI_n101 (by omega))
            | exact absurd hc44.symm (nI_n101 (by omega))
            | (simp_all; done)
          · skip
            refine k_aload_n C (f := 0) (i := 0) (p := 8) rfl rfl dL_works_47 ?_
            refine k_bipush C bc_40 dL_works_48 ?_
            refine k_iload C (i := 9) (p := 0) rfl dL_works_50 ?_
            refine k_callSgq C s_L_163 h_L_call__ (ct_L_call__ (ct_c40 (c := nI k) (u1 := nI 0) (u2 := nI 0) (u3 := nI 0) (u4 := nI 0) hx1 hRS hok) (fun _ _ _ _ h => ⟨_, h.2.2.1⟩)) rfl rfl (Nat.le_of_ble_eq_true rfl) ⟨Nat.le_of_ble_eq_true rfl, Nat.le_of_ble_eq_true rfl⟩ ⟨rfl, rfl⟩ ⟨by show _ ≤ 60600; (try dsimp only); omega, by show _ ≤ 374000; (try dsimp only); omega⟩ dL_works_52 ?_
            intro v S2 hv
            obtain ⟨rfl, -, hv3⟩ := hv
            have hcd : (if cdI (sp_nc r) (nI k) = 0 then (if sp_wellOn r (r 1) = -1 then 2 else 0) else 1) = 2 := by rw [if_pos (cdI_k hk2 (by omega)), if_pos hwo]
            have e2 := (hv3 (by rw [hcd]; decide)).symm
            subst e2
            rw [hcd, if_neg (by decide), if_neg (by decide)]
            show am_K G X _ _ _ _ _ _ _ _ _ (.int (-102) :: _)
            have hS2 := hS
            have hRS2 := hRS
            refine k_istore C (i := 10) (lv := [(10, _), (9, _), (8, _), (7, _), (6, _), (5, _), (4, _), (2, _), (1, _), (0, _)]) (Nat.le_of_ble_eq_true rfl) rfl dL_works_55 ?_
            refine k_iload C (i := 5) (p := 5) rfl dL_works_57 ?_
            refine k_if_ge C (tgt := 77) (by decide) dL_works_59 (fun hc59 => ?_) (fun hc59 => ?_)
            · skip
              first
              | omega
              | exact absurd hc59 (nI_ge (by omega) (by omega))
              | exact absurd hc59 (by decide)
              | exact absurd hc59 (nI_pos (by omega))
              | exact absurd (nI_pos' (by omega)) hc59
              | exact absurd rfl hc59
              | exact absurd hc59 (nI_ne0 (by omega) (by omega))
              | exact hc59 rfl
              | contradiction
              | exact absurd hc59 (nI_n101 (by omega))
              | exact absurd hc59.symm (nI_n101 (by omega))
              | (simp_all; done)
            · skip
              refine k_iload C (i := 10) (p := 0) rfl dL_works_62 ?_
              refine k_bipush C bc_m102 dL_works_64 ?_
              first
              | refine k_icmpN_ne C (tgt := 73) (by omega) (by omega) (by decide) dL_works_66 (fun hc66 => ?_) (fun hc66 => ?_)
              | refine k_icmp_ne C (tgt := 73) (by decide) dL_works_66 (fun hc66 => ?_) (fun hc66 => ?_)
              · skip
                first
                | omega
                | exact absurd hc66 (nI_ge (by omega) (by omega))
                | exact absurd hc66 (by decide)
                | exact absurd hc66 (nI_pos (by omega))
                | exact absurd (nI_pos' (by omega)) hc66
                | exact absurd rfl hc66
                | exact absurd hc66 (nI_ne0 (by omega) (by omega))
                | exact hc66 rfl
                | contradiction
                | exact absurd hc66 (nI_n101 (by omega))
                | exact absurd hc66.symm (nI_n101 (by omega))
                | (simp_all; done)
              · skip
                refine k_iconst C ic_1 dL_works_69 ?_
                refine k_goto C (tgt := 87) (by decide) dL_works_70 ?_
                refine k_istore C (i := 4) (lv := [(4, _), (10, _), (9, _), (8, _), (7, _), (6, _), (5, _), (2, _), (1, _), (0, _)]) (Nat.le_of_ble_eq_true rfl) rfl dL_works_87 ?_
                refine k_aload C (i := 8) (p := 3) rfl dL_works_89 ?_
                refine k_iload C (i := 9) (p := 2) rfl dL_works_91 ?_
                refine k_aload_n C (f := 0) (i := 0) (p := 9) rfl rfl dL_works_93 ?_
                refine k_bipush C bc_23 dL_works_94 ?_
                refine k_iload C (i := 9) (p := 2) rfl dL_works_96 ?_
                refine k_callSq C s_L_163 h_L_call__ (ct_k23 hx1 hrS hk2 hv23) rfl rfl (Nat.le_of_ble_eq_true rfl) ⟨Nat.le_of_ble_eq_true rfl, Nat.le_of_ble_eq_true rfl⟩ ⟨rfl, rfl⟩ ⟨by show _ ≤ 60600; (try dsimp only); omega, by show _ ≤ 374000; (try dsimp only); omega⟩ dL_works_98 ?_
                refine k_iload C (i := 10) (p := 1) rfl dL_works_101 ?_
                refine k_iadd C dL_works_103 ?_
                skip
                refine k_iast C (hsh8) (rfl) (by omega) (by decide) dL_works_104 ?_
                have hSu := LK.up (j := k) (v := nI (zw r k) + (-102)) hS2 hzh8
                have hRu : RouRel (am_up S h8 k (nI (zw r k) + (-102))) x tb n err r ct hs kp sn w := RouRel_agree hRS2 (fun b g1 g2 => am_up_ne (by omega))
                refine k_iload C (i := 7) (p := 4) rfl dL_works_105 ?_
                refine k_iload C (i := 10) (p := 1) rfl dL_works_107 ?_
                refine k_iadd C dL_works_109 ?_
                refine k_istore C (i := 7) (lv := [(7, _), (4, _), (10, _), (9, _), (8, _), (6, _), (5, _), (2, _), (1, _), (0, _)]) (Nat.le_of_ble_eq_true rfl) rfl dL_works_110 ?_
                refine k_iinc C (i := 9) (p := 3) (lv := [(9, _), (7, _), (4, _), (10, _), (8, _), (6, _), (5, _), (2, _), (1, _), (0, _)]) (Nat.le_of_ble_eq_true rfl) rfl (by first | exact am_inc1 _ | rfl) rfl dL_works_112 ?_
                refine k_goto C (tgt := 35) (by decide) dL_works_115 ?_
                refine k_sub [0, 4, 1, 5, 6, 2, 7, 8, 9] rfl ?_
                refine k_widen ?_ ?_ (ih35 (k + 1) _ _ (by omega) hSu hRu (by omega))
                · (try dsimp only); omega
                · (try dsimp only); omega
    refine k_sub [0, 1, 2, 3, 4, 5, 6, 8, 7] rfl ?_
    refine k_widen ?_ ?_ (loop35 (sp_nc r + 1) 0 _ I1 (Nat.zero_le _) hN.1 hR1 (by omega))
    · (try dsimp only); omega
    · (try dsimp only); omega
  · skip
    have hwo2 : ¬ sp_wellOn r (r 1) = -1 := by rw [hwo]; exact nI_m1 (by omega)
    have hv18 : (if (if sp_wellOn r (r 1) = -1 then 1 else 0) = 0 then sp_wellOn r (r 1) else (-101)) = nI wi := by rw [if_neg hwo2, if_pos rfl, hwo]
    obtain ⟨cap, lev, hcap, hcap9, hlev, hlev9, -⟩ := RK_we hok wi hwi
    obtain ⟨sum, hsum, hsum9, hd5, hdw, hdn, hdnw, hdm⟩ := drink_facts hleg hwi hlev (by omega)
    refine k_aload_n C (f := 0) (i := 0) (p := 2) rfl rfl dL_works_8 ?_
    refine k_bipush C bc_18 dL_works_9 ?_
    refine k_iconst C ic_0 dL_works_11 ?_
    refine k_callSq C s_L_163 h_L_call__ (ct_q18 hx hr hv18) rfl rfl (Nat.le_of_ble_eq_true rfl) ⟨Nat.le_of_ble_eq_true rfl, Nat.le_of_ble_eq_true rfl⟩ ⟨rfl, rfl⟩ ⟨by show _ ≤ 60600; (try dsimp only); omega, by show _ ≤ 374000; (try dsimp only); omega⟩ dL_works_12 ?_
    refine k_istore C (i := 5) (lv := [(5, _), (4, _), (2, _), (0, _), (1, _)]) (Nat.le_of_ble_eq_true rfl) rfl dL_works_15 ?_
    refine k_aload_n C (f := 0) (i := 0) (p := 3) rfl rfl dL_works_17 ?_
    refine k_callVp C s_L_222 h_X5_camelCount (L5_s (by assumption)) rfl (ct_X5_camelCount (by first | assumption | omega) (by first | assumption | omega)) rfl rfl (Nat.le_of_ble_eq_true rfl) ⟨Nat.le_of_ble_eq_true rfl, Nat.le_of_ble_eq_true rfl⟩ ⟨by show _ ≤ 60600; (try dsimp only); omega, by show _ ≤ 374000; (try dsimp only); omega⟩ ⟨rfl, rfl⟩ dL_works_18 ?_
    refine k_istore C (i := 6) (lv := [(6, _), (5, _), (4, _), (2, _), (0, _), (1, _)]) (Nat.le_of_ble_eq_true rfl) rfl dL_works_21 ?_
    refine k_iconst C ic_0 dL_works_23 ?_
    refine k_istore C (i := 7) (lv := [(7, _), (6, _), (5, _), (4, _), (2, _), (0, _), (1, _)]) (Nat.le_of_ble_eq_true rfl) rfl dL_works_24 ?_
    refine k_bipush C bc_10 dL_works_26 ?_
    refine k_newA2 C am_ar_i (rfl) (Nat.le_of_ble_eq_true rfl) (Or.inl ⟨rfl, rfl⟩) ⟨by show _ ≤ 60600; (try dsimp only); omega, by show _ ≤ 374000; (try dsimp only); omega⟩ dL_works_28 (fun h8 hh28 => ?_)
    have hN : NewOk x Λ I Λ I := ⟨LK.rf, hx, fun _ _ _ => rfl⟩
    obtain ⟨hN, hsh8, hxh8, hzh8, hp⟩ := new_step (s := (2, 10)) hN hh28
    clear hp
    generalize am_nS Λ h8 (2, 10) = Λ1 at hN hsh8  ⊢
    generalize am_nI I h8 = I1 at hN ⊢
    generalize am_nJ _ h8 = J1
    have hx1 := hN.2.1
    have hR1 := RouRel_agree hR hN.2.2
    refine k_astore C (i := 8) (lv := [(8, _), (7, _), (6, _), (5, _), (4, _), (2, _), (0, _), (1, _)]) (Nat.le_of_ble_eq_true rfl) rfl dL_works_30 ?_
    refine k_iconst C ic_0 dL_works_32 ?_
    refine k_istore C (i := 9) (lv := [(9, _), (8, _), (7, _), (6, _), (5, _), (4, _), (2, _), (0, _), (1, _)]) (Nat.le_of_ble_eq_true rfl) rfl dL_works_33 ?_
    have loop35 : ∀ (f : Nat) (k : Nat) (V : Int32) (S : am_I), (k ≤ sp_nc r) → (LK x Λ I Λ1 S) → (RouRel S x tb n err r ct hs kp sn w) → (V = sp_sumTo (sp_drinks r wi) k) → (∀ j : Nat, j < k → S h8 j = nI (zw r j + dq r wi j)) → (sp_nc r - k) < f → am_K G X { frames := 13, cells := 60600, slots := 374000, locals := 400 } 18 Λ1 S J1 (1310 + 12 * k) (7850 + 72 * k) 35 [(9, .int (nI k)), (8, .ref h8), (7, .int V), (6, .int (nI (sp_nc r))), (5, .int (nI wi)), (4, .int (nI 1)), (2, .long (hash r)), (1, .int wv), (0, .ref x)] [] := by
      intro f
      induction f with
      | zero => intro k V S hk1 hS hRS hV hT hf; exact absurd hf (Nat.not_lt_zero _)
      | succ f ih35 =>
        intro k V S hk1 hS hRS hV hT hf
        have hrS := RR_r hRS
        refine k_iload C (i := 9) (p := 0) rfl dL_works_35 ?_
        refine k_iload C (i := 6) (p := 3) rfl dL_works_37 ?_
        first
        | refine k_icmpN_ge C (tgt := 118) (by omega) (by omega) (by decide) dL_works_39 (fun hc39 => ?_) (fun hc39 => ?_)
        | refine k_icmp_ge C (tgt := 118) (by decide) dL_works_39 (fun hc39 => ?_) (fun hc39 => ?_)
        · skip
          obtain rfl : k = sp_nc r := by omega
          rw [hV, hsum]
          refine k_aload_n C (f := 0) (i := 0) (p := 8) rfl rfl dL_works_118 ?_
          refine k_callVp C s_L_219 h_X5_drunk (L5_s (by assumption)) rfl (ct_X5_drunk (by first | assumption | omega) (by first | assumption | omega)) rfl rfl (Nat.le_of_ble_eq_true rfl) ⟨Nat.le_of_ble_eq_true rfl, Nat.le_of_ble_eq_true rfl⟩ ⟨by show _ ≤ 60600; (try dsimp only); omega, by show _ ≤ 374000; (try dsimp only); omega⟩ ⟨rfl, rfl⟩ dL_works_119 ?_
          refine k_istore C (i := 9) (lv := [(9, _), (8, _), (7, _), (6, _), (5, _), (4, _), (2, _), (1, _), (0, _)]) (Nat.le_of_ble_eq_true rfl) rfl dL_works_122 ?_
          refine k_iload C (i := 5) (p := 4) rfl dL_works_124 ?_
          refine k_if_ge C (tgt := 133) (by decide) dL_works_126 (fun hc126 => ?_) (fun hc126 => ?_)
          · skip
            refine k_aload_n C (f := 0) (i := 0) (p := 8) rfl rfl dL_works_133 ?_
            refine k_bipush C bc_17 dL_works_134 ?_
            refine k_iload C (i := 5) (p := 4) rfl dL_works_136 ?_
            refine k_callSq C s_L_163 h_L_call__ (ct_k17 hx1 hrS hwi hlev) rfl rfl (Nat.le_of_ble_eq_true rfl) ⟨Nat.le_of_ble_eq_true rfl, Nat.le_of_ble_eq_true rfl⟩ ⟨rfl, rfl⟩ ⟨by show _ ≤ 60600; (try dsimp only); omega, by show _ ≤ 374000; (try dsimp only); omega⟩ dL_works_138 ?_
            refine k_istore C (i := 10) (lv := [(10, _), (9, _), (8, _), (7, _), (6, _), (5, _), (4, _), (2, _), (1, _), (0, _)]) (Nat.le_of_ble_eq_true rfl) rfl dL_works_141 ?_
            refine k_aload_n C (f := 0) (i := 0) (p := 9) rfl rfl dL_works_143 ?_
            refine k_iconst C ic_2 dL_works_144 ?_
            refine k_iconst C ic_0 dL_works_145 ?_
            refine k_callSgq C s_L_163 h_L_call__ (ct_L_call__ (ct_c2 (u1 := nI 0) (u2 := nI 0) (u3 := nI 0) (u4 := nI 0) (u5 := nI 0) hx1 hRS hok) (fun _ _ _ _ h => ⟨_, h.2.2.1⟩)) rfl rfl (Nat.le_of_ble_eq_true rfl) ⟨Nat.le_of_ble_eq_true rfl, Nat.le_of_ble_eq_true rfl⟩ ⟨rfl, rfl⟩ ⟨by show _ ≤ 60600; (try dsimp only); omega, by show _ ≤ 374000; (try dsimp only); omega⟩ dL_works_146 ?_
            intro v I9 hv
            obtain ⟨rfl, hv2, -⟩ := hv
            obtain ⟨hR9, hF9⟩ := hv2 (if_neg hwo2)
            rw [hwo, nI_clamp (show wi < 2 ^ 31 by omega)] at hR9
            rw [if_pos (if_neg hwo2), hwo, nI_clamp (show wi < 2 ^ 31 by omega), hsum]
            show am_K G X _ _ _ _ _ _ _ _ _ (.int (nI sum) :: _)
            have hleg9 := Leg_drink hleg hwi
            have hx9 := hx1
            generalize sp_drink r (sp_drinks r wi) wi = R at hR9 hd5 hdw hdn hdnw hdm hleg9
            have hr9 := RR_r hR9
            have hT9 : ∀ j : Nat, j < sp_nc r → I9 h8 j = nI (zw r j + dq r wi j) := fun j hj => by rw [hF9 h8 (Or.inr (by omega))]; exact hT j hj
            refine k_istore C (i := 11) (lv := [(11, _), (10, _), (9, _), (8, _), (7, _), (6, _), (5, _), (4, _), (2, _), (1, _), (0, _)]) (Nat.le_of_ble_eq_true rfl) rfl dL_works_149 ?_
            refine k_iload C (i := 5) (p := 6) rfl dL_works_151 ?_
            refine k_if_ge C (tgt := 178) (by decide) dL_works_153 (fun hc153 => ?_) (fun hc153 => ?_)
            · skip
              refine k_iload C (i := 4) (p := 7) rfl dL_works_178 ?_
              first
              | refine k_ifb_eq C (tgt := 222) (by decide) dL_works_180 (fun hc180 => ?_) (fun hc180 => ?_)
              | refine k_if_eq C (tgt := 222) (by decide) dL_works_180 (fun hc180 => ?_) (fun hc180 => ?_)
              · skip
                first
                | omega
                | exact absurd hc180 (nI_ge (by omega) (by omega))
                | exact absurd hc180 (by decide)
                | exact absurd hc180 (nI_pos (by omega))
                | exact absurd (nI_pos' (by omega)) hc180
                | exact absurd rfl hc180
                | exact absurd hc180 (nI_ne0 (by omega) (by omega))
                | exact hc180 rfl
                | contradiction
                | exact absurd hc180 (nI_n101 (by omega))
                | exact absurd hc180.symm (nI_n101 (by omega))
                | (simp_all; done)
              · skip
                refine k_iload C (i := 11) (p := 0) rfl dL_works_183 ?_
                refine k_iload C (i := 7) (p := 4) rfl dL_works_185 ?_
                first
                | refine k_icmpN_ne C (tgt := 222) (by omega) (by omega) (by decide) dL_works_187 (fun hc187 => ?_) (fun hc187 => ?_)
                | refine k_icmp_ne C (tgt := 222) (by decide) dL_works_187 (fun hc187 => ?_) (fun hc187 => ?_)
                · skip
                  first
                  | omega
                  | exact absurd hc187 (nI_ge (by omega) (by omega))
                  | exact absurd hc187 (by decide)
                  | exact absurd hc187 (nI_pos (by omega))
                  | exact absurd (nI_pos' (by omega)) hc187
                  | exact absurd rfl hc187
                  | exact absurd hc187 (nI_ne0 (by omega) (by omega))
                  | exact hc187 rfl
                  | contradiction
                  | exact absurd hc187 (nI_n101 (by omega))
                  | exact absurd hc187.symm (nI_n101 (by omega))
                  | (simp_all; done)
                · skip
                  refine k_aload_n C (f := 0) (i := 0) (p := 10) rfl rfl dL_works_190 ?_
                  refine k_callVp C s_L_219 h_X5_drunk (L5_s (by assumption)) rfl (ct_X5_drunk (by first | assumption | omega) (by first | assumption | omega)) rfl rfl (Nat.le_of_ble_eq_true rfl) ⟨Nat.le_of_ble_eq_true rfl, Nat.le_of_ble_eq_true rfl⟩ ⟨by show _ ≤ 60600; (try dsimp only); omega, by show _ ≤ 374000; (try dsimp only); omega⟩ ⟨rfl, rfl⟩ dL_works_191 ?_
                  rw [hd5]
                  refine k_iload C (i := 9) (p := 2) rfl dL_works_194 ?_
                  refine k_iload C (i := 7) (p := 4) rfl dL_works_196 ?_
                  refine k_iadd C dL_works_198 ?_
                  first
                  | refine k_icmpN_ne C (tgt := 222) (by omega) (by omega) (by decide) dL_works_199 (fun hc199 => ?_) (fun hc199 => ?_)
                  | refine k_icmp_ne C (tgt := 222) (by decide) dL_works_199 (fun hc199 => ?_) (fun hc199 => ?_)
                  · skip
                    first
                    | omega
                    | exact absurd hc199 (nI_ge (by omega) (by omega))
                    | exact absurd hc199 (by decide)
                    | exact absurd hc199 (nI_pos (by omega))
                    | exact absurd (nI_pos' (by omega)) hc199
                    | exact absurd rfl hc199
                    | exact absurd hc199 (nI_ne0 (by omega) (by omega))
                    | exact hc199 rfl
                    | contradiction
                    | exact absurd hc199 (nI_n101 (by omega))
                    | exact absurd hc199.symm (nI_n101 (by omega))
                    | (simp_all; done)
                  · skip
                    refine k_aload_n C (f := 0) (i := 0) (p := 10) rfl rfl dL_works_202 ?_
                    refine k_bipush C bc_17 dL_works_203 ?_
                    refine k_iload C (i := 5) (p := 6) rfl dL_works_205 ?_
                    refine k_callSq C s_L_163 h_L_call__ (ct_k17 hx9 hr9 (show wi < sp_nw R by omega) hdw) rfl rfl (Nat.le_of_ble_eq_true rfl) ⟨Nat.le_of_ble_eq_true rfl, Nat.le_of_ble_eq_true rfl⟩ ⟨rfl, rfl⟩ ⟨by show _ ≤ 60600; (try dsimp only); omega, by show _ ≤ 374000; (try dsimp only); omega⟩ dL_works_207 ?_
                    refine k_iload C (i := 10) (p := 1) rfl dL_works_210 ?_
                    refine k_iload C (i := 7) (p := 4) rfl dL_works_212 ?_
                    refine k_isub C dL_works_214 ?_
                    rw [pk_sub hsum9]
                    first
                    | refine k_icmpN_ne C (tgt := 222) (by omega) (by omega) (by decide) dL_works_215 (fun hc215 => ?_) (fun hc215 => ?_)
                    | refine k_icmp_ne C (tgt := 222) (by decide) dL_works_215 (fun hc215 => ?_) (fun hc215 => ?_)
                    · skip
                      first
                      | omega
                      | exact absurd hc215 (nI_ge (by omega) (by omega))
                      | exact absurd hc215 (by decide)
                      | exact absurd hc215 (nI_pos (by omega))
                      | exact absurd (nI_pos' (by omega)) hc215
                      | exact absurd rfl hc215
                      | exact absurd hc215 (nI_ne0 (by omega) (by omega))
                      | exact hc215 rfl
                      | contradiction
                      | exact absurd hc215 (nI_n101 (by omega))
                      | exact absurd hc215.symm (nI_n101 (by omega))
                      | (simp_all; done)
                    · skip
                      refine k_iconst C ic_1 dL_works_218 ?_
                      refine k_goto C (tgt := 223) (by decide) dL_works_219 ?_
                      refine k_istore C (i := 4) (lv := [(4, _), (11, _), (10, _), (9, _), (8, _), (7, _), (6, _), (5, _), (2, _), (1, _), (0, _)]) (Nat.le_of_ble_eq_true rfl) rfl dL_works_223 ?_
                      refine k_iconst C ic_1 dL_works_225 ?_
                      refine k_istore C (i := 12) (lv := [(12, _), (4, _), (11, _), (10, _), (9, _), (8, _), (7, _), (6, _), (5, _), (2, _), (1, _), (0, _)]) (Nat.le_of_ble_eq_true rfl) rfl dL_works_226 ?_
                      refine k_iconst C ic_0 dL_works_228 ?_
                      refine k_istore C (i := 13) (lv := [(13, _), (12, _), (4, _), (11, _), (10, _), (9, _), (8, _), (7, _), (6, _), (5, _), (2, _), (1, _), (0, _)]) (Nat.le_of_ble_eq_true rfl) rfl dL_works_229 ?_
                      have loop231 : ∀ (f : Nat) (k : Nat) (F : Nat), (k ≤ sp_nc r) → (F = 1 ∨ (F = 0 ∧ sum = lev)) → (sp_nc r - k) < f → am_K G X { frames := 13, cells := 60600, slots := 374000, locals := 400 } 18 Λ1 I9 J1 (1450 + 24 * k) (8700 + 144 * k) 231 [(13, .int (nI k)), (12, .int (nI F)), (10, .int (nI lev)), (8, .ref h8), (7, .int (nI sum)), (6, .int (nI (sp_nc r))), (4, .int (nI 1)), (2, .long (hash r)), (1, .int wv), (0, .ref x)] [] := by
                        intro f
                        induction f with
                        | zero => intro k F hk1 hF hf; exact absurd hf (Nat.not_lt_zero _)
                        | succ f ih231 =>
                          intro k F hk1 hF hf
                          refine k_iload C (i := 13) (p := 0) rfl dL_works_231 ?_
                          refine k_iload C (i := 6) (p := 5) rfl dL_works_233 ?_
                          first
                          | refine k_icmpN_ge C (tgt := 328) (by omega) (by omega) (by decide) dL_works_235 (fun hc235 => ?_) (fun hc235 => ?_)
                          | refine k_icmp_ge C (tgt := 328) (by decide) dL_works_235 (fun hc235 => ?_) (fun hc235 => ?_)
                          · skip
                            obtain rfl : k = sp_nc r := by omega
                            refine k_iload C (i := 4) (p := 6) rfl dL_works_328 ?_
                            first
                            | refine k_ifb_eq C (tgt := 366) (by decide) dL_works_330 (fun hc330 => ?_) (fun hc330 => ?_)
                            | refine k_if_eq C (tgt := 366) (by decide) dL_works_330 (fun hc330 => ?_) (fun hc330 => ?_)
                            · skip
                              first
                              | omega
                              | exact absurd hc330 (nI_ge (by omega) (by omega))
                              | exact absurd hc330 (by decide)
                              | exact absurd hc330 (nI_pos (by omega))
                              | exact absurd (nI_pos' (by omega)) hc330
                              | exact absurd rfl hc330
                              | exact absurd hc330 (nI_ne0 (by omega) (by omega))
                              | exact hc330 rfl
                              | contradiction
                              | exact absurd hc330 (nI_n101 (by omega))
                              | exact absurd hc330.symm (nI_n101 (by omega))
                              | (simp_all; done)
                            · skip
                              rcases hF with rfl | ⟨rfl, hsl⟩
                              · skip
                                refine k_iload C (i := 12) (p := 1) rfl dL_works_333 ?_
                                first
                                | refine k_ifb_ne C (tgt := 345) (by decide) dL_works_335 (fun hc335 => ?_) (fun hc335 => ?_)
                                | refine k_if_ne C (tgt := 345) (by decide) dL_works_335 (fun hc335 => ?_) (fun hc335 => ?_)
                                · skip
                                  refine k_aload_n C (f := 0) (i := 0) (p := 9) rfl rfl dL_works_345 ?_
                                  refine k_callSl C s_L_268 h_L_caravan (ct_L_caravan hx9 hR9 hleg9) rfl rfl (Nat.le_of_ble_eq_true rfl) ⟨Nat.le_of_ble_eq_true rfl, Nat.le_of_ble_eq_true rfl⟩ ⟨rfl, rfl⟩ ⟨by show _ ≤ 60600; (try dsimp only); omega, by show _ ≤ 374000; (try dsimp only); omega⟩ dL_works_346 ?_
                                  intro v Λ10 I10 J10 hv
                                  obtain ⟨hlk10, rfl, hkp10⟩ := hv
                                  show am_K G X _ _ _ _ _ _ _ _ _ (.int (nI 1) :: _)
                                  first
                                  | refine k_ifb_eq C (tgt := 366) (by decide) dL_works_349 (fun hc349 => ?_) (fun hc349 => ?_)
                                  | refine k_if_eq C (tgt := 366) (by decide) dL_works_349 (fun hc349 => ?_) (fun hc349 => ?_)
                                  · skip
                                    first
                                    | omega
                                    | exact absurd hc349 (nI_ge (by omega) (by omega))
                                    | exact absurd hc349 (by decide)
                                    | exact absurd hc349 (nI_pos (by omega))
                                    | exact absurd (nI_pos' (by omega)) hc349
                                    | exact absurd rfl hc349
                                    | exact absurd hc349 (nI_ne0 (by omega) (by omega))
                                    | exact hc349 rfl
                                    | contradiction
                                    | exact absurd hc349 (nI_n101 (by omega))
                                    | exact absurd hc349.symm (nI_n101 (by omega))
                                    | (simp_all; done)
                                  · skip
                                    refine k_aload_n C (f := 0) (i := 0) (p := 9) rfl rfl dL_works_352 ?_
                                    refine k_bipush C bc_7 dL_works_353 ?_
                                    refine k_iconst C ic_0 dL_works_355 ?_
                                    refine k_callSgq C s_L_163 h_L_call__ (ct_L_call__ (ct_c7 (u1 := nI 0) (u2 := nI 0) (u3 := nI 0) (u4 := nI 0) (u5 := nI 0) (hlk10.lay hx9) (RouRel_agree hR9 hkp10) (hleg9.1)) (fun _ _ _ _ h => ⟨_, h.2.2.1⟩)) rfl rfl (Nat.le_of_ble_eq_true rfl) ⟨Nat.le_of_ble_eq_true rfl, Nat.le_of_ble_eq_true rfl⟩ ⟨rfl, rfl⟩ ⟨by show _ ≤ 60600; (try dsimp only); omega, by show _ ≤ 374000; (try dsimp only); omega⟩ dL_works_356 ?_
                                    intro v I11 hv
                                    obtain ⟨rfl, hv2, -⟩ := hv
                                    have hct11 : ¬ min 8 (ct + 1) = 0 := by omega
                                    obtain ⟨hR11, hF11⟩ := hv2 (if_neg hct11)
                                    rw [if_pos (if_neg hct11)]
                                    rw [push_0, push_s] at hR11
                                    show am_K G X _ _ _ _ _ _ _ _ _ (.int (nI (min 8 (ct + 1) - 1)) :: _)
                                    refine k_if_lt C (tgt := 366) (by decide) dL_works_359 (fun hc359 => ?_) (fun hc359 => ?_)
                                    · skip
                                      first
                                      | omega
                                      | exact absurd hc359 (nI_ge (by omega) (by omega))
                                      | exact absurd hc359 (by decide)
                                      | exact absurd hc359 (nI_pos (by omega))
                                      | exact absurd (nI_pos' (by omega)) hc359
                                      | exact absurd rfl hc359
                                      | exact absurd hc359 (nI_ne0 (by omega) (by omega))
                                      | exact hc359 rfl
                                      | contradiction
                                      | exact absurd hc359 (nI_n101 (by omega))
                                      | exact absurd hc359.symm (nI_n101 (by omega))
                                      | (simp_all; done)
                                    · skip
                                      refine k_iconst C ic_1 dL_works_362 ?_
                                      refine k_goto C (tgt := 367) (by decide) dL_works_363 ?_
                                      refine k_istore C (i := 4) (lv := [(4, _), (13, _), (12, _), (10, _), (8, _), (7, _), (6, _), (2, _), (1, _), (0, _)]) (Nat.le_of_ble_eq_true rfl) rfl dL_works_367 ?_
                                      refine k_sub [6, 0, 7, 8, 9] rfl ?_
                                      refine k_widen ?_ ?_ (join369 _ _ _ _ ((hS.tr (LK.fr hF9)).tr (hlk10.tr (LK.fr hF11))) hR11 (by omega))
                                      · (try dsimp only); omega
                                      · (try dsimp only); omega
                                · skip
                                  first
                                  | omega
                                  | exact absurd hc335 (nI_ge (by omega) (by omega))
                                  | exact absurd hc335 (by decide)
                                  | exact absurd hc335 (nI_pos (by omega))
                                  | exact absurd (nI_pos' (by omega)) hc335
                                  | exact absurd rfl hc335
                                  | exact absurd hc335 (nI_ne0 (by omega) (by omega))
                                  | exact hc335 rfl
                                  | contradiction
                                  | exact absurd hc335 (nI_n101 (by omega))
                                  | exact absurd hc335.symm (nI_n101 (by omega))
                                  | (simp_all; done)
                              · skip
                                refine k_iload C (i := 12) (p := 1) rfl dL_works_333 ?_
                                first
                                | refine k_ifb_ne C (tgt := 345) (by decide) dL_works_335 (fun hc335 => ?_) (fun hc335 => ?_)
                                | refine k_if_ne C (tgt := 345) (by decide) dL_works_335 (fun hc335 => ?_) (fun hc335 => ?_)
                                · skip
                                  first
                                  | omega
                                  | exact absurd hc335 (nI_ge (by omega) (by omega))
                                  | exact absurd hc335 (by decide)
                                  | exact absurd hc335 (nI_pos (by omega))
                                  | exact absurd (nI_pos' (by omega)) hc335
                                  | exact absurd rfl hc335
                                  | exact absurd hc335 (nI_ne0 (by omega) (by omega))
                                  | exact hc335 rfl
                                  | contradiction
                                  | exact absurd hc335 (nI_n101 (by omega))
                                  | exact absurd hc335.symm (nI_n101 (by omega))
                                  | (simp_all; done)
                                · skip
                                  refine k_iload C (i := 10) (p := 2) rfl dL_works_338 ?_
                                  refine k_iload C (i := 7) (p := 4) rfl dL_works_340 ?_
                                  first
                                  | refine k_icmpN_ne C (tgt := 366) (by omega) (by omega) (by decide) dL_works_342 (fun hc342 => ?_) (fun hc342 => ?_)
                                  | refine k_icmp_ne C (tgt := 366) (by decide) dL_works_342 (fun hc342 => ?_) (fun hc342 => ?_)
                                  · skip
                                    first
                                    | omega
                                    | exact absurd hc342 (nI_ge (by omega) (by omega))
                                    | exact absurd hc342 (by decide)
                                    | exact absurd hc342 (nI_pos (by omega))
                                    | exact absurd (nI_pos' (by omega)) hc342
                                    | exact absurd rfl hc342
                                    | exact absurd hc342 (nI_ne0 (by omega) (by omega))
                                    | exact hc342 rfl
                                    | contradiction
                                    | exact absurd hc342 (nI_n101 (by omega))
                                    | exact absurd hc342.symm (nI_n101 (by omega))
                                    | (simp_all; done)
                                  · skip
                                    refine k_aload_n C (f := 0) (i := 0) (p := 9) rfl rfl dL_works_345 ?_
                                    refine k_callSl C s_L_268 h_L_caravan (ct_L_caravan hx9 hR9 hleg9) rfl rfl (Nat.le_of_ble_eq_true rfl) ⟨Nat.le_of_ble_eq_true rfl, Nat.le_of_ble_eq_true rfl⟩ ⟨rfl, rfl⟩ ⟨by show _ ≤ 60600; (try dsimp only); omega, by show _ ≤ 374000; (try dsimp only); omega⟩ dL_works_346 ?_
                                    intro v Λ10 I10 J10 hv
                                    obtain ⟨hlk10, rfl, hkp10⟩ := hv
                                    show am_K G X _ _ _ _ _ _ _ _ _ (.int (nI 1) :: _)
                                    first
                                    | refine k_ifb_eq C (tgt := 366) (by decide) dL_works_349 (fun hc349 => ?_) (fun hc349 => ?_)
                                    | refine k_if_eq C (tgt := 366) (by decide) dL_works_349 (fun hc349 => ?_) (fun hc349 => ?_)
                                    · skip
                                      first
                                      | omega
                                      | exact absurd hc349 (nI_ge (by omega) (by omega))
                                      | exact absurd hc349 (by decide)
                                      | exact absurd hc349 (nI_pos (by omega))
                                      | exact absurd (nI_pos' (by omega)) hc349
                                      | exact absurd rfl hc349
                                      | exact absurd hc349 (nI_ne0 (by omega) (by omega))
                                      | exact hc349 rfl
                                      | contradiction
                                      | exact absurd hc349 (nI_n101 (by omega))
                                      | exact absurd hc349.symm (nI_n101 (by omega))
                                      | (simp_all; done)
                                    · skip
                                      refine k_aload_n C (f := 0) (i := 0) (p := 9) rfl rfl dL_works_352 ?_
                                      refine k_bipush C bc_7 dL_works_353 ?_
                                      refine k_iconst C ic_0 dL_works_355 ?_
                                      refine k_callSgq C s_L_163 h_L_call__ (ct_L_call__ (ct_c7 (u1 := nI 0) (u2 := nI 0) (u3 := nI 0) (u4 := nI 0) (u5 := nI 0) (hlk10.lay hx9) (RouRel_agree hR9 hkp10) (hleg9.1)) (fun _ _ _ _ h => ⟨_, h.2.2.1⟩)) rfl rfl (Nat.le_of_ble_eq_true rfl) ⟨Nat.le_of_ble_eq_true rfl, Nat.le_of_ble_eq_true rfl⟩ ⟨rfl, rfl⟩ ⟨by show _ ≤ 60600; (try dsimp only); omega, by show _ ≤ 374000; (try dsimp only); omega⟩ dL_works_356 ?_
                                      intro v I11 hv
                                      obtain ⟨rfl, hv2, -⟩ := hv
                                      have hct11 : ¬ min 8 (ct + 1) = 0 := by omega
                                      obtain ⟨hR11, hF11⟩ := hv2 (if_neg hct11)
                                      rw [if_pos (if_neg hct11)]
                                      rw [push_0, push_s] at hR11
                                      show am_K G X _ _ _ _ _ _ _ _ _ (.int (nI (min 8 (ct + 1) - 1)) :: _)
                                      refine k_if_lt C (tgt := 366) (by decide) dL_works_359 (fun hc359 => ?_) (fun hc359 => ?_)
                                      · skip
                                        first
                                        | omega
                                        | exact absurd hc359 (nI_ge (by omega) (by omega))
                                        | exact absurd hc359 (by decide)
                                        | exact absurd hc359 (nI_pos (by omega))
                                        | exact absurd (nI_pos' (by omega)) hc359
                                        | exact absurd rfl hc359
                                        | exact absurd hc359 (nI_ne0 (by omega) (by omega))
                                        | exact hc359 rfl
                                        | contradiction
                                        | exact absurd hc359 (nI_n101 (by omega))
                                        | exact absurd hc359.symm (nI_n101 (by omega))
                                        | (simp_all; done)
                                      · skip
                                        refine k_iconst C ic_1 dL_works_362 ?_
                                        refine k_goto C (tgt := 367) (by decide) dL_works_363 ?_
                                        refine k_istore C (i := 4) (lv := [(4, _), (13, _), (12, _), (10, _), (8, _), (7, _), (6, _), (2, _), (1, _), (0, _)]) (Nat.le_of_ble_eq_true rfl) rfl dL_works_367 ?_
                                        refine k_sub [6, 0, 7, 8, 9] rfl ?_
                                        refine k_widen ?_ ?_ (join369 _ _ _ _ ((hS.tr (LK.fr hF9)).tr (hlk10.tr (LK.fr hF11))) hR11 (by omega))
                                        · (try dsimp only); omega
                                        · (try dsimp only); omega
                          · skip
                            have hk2 : k < sp_nc r := by omega
                            have hk3 : k < sp_nc R := by omega
                            obtain ⟨-, -, q23, ⟨tk, htk, htk2, htk9, hzt, hfull⟩, q16⟩ := hdm k hk2
                            have q20 : am_b (¬ R (16 + 8 * k) < nI 3) = nI (dz r k) := by rw [q16]; exact dz_of hleg hk2
                            have hw8 := hT9 k hk2
                            refine k_iload C (i := 4) (p := 6) rfl dL_works_238 ?_
                            first
                            | refine k_ifb_eq C (tgt := 328) (by decide) dL_works_240 (fun hc240 => ?_) (fun hc240 => ?_)
                            | refine k_if_eq C (tgt := 328) (by decide) dL_works_240 (fun hc240 => ?_) (fun hc240 => ?_)
                            · skip
                              first
                              | omega
                              | exact absurd hc240 (nI_ge (by omega) (by omega))
                              | exact absurd hc240 (by decide)
                              | exact absurd hc240 (nI_pos (by omega))
                              | exact absurd (nI_pos' (by omega)) hc240
                              | exact absurd rfl hc240
                              | exact absurd hc240 (nI_ne0 (by omega) (by omega))
                              | exact hc240 rfl
                              | contradiction
                              | exact absurd hc240 (nI_n101 (by omega))
                              | exact absurd hc240.symm (nI_n101 (by omega))
                              | (simp_all; done)
                            · skip
                              refine k_aload_n C (f := 0) (i := 0) (p := 9) rfl rfl dL_works_243 ?_
                              refine k_bipush C bc_23 dL_works_244 ?_
                              refine k_iload C (i := 13) (p := 0) rfl dL_works_246 ?_
                              refine k_callSq C s_L_163 h_L_call__ (ct_k23 hx9 hr9 hk3 q23) rfl rfl (Nat.le_of_ble_eq_true rfl) ⟨Nat.le_of_ble_eq_true rfl, Nat.le_of_ble_eq_true rfl⟩ ⟨rfl, rfl⟩ ⟨by show _ ≤ 60600; (try dsimp only); omega, by show _ ≤ 374000; (try dsimp only); omega⟩ dL_works_248 ?_
                              refine k_aload C (i := 8) (p := 3) rfl dL_works_251 ?_
                              refine k_iload C (i := 13) (p := 0) rfl dL_works_253 ?_
                              refine k_iald C (hsh8) (rfl) (by omega) (by decide) (hw8) dL_works_255 ?_
                              first
                              | refine k_icmpN_ne C (tgt := 279) (by omega) (by omega) (by decide) dL_works_256 (fun hc256 => ?_) (fun hc256 => ?_)
                              | refine k_icmp_ne C (tgt := 279) (by decide) dL_works_256 (fun hc256 => ?_) (fun hc256 => ?_)
                              · skip
                                first
                                | omega
                                | exact absurd hc256 (nI_ge (by omega) (by omega))
                                | exact absurd hc256 (by decide)
                                | exact absurd hc256 (nI_pos (by omega))
                                | exact absurd (nI_pos' (by omega)) hc256
                                | exact absurd rfl hc256
                                | exact absurd hc256 (nI_ne0 (by omega) (by omega))
                                | exact hc256 rfl
                                | contradiction
                                | exact absurd hc256 (nI_n101 (by omega))
                                | exact absurd hc256.symm (nI_n101 (by omega))
                                | (simp_all; done)
                              · skip
                                refine k_aload C (i := 8) (p := 3) rfl dL_works_259 ?_
                                refine k_iload C (i := 13) (p := 0) rfl dL_works_261 ?_
                                refine k_iald C (hsh8) (rfl) (by omega) (by decide) (hw8) dL_works_263 ?_
                                refine k_aload_n C (f := 0) (i := 0) (p := 9) rfl rfl dL_works_264 ?_
                                refine k_bipush C bc_22 dL_works_265 ?_
                                refine k_iload C (i := 13) (p := 0) rfl dL_works_267 ?_
                                refine k_callSq C s_L_163 h_L_call__ (ct_k22 hx9 hr9 hk3 htk2) rfl rfl (Nat.le_of_ble_eq_true rfl) ⟨Nat.le_of_ble_eq_true rfl, Nat.le_of_ble_eq_true rfl⟩ ⟨rfl, rfl⟩ ⟨by show _ ≤ 60600; (try dsimp only); omega, by show _ ≤ 374000; (try dsimp only); omega⟩ dL_works_269 ?_
                                first
                                | refine k_icmpN_gt C (tgt := 279) (by omega) (by omega) (by decide) dL_works_272 (fun hc272 => ?_) (fun hc272 => ?_)
                                | refine k_icmp_gt C (tgt := 279) (by decide) dL_works_272 (fun hc272 => ?_) (fun hc272 => ?_)
                                · skip
                                  first
                                  | omega
                                  | exact absurd hc272 (nI_ge (by omega) (by omega))
                                  | exact absurd hc272 (by decide)
                                  | exact absurd hc272 (nI_pos (by omega))
                                  | exact absurd (nI_pos' (by omega)) hc272
                                  | exact absurd rfl hc272
                                  | exact absurd hc272 (nI_ne0 (by omega) (by omega))
                                  | exact hc272 rfl
                                  | contradiction
                                  | exact absurd hc272 (nI_n101 (by omega))
                                  | exact absurd hc272.symm (nI_n101 (by omega))
                                  | (simp_all; done)
                                · skip
                                  refine k_iconst C ic_1 dL_works_275 ?_
                                  refine k_goto C (tgt := 280) (by decide) dL_works_276 ?_
                                  refine k_istore C (i := 4) (lv := [(4, _), (13, _), (12, _), (10, _), (8, _), (7, _), (6, _), (2, _), (1, _), (0, _)]) (Nat.le_of_ble_eq_true rfl) rfl dL_works_280 ?_
                                  rcases hF with rfl | ⟨rfl, hsl⟩
                                  · skip
                                    refine k_iload C (i := 12) (p := 2) rfl dL_works_282 ?_
                                    first
                                    | refine k_ifb_eq C (tgt := 319) (by decide) dL_works_284 (fun hc284 => ?_) (fun hc284 => ?_)
                                    | refine k_if_eq C (tgt := 319) (by decide) dL_works_284 (fun hc284 => ?_) (fun hc284 => ?_)
                                    · skip
                                      first
                                      | omega
                                      | exact absurd hc284 (nI_ge (by omega) (by omega))
                                      | exact absurd hc284 (by decide)
                                      | exact absurd hc284 (nI_pos (by omega))
                                      | exact absurd (nI_pos' (by omega)) hc284
                                      | exact absurd rfl hc284
                                      | exact absurd hc284 (nI_ne0 (by omega) (by omega))
                                      | exact hc284 rfl
                                      | contradiction
                                      | exact absurd hc284 (nI_n101 (by omega))
                                      | exact absurd hc284.symm (nI_n101 (by omega))
                                      | (simp_all; done)
                                    · skip
                                      refine k_aload_n C (f := 0) (i := 0) (p := 9) rfl rfl dL_works_287 ?_
                                      refine k_bipush C bc_20 dL_works_288 ?_
                                      refine k_iload C (i := 13) (p := 1) rfl dL_works_290 ?_
                                      refine k_callSq C s_L_163 h_L_call__ (ct_k20 hx9 hr9 hk3 q20) rfl rfl (Nat.le_of_ble_eq_true rfl) ⟨Nat.le_of_ble_eq_true rfl, Nat.le_of_ble_eq_true rfl⟩ ⟨rfl, rfl⟩ ⟨by show _ ≤ 60600; (try dsimp only); omega, by show _ ≤ 374000; (try dsimp only); omega⟩ dL_works_292 ?_
                                      refine k_iconst C ic_1 dL_works_295 ?_
                                      first
                                      | refine k_icmpN_eq C (tgt := 315) (by omega) (by omega) (by decide) dL_works_296 (fun hc296 => ?_) (fun hc296 => ?_)
                                      | refine k_icmp_eq C (tgt := 315) (by decide) dL_works_296 (fun hc296 => ?_) (fun hc296 => ?_)
                                      · skip
                                        refine k_iconst C ic_1 dL_works_315 ?_
                                        refine k_goto C (tgt := 320) (by decide) dL_works_316 ?_
                                        refine k_istore C (i := 12) (lv := [(12, _), (4, _), (13, _), (10, _), (8, _), (7, _), (6, _), (2, _), (1, _), (0, _)]) (Nat.le_of_ble_eq_true rfl) rfl dL_works_320 ?_
                                        refine k_iinc C (i := 13) (p := 2) (lv := [(13, _), (12, _), (4, _), (10, _), (8, _), (7, _), (6, _), (2, _), (1, _), (0, _)]) (Nat.le_of_ble_eq_true rfl) rfl (by first | exact am_inc1 _ | rfl) rfl dL_works_322 ?_
                                        refine k_goto C (tgt := 231) (by decide) dL_works_325 ?_
                                        refine k_sub [0, 1, 3, 4, 5, 6, 2, 7, 8, 9] rfl ?_
                                        refine k_widen ?_ ?_ (ih231 (k + 1) _ (by omega) (by first | exact Or.inl rfl | exact Or.inr ⟨rfl, by assumption⟩) (by omega))
                                        · (try dsimp only); omega
                                        · (try dsimp only); omega
                                      · skip
                                        refine k_aload C (i := 8) (p := 4) rfl dL_works_299 ?_
                                        refine k_iload C (i := 13) (p := 1) rfl dL_works_301 ?_
                                        refine k_iald C (hsh8) (rfl) (by omega) (by decide) (hw8) dL_works_303 ?_
                                        refine k_aload_n C (f := 0) (i := 0) (p := 9) rfl rfl dL_works_304 ?_
                                        refine k_bipush C bc_22 dL_works_305 ?_
                                        refine k_iload C (i := 13) (p := 1) rfl dL_works_307 ?_
                                        refine k_callSq C s_L_163 h_L_call__ (ct_k22 hx9 hr9 hk3 htk2) rfl rfl (Nat.le_of_ble_eq_true rfl) ⟨Nat.le_of_ble_eq_true rfl, Nat.le_of_ble_eq_true rfl⟩ ⟨rfl, rfl⟩ ⟨by show _ ≤ 60600; (try dsimp only); omega, by show _ ≤ 374000; (try dsimp only); omega⟩ dL_works_309 ?_
                                        first
                                        | refine k_icmpN_ne C (tgt := 319) (by omega) (by omega) (by decide) dL_works_312 (fun hc312 => ?_) (fun hc312 => ?_)
                                        | refine k_icmp_ne C (tgt := 319) (by decide) dL_works_312 (fun hc312 => ?_) (fun hc312 => ?_)
                                        · skip
                                          have hsl : sum = lev := hfull (by
                                            by_cases e : zd r k < 3
                                            · exact e
                                            · exact absurd (show nI (dz r k) = nI 1 from congrArg nI (if_neg e)) (by assumption)) (by assumption)
                                          refine k_iconst C ic_0 dL_works_319 ?_
                                          refine k_istore C (i := 12) (lv := [(12, _), (4, _), (13, _), (10, _), (8, _), (7, _), (6, _), (2, _), (1, _), (0, _)]) (Nat.le_of_ble_eq_true rfl) rfl dL_works_320 ?_
                                          refine k_iinc C (i := 13) (p := 2) (lv := [(13, _), (12, _), (4, _), (10, _), (8, _), (7, _), (6, _), (2, _), (1, _), (0, _)]) (Nat.le_of_ble_eq_true rfl) rfl (by first | exact am_inc1 _ | rfl) rfl dL_works_322 ?_
                                          refine k_goto C (tgt := 231) (by decide) dL_works_325 ?_
                                          refine k_sub [0, 1, 3, 4, 5, 6, 2, 7, 8, 9] rfl ?_
                                          refine k_widen ?_ ?_ (ih231 (k + 1) _ (by omega) (by first | exact Or.inl rfl | exact Or.inr ⟨rfl, by assumption⟩) (by omega))
                                          · (try dsimp only); omega
                                          · (try dsimp only); omega
                                        · skip
                                          refine k_iconst C ic_1 dL_works_315 ?_
                                          refine k_goto C (tgt := 320) (by decide) dL_works_316 ?_
                                          refine k_istore C (i := 12) (lv := [(12, _), (4, _), (13, _), (10, _), (8, _), (7, _), (6, _), (2, _), (1, _), (0, _)]) (Nat.le_of_ble_eq_true rfl) rfl dL_works_320 ?_
                                          refine k_iinc C (i := 13) (p := 2) (lv := [(13, _), (12, _), (4, _), (10, _), (8, _), (7, _), (6, _), (2, _), (1, _), (0, _)]) (Nat.le_of_ble_eq_true rfl) rfl (by first | exact am_inc1 _ | rfl) rfl dL_works_322 ?_
                                          refine k_goto C (tgt := 231) (by decide) dL_works_325 ?_
                                          refine k_sub [0, 1, 3, 4, 5, 6, 2, 7, 8, 9] rfl ?_
                                          refine k_widen ?_ ?_ (ih231 (k + 1) _ (by omega) (by first | exact Or.inl rfl | exact Or.inr ⟨rfl, by assumption⟩) (by omega))
                                          · (try dsimp only); omega
                                          · (try dsimp only); omega
                                  · skip
                                    refine k_iload C (i := 12) (p := 2) rfl dL_works_282 ?_
                                    first
                                    | refine k_ifb_eq C (tgt := 319) (by decide) dL_works_284 (fun hc284 => ?_) (fun hc284 => ?_)
                                    | refine k_if_eq C (tgt := 319) (by decide) dL_works_284 (fun hc284 => ?_) (fun hc284 => ?_)
                                    · skip
                                      refine k_iconst C ic_0 dL_works_319 ?_
                                      refine k_istore C (i := 12) (lv := [(12, _), (4, _), (13, _), (10, _), (8, _), (7, _), (6, _), (2, _), (1, _), (0, _)]) (Nat.le_of_ble_eq_true rfl) rfl dL_works_320 ?_
                                      refine k_iinc C (i := 13) (p := 2) (lv := [(13, _), (12, _), (4, _), (10, _), (8, _), (7, _), (6, _), (2, _), (1, _), (0, _)]) (Nat.le_of_ble_eq_true rfl) rfl (by first | exact am_inc1 _ | rfl) rfl dL_works_322 ?_
                                      refine k_goto C (tgt := 231) (by decide) dL_works_325 ?_
                                      refine k_sub [0, 1, 3, 4, 5, 6, 2, 7, 8, 9] rfl ?_
                                      refine k_widen ?_ ?_ (ih231 (k + 1) _ (by omega) (by first | exact Or.inl rfl | exact Or.inr ⟨rfl, by assumption⟩) (by omega))
                                      · (try dsimp only); omega
                                      · (try dsimp only); omega
                                    · skip
                                      first
                                      | omega
                                      | exact absurd hc284 (nI_ge (by omega) (by omega))
                                      | exact absurd hc284 (by decide)
                                      | exact absurd hc284 (nI_pos (by omega))
                                      | exact absurd (nI_pos' (by omega)) hc284
                                      | exact absurd rfl hc284
                                      | exact absurd hc284 (nI_ne0 (by omega) (by omega))
                                      | exact hc284 rfl
                                      | contradiction
                                      | exact absurd hc284 (nI_n101 (by omega))
                                      | exact absurd hc284.symm (nI_n101 (by omega))
                                      | (simp_all; done)
                      refine k_sub [0, 1, 4, 6, 7, 8, 2, 10, 11, 12] rfl ?_
                      refine k_widen ?_ ?_ (loop231 (sp_nc r + 1) 0 1 (Nat.zero_le _) (Or.inl rfl) (by omega))
                      · (try dsimp only); omega
                      · (try dsimp only); omega
            · skip
              first
              | omega
              | exact absurd hc153 (nI_ge (by omega) (by omega))
              | exact absurd hc153 (by decide)
              | exact absurd hc153 (nI_pos (by omega))
              | exact absurd (nI_pos' (by omega)) hc153
              | exact absurd rfl hc153
              | exact absurd hc153 (nI_ne0 (by omega) (by omega))
              | exact hc153 rfl
              | contradiction
              | exact absurd hc153 (nI_n101 (by omega))
              | exact absurd hc153.symm (nI_n101 (by omega))
              | (simp_all; done)
          · skip
            first
            | omega
            | exact absurd hc126 (nI_ge (by omega) (by omega))
            | exact absurd hc126 (by decide)
            | exact absurd hc126 (nI_pos (by omega))
            | exact absurd (nI_pos' (by omega)) hc126
            | exact absurd rfl hc126
            | exact absurd hc126 (nI_ne0 (by omega) (by omega))
            | exact hc126 rfl
            | contradiction
            | exact absurd hc126 (nI_n101 (by omega))
            | exact absurd hc126.symm (nI_n101 (by omega))
            | (simp_all; done)
        · skip
          have hk2 : k < sp_nc r := by omega
          obtain ⟨hv23, -, -, -, b23, -, -, -⟩ := NumR_of hleg k hk2
          obtain ⟨tk, htk, htk2, htk9, hzt, -⟩ := (hdm k hk2).2.2.2.1
          refine k_iload C (i := 4) (p := 5) rfl dL_works_42 ?_
          first
          | refine k_ifb_eq C (tgt := 118) (by decide) dL_works_44 (fun hc44 => ?_) (fun hc44 => ?_)
          | refine k_if_eq C (tgt := 118) (by decide) dL_works_44 (fun hc44 => ?_) (fun hc44 => ?_)
          · skip
            first
            | omega
            | exact absurd hc44 (nI_ge (by omega) (by omega))
            | exact absurd hc44 (by decide)
            | exact absurd hc44 (nI_pos (by omega))
            | exact absurd (nI_pos' (by omega)) hc44
            | exact absurd rfl hc44
            | exact absurd hc44 (nI_ne0 (by omega) (by omega))
            | exact hc44 rfl
            | contradiction
            | exact absurd hc44 (nI_n101 (by omega))
            | exact absurd hc44.symm (nI_n101 (by omega))
            | (simp_all; done)
          · skip
            refine k_aload_n C (f := 0) (i := 0) (p := 8) rfl rfl dL_works_47 ?_
            refine k_bipush C bc_40 dL_works_48 ?_
            refine k_iload C (i := 9) (p := 0) rfl dL_works_50 ?_
            refine k_callSgq C s_L_163 h_L_call__ (ct_L_call__ (ct_c40 (c := nI k) (u1 := nI 0) (u2 := nI 0) (u3 := nI 0) (u4 := nI 0) hx1 hRS hok) (fun _ _ _ _ h => ⟨_, h.2.2.1⟩)) rfl rfl (Nat.le_of_ble_eq_true rfl) ⟨Nat.le_of_ble_eq_true rfl, Nat.le_of_ble_eq_true rfl⟩ ⟨rfl, rfl⟩ ⟨by show _ ≤ 60600; (try dsimp only); omega, by show _ ≤ 374000; (try dsimp only); omega⟩ dL_works_52 ?_
            intro v S2 hv
            obtain ⟨rfl, hv2, -⟩ := hv
            have hcd : (if cdI (sp_nc r) (nI k) = 0 then (if sp_wellOn r (r 1) = -1 then 2 else 0) else 1) = 0 := by rw [if_pos (cdI_k hk2 (by omega)), if_neg hwo2]
            obtain ⟨hRS2, hFS⟩ := hv2 hcd
            rw [if_pos hcd, hwo, nI_clamp (show k < 2 ^ 31 by omega), nI_clamp (show wi < 2 ^ 31 by omega), (hdm k hk2).1]
            show am_K G X _ _ _ _ _ _ _ _ _ (.int (nI (dq r wi k)) :: _)
            have hS2 := hS.tr (LK.fr hFS)
            have hrS2 := RR_r hRS2
            refine k_istore C (i := 10) (lv := [(10, _), (9, _), (8, _), (7, _), (6, _), (5, _), (4, _), (2, _), (1, _), (0, _)]) (Nat.le_of_ble_eq_true rfl) rfl dL_works_55 ?_
            refine k_iload C (i := 5) (p := 5) rfl dL_works_57 ?_
            refine k_if_ge C (tgt := 77) (by decide) dL_works_59 (fun hc59 => ?_) (fun hc59 => ?_)
            · skip
              refine k_iload C (i := 10) (p := 0) rfl dL_works_77 ?_
              refine k_if_lt C (tgt := 86) (by decide) dL_works_79 (fun hc79 => ?_) (fun hc79 => ?_)
              · skip
                first
                | omega
                | exact absurd hc79 (nI_ge (by omega) (by omega))
                | exact absurd hc79 (by decide)
                | exact absurd hc79 (nI_pos (by omega))
                | exact absurd (nI_pos' (by omega)) hc79
                | exact absurd rfl hc79
                | exact absurd hc79 (nI_ne0 (by omega) (by omega))
                | exact hc79 rfl
                | contradiction
                | exact absurd hc79 (nI_n101 (by omega))
                | exact absurd hc79.symm (nI_n101 (by omega))
                | (simp_all; done)
              · skip
                refine k_iconst C ic_1 dL_works_82 ?_
                refine k_goto C (tgt := 87) (by decide) dL_works_83 ?_
                refine k_istore C (i := 4) (lv := [(4, _), (10, _), (9, _), (8, _), (7, _), (6, _), (5, _), (2, _), (1, _), (0, _)]) (Nat.le_of_ble_eq_true rfl) rfl dL_works_87 ?_
                refine k_aload C (i := 8) (p := 3) rfl dL_works_89 ?_
                refine k_iload C (i := 9) (p := 2) rfl dL_works_91 ?_
                refine k_aload_n C (f := 0) (i := 0) (p := 9) rfl rfl dL_works_93 ?_
                refine k_bipush C bc_23 dL_works_94 ?_
                refine k_iload C (i := 9) (p := 2) rfl dL_works_96 ?_
                refine k_callSq C s_L_163 h_L_call__ (ct_k23 hx1 hrS2 hk2 hv23) rfl rfl (Nat.le_of_ble_eq_true rfl) ⟨Nat.le_of_ble_eq_true rfl, Nat.le_of_ble_eq_true rfl⟩ ⟨rfl, rfl⟩ ⟨by show _ ≤ 60600; (try dsimp only); omega, by show _ ≤ 374000; (try dsimp only); omega⟩ dL_works_98 ?_
                refine k_iload C (i := 10) (p := 1) rfl dL_works_101 ?_
                refine k_iadd C dL_works_103 ?_
                rw [nI_add]
                refine k_iast C (hsh8) (rfl) (by omega) (by decide) dL_works_104 ?_
                have hSu := LK.up (j := k) (v := nI (zw r k + dq r wi k)) hS2 hzh8
                have hRu : RouRel (am_up S2 h8 k (nI (zw r k + dq r wi k))) x tb n err r ct hs kp sn w := RouRel_agree hRS2 (fun b g1 g2 => am_up_ne (by omega))
                have hTu : ∀ j : Nat, j < k + 1 → am_up S2 h8 k (nI (zw r k + dq r wi k)) h8 j = nI (zw r j + dq r wi j) := fun j hj => by
                  by_cases e : j = k
                  · subst e; rw [am_up_eq]
                  · rw [am_up_n2 (fun z => e z.2), hFS h8 (Or.inr (by omega))]; exact hT j (by omega)
                refine k_iload C (i := 7) (p := 4) rfl dL_works_105 ?_
                refine k_iload C (i := 10) (p := 1) rfl dL_works_107 ?_
                refine k_iadd C dL_works_109 ?_
                refine k_istore C (i := 7) (lv := [(7, _), (4, _), (10, _), (9, _), (8, _), (6, _), (5, _), (2, _), (1, _), (0, _)]) (Nat.le_of_ble_eq_true rfl) rfl dL_works_110 ?_
                refine k_iinc C (i := 9) (p := 3) (lv := [(9, _), (7, _), (4, _), (10, _), (8, _), (6, _), (5, _), (2, _), (1, _), (0, _)]) (Nat.le_of_ble_eq_true rfl) rfl (by first | exact am_inc1 _ | rfl) rfl dL_works_112 ?_
                refine k_goto C (tgt := 35) (by decide) dL_works_115 ?_
                refine k_sub [0, 4, 1, 5, 6, 2, 7, 8, 9] rfl ?_
                refine k_widen ?_ ?_ (ih35 (k + 1) _ _ (by omega) hSu hRu (by rw [hV]; exact (hdm k hk2).2.1.symm) hTu (by omega))
                · (try dsimp only); omega
                · (try dsimp only); omega
            · skip
              first
              | omega
              | exact absurd hc59 (nI_ge (by omega) (by omega))
              | exact absurd hc59 (by decide)
              | exact absurd hc59 (nI_pos (by omega))
              | exact absurd (nI_pos' (by omega)) hc59
              | exact absurd rfl hc59
              | exact absurd hc59 (nI_ne0 (by omega) (by omega))
              | exact hc59 rfl
              | contradiction
              | exact absurd hc59 (nI_n101 (by omega))
              | exact absurd hc59.symm (nI_n101 (by omega))
              | (simp_all; done)
    refine k_sub [0, 1, 2, 3, 4, 5, 6, 8, 7] rfl ?_
    refine k_widen ?_ ?_ (loop35 (sp_nc r + 1) 0 _ I1 (Nat.zero_le _) hN.1 hR1 rfl (fun j hj => absurd hj (Nat.not_lt_zero j)) (by omega))
    · (try dsimp only); omega
    · (try dsimp only); omega
