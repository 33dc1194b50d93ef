set_option maxHeartbeats 4000000 in
set_option maxRecDepth 100000 in
theorem ct_L_does {G : am_G} {Λ : am_L} {I : am_I} {J : am_J} {wv vv : Int32} {x n ct : Nat} {tb : Nat → Nat} {err : Int32} {r : Nat → Int32} {hs : Nat → Nat → Int32} {kp : Nat → Bool} {sn : Nat → Nat → Int32} {w : Nat × (Nat → Int32)} (hx : RouLay Λ x) (hR : RouRel I x tb n err r ct hs kp sn w) (hLS : LSt r ct hs kp sn) : am_Ct G yL_does cL_does 8 (some .boolean) { frames := 13, cells := 2700, slots := 16000, locals := 400 } [.ref x, .int wv, .int vv] Λ I J (am_lk x Λ I (fun v I' => v = some (.int (nI 1)) ∧ ∃ (r' : Nat → Int32) (ct' : Nat) (hs' : Nat → Nat → Int32) (kp' : Nat → Bool) (sn' : Nat → Nat → Int32), RouRel I' x tb n err r' ct' hs' kp' sn' w ∧ LSt r' ct' hs' kp' sn')) am_never := by
  refine am_ct_of (own := RL) rfl (by decide) (Nat.le_of_ble_eq_true rfl) (fun X C => ?_)
  change am_K G X { frames := 13, cells := 2700, slots := 16000, locals := 400 } 8 Λ I J 0 0 0 [(0, .ref x), (1, .int wv), (2, .int vv)] []
  have hleg := hLS.1
  have hok := hleg.1
  obtain ⟨L, km, hL, hk, hL1, hL9, hkL, hww⟩ := RK_L hok
  obtain ⟨ld, hld, hlc⟩ := RK_ld hok
  have hnc := hok.2.2.2.2.1
  have hr := RR_r hR
  have h3 := RK_3 hok
  obtain ⟨cw, hcw, hcw9⟩ := and_le wv (M := 15) (by omega)
  refine k_aload_n C (f := 0) (i := 0) (p := 0) rfl rfl dL_does_0 ?_
  refine k_callSq C s_L_257 h_L_state (ct_L_state (by first | assumption | omega) (by first | assumption | omega) (by first | assumption | omega)) rfl rfl (Nat.le_of_ble_eq_true rfl) ⟨Nat.le_of_ble_eq_true rfl, Nat.le_of_ble_eq_true rfl⟩ ⟨rfl, rfl⟩ ⟨by show _ ≤ 2700; (try dsimp only); omega, by show _ ≤ 16000; (try dsimp only); omega⟩ dL_does_1 ?_
  refine k_lstore_n C (f := 3) (i := 3) (lv := [(3, _), (0, _), (1, _), (2, _)]) rfl (Nat.le_of_ble_eq_true rfl) rfl dL_does_4 ?_
  refine k_aload_n C (f := 0) (i := 0) (p := 1) rfl rfl dL_does_5 ?_
  refine k_callVp C s_L_222 h_X5_camelCount (L5_s (by assumption)) rfl (ct_X5_camelCount (by first | assumption | omega) (by first | assumption | omega)) rfl rfl (Nat.le_of_ble_eq_true rfl) ⟨Nat.le_of_ble_eq_true rfl, Nat.le_of_ble_eq_true rfl⟩ ⟨by show _ ≤ 2700; (try dsimp only); omega, by show _ ≤ 16000; (try dsimp only); omega⟩ ⟨rfl, rfl⟩ dL_does_6 ?_
  refine k_istore C (i := 5) (lv := [(5, _), (3, _), (0, _), (1, _), (2, _)]) (Nat.le_of_ble_eq_true rfl) rfl dL_does_9 ?_
  refine k_iconst C ic_1 dL_does_11 ?_
  refine k_aload_n C (f := 0) (i := 0) (p := 2) rfl rfl dL_does_12 ?_
  refine k_callVp C s_L_228 h_X5_loadCount (L5_s (by assumption)) rfl (ct_X5_loadCount (by first | assumption | omega) (by first | assumption | omega)) rfl rfl (Nat.le_of_ble_eq_true rfl) ⟨Nat.le_of_ble_eq_true rfl, Nat.le_of_ble_eq_true rfl⟩ ⟨by show _ ≤ 2700; (try dsimp only); omega, by show _ ≤ 16000; (try dsimp only); omega⟩ ⟨rfl, rfl⟩ dL_does_13 ?_
  refine k_max C (max1_v (by omega)) m_L_235 ⟨Nat.le_of_ble_eq_true rfl, Nat.le_of_ble_eq_true rfl⟩ ⟨by show _ ≤ 2700; (try dsimp only); omega, by show _ ≤ 16000; (try dsimp only); omega⟩ dL_does_16 ?_
  refine k_istore C (i := 6) (lv := [(6, _), (5, _), (3, _), (0, _), (1, _), (2, _)]) (Nat.le_of_ble_eq_true rfl) rfl dL_does_19 ?_
  refine k_iload_n C (f := 1) (i := 1) (p := 4) rfl rfl dL_does_21 ?_
  refine k_bipush C bc_15 dL_does_22 ?_
  refine k_iand C dL_does_24 ?_
  rw [hcw]
  have join291 : ∀ (V : Int32) (S : am_I) (r2 : Nat → Int32) (c2 : Nat) (hs2 : Nat → Nat → Int32) (kp2 : Nat → Bool) (sn2 : Nat → Nat → Int32), (RouRel S x tb n err r2 c2 hs2 kp2 sn2 w) → (LSt r2 c2 hs2 kp2 sn2) → (RFr x I S) → (0 ≤ V ∨ r2 = r) → am_K G X { frames := 13, cells := 2700, slots := 16000, locals := 400 } 8 Λ S J (1310) (7900) 291 [(7, .int V), (3, .long (hash r)), (0, .ref x)] [] := by
    intro V S r2 c2 hs2 kp2 sn2 hR2 hLS2 hF2 hV
    refine k_iload C (i := 7) (p := 0) rfl dL_does_291 ?_
    refine k_if_ge C (tgt := 305) (by decide) dL_does_293 (fun hc293 => ?_) (fun hc293 => ?_)
    · skip
      refine k_iconst C ic_1 dL_does_305 ?_
      refine k_goto C (tgt := 310) (by decide) dL_does_306 ?_
      exact k_zret C (by first | rfl | exact am_bz) (by show _ ≤ 2700; (try dsimp only); omega) (by show _ ≤ 16000; (try dsimp only); omega) (⟨LK.fr hF2, rfl, _, _, _, _, _, hR2, hLS2⟩) dL_does_310
    · skip
      have hh : hash r2 = hash r := by rcases hV with hV | hV; exact absurd hV hc293; rw [hV]
      have h32 := RK_3 hLS2.1.1
      have hr2 := RR_r hR2
      refine k_aload_n C (f := 0) (i := 0) (p := 2) rfl rfl dL_does_296 ?_
      refine k_callSq C s_L_257 h_L_state (ct_L_state hx hr2 h32) rfl rfl (Nat.le_of_ble_eq_true rfl) ⟨Nat.le_of_ble_eq_true rfl, Nat.le_of_ble_eq_true rfl⟩ ⟨rfl, rfl⟩ ⟨by show _ ≤ 2700; (try dsimp only); omega, by show _ ≤ 16000; (try dsimp only); omega⟩ dL_does_297 ?_
      rw [hh]
      refine k_lload_n C (f := 3) (i := 3) (p := 1) rfl rfl dL_does_300 ?_
      refine k_lcmp C dL_does_301 ?_
      rw [lg_self]
      first
      | refine k_ifb_ne C (tgt := 309) (by decide) dL_does_302 (fun hc302 => ?_) (fun hc302 => ?_)
      | refine k_if_ne C (tgt := 309) (by decide) dL_does_302 (fun hc302 => ?_) (fun hc302 => ?_)
      · skip
        first
        | omega
        | exact absurd hc302 (nI_ge (by omega) (by omega))
        | exact absurd hc302 (by decide)
        | exact absurd hc302 (nI_pos (by omega))
        | exact absurd (nI_pos' (by omega)) hc302
        | exact absurd rfl hc302
        | exact absurd hc302 (nI_ne0 (by omega) (by omega))
        | exact hc302 rfl
        | contradiction
        | exact absurd hc302 (nI_n101 (by omega))
        | exact absurd hc302.symm (nI_n101 (by omega))
        | (simp_all; done)
      · skip
        refine k_iconst C ic_1 dL_does_305 ?_
        refine k_goto C (tgt := 310) (by decide) dL_does_306 ?_
        exact k_zret C (by first | rfl | exact am_bz) (by show _ ≤ 2700; (try dsimp only); omega) (by show _ ≤ 16000; (try dsimp only); omega) (⟨LK.fr hF2, rfl, _, _, _, _, _, hR2, hLS2⟩) dL_does_310
  obtain rfl | rfl | rfl | rfl | rfl | rfl | rfl | rfl | rfl | rfl | rfl | rfl | rfl | rfl | rfl | rfl := (show cw = 0 ∨ cw = 1 ∨ cw = 2 ∨ cw = 3 ∨ cw = 4 ∨ cw = 5 ∨ cw = 6 ∨ cw = 7 ∨ cw = 8 ∨ cw = 9 ∨ cw = 10 ∨ cw = 11 ∨ cw = 12 ∨ cw = 13 ∨ cw = 14 ∨ cw = 15 by omega)
  · skip
    refine k_tswIn C (off := 75) (tgt := 100) (by decide) (by decide) (by decide) (by decide) dL_does_25 ?_
    by_cases hc : (¬ r 0 ≤ r 1 ∧ (r 2 < nI 200 ∧ 0 < sp_living r))
    · skip
      obtain ⟨d, hd, hkd⟩ := dist_b hok hlc hL hk hkL hL9
      refine k_aload_n C (f := 0) (i := 0) (p := 3) rfl rfl dL_does_100 ?_
      refine k_iconst C ic_0 dL_does_101 ?_
      refine k_iconst C ic_0 dL_does_102 ?_
      refine k_callSgq C s_L_163 h_L_call__ (ct_L_call__ (ct_c0 (u1 := nI 0) (u2 := nI 0) (u3 := nI 0) (u4 := nI 0) (u5 := nI 0) hx hR hok hld hlc) (fun _ _ _ _ h => ⟨_, h.2.2.1⟩)) rfl rfl (Nat.le_of_ble_eq_true rfl) ⟨Nat.le_of_ble_eq_true rfl, Nat.le_of_ble_eq_true rfl⟩ ⟨rfl, rfl⟩ ⟨by show _ ≤ 2700; (try dsimp only); omega, by show _ ≤ 16000; (try dsimp only); omega⟩ dL_does_103 ?_
      intro v S hv
      obtain ⟨rfl, hv2, -⟩ := hv
      obtain ⟨hRz, hFz⟩ := hv2 (if_pos hc)
      rw [if_pos (if_pos hc), hd]
      show am_K G X _ _ _ _ _ _ _ _ _ (.int (nI d) :: _)
      have hLz := LSt_push hLS (Leg_travel hleg hlc hc.2.1)
      have hVz0 : (0 : Int32) ≤ nI d := (nI_pos' (by omega))
      refine k_istore C (i := 7) (lv := [(7, _), (6, _), (5, _), (3, _), (0, _), (1, _), (2, _)]) (Nat.le_of_ble_eq_true rfl) rfl dL_does_106 ?_
      refine k_goto C (tgt := 291) (by decide) dL_does_108 ?_
      refine k_sub [0, 3, 4] rfl ?_
      refine k_widen ?_ ?_ (join291 _ _ _ _ _ _ _ hRz hLz hFz (by first | exact Or.inl hVz0 | exact hVz))
      · (try dsimp only); omega
      · (try dsimp only); omega
    · skip
      refine k_aload_n C (f := 0) (i := 0) (p := 3) rfl rfl dL_does_100 ?_
      refine k_iconst C ic_0 dL_does_101 ?_
      refine k_iconst C ic_0 dL_does_102 ?_
      refine k_callSgq C s_L_163 h_L_call__ (ct_L_call__ (ct_c0 (u1 := nI 0) (u2 := nI 0) (u3 := nI 0) (u4 := nI 0) (u5 := nI 0) hx hR hok hld hlc) (fun _ _ _ _ h => ⟨_, h.2.2.1⟩)) rfl rfl (Nat.le_of_ble_eq_true rfl) ⟨Nat.le_of_ble_eq_true rfl, Nat.le_of_ble_eq_true rfl⟩ ⟨rfl, rfl⟩ ⟨by show _ ≤ 2700; (try dsimp only); omega, by show _ ≤ 16000; (try dsimp only); omega⟩ dL_does_103 ?_
      intro v S hv
      obtain ⟨rfl, -, hv3⟩ := hv
      have e2 := (hv3 (by rw [if_neg hc]; decide)).symm
      subst e2
      rw [if_neg (by rw [if_neg hc]; decide)]
      show am_K G X _ _ _ _ _ _ _ _ _ (.int (-102) :: _)
      have hRz := hR
      have hLz := hLS
      have hFz : RFr x I I := RFr.rf
      have hVz : (0 : Int32) ≤ (-102) ∨ r = r := Or.inr rfl
      refine k_istore C (i := 7) (lv := [(7, _), (6, _), (5, _), (3, _), (0, _), (1, _), (2, _)]) (Nat.le_of_ble_eq_true rfl) rfl dL_does_106 ?_
      refine k_goto C (tgt := 291) (by decide) dL_does_108 ?_
      refine k_sub [0, 3, 4] rfl ?_
      refine k_widen ?_ ?_ (join291 _ _ _ _ _ _ _ hRz hLz hFz (by first | exact Or.inl hVz0 | exact hVz))
      · (try dsimp only); omega
      · (try dsimp only); omega
  · skip
    refine k_tswIn C (off := 75) (tgt := 100) (by decide) (by decide) (by decide) (by decide) dL_does_25 ?_
    by_cases hc : (¬ r 0 ≤ r 1 ∧ (r 2 < nI 200 ∧ 0 < sp_living r))
    · skip
      obtain ⟨d, hd, hkd⟩ := dist_b hok hlc hL hk hkL hL9
      refine k_aload_n C (f := 0) (i := 0) (p := 3) rfl rfl dL_does_100 ?_
      refine k_iconst C ic_0 dL_does_101 ?_
      refine k_iconst C ic_0 dL_does_102 ?_
      refine k_callSgq C s_L_163 h_L_call__ (ct_L_call__ (ct_c0 (u1 := nI 0) (u2 := nI 0) (u3 := nI 0) (u4 := nI 0) (u5 := nI 0) hx hR hok hld hlc) (fun _ _ _ _ h => ⟨_, h.2.2.1⟩)) rfl rfl (Nat.le_of_ble_eq_true rfl) ⟨Nat.le_of_ble_eq_true rfl, Nat.le_of_ble_eq_true rfl⟩ ⟨rfl, rfl⟩ ⟨by show _ ≤ 2700; (try dsimp only); omega, by show _ ≤ 16000; (try dsimp only); omega⟩ dL_does_103 ?_
      intro v S hv
      obtain ⟨rfl, hv2, -⟩ := hv
      obtain ⟨hRz, hFz⟩ := hv2 (if_pos hc)
      rw [if_pos (if_pos hc), hd]
      show am_K G X _ _ _ _ _ _ _ _ _ (.int (nI d) :: _)
      have hLz := LSt_push hLS (Leg_travel hleg hlc hc.2.1)
      have hVz0 : (0 : Int32) ≤ nI d := (nI_pos' (by omega))
      refine k_istore C (i := 7) (lv := [(7, _), (6, _), (5, _), (3, _), (0, _), (1, _), (2, _)]) (Nat.le_of_ble_eq_true rfl) rfl dL_does_106 ?_
      refine k_goto C (tgt := 291) (by decide) dL_does_108 ?_
      refine k_sub [0, 3, 4] rfl ?_
      refine k_widen ?_ ?_ (join291 _ _ _ _ _ _ _ hRz hLz hFz (by first | exact Or.inl hVz0 | exact hVz))
      · (try dsimp only); omega
      · (try dsimp only); omega
    · skip
      refine k_aload_n C (f := 0) (i := 0) (p := 3) rfl rfl dL_does_100 ?_
      refine k_iconst C ic_0 dL_does_101 ?_
      refine k_iconst C ic_0 dL_does_102 ?_
      refine k_callSgq C s_L_163 h_L_call__ (ct_L_call__ (ct_c0 (u1 := nI 0) (u2 := nI 0) (u3 := nI 0) (u4 := nI 0) (u5 := nI 0) hx hR hok hld hlc) (fun _ _ _ _ h => ⟨_, h.2.2.1⟩)) rfl rfl (Nat.le_of_ble_eq_true rfl) ⟨Nat.le_of_ble_eq_true rfl, Nat.le_of_ble_eq_true rfl⟩ ⟨rfl, rfl⟩ ⟨by show _ ≤ 2700; (try dsimp only); omega, by show _ ≤ 16000; (try dsimp only); omega⟩ dL_does_103 ?_
      intro v S hv
      obtain ⟨rfl, -, hv3⟩ := hv
      have e2 := (hv3 (by rw [if_neg hc]; decide)).symm
      subst e2
      rw [if_neg (by rw [if_neg hc]; decide)]
      show am_K G X _ _ _ _ _ _ _ _ _ (.int (-102) :: _)
      have hRz := hR
      have hLz := hLS
      have hFz : RFr x I I := RFr.rf
      have hVz : (0 : Int32) ≤ (-102) ∨ r = r := Or.inr rfl
      refine k_istore C (i := 7) (lv := [(7, _), (6, _), (5, _), (3, _), (0, _), (1, _), (2, _)]) (Nat.le_of_ble_eq_true rfl) rfl dL_does_106 ?_
      refine k_goto C (tgt := 291) (by decide) dL_does_108 ?_
      refine k_sub [0, 3, 4] rfl ?_
      refine k_widen ?_ ?_ (join291 _ _ _ _ _ _ _ hRz hLz hFz (by first | exact Or.inl hVz0 | exact hVz))
      · (try dsimp only); omega
      · (try dsimp only); omega
  · skip
    refine k_tswIn C (off := 75) (tgt := 100) (by decide) (by decide) (by decide) (by decide) dL_does_25 ?_
    by_cases hc : (¬ r 0 ≤ r 1 ∧ (r 2 < nI 200 ∧ 0 < sp_living r))
    · skip
      obtain ⟨d, hd, hkd⟩ := dist_b hok hlc hL hk hkL hL9
      refine k_aload_n C (f := 0) (i := 0) (p := 3) rfl rfl dL_does_100 ?_
      refine k_iconst C ic_0 dL_does_101 ?_
      refine k_iconst C ic_0 dL_does_102 ?_
      refine k_callSgq C s_L_163 h_L_call__ (ct_L_call__ (ct_c0 (u1 := nI 0) (u2 := nI 0) (u3 := nI 0) (u4 := nI 0) (u5 := nI 0) hx hR hok hld hlc) (fun _ _ _ _ h => ⟨_, h.2.2.1⟩)) rfl rfl (Nat.le_of_ble_eq_true rfl) ⟨Nat.le_of_ble_eq_true rfl, Nat.le_of_ble_eq_true rfl⟩ ⟨rfl, rfl⟩ ⟨by show _ ≤ 2700; (try dsimp only); omega, by show _ ≤ 16000; (try dsimp only); omega⟩ dL_does_103 ?_
      intro v S hv
      obtain ⟨rfl, hv2, -⟩ := hv
      obtain ⟨hRz, hFz⟩ := hv2 (if_pos hc)
      rw [if_pos (if_pos hc), hd]
      show am_K G X _ _ _ _ _ _ _ _ _ (.int (nI d) :: _)
      have hLz := LSt_push hLS (Leg_travel hleg hlc hc.2.1)
      have hVz0 : (0 : Int32) ≤ nI d := (nI_pos' (by omega))
      refine k_istore C (i := 7) (lv := [(7, _), (6, _), (5, _), (3, _), (0, _), (1, _), (2, _)]) (Nat.le_of_ble_eq_true rfl) rfl dL_does_106 ?_
      refine k_goto C (tgt := 291) (by decide) dL_does_108 ?_
      refine k_sub [0, 3, 4] rfl ?_
      refine k_widen ?_ ?_ (join291 _ _ _ _ _ _ _ hRz hLz hFz (by first | exact Or.inl hVz0 | exact hVz))
      · (try dsimp only); omega
      · (try dsimp only); omega
    · skip
      refine k_aload_n C (f := 0) (i := 0) (p := 3) rfl rfl dL_does_100 ?_
      refine k_iconst C ic_0 dL_does_101 ?_
      refine k_iconst C ic_0 dL_does_102 ?_
      refine k_callSgq C s_L_163 h_L_call__ (ct_L_call__ (ct_c0 (u1 := nI 0) (u2 := nI 0) (u3 := nI 0) (u4 := nI 0) (u5 := nI 0) hx hR hok hld hlc) (fun _ _ _ _ h => ⟨_, h.2.2.1⟩)) rfl rfl (Nat.le_of_ble_eq_true rfl) ⟨Nat.le_of_ble_eq_true rfl, Nat.le_of_ble_eq_true rfl⟩ ⟨rfl, rfl⟩ ⟨by show _ ≤ 2700; (try dsimp only); omega, by show _ ≤ 16000; (try dsimp only); omega⟩ dL_does_103 ?_
      intro v S hv
      obtain ⟨rfl, -, hv3⟩ := hv
      have e2 := (hv3 (by rw [if_neg hc]; decide)).symm
      subst e2
      rw [if_neg (by rw [if_neg hc]; decide)]
      show am_K G X _ _ _ _ _ _ _ _ _ (.int (-102) :: _)
      have hRz := hR
      have hLz := hLS
      have hFz : RFr x I I := RFr.rf
      have hVz : (0 : Int32) ≤ (-102) ∨ r = r := Or.inr rfl
      refine k_istore C (i := 7) (lv := [(7, _), (6, _), (5, _), (3, _), (0, _), (1, _), (2, _)]) (Nat.le_of_ble_eq_true rfl) rfl dL_does_106 ?_
      refine k_goto C (tgt := 291) (by decide) dL_does_108 ?_
      refine k_sub [0, 3, 4] rfl ?_
      refine k_widen ?_ ?_ (join291 _ _ _ _ _ _ _ hRz hLz hFz (by first | exact Or.inl hVz0 | exact hVz))
      · (try dsimp only); omega
      · (try dsimp only); omega
  · skip
    refine k_tswIn C (off := 75) (tgt := 100) (by decide) (by decide) (by decide) (by decide) dL_does_25 ?_
    by_cases hc : (¬ r 0 ≤ r 1 ∧ (r 2 < nI 200 ∧ 0 < sp_living r))
    · skip
      obtain ⟨d, hd, hkd⟩ := dist_b hok hlc hL hk hkL hL9
      refine k_aload_n C (f := 0) (i := 0) (p := 3) rfl rfl dL_does_100 ?_
      refine k_iconst C ic_0 dL_does_101 ?_
      refine k_iconst C ic_0 dL_does_102 ?_
      refine k_callSgq C s_L_163 h_L_call__ (ct_L_call__ (ct_c0 (u1 := nI 0) (u2 := nI 0) (u3 := nI 0) (u4 := nI 0) (u5 := nI 0) hx hR hok hld hlc) (fun _ _ _ _ h => ⟨_, h.2.2.1⟩)) rfl rfl (Nat.le_of_ble_eq_true rfl) ⟨Nat.le_of_ble_eq_true rfl, Nat.le_of_ble_eq_true rfl⟩ ⟨rfl, rfl⟩ ⟨by show _ ≤ 2700; (try dsimp only); omega, by show _ ≤ 16000; (try dsimp only); omega⟩ dL_does_103 ?_
      intro v S hv
      obtain ⟨rfl, hv2, -⟩ := hv
      obtain ⟨hRz, hFz⟩ := hv2 (if_pos hc)
      rw [if_pos (if_pos hc), hd]
      show am_K G X _ _ _ _ _ _ _ _ _ (.int (nI d) :: _)
      have hLz := LSt_push hLS (Leg_travel hleg hlc hc.2.1)
      have hVz0 : (0 : Int32) ≤ nI d := (nI_pos' (by omega))
      refine k_istore C (i := 7) (lv := [(7, _), (6, _), (5, _), (3, _), (0, _), (1, _), (2, _)]) (Nat.le_of_ble_eq_true rfl) rfl dL_does_106 ?_
      refine k_goto C (tgt := 291) (by decide) dL_does_108 ?_
      refine k_sub [0, 3, 4] rfl ?_
      refine k_widen ?_ ?_ (join291 _ _ _ _ _ _ _ hRz hLz hFz (by first | exact Or.inl hVz0 | exact hVz))
      · (try dsimp only); omega
      · (try dsimp only); omega
    · skip
      refine k_aload_n C (f := 0) (i := 0) (p := 3) rfl rfl dL_does_100 ?_
      refine k_iconst C ic_0 dL_does_101 ?_
      refine k_iconst C ic_0 dL_does_102 ?_
      refine k_callSgq C s_L_163 h_L_call__ (ct_L_call__ (ct_c0 (u1 := nI 0) (u2 := nI 0) (u3 := nI 0) (u4 := nI 0) (u5 := nI 0) hx hR hok hld hlc) (fun _ _ _ _ h => ⟨_, h.2.2.1⟩)) rfl rfl (Nat.le_of_ble_eq_true rfl) ⟨Nat.le_of_ble_eq_true rfl, Nat.le_of_ble_eq_true rfl⟩ ⟨rfl, rfl⟩ ⟨by show _ ≤ 2700; (try dsimp only); omega, by show _ ≤ 16000; (try dsimp only); omega⟩ dL_does_103 ?_
      intro v S hv
      obtain ⟨rfl, -, hv3⟩ := hv
      have e2 := (hv3 (by rw [if_neg hc]; decide)).symm
      subst e2
      rw [if_neg (by rw [if_neg hc]; decide)]
      show am_K G X _ _ _ _ _ _ _ _ _ (.int (-102) :: _)
      have hRz := hR
      have hLz := hLS
      have hFz : RFr x I I := RFr.rf
      have hVz : (0 : Int32) ≤ (-102) ∨ r = r := Or.inr rfl
      refine k_istore C (i := 7) (lv := [(7, _), (6, _), (5, _), (3, _), (0, _), (1, _), (2, _)]) (Nat.le_of_ble_eq_true rfl) rfl dL_does_106 ?_
      refine k_goto C (tgt := 291) (by decide) dL_does_108 ?_
      refine k_sub [0, 3, 4] rfl ?_
      refine k_widen ?_ ?_ (join291 _ _ _ _ _ _ _ hRz hLz hFz (by first | exact Or.inl hVz0 | exact hVz))
      · (try dsimp only); omega
      · (try dsimp only); omega
  · skip
    refine k_tswIn C (off := 75) (tgt := 100) (by decide) (by decide) (by decide) (by decide) dL_does_25 ?_
    by_cases hc : (¬ r 0 ≤ r 1 ∧ (r 2 < nI 200 ∧ 0 < sp_living r))
    · skip
      obtain ⟨d, hd, hkd⟩ := dist_b hok hlc hL hk hkL hL9
      refine k_aload_n C (f := 0) (i := 0) (p := 3) rfl rfl dL_does_100 ?_
      refine k_iconst C ic_0 dL_does_101 ?_
      refine k_iconst C ic_0 dL_does_102 ?_
      refine k_callSgq C s_L_163 h_L_call__ (ct_L_call__ (ct_c0 (u1 := nI 0) (u2 := nI 0) (u3 := nI 0) (u4 := nI 0) (u5 := nI 0) hx hR hok hld hlc) (fun _ _ _ _ h => ⟨_, h.2.2.1⟩)) rfl rfl (Nat.le_of_ble_eq_true rfl) ⟨Nat.le_of_ble_eq_true rfl, Nat.le_of_ble_eq_true rfl⟩ ⟨rfl, rfl⟩ ⟨by show _ ≤ 2700; (try dsimp only); omega, by show _ ≤ 16000; (try dsimp only); omega⟩ dL_does_103 ?_
      intro v S hv
      obtain ⟨rfl, hv2, -⟩ := hv
      obtain ⟨hRz, hFz⟩ := hv2 (if_pos hc)
      rw [if_pos (if_pos hc), hd]
      show am_K G X _ _ _ _ _ _ _ _ _ (.int (nI d) :: _)
      have hLz := LSt_push hLS (Leg_travel hleg hlc hc.2.1)
      have hVz0 : (0 : Int32) ≤ nI d := (nI_pos' (by omega))
      refine k_istore C (i := 7) (lv := [(7, _), (6, _), (5, _), (3, _), (0, _), (1, _), (2, _)]) (Nat.le_of_ble_eq_true rfl) rfl dL_does_106 ?_
      refine k_goto C (tgt := 291) (by decide) dL_does_108 ?_
      refine k_sub [0, 3, 4] rfl ?_
      refine k_widen ?_ ?_ (join291 _ _ _ _ _ _ _ hRz hLz hFz (by first | exact Or.inl hVz0 | exact hVz))
      · (try dsimp only); omega
      · (try dsimp only); omega
    · skip
      refine k_aload_n C (f := 0) (i := 0) (p := 3) rfl rfl dL_does_100 ?_
      refine k_iconst C ic_0 dL_does_101 ?_
      refine k_iconst C ic_0 dL_does_102 ?_
      refine k_callSgq C s_L_163 h_L_call__ (ct_L_call__ (ct_c0 (u1 := nI 0) (u2 := nI 0) (u3 := nI 0) (u4 := nI 0) (u5 := nI 0) hx hR hok hld hlc) (fun _ _ _ _ h => ⟨_, h.2.2.1⟩)) rfl rfl (Nat.le_of_ble_eq_true rfl) ⟨Nat.le_of_ble_eq_true rfl, Nat.le_of_ble_eq_true rfl⟩ ⟨rfl, rfl⟩ ⟨by show _ ≤ 2700; (try dsimp only); omega, by show _ ≤ 16000; (try dsimp only); omega⟩ dL_does_103 ?_
      intro v S hv
      obtain ⟨rfl, -, hv3⟩ := hv
      have e2 := (hv3 (by rw [if_neg hc]; decide)).symm
      subst e2
      rw [if_neg (by rw [if_neg hc]; decide)]
      show am_K G X _ _ _ _ _ _ _ _ _ (.int (-102) :: _)
      have hRz := hR
      have hLz := hLS
      have hFz : RFr x I I := RFr.rf
      have hVz : (0 : Int32) ≤ (-102) ∨ r = r := Or.inr rfl
      refine k_istore C (i := 7) (lv := [(7, _), (6, _), (5, _), (3, _), (0, _), (1, _), (2, _)]) (Nat.le_of_ble_eq_true rfl) rfl dL_does_106 ?_
      refine k_goto C (tgt := 291) (by decide) dL_does_108 ?_
      refine k_sub [0, 3, 4] rfl ?_
      refine k_widen ?_ ?_ (join291 _ _ _ _ _ _ _ hRz hLz hFz (by first | exact Or.inl hVz0 | exact hVz))
      · (try dsimp only); omega
      · (try dsimp only); omega
  · skip
    refine k_tswIn C (off := 86) (tgt := 111) (by decide) (by decide) (by decide) (by decide) dL_does_25 ?_
    by_cases hc : (r 2 < nI 200 ∧ 0 < sp_living r)
    · skip
      refine k_aload_n C (f := 0) (i := 0) (p := 3) rfl rfl dL_does_111 ?_
      refine k_iconst C ic_1 dL_does_112 ?_
      refine k_iconst C ic_0 dL_does_113 ?_
      refine k_callSgq C s_L_163 h_L_call__ (ct_L_call__ (ct_c1 (u1 := nI 0) (u2 := nI 0) (u3 := nI 0) (u4 := nI 0) (u5 := nI 0) hx hR hok hld hlc) (fun _ _ _ _ h => ⟨_, h.2.2.1⟩)) rfl rfl (Nat.le_of_ble_eq_true rfl) ⟨Nat.le_of_ble_eq_true rfl, Nat.le_of_ble_eq_true rfl⟩ ⟨rfl, rfl⟩ ⟨by show _ ≤ 2700; (try dsimp only); omega, by show _ ≤ 16000; (try dsimp only); omega⟩ dL_does_114 ?_
      intro v S hv
      obtain ⟨rfl, hv2, -⟩ := hv
      obtain ⟨hRz, hFz⟩ := hv2 (if_pos hc)
      rw [if_pos (if_pos hc)]
      show am_K G X _ _ _ _ _ _ _ _ _ (.int (nI (sp_living (sp_rest r))) :: _)
      have hLz := LSt_push hLS (Leg_rest hleg hc.1)
      have hVz0 : (0 : Int32) ≤ nI (sp_living (sp_rest r)) := (nI_pos' (Nat.lt_of_le_of_lt (sp_livingTo_le _ _) (by have := (rowok_restday hok hc.1).2.2.2.2.1.2.1; omega)))
      refine k_istore C (i := 7) (lv := [(7, _), (6, _), (5, _), (3, _), (0, _), (1, _), (2, _)]) (Nat.le_of_ble_eq_true rfl) rfl dL_does_117 ?_
      refine k_goto C (tgt := 291) (by decide) dL_does_119 ?_
      refine k_sub [0, 3, 4] rfl ?_
      refine k_widen ?_ ?_ (join291 _ _ _ _ _ _ _ hRz hLz hFz (by first | exact Or.inl hVz0 | exact hVz))
      · (try dsimp only); omega
      · (try dsimp only); omega
    · skip
      refine k_aload_n C (f := 0) (i := 0) (p := 3) rfl rfl dL_does_111 ?_
      refine k_iconst C ic_1 dL_does_112 ?_
      refine k_iconst C ic_0 dL_does_113 ?_
      refine k_callSgq C s_L_163 h_L_call__ (ct_L_call__ (ct_c1 (u1 := nI 0) (u2 := nI 0) (u3 := nI 0) (u4 := nI 0) (u5 := nI 0) hx hR hok hld hlc) (fun _ _ _ _ h => ⟨_, h.2.2.1⟩)) rfl rfl (Nat.le_of_ble_eq_true rfl) ⟨Nat.le_of_ble_eq_true rfl, Nat.le_of_ble_eq_true rfl⟩ ⟨rfl, rfl⟩ ⟨by show _ ≤ 2700; (try dsimp only); omega, by show _ ≤ 16000; (try dsimp only); omega⟩ dL_does_114 ?_
      intro v S hv
      obtain ⟨rfl, -, hv3⟩ := hv
      have e2 := (hv3 (by rw [if_neg hc]; decide)).symm
      subst e2
      rw [if_neg (by rw [if_neg hc]; decide)]
      show am_K G X _ _ _ _ _ _ _ _ _ (.int (-102) :: _)
      have hRz := hR
      have hLz := hLS
      have hFz : RFr x I I := RFr.rf
      have hVz : (0 : Int32) ≤ (-102) ∨ r = r := Or.inr rfl
      refine k_istore C (i := 7) (lv := [(7, _), (6, _), (5, _), (3, _), (0, _), (1, _), (2, _)]) (Nat.le_of_ble_eq_true rfl) rfl dL_does_117 ?_
      refine k_goto C (tgt := 291) (by decide) dL_does_119 ?_
      refine k_sub [0, 3, 4] rfl ?_
      refine k_widen ?_ ?_ (join291 _ _ _ _ _ _ _ hRz hLz hFz (by first | exact Or.inl hVz0 | exact hVz))
      · (try dsimp only); omega
      · (try dsimp only); omega
  · skip
    refine k_tswIn C (off := 86) (tgt := 111) (by decide) (by decide) (by decide) (by decide) dL_does_25 ?_
    by_cases hc : (r 2 < nI 200 ∧ 0 < sp_living r)
    · skip
      refine k_aload_n C (f := 0) (i := 0) (p := 3) rfl rfl dL_does_111 ?_
      refine k_iconst C ic_1 dL_does_112 ?_
      refine k_iconst C ic_0 dL_does_113 ?_
      refine k_callSgq C s_L_163 h_L_call__ (ct_L_call__ (ct_c1 (u1 := nI 0) (u2 := nI 0) (u3 := nI 0) (u4 := nI 0) (u5 := nI 0) hx hR hok hld hlc) (fun _ _ _ _ h => ⟨_, h.2.2.1⟩)) rfl rfl (Nat.le_of_ble_eq_true rfl) ⟨Nat.le_of_ble_eq_true rfl, Nat.le_of_ble_eq_true rfl⟩ ⟨rfl, rfl⟩ ⟨by show _ ≤ 2700; (try dsimp only); omega, by show _ ≤ 16000; (try dsimp only); omega⟩ dL_does_114 ?_
      intro v S hv
      obtain ⟨rfl, hv2, -⟩ := hv
      obtain ⟨hRz, hFz⟩ := hv2 (if_pos hc)
      rw [if_pos (if_pos hc)]
      show am_K G X _ _ _ _ _ _ _ _ _ (.int (nI (sp_living (sp_rest r))) :: _)
      have hLz := LSt_push hLS (Leg_rest hleg hc.1)
      have hVz0 : (0 : Int32) ≤ nI (sp_living (sp_rest r)) := (nI_pos' (Nat.lt_of_le_of_lt (sp_livingTo_le _ _) (by have := (rowok_restday hok hc.1).2.2.2.2.1.2.1; omega)))
      refine k_istore C (i := 7) (lv := [(7, _), (6, _), (5, _), (3, _), (0, _), (1, _), (2, _)]) (Nat.le_of_ble_eq_true rfl) rfl dL_does_117 ?_
      refine k_goto C (tgt := 291) (by decide) dL_does_119 ?_
      refine k_sub [0, 3, 4] rfl ?_
      refine k_widen ?_ ?_ (join291 _ _ _ _ _ _ _ hRz hLz hFz (by first | exact Or.inl hVz0 | exact hVz))
      · (try dsimp only); omega
      · (try dsimp only); omega
    · skip
      refine k_aload_n C (f := 0) (i := 0) (p := 3) rfl rfl dL_does_111 ?_
      refine k_iconst C ic_1 dL_does_112 ?_
      refine k_iconst C ic_0 dL_does_113 ?_
      refine k_callSgq C s_L_163 h_L_call__ (ct_L_call__ (ct_c1 (u1 := nI 0) (u2 := nI 0) (u3 := nI 0) (u4 := nI 0) (u5 := nI 0) hx hR hok hld hlc) (fun _ _ _ _ h => ⟨_, h.2.2.1⟩)) rfl rfl (Nat.le_of_ble_eq_true rfl) ⟨Nat.le_of_ble_eq_true rfl, Nat.le_of_ble_eq_true rfl⟩ ⟨rfl, rfl⟩ ⟨by show _ ≤ 2700; (try dsimp only); omega, by show _ ≤ 16000; (try dsimp only); omega⟩ dL_does_114 ?_
      intro v S hv
      obtain ⟨rfl, -, hv3⟩ := hv
      have e2 := (hv3 (by rw [if_neg hc]; decide)).symm
      subst e2
      rw [if_neg (by rw [if_neg hc]; decide)]
      show am_K G X _ _ _ _ _ _ _ _ _ (.int (-102) :: _)
      have hRz := hR
      have hLz := hLS
      have hFz : RFr x I I := RFr.rf
      have hVz : (0 : Int32) ≤ (-102) ∨ r = r := Or.inr rfl
      refine k_istore C (i := 7) (lv := [(7, _), (6, _), (5, _), (3, _), (0, _), (1, _), (2, _)]) (Nat.le_of_ble_eq_true rfl) rfl dL_does_117 ?_
      refine k_goto C (tgt := 291) (by decide) dL_does_119 ?_
      refine k_sub [0, 3, 4] rfl ?_
      refine k_widen ?_ ?_ (join291 _ _ _ _ _ _ _ hRz hLz hFz (by first | exact Or.inl hVz0 | exact hVz))
      · (try dsimp only); omega
      · (try dsimp only); omega
  · skip
    refine k_tswIn C (off := 97) (tgt := 122) (by decide) (by decide) (by decide) (by decide) dL_does_25 ?_
    rcases wellOn_or r (r 1) with hwo | ⟨wi, hwo, hwi⟩
    · skip
      refine k_aload_n C (f := 0) (i := 0) (p := 3) rfl rfl dL_does_122 ?_
      refine k_iconst C ic_2 dL_does_123 ?_
      refine k_iconst C ic_0 dL_does_124 ?_
      refine k_callSgq C s_L_163 h_L_call__ (ct_L_call__ (ct_c2 (u1 := nI 0) (u2 := nI 0) (u3 := nI 0) (u4 := nI 0) (u5 := nI 0) hx hR hok) (fun _ _ _ _ h => ⟨_, h.2.2.1⟩)) rfl rfl (Nat.le_of_ble_eq_true rfl) ⟨Nat.le_of_ble_eq_true rfl, Nat.le_of_ble_eq_true rfl⟩ ⟨rfl, rfl⟩ ⟨by show _ ≤ 2700; (try dsimp only); omega, by show _ ≤ 16000; (try dsimp only); omega⟩ dL_does_125 ?_
      intro v S hv
      obtain ⟨rfl, -, hv3⟩ := hv
      have e2 := (hv3 (by rw [if_pos hwo]; decide)).symm
      subst e2
      rw [if_neg (by rw [if_pos hwo]; decide)]
      show am_K G X _ _ _ _ _ _ _ _ _ (.int (-102) :: _)
      have hRz := hR
      have hLz := hLS
      have hFz : RFr x I I := RFr.rf
      have hVz : (0 : Int32) ≤ (-102) ∨ r = r := Or.inr rfl
      refine k_istore C (i := 7) (lv := [(7, _), (6, _), (5, _), (3, _), (0, _), (1, _), (2, _)]) (Nat.le_of_ble_eq_true rfl) rfl dL_does_128 ?_
      refine k_goto C (tgt := 291) (by decide) dL_does_130 ?_
      refine k_sub [0, 3, 4] rfl ?_
      refine k_widen ?_ ?_ (join291 _ _ _ _ _ _ _ hRz hLz hFz (by first | exact Or.inl hVz0 | exact hVz))
      · (try dsimp only); omega
      · (try dsimp only); omega
    · skip
      have hwo2 : ¬ sp_wellOn r (r 1) = -1 := by rw [hwo]; exact nI_m1 (by omega)
      obtain ⟨cap, lev, hcap, hcap9, hlev, hlev9, -⟩ := RK_we hok wi hwi
      obtain ⟨sum, hsum, hsum9, -⟩ := drink_facts hleg hwi hlev (by omega)
      refine k_aload_n C (f := 0) (i := 0) (p := 3) rfl rfl dL_does_122 ?_
      refine k_iconst C ic_2 dL_does_123 ?_
      refine k_iconst C ic_0 dL_does_124 ?_
      refine k_callSgq C s_L_163 h_L_call__ (ct_L_call__ (ct_c2 (u1 := nI 0) (u2 := nI 0) (u3 := nI 0) (u4 := nI 0) (u5 := nI 0) hx hR hok) (fun _ _ _ _ h => ⟨_, h.2.2.1⟩)) rfl rfl (Nat.le_of_ble_eq_true rfl) ⟨Nat.le_of_ble_eq_true rfl, Nat.le_of_ble_eq_true rfl⟩ ⟨rfl, rfl⟩ ⟨by show _ ≤ 2700; (try dsimp only); omega, by show _ ≤ 16000; (try dsimp only); omega⟩ dL_does_125 ?_
      intro v S hv
      obtain ⟨rfl, hv2, -⟩ := hv
      obtain ⟨hRz, hFz⟩ := hv2 (if_neg hwo2)
      rw [hwo, nI_clamp (show wi < 2 ^ 31 by omega)] at hRz
      rw [if_pos (if_neg hwo2), hwo, nI_clamp (show wi < 2 ^ 31 by omega), hsum]
      show am_K G X _ _ _ _ _ _ _ _ _ (.int (nI sum) :: _)
      have hLz := LSt_push hLS (Leg_drink hleg hwi)
      have hVz0 : (0 : Int32) ≤ nI sum := (nI_pos' (by omega))
      refine k_istore C (i := 7) (lv := [(7, _), (6, _), (5, _), (3, _), (0, _), (1, _), (2, _)]) (Nat.le_of_ble_eq_true rfl) rfl dL_does_128 ?_
      refine k_goto C (tgt := 291) (by decide) dL_does_130 ?_
      refine k_sub [0, 3, 4] rfl ?_
      refine k_widen ?_ ?_ (join291 _ _ _ _ _ _ _ hRz hLz hFz (by first | exact Or.inl hVz0 | exact hVz))
      · (try dsimp only); omega
      · (try dsimp only); omega
  · skip
    refine k_tswIn C (off := 97) (tgt := 122) (by decide) (by decide) (by decide) (by decide) dL_does_25 ?_
    rcases wellOn_or r (r 1) with hwo | ⟨wi, hwo, hwi⟩
    · skip
      refine k_aload_n C (f := 0) (i := 0) (p := 3) rfl rfl dL_does_122 ?_
      refine k_iconst C ic_2 dL_does_123 ?_
      refine k_iconst C ic_0 dL_does_124 ?_
      refine k_callSgq C s_L_163 h_L_call__ (ct_L_call__ (ct_c2 (u1 := nI 0) (u2 := nI 0) (u3 := nI 0) (u4 := nI 0) (u5 := nI 0) hx hR hok) (fun _ _ _ _ h => ⟨_, h.2.2.1⟩)) rfl rfl (Nat.le_of_ble_eq_true rfl) ⟨Nat.le_of_ble_eq_true rfl, Nat.le_of_ble_eq_true rfl⟩ ⟨rfl, rfl⟩ ⟨by show _ ≤ 2700; (try dsimp only); omega, by show _ ≤ 16000; (try dsimp only); omega⟩ dL_does_125 ?_
      intro v S hv
      obtain ⟨rfl, -, hv3⟩ := hv
      have e2 := (hv3 (by rw [if_pos hwo]; decide)).symm
      subst e2
      rw [if_neg (by rw [if_pos hwo]; decide)]
      show am_K G X _ _ _ _ _ _ _ _ _ (.int (-102) :: _)
      have hRz := hR
      have hLz := hLS
      have hFz : RFr x I I := RFr.rf
      have hVz : (0 : Int32) ≤ (-102) ∨ r = r := Or.inr rfl
      refine k_istore C (i := 7) (lv := [(7, _), (6, _), (5, _), (3, _), (0, _), (1, _), (2, _)]) (Nat.le_of_ble_eq_true rfl) rfl dL_does_128 ?_
      refine k_goto C (tgt := 291) (by decide) dL_does_130 ?_
      refine k_sub [0, 3, 4] rfl ?_
      refine k_widen ?_ ?_ (join291 _ _ _ _ _ _ _ hRz hLz hFz (by first | exact Or.inl hVz0 | exact hVz))
      · (try dsimp only); omega
      · (try dsimp only); omega
    · skip
      have hwo2 : ¬ sp_wellOn r (r 1) = -1 := by rw [hwo]; exact nI_m1 (by omega)
      obtain ⟨cap, lev, hcap, hcap9, hlev, hlev9, -⟩ := RK_we hok wi hwi
      obtain ⟨sum, hsum, hsum9, -⟩ := drink_facts hleg hwi hlev (by omega)
      refine k_aload_n C (f := 0) (i := 0) (p := 3) rfl rfl dL_does_122 ?_
      refine k_iconst C ic_2 dL_does_123 ?_
      refine k_iconst C ic_0 dL_does_124 ?_
      refine k_callSgq C s_L_163 h_L_call__ (ct_L_call__ (ct_c2 (u1 := nI 0) (u2 := nI 0) (u3 := nI 0) (u4 := nI 0) (u5 := nI 0) hx hR hok) (fun _ _ _ _ h => ⟨_, h.2.2.1⟩)) rfl rfl (Nat.le_of_ble_eq_true rfl) ⟨Nat.le_of_ble_eq_true rfl, Nat.le_of_ble_eq_true rfl⟩ ⟨rfl, rfl⟩ ⟨by show _ ≤ 2700; (try dsimp only); omega, by show _ ≤ 16000; (try dsimp only); omega⟩ dL_does_125 ?_
      intro v S hv
      obtain ⟨rfl, hv2, -⟩ := hv
      obtain ⟨hRz, hFz⟩ := hv2 (if_neg hwo2)
      rw [hwo, nI_clamp (show wi < 2 ^ 31 by omega)] at hRz
      rw [if_pos (if_neg hwo2), hwo, nI_clamp (show wi < 2 ^ 31 by omega), hsum]
      show am_K G X _ _ _ _ _ _ _ _ _ (.int (nI sum) :: _)
      have hLz := LSt_push hLS (Leg_drink hleg hwi)
      have hVz0 : (0 : Int32) ≤ nI sum := (nI_pos' (by omega))
      refine k_istore C (i := 7) (lv := [(7, _), (6, _), (5, _), (3, _), (0, _), (1, _), (2, _)]) (Nat.le_of_ble_eq_true rfl) rfl dL_does_128 ?_
      refine k_goto C (tgt := 291) (by decide) dL_does_130 ?_
      refine k_sub [0, 3, 4] rfl ?_
      refine k_widen ?_ ?_ (join291 _ _ _ _ _ _ _ hRz hLz hFz (by first | exact Or.inl hVz0 | exact hVz))
      · (try dsimp only); omega
      · (try dsimp only); omega
  · skip
    refine k_tswIn C (off := 108) (tgt := 133) (by decide) (by decide) (by decide) (by decide) dL_does_25 ?_
    refine k_aload_n C (f := 0) (i := 0) (p := 3) rfl rfl dL_does_133 ?_
    refine k_iconst C ic_3 dL_does_134 ?_
    refine k_iload_n C (f := 2) (i := 2) (p := 5) rfl rfl dL_does_135 ?_
    refine k_sipush C sc_255 dL_does_136 ?_
    refine k_iand C dL_does_139 ?_
    obtain ⟨e9, he9, he99⟩ := and_le vv (M := 255) (by omega)
    rw [he9]
    refine k_iload C (i := 5) (p := 1) rfl dL_does_140 ?_
    refine k_irem C (nI_ne0 (by omega) (by omega)) dL_does_142 ?_
    rw [pk_rem (by omega) (by omega) (by omega)]
    have hj0 : e9 % sp_nc r < sp_nc r := Nat.mod_lt _ (by omega)
    generalize e9 % sp_nc r = j at hj0 ⊢
    by_cases hal2 : r (16 + 8 * j) < nI 3
    · skip
      refine k_callSgq C s_L_163 h_L_call__ (ct_L_call__ (ct_c3 (c := nI j) (u1 := nI 0) (u2 := nI 0) (u3 := nI 0) (u4 := nI 0) hx hR hok) (fun _ _ _ _ h => ⟨_, h.2.2.1⟩)) rfl rfl (Nat.le_of_ble_eq_true rfl) ⟨Nat.le_of_ble_eq_true rfl, Nat.le_of_ble_eq_true rfl⟩ ⟨rfl, rfl⟩ ⟨by show _ ≤ 2700; (try dsimp only); omega, by show _ ≤ 16000; (try dsimp only); omega⟩ dL_does_143 ?_
      intro v S hv
      rw [nI_clamp (show j < 2 ^ 31 by omega)] at hv
      rw [if_pos (cdI_k hj0 (by omega))] at hv
      rw [if_pos hal2] at hv
      obtain ⟨rfl, hv2, -⟩ := hv
      obtain ⟨hRz, hFz⟩ := hv2 rfl
      rw [if_pos rfl, hld]
      show am_K G X _ _ _ _ _ _ _ _ _ (.int (nI ld) :: _)
      have hLz := LSt_push hLS (Leg_lead hleg hj0 hal2)
      have hVz0 : (0 : Int32) ≤ nI ld := (nI_pos' (by omega))
      refine k_istore C (i := 7) (lv := [(7, _), (6, _), (5, _), (3, _), (0, _), (1, _), (2, _)]) (Nat.le_of_ble_eq_true rfl) rfl dL_does_146 ?_
      refine k_goto C (tgt := 291) (by decide) dL_does_148 ?_
      refine k_sub [0, 3, 4] rfl ?_
      refine k_widen ?_ ?_ (join291 _ _ _ _ _ _ _ hRz hLz hFz (by first | exact Or.inl hVz0 | exact hVz))
      · (try dsimp only); omega
      · (try dsimp only); omega
    · skip
      refine k_callSgq C s_L_163 h_L_call__ (ct_L_call__ (ct_c3 (c := nI j) (u1 := nI 0) (u2 := nI 0) (u3 := nI 0) (u4 := nI 0) hx hR hok) (fun _ _ _ _ h => ⟨_, h.2.2.1⟩)) rfl rfl (Nat.le_of_ble_eq_true rfl) ⟨Nat.le_of_ble_eq_true rfl, Nat.le_of_ble_eq_true rfl⟩ ⟨rfl, rfl⟩ ⟨by show _ ≤ 2700; (try dsimp only); omega, by show _ ≤ 16000; (try dsimp only); omega⟩ dL_does_143 ?_
      intro v S hv
      rw [nI_clamp (show j < 2 ^ 31 by omega)] at hv
      rw [if_pos (cdI_k hj0 (by omega))] at hv
      rw [if_neg hal2] at hv
      obtain ⟨rfl, -, hv3⟩ := hv
      have e2 := (hv3 (by decide)).symm
      subst e2
      rw [if_neg (by decide), if_neg (by decide)]
      show am_K G X _ _ _ _ _ _ _ _ _ (.int (-102) :: _)
      have hRz := hR
      have hLz := hLS
      have hFz : RFr x I I := RFr.rf
      have hVz : (0 : Int32) ≤ (-102) ∨ r = r := Or.inr rfl
      refine k_istore C (i := 7) (lv := [(7, _), (6, _), (5, _), (3, _), (0, _), (1, _), (2, _)]) (Nat.le_of_ble_eq_true rfl) rfl dL_does_146 ?_
      refine k_goto C (tgt := 291) (by decide) dL_does_148 ?_
      refine k_sub [0, 3, 4] rfl ?_
      refine k_widen ?_ ?_ (join291 _ _ _ _ _ _ _ hRz hLz hFz (by first | exact Or.inl hVz0 | exact hVz))
      · (try dsimp only); omega
      · (try dsimp only); omega
  · skip
    refine k_tswIn C (off := 126) (tgt := 151) (by decide) (by decide) (by decide) (by decide) dL_does_25 ?_
    refine k_aload_n C (f := 0) (i := 0) (p := 3) rfl rfl dL_does_151 ?_
    refine k_iload_n C (f := 2) (i := 2) (p := 5) rfl rfl dL_does_152 ?_
    refine k_iconst C ic_1 dL_does_153 ?_
    refine k_iand C dL_does_154 ?_
    obtain ⟨e10, he10, he109⟩ := and_le vv (M := 1) (by omega)
    rw [he10]
    first
    | refine k_ifb_ne C (tgt := 162) (by decide) dL_does_155 (fun hc155 => ?_) (fun hc155 => ?_)
    | refine k_if_ne C (tgt := 162) (by decide) dL_does_155 (fun hc155 => ?_) (fun hc155 => ?_)
    · skip
      refine k_iconst C ic_0 dL_does_162 ?_
      refine k_callVl C s_L_275 h_X5_setStopping (L5_s (by assumption)) rfl (ct_X5_setStopping hx hR hok (by first | exact Or.inl rfl | exact Or.inr rfl)) rfl rfl (Nat.le_of_ble_eq_true rfl) ⟨Nat.le_of_ble_eq_true rfl, Nat.le_of_ble_eq_true rfl⟩ ⟨rfl, rfl⟩ ⟨by show _ ≤ 2700; (try dsimp only); omega, by show _ ≤ 16000; (try dsimp only); omega⟩ dL_does_163 ?_
      intro v Λ9 S J9 hv
      obtain ⟨rfl, -, rfl, rfl, hRz, hFz⟩ := hv
      have hLz := LSt_stop hLS hRz (by first | exact Or.inl rfl | exact Or.inr rfl)
      show am_K G X _ _ _ _ _ _ _ _ _ (.int (am_b (r 3 = nI 1)) :: _)
      first
      | refine k_ifb_eq C (tgt := 173) (by decide) dL_does_166 (fun hc166 => ?_) (fun hc166 => ?_)
      | refine k_if_eq C (tgt := 173) (by decide) dL_does_166 (fun hc166 => ?_) (fun hc166 => ?_)
      · skip
        refine k_iconst C ic_0 dL_does_173 ?_
        refine k_istore C (i := 7) (lv := [(7, _), (6, _), (5, _), (3, _), (0, _), (1, _), (2, _)]) (Nat.le_of_ble_eq_true rfl) rfl dL_does_174 ?_
        refine k_goto C (tgt := 291) (by decide) dL_does_176 ?_
        refine k_sub [0, 3, 4] rfl ?_
        refine k_widen ?_ ?_ (join291 _ _ _ _ _ _ _ hRz hLz hFz (Or.inl (by decide)))
        · (try dsimp only); omega
        · (try dsimp only); omega
      · skip
        refine k_iconst C ic_1 dL_does_169 ?_
        refine k_goto C (tgt := 174) (by decide) dL_does_170 ?_
        refine k_istore C (i := 7) (lv := [(7, _), (6, _), (5, _), (3, _), (0, _), (1, _), (2, _)]) (Nat.le_of_ble_eq_true rfl) rfl dL_does_174 ?_
        refine k_goto C (tgt := 291) (by decide) dL_does_176 ?_
        refine k_sub [0, 3, 4] rfl ?_
        refine k_widen ?_ ?_ (join291 _ _ _ _ _ _ _ hRz hLz hFz (Or.inl (by decide)))
        · (try dsimp only); omega
        · (try dsimp only); omega
    · skip
      refine k_iconst C ic_1 dL_does_158 ?_
      refine k_goto C (tgt := 163) (by decide) dL_does_159 ?_
      refine k_callVl C s_L_275 h_X5_setStopping (L5_s (by assumption)) rfl (ct_X5_setStopping hx hR hok (by first | exact Or.inl rfl | exact Or.inr rfl)) rfl rfl (Nat.le_of_ble_eq_true rfl) ⟨Nat.le_of_ble_eq_true rfl, Nat.le_of_ble_eq_true rfl⟩ ⟨rfl, rfl⟩ ⟨by show _ ≤ 2700; (try dsimp only); omega, by show _ ≤ 16000; (try dsimp only); omega⟩ dL_does_163 ?_
      intro v Λ9 S J9 hv
      obtain ⟨rfl, -, rfl, rfl, hRz, hFz⟩ := hv
      have hLz := LSt_stop hLS hRz (by first | exact Or.inl rfl | exact Or.inr rfl)
      show am_K G X _ _ _ _ _ _ _ _ _ (.int (am_b (r 3 = nI 1)) :: _)
      first
      | refine k_ifb_eq C (tgt := 173) (by decide) dL_does_166 (fun hc166 => ?_) (fun hc166 => ?_)
      | refine k_if_eq C (tgt := 173) (by decide) dL_does_166 (fun hc166 => ?_) (fun hc166 => ?_)
      · skip
        refine k_iconst C ic_0 dL_does_173 ?_
        refine k_istore C (i := 7) (lv := [(7, _), (6, _), (5, _), (3, _), (0, _), (1, _), (2, _)]) (Nat.le_of_ble_eq_true rfl) rfl dL_does_174 ?_
        refine k_goto C (tgt := 291) (by decide) dL_does_176 ?_
        refine k_sub [0, 3, 4] rfl ?_
        refine k_widen ?_ ?_ (join291 _ _ _ _ _ _ _ hRz hLz hFz (Or.inl (by decide)))
        · (try dsimp only); omega
        · (try dsimp only); omega
      · skip
        refine k_iconst C ic_1 dL_does_169 ?_
        refine k_goto C (tgt := 174) (by decide) dL_does_170 ?_
        refine k_istore C (i := 7) (lv := [(7, _), (6, _), (5, _), (3, _), (0, _), (1, _), (2, _)]) (Nat.le_of_ble_eq_true rfl) rfl dL_does_174 ?_
        refine k_goto C (tgt := 291) (by decide) dL_does_176 ?_
        refine k_sub [0, 3, 4] rfl ?_
        refine k_widen ?_ ?_ (join291 _ _ _ _ _ _ _ hRz hLz hFz (Or.inl (by decide)))
        · (try dsimp only); omega
        · (try dsimp only); omega
  · skip
    refine k_tswIn C (off := 154) (tgt := 179) (by decide) (by decide) (by decide) (by decide) dL_does_25 ?_
    refine k_aload_n C (f := 0) (i := 0) (p := 3) rfl rfl dL_does_179 ?_
    refine k_iconst C ic_4 dL_does_180 ?_
    refine k_iload_n C (f := 2) (i := 2) (p := 5) rfl rfl dL_does_181 ?_
    refine k_sipush C sc_255 dL_does_182 ?_
    refine k_iand C dL_does_185 ?_
    obtain ⟨e11, he11, he119⟩ := and_le vv (M := 255) (by omega)
    rw [he11]
    refine k_iload C (i := 6) (p := 0) rfl dL_does_186 ?_
    refine k_irem C (nI_ne0 (by omega) (by omega)) dL_does_188 ?_
    rw [pk_rem (by omega) (by omega) (by omega)]
    have ha0 : e11 % max 1 (sp_nl r) < max 1 (sp_nl r) := Nat.mod_lt _ (by omega)
    generalize e11 % max 1 (sp_nl r) = a at ha0 ⊢
    refine k_iload_n C (f := 2) (i := 2) (p := 5) rfl rfl dL_does_189 ?_
    refine k_iconst C ic_3 dL_does_190 ?_
    refine k_ishr C dL_does_191 ?_
    refine k_sipush C sc_255 dL_does_192 ?_
    refine k_iand C dL_does_195 ?_
    obtain ⟨e11b, he11b, he11b9⟩ := and_le (vv >>> (nI 3 &&& 31)) (M := 255) (by omega)
    rw [he11b]
    refine k_iload C (i := 5) (p := 1) rfl dL_does_196 ?_
    refine k_irem C (nI_ne0 (by omega) (by omega)) dL_does_198 ?_
    rw [pk_rem (by omega) (by omega) (by omega)]
    have hj0 : e11b % sp_nc r < sp_nc r := Nat.mod_lt _ (by omega)
    generalize e11b % sp_nc r = j at hj0 ⊢
    rcases (show sp_nl r = 0 ∨ a < sp_nl r by omega) with hz | ha2
    rotate_left 1
    by_cases hmy : (r (16 + 8 * j) < nI 3 ∧ ¬ r (142 + 4 * a) = nI j ∧ (if r (142 + 4 * a) = -1 then r (143 + 4 * a) else r 1) = r 1 ∧ ¬ sp_free r j < r (140 + 4 * a))
    · skip
      refine k_callSgq C s_L_272 h_L_call_ (ct_L_call_ (ct_c4 (a := nI a) (c := nI j) (u1 := nI 0) (u2 := nI 0) (u3 := nI 0) hx hR hok) (fun _ _ _ _ h => ⟨_, h.2.2.1⟩)) rfl rfl (Nat.le_of_ble_eq_true rfl) ⟨Nat.le_of_ble_eq_true rfl, Nat.le_of_ble_eq_true rfl⟩ ⟨rfl, rfl⟩ ⟨by show _ ≤ 2700; (try dsimp only); omega, by show _ ≤ 16000; (try dsimp only); omega⟩ dL_does_199 ?_
      intro v S hv
      rw [nI_clamp (show a < 2 ^ 31 by omega), nI_clamp (show j < 2 ^ 31 by omega)] at hv
      have hcc : cdI (sp_nl r) (nI a) = 0 ∧ cdI (sp_nc r) (nI j) = 0 := ⟨cdI_k ha2 (by omega), cdI_k hj0 (by omega)⟩
      rw [if_pos hcc] at hv
      rw [if_pos hmy] at hv
      obtain ⟨rfl, hv2, -⟩ := hv
      obtain ⟨hRz, hFz⟩ := hv2 rfl
      rw [if_pos rfl]
      obtain ⟨wt, hwt, wt1, wt9⟩ := (RK_lo hok a ha2).1
      obtain ⟨f0, hf, hf9⟩ := free_of hleg hj0
      have hle : wt ≤ f0 := Nat.le_of_not_lt (fun q => hmy.2.2.2 (by rw [hf, hwt]; exact nI_lt q (by omega)))
      obtain ⟨hleg12, hfr⟩ := hang_facts hleg ha2 hj0 hmy.1 hmy.2.1 hwt ⟨f0, hf, by omega, hle⟩
      rw [hfr, hf, pk_sub hle]
      show am_K G X _ _ _ _ _ _ _ _ _ (.int (nI (f0 - wt)) :: _)
      have hLz := LSt_push hLS (hleg12)
      have hVz0 : (0 : Int32) ≤ nI (f0 - wt) := (nI_pos' (by omega))
      refine k_istore C (i := 7) (lv := [(7, _), (6, _), (5, _), (3, _), (0, _), (1, _), (2, _)]) (Nat.le_of_ble_eq_true rfl) rfl dL_does_202 ?_
      refine k_goto C (tgt := 291) (by decide) dL_does_204 ?_
      refine k_sub [0, 3, 4] rfl ?_
      refine k_widen ?_ ?_ (join291 _ _ _ _ _ _ _ hRz hLz hFz (by first | exact Or.inl hVz0 | exact hVz))
      · (try dsimp only); omega
      · (try dsimp only); omega
    · skip
      refine k_callSgq C s_L_272 h_L_call_ (ct_L_call_ (ct_c4 (a := nI a) (c := nI j) (u1 := nI 0) (u2 := nI 0) (u3 := nI 0) hx hR hok) (fun _ _ _ _ h => ⟨_, h.2.2.1⟩)) rfl rfl (Nat.le_of_ble_eq_true rfl) ⟨Nat.le_of_ble_eq_true rfl, Nat.le_of_ble_eq_true rfl⟩ ⟨rfl, rfl⟩ ⟨by show _ ≤ 2700; (try dsimp only); omega, by show _ ≤ 16000; (try dsimp only); omega⟩ dL_does_199 ?_
      intro v S hv
      rw [nI_clamp (show a < 2 ^ 31 by omega), nI_clamp (show j < 2 ^ 31 by omega)] at hv
      have hcc : cdI (sp_nl r) (nI a) = 0 ∧ cdI (sp_nc r) (nI j) = 0 := ⟨cdI_k ha2 (by omega), cdI_k hj0 (by omega)⟩
      rw [if_pos hcc] at hv
      rw [if_neg hmy] at hv
      obtain ⟨rfl, -, hv3⟩ := hv
      have e2 := (hv3 (by decide)).symm
      subst e2
      rw [if_neg (by decide), if_neg (by decide)]
      show am_K G X _ _ _ _ _ _ _ _ _ (.int (-102) :: _)
      have hRz := hR
      have hLz := hLS
      have hFz : RFr x I I := RFr.rf
      have hVz : (0 : Int32) ≤ (-102) ∨ r = r := Or.inr rfl
      refine k_istore C (i := 7) (lv := [(7, _), (6, _), (5, _), (3, _), (0, _), (1, _), (2, _)]) (Nat.le_of_ble_eq_true rfl) rfl dL_does_202 ?_
      refine k_goto C (tgt := 291) (by decide) dL_does_204 ?_
      refine k_sub [0, 3, 4] rfl ?_
      refine k_widen ?_ ?_ (join291 _ _ _ _ _ _ _ hRz hLz hFz (by first | exact Or.inl hVz0 | exact hVz))
      · (try dsimp only); omega
      · (try dsimp only); omega
    · skip
      have hcc : ¬ (cdI (sp_nl r) (nI a) = 0 ∧ cdI (sp_nc r) (nI j) = 0) := fun z => by have z1 := z.1; rw [cdI_f (fun q => nI_nlt (by omega) (by omega) q.2)] at z1; exact absurd z1 (by decide)
      refine k_callSgq C s_L_272 h_L_call_ (ct_L_call_ (ct_c4 (a := nI a) (c := nI j) (u1 := nI 0) (u2 := nI 0) (u3 := nI 0) hx hR hok) (fun _ _ _ _ h => ⟨_, h.2.2.1⟩)) rfl rfl (Nat.le_of_ble_eq_true rfl) ⟨Nat.le_of_ble_eq_true rfl, Nat.le_of_ble_eq_true rfl⟩ ⟨rfl, rfl⟩ ⟨by show _ ≤ 2700; (try dsimp only); omega, by show _ ≤ 16000; (try dsimp only); omega⟩ dL_does_199 ?_
      intro v S hv
      rw [nI_clamp (show a < 2 ^ 31 by omega), nI_clamp (show j < 2 ^ 31 by omega)] at hv
      rw [if_neg hcc] at hv
      obtain ⟨rfl, -, hv3⟩ := hv
      have e2 := (hv3 (by decide)).symm
      subst e2
      rw [if_neg (by decide), if_pos rfl]
      show am_K G X _ _ _ _ _ _ _ _ _ (.int (-104) :: _)
      have hRz := hR
      have hLz := hLS
      have hFz : RFr x I I := RFr.rf
      have hVz : (0 : Int32) ≤ (-104) ∨ r = r := Or.inr rfl
      refine k_istore C (i := 7) (lv := [(7, _), (6, _), (5, _), (3, _), (0, _), (1, _), (2, _)]) (Nat.le_of_ble_eq_true rfl) rfl dL_does_202 ?_
      refine k_goto C (tgt := 291) (by decide) dL_does_204 ?_
      refine k_sub [0, 3, 4] rfl ?_
      refine k_widen ?_ ?_ (join291 _ _ _ _ _ _ _ hRz hLz hFz (by first | exact Or.inl hVz0 | exact hVz))
      · (try dsimp only); omega
      · (try dsimp only); omega
  · skip
    refine k_tswIn C (off := 182) (tgt := 207) (by decide) (by decide) (by decide) (by decide) dL_does_25 ?_
    refine k_aload_n C (f := 0) (i := 0) (p := 3) rfl rfl dL_does_207 ?_
    refine k_iconst C ic_5 dL_does_208 ?_
    refine k_iload_n C (f := 2) (i := 2) (p := 5) rfl rfl dL_does_209 ?_
    refine k_sipush C sc_255 dL_does_210 ?_
    refine k_iand C dL_does_213 ?_
    obtain ⟨e12, he12, he129⟩ := and_le vv (M := 255) (by omega)
    rw [he12]
    refine k_iload C (i := 6) (p := 0) rfl dL_does_214 ?_
    refine k_irem C (nI_ne0 (by omega) (by omega)) dL_does_216 ?_
    rw [pk_rem (by omega) (by omega) (by omega)]
    have ha0 : e12 % max 1 (sp_nl r) < max 1 (sp_nl r) := Nat.mod_lt _ (by omega)
    generalize e12 % max 1 (sp_nl r) = a at ha0 ⊢
    rcases (show sp_nl r = 0 ∨ a < sp_nl r by omega) with hz | ha2
    rotate_left 1
    rcases (RK_lo hok a ha2).2 with hcar | ⟨jj, hcar, hjj⟩
    · skip
      refine k_callSgq C s_L_163 h_L_call__ (ct_L_call__ (ct_c5 (c := nI a) (u1 := nI 0) (u2 := nI 0) (u3 := nI 0) (u4 := nI 0) hx hR hok) (fun _ _ _ _ h => ⟨_, h.2.2.1⟩)) rfl rfl (Nat.le_of_ble_eq_true rfl) ⟨Nat.le_of_ble_eq_true rfl, Nat.le_of_ble_eq_true rfl⟩ ⟨rfl, rfl⟩ ⟨by show _ ≤ 2700; (try dsimp only); omega, by show _ ≤ 16000; (try dsimp only); omega⟩ dL_does_217 ?_
      intro v S hv
      rw [nI_clamp (show a < 2 ^ 31 by omega)] at hv
      rw [if_pos (cdI_k ha2 (by omega))] at hv
      rw [if_pos hcar] at hv
      obtain ⟨rfl, -, hv3⟩ := hv
      have e2 := (hv3 (by decide)).symm
      subst e2
      rw [if_neg (by decide), if_neg (by decide)]
      show am_K G X _ _ _ _ _ _ _ _ _ (.int (-102) :: _)
      have hRz := hR
      have hLz := hLS
      have hFz : RFr x I I := RFr.rf
      have hVz : (0 : Int32) ≤ (-102) ∨ r = r := Or.inr rfl
      refine k_istore C (i := 7) (lv := [(7, _), (6, _), (5, _), (3, _), (0, _), (1, _), (2, _)]) (Nat.le_of_ble_eq_true rfl) rfl dL_does_220 ?_
      refine k_goto C (tgt := 291) (by decide) dL_does_222 ?_
      refine k_sub [0, 3, 4] rfl ?_
      refine k_widen ?_ ?_ (join291 _ _ _ _ _ _ _ hRz hLz hFz (by first | exact Or.inl hVz0 | exact hVz))
      · (try dsimp only); omega
      · (try dsimp only); omega
    · skip
      have hne : ¬ r (142 + 4 * a) = -1 := by rw [hcar]; exact nI_m1 (by omega)
      refine k_callSgq C s_L_163 h_L_call__ (ct_L_call__ (ct_c5 (c := nI a) (u1 := nI 0) (u2 := nI 0) (u3 := nI 0) (u4 := nI 0) hx hR hok) (fun _ _ _ _ h => ⟨_, h.2.2.1⟩)) rfl rfl (Nat.le_of_ble_eq_true rfl) ⟨Nat.le_of_ble_eq_true rfl, Nat.le_of_ble_eq_true rfl⟩ ⟨rfl, rfl⟩ ⟨by show _ ≤ 2700; (try dsimp only); omega, by show _ ≤ 16000; (try dsimp only); omega⟩ dL_does_217 ?_
      intro v S hv
      rw [nI_clamp (show a < 2 ^ 31 by omega)] at hv
      rw [if_pos (cdI_k ha2 (by omega))] at hv
      rw [if_neg hne] at hv
      obtain ⟨rfl, hv2, -⟩ := hv
      obtain ⟨hRz, hFz⟩ := hv2 rfl
      rw [if_pos rfl, hcar]
      show am_K G X _ _ _ _ _ _ _ _ _ (.int (nI jj) :: _)
      have hLz := LSt_push hLS (Leg_lay hleg ha2)
      have hVz0 : (0 : Int32) ≤ nI jj := (nI_pos' (by omega))
      refine k_istore C (i := 7) (lv := [(7, _), (6, _), (5, _), (3, _), (0, _), (1, _), (2, _)]) (Nat.le_of_ble_eq_true rfl) rfl dL_does_220 ?_
      refine k_goto C (tgt := 291) (by decide) dL_does_222 ?_
      refine k_sub [0, 3, 4] rfl ?_
      refine k_widen ?_ ?_ (join291 _ _ _ _ _ _ _ hRz hLz hFz (by first | exact Or.inl hVz0 | exact hVz))
      · (try dsimp only); omega
      · (try dsimp only); omega
    · skip
      have hcc : ¬ (cdI (sp_nl r) (nI a) = 0) := fun z1 => by rw [cdI_f (fun q => nI_nlt (by omega) (by omega) q.2)] at z1; exact absurd z1 (by decide)
      refine k_callSgq C s_L_163 h_L_call__ (ct_L_call__ (ct_c5 (c := nI a) (u1 := nI 0) (u2 := nI 0) (u3 := nI 0) (u4 := nI 0) hx hR hok) (fun _ _ _ _ h => ⟨_, h.2.2.1⟩)) rfl rfl (Nat.le_of_ble_eq_true rfl) ⟨Nat.le_of_ble_eq_true rfl, Nat.le_of_ble_eq_true rfl⟩ ⟨rfl, rfl⟩ ⟨by show _ ≤ 2700; (try dsimp only); omega, by show _ ≤ 16000; (try dsimp only); omega⟩ dL_does_217 ?_
      intro v S hv
      rw [nI_clamp (show a < 2 ^ 31 by omega)] at hv
      rw [if_neg hcc] at hv
      obtain ⟨rfl, -, hv3⟩ := hv
      have e2 := (hv3 (by decide)).symm
      subst e2
      rw [if_neg (by decide), if_pos rfl]
      show am_K G X _ _ _ _ _ _ _ _ _ (.int (-104) :: _)
      have hRz := hR
      have hLz := hLS
      have hFz : RFr x I I := RFr.rf
      have hVz : (0 : Int32) ≤ (-104) ∨ r = r := Or.inr rfl
      refine k_istore C (i := 7) (lv := [(7, _), (6, _), (5, _), (3, _), (0, _), (1, _), (2, _)]) (Nat.le_of_ble_eq_true rfl) rfl dL_does_220 ?_
      refine k_goto C (tgt := 291) (by decide) dL_does_222 ?_
      refine k_sub [0, 3, 4] rfl ?_
      refine k_widen ?_ ?_ (join291 _ _ _ _ _ _ _ hRz hLz hFz (by first | exact Or.inl hVz0 | exact hVz))
      · (try dsimp only); omega
      · (try dsimp only); omega
  · skip
    refine k_tswIn C (off := 200) (tgt := 225) (by decide) (by decide) (by decide) (by decide) dL_does_25 ?_
    refine k_aload_n C (f := 0) (i := 0) (p := 3) rfl rfl dL_does_225 ?_
    refine k_bipush C bc_6 dL_does_226 ?_
    refine k_iload_n C (f := 2) (i := 2) (p := 5) rfl rfl dL_does_228 ?_
    refine k_bipush C bc_63 dL_does_229 ?_
    refine k_iand C dL_does_231 ?_
    obtain ⟨e13, he13, he139⟩ := and_le vv (M := 63) (by omega)
    rw [he13]
    refine k_iload_n C (f := 2) (i := 2) (p := 5) rfl rfl dL_does_232 ?_
    refine k_iconst C ic_4 dL_does_233 ?_
    refine k_ishr C dL_does_234 ?_
    refine k_bipush C bc_127 dL_does_235 ?_
    refine k_iand C dL_does_237 ?_
    obtain ⟨e13b, he13b, he13b9⟩ := and_le (vv >>> (nI 4 &&& 31)) (M := 127) (by omega)
    rw [he13b]
    rcases (show (e13 = 0 ∨ e13b = 0 ∨ 99 < e13b) ∨ (1 ≤ e13 ∧ 1 ≤ e13b ∧ e13b ≤ 99 ∧ 20 ≤ sp_nl r) ∨ (1 ≤ e13 ∧ 1 ≤ e13b ∧ e13b ≤ 99 ∧ sp_nl r < 20) by omega) with hz | ⟨z1, z2, z3, z4⟩ | ⟨z1, z2, z3, z4⟩
    · skip
      have hcc : (nI e13 < nI 1 ∨ nI 99 < nI e13 ∨ nI e13b < nI 1 ∨ nI 99 < nI e13b) := by rcases hz with z | z | z; exact Or.inl (nI_lt (by omega) (by omega)); exact Or.inr (Or.inr (Or.inl (nI_lt (by omega) (by omega)))); exact Or.inr (Or.inr (Or.inr (nI_lt (by omega) (by omega))))
      refine k_callSgq C s_L_272 h_L_call_ (ct_L_call_ (ct_c6 (a := nI e13) (b := nI e13b) (u1 := nI 0) (u2 := nI 0) (u3 := nI 0) hx hR hok) (fun _ _ _ _ h => ⟨_, h.2.2.1⟩)) rfl rfl (Nat.le_of_ble_eq_true rfl) ⟨Nat.le_of_ble_eq_true rfl, Nat.le_of_ble_eq_true rfl⟩ ⟨rfl, rfl⟩ ⟨by show _ ≤ 2700; (try dsimp only); omega, by show _ ≤ 16000; (try dsimp only); omega⟩ dL_does_238 ?_
      intro v S hv
      rw [if_pos hcc] at hv
      obtain ⟨rfl, -, hv3⟩ := hv
      have e2 := (hv3 (by decide)).symm
      subst e2
      rw [if_neg (by decide), if_pos rfl]
      show am_K G X _ _ _ _ _ _ _ _ _ (.int (-103) :: _)
      have hRz := hR
      have hLz := hLS
      have hFz : RFr x I I := RFr.rf
      have hVz : (0 : Int32) ≤ (-103) ∨ r = r := Or.inr rfl
      refine k_istore C (i := 7) (lv := [(7, _), (6, _), (5, _), (3, _), (0, _), (1, _), (2, _)]) (Nat.le_of_ble_eq_true rfl) rfl dL_does_241 ?_
      refine k_goto C (tgt := 291) (by decide) dL_does_243 ?_
      refine k_sub [0, 3, 4] rfl ?_
      refine k_widen ?_ ?_ (join291 _ _ _ _ _ _ _ hRz hLz hFz (by first | exact Or.inl hVz0 | exact hVz))
      · (try dsimp only); omega
      · (try dsimp only); omega
    · skip
      refine k_callSgq C s_L_272 h_L_call_ (ct_L_call_ (ct_c6 (a := nI e13) (b := nI e13b) (u1 := nI 0) (u2 := nI 0) (u3 := nI 0) hx hR hok) (fun _ _ _ _ h => ⟨_, h.2.2.1⟩)) rfl rfl (Nat.le_of_ble_eq_true rfl) ⟨Nat.le_of_ble_eq_true rfl, Nat.le_of_ble_eq_true rfl⟩ ⟨rfl, rfl⟩ ⟨by show _ ≤ 2700; (try dsimp only); omega, by show _ ≤ 16000; (try dsimp only); omega⟩ dL_does_238 ?_
      intro v S hv
      have hcc : ¬ (nI e13 < nI 1 ∨ nI 99 < nI e13 ∨ nI e13b < nI 1 ∨ nI 99 < nI e13b) := fun z => by rcases z with z | z | z | z; exact nI_nlt (by omega) (by omega) z; exact nI_nlt (by omega) (by omega) z; exact nI_nlt (by omega) (by omega) z; exact nI_nlt (by omega) (by omega) z
      rw [if_neg hcc] at hv
      rw [if_pos z4] at hv
      obtain ⟨rfl, -, hv3⟩ := hv
      have e2 := (hv3 (by decide)).symm
      subst e2
      rw [if_neg (by decide), if_neg (by decide)]
      show am_K G X _ _ _ _ _ _ _ _ _ (.int (-102) :: _)
      have hRz := hR
      have hLz := hLS
      have hFz : RFr x I I := RFr.rf
      have hVz : (0 : Int32) ≤ (-102) ∨ r = r := Or.inr rfl
      refine k_istore C (i := 7) (lv := [(7, _), (6, _), (5, _), (3, _), (0, _), (1, _), (2, _)]) (Nat.le_of_ble_eq_true rfl) rfl dL_does_241 ?_
      refine k_goto C (tgt := 291) (by decide) dL_does_243 ?_
      refine k_sub [0, 3, 4] rfl ?_
      refine k_widen ?_ ?_ (join291 _ _ _ _ _ _ _ hRz hLz hFz (by first | exact Or.inl hVz0 | exact hVz))
      · (try dsimp only); omega
      · (try dsimp only); omega
    · skip
      refine k_callSgq C s_L_272 h_L_call_ (ct_L_call_ (ct_c6 (a := nI e13) (b := nI e13b) (u1 := nI 0) (u2 := nI 0) (u3 := nI 0) hx hR hok) (fun _ _ _ _ h => ⟨_, h.2.2.1⟩)) rfl rfl (Nat.le_of_ble_eq_true rfl) ⟨Nat.le_of_ble_eq_true rfl, Nat.le_of_ble_eq_true rfl⟩ ⟨rfl, rfl⟩ ⟨by show _ ≤ 2700; (try dsimp only); omega, by show _ ≤ 16000; (try dsimp only); omega⟩ dL_does_238 ?_
      intro v S hv
      have hcc : ¬ (nI e13 < nI 1 ∨ nI 99 < nI e13 ∨ nI e13b < nI 1 ∨ nI 99 < nI e13b) := fun z => by rcases z with z | z | z | z; exact nI_nlt (by omega) (by omega) z; exact nI_nlt (by omega) (by omega) z; exact nI_nlt (by omega) (by omega) z; exact nI_nlt (by omega) (by omega) z
      rw [if_neg hcc] at hv
      rw [if_neg (show ¬ 20 ≤ sp_nl r by omega)] at hv
      obtain ⟨rfl, hv2, -⟩ := hv
      obtain ⟨hRz, hFz⟩ := hv2 rfl
      rw [if_pos rfl]
      show am_K G X _ _ _ _ _ _ _ _ _ (.int (nI (sp_nl r)) :: _)
      have hLz := LSt_push hLS (Leg_bring (y := nI e13b) hleg z4 ⟨z1, by omega⟩)
      have hVz0 : (0 : Int32) ≤ nI (sp_nl r) := (nI_pos' (by omega))
      refine k_istore C (i := 7) (lv := [(7, _), (6, _), (5, _), (3, _), (0, _), (1, _), (2, _)]) (Nat.le_of_ble_eq_true rfl) rfl dL_does_241 ?_
      refine k_goto C (tgt := 291) (by decide) dL_does_243 ?_
      refine k_sub [0, 3, 4] rfl ?_
      refine k_widen ?_ ?_ (join291 _ _ _ _ _ _ _ hRz hLz hFz (by first | exact Or.inl hVz0 | exact hVz))
      · (try dsimp only); omega
      · (try dsimp only); omega
  · skip
    refine k_tswIn C (off := 221) (tgt := 246) (by decide) (by decide) (by decide) (by decide) dL_does_25 ?_
    refine k_aload_n C (f := 0) (i := 0) (p := 3) rfl rfl dL_does_246 ?_
    refine k_iload_n C (f := 2) (i := 2) (p := 5) rfl rfl dL_does_247 ?_
    refine k_iconst C ic_1 dL_does_248 ?_
    refine k_iand C dL_does_249 ?_
    obtain ⟨e14, he14, he149⟩ := and_le vv (M := 1) (by omega)
    rw [he14]
    rcases (show e14 = 0 ∨ e14 = 1 by omega) with rfl | rfl
    · skip
      first
      | refine k_ifb_ne C (tgt := 258) (by decide) dL_does_250 (fun hc250 => ?_) (fun hc250 => ?_)
      | refine k_if_ne C (tgt := 258) (by decide) dL_does_250 (fun hc250 => ?_) (fun hc250 => ?_)
      · skip
        first
        | omega
        | exact absurd hc250 (nI_ge (by omega) (by omega))
        | exact absurd hc250 (by decide)
        | exact absurd hc250 (nI_pos (by omega))
        | exact absurd (nI_pos' (by omega)) hc250
        | exact absurd rfl hc250
        | exact absurd hc250 (nI_ne0 (by omega) (by omega))
        | exact hc250 rfl
        | contradiction
        | exact absurd hc250 (nI_n101 (by omega))
        | exact absurd hc250.symm (nI_n101 (by omega))
        | (simp_all; done)
      · skip
        refine k_bipush C bc_8 dL_does_253 ?_
        refine k_goto C (tgt := 260) (by decide) dL_does_255 ?_
        refine k_iload_n C (f := 2) (i := 2) (p := 5) rfl rfl dL_does_260 ?_
        refine k_iconst C ic_1 dL_does_261 ?_
        refine k_ishr C dL_does_262 ?_
        refine k_iconst C ic_1 dL_does_263 ?_
        refine k_iand C dL_does_264 ?_
        obtain ⟨e14b, he14b, he14b9⟩ := and_le (vv >>> (nI 1 &&& 31)) (M := 1) (by omega)
        rw [he14b]
        skip
        · skip
          refine k_callSgq C s_L_163 h_L_call__ (ct_L_call__ (ct_c8 (c := nI e14b) (u1 := nI 0) (u2 := nI 0) (u3 := nI 0) (u4 := nI 0) hx hR hok) (fun _ _ _ _ h => ⟨_, h.2.2.1⟩)) rfl rfl (Nat.le_of_ble_eq_true rfl) ⟨Nat.le_of_ble_eq_true rfl, Nat.le_of_ble_eq_true rfl⟩ ⟨rfl, rfl⟩ ⟨by show _ ≤ 2700; (try dsimp only); omega, by show _ ≤ 16000; (try dsimp only); omega⟩ dL_does_265 ?_
          intro v S hv
          rw [nI_clamp (show e14b < 2 ^ 31 by omega)] at hv
          have hcd := cdI_k (n := 2) (j := e14b) (by omega) (by omega)
          obtain ⟨rfl, hv2, -⟩ := hv
          obtain ⟨hRz, hFz⟩ := hv2 hcd
          rw [if_pos hcd, hk]
          show am_K G X _ _ _ _ _ _ _ _ _ (.int (nI km) :: _)
          have hLz := LSt_save (e := e14b) hLS
          have hVz : (0 : Int32) ≤ nI km ∨ r = r := Or.inr rfl
          refine k_istore C (i := 7) (lv := [(7, _), (6, _), (5, _), (3, _), (0, _), (1, _), (2, _)]) (Nat.le_of_ble_eq_true rfl) rfl dL_does_268 ?_
          refine k_goto C (tgt := 291) (by decide) dL_does_270 ?_
          refine k_sub [0, 3, 4] rfl ?_
          refine k_widen ?_ ?_ (join291 _ _ _ _ _ _ _ hRz hLz hFz (by first | exact Or.inl hVz0 | exact hVz))
          · (try dsimp only); omega
          · (try dsimp only); omega
    · skip
      first
      | refine k_ifb_ne C (tgt := 258) (by decide) dL_does_250 (fun hc250 => ?_) (fun hc250 => ?_)
      | refine k_if_ne C (tgt := 258) (by decide) dL_does_250 (fun hc250 => ?_) (fun hc250 => ?_)
      · skip
        refine k_bipush C bc_9 dL_does_258 ?_
        refine k_iload_n C (f := 2) (i := 2) (p := 5) rfl rfl dL_does_260 ?_
        refine k_iconst C ic_1 dL_does_261 ?_
        refine k_ishr C dL_does_262 ?_
        refine k_iconst C ic_1 dL_does_263 ?_
        refine k_iand C dL_does_264 ?_
        obtain ⟨e14b, he14b, he14b9⟩ := and_le (vv >>> (nI 1 &&& 31)) (M := 1) (by omega)
        rw [he14b]
        rcases (show kp e14b = true ∨ ¬ kp e14b = true by cases kp e14b <;> simp) with hkp | hkp
        · skip
          refine k_callSgq C s_L_163 h_L_call__ (ct_L_call__ (ct_c9 (c := nI e14b) (u1 := nI 0) (u2 := nI 0) (u3 := nI 0) (u4 := nI 0) hx hR hok) (fun _ _ _ _ h => ⟨_, h.2.2.1⟩)) rfl rfl (Nat.le_of_ble_eq_true rfl) ⟨Nat.le_of_ble_eq_true rfl, Nat.le_of_ble_eq_true rfl⟩ ⟨rfl, rfl⟩ ⟨by show _ ≤ 2700; (try dsimp only); omega, by show _ ≤ 16000; (try dsimp only); omega⟩ dL_does_265 ?_
          intro v S hv
          rw [nI_clamp (show e14b < 2 ^ 31 by omega)] at hv
          have hcd := cdI_k (n := 2) (j := e14b) (by omega) (by omega)
          rw [if_pos hcd] at hv
          rw [if_pos hkp] at hv
          obtain ⟨rfl, hv2, -⟩ := hv
          obtain ⟨hRz, hFz⟩ := hv2 rfl
          have hlegs := hLS.2.2 e14b (by omega) hkp
          obtain ⟨L2, km2, hL2, hk2, hL12, hL92, hkL2, hww2⟩ := RK_L hlegs.1
          rw [if_pos rfl, hk2]
          show am_K G X _ _ _ _ _ _ _ _ _ (.int (nI km2) :: _)
          have hLz := LSt_push hLS (hlegs)
          have hVz0 : (0 : Int32) ≤ nI km2 := (nI_pos' (by omega))
          refine k_istore C (i := 7) (lv := [(7, _), (6, _), (5, _), (3, _), (0, _), (1, _), (2, _)]) (Nat.le_of_ble_eq_true rfl) rfl dL_does_268 ?_
          refine k_goto C (tgt := 291) (by decide) dL_does_270 ?_
          refine k_sub [0, 3, 4] rfl ?_
          refine k_widen ?_ ?_ (join291 _ _ _ _ _ _ _ hRz hLz hFz (by first | exact Or.inl hVz0 | exact hVz))
          · (try dsimp only); omega
          · (try dsimp only); omega
        · skip
          refine k_callSgq C s_L_163 h_L_call__ (ct_L_call__ (ct_c9 (c := nI e14b) (u1 := nI 0) (u2 := nI 0) (u3 := nI 0) (u4 := nI 0) hx hR hok) (fun _ _ _ _ h => ⟨_, h.2.2.1⟩)) rfl rfl (Nat.le_of_ble_eq_true rfl) ⟨Nat.le_of_ble_eq_true rfl, Nat.le_of_ble_eq_true rfl⟩ ⟨rfl, rfl⟩ ⟨by show _ ≤ 2700; (try dsimp only); omega, by show _ ≤ 16000; (try dsimp only); omega⟩ dL_does_265 ?_
          intro v S hv
          rw [nI_clamp (show e14b < 2 ^ 31 by omega)] at hv
          have hcd := cdI_k (n := 2) (j := e14b) (by omega) (by omega)
          rw [if_pos hcd] at hv
          rw [if_neg hkp] at hv
          obtain ⟨rfl, -, hv3⟩ := hv
          have e2 := (hv3 (by decide)).symm
          subst e2
          rw [if_neg (by decide), if_neg (by decide)]
          show am_K G X _ _ _ _ _ _ _ _ _ (.int (-101) :: _)
          have hRz := hR
          have hLz := hLS
          have hFz : RFr x I I := RFr.rf
          have hVz : (0 : Int32) ≤ (-101) ∨ r = r := Or.inr rfl
          refine k_istore C (i := 7) (lv := [(7, _), (6, _), (5, _), (3, _), (0, _), (1, _), (2, _)]) (Nat.le_of_ble_eq_true rfl) rfl dL_does_268 ?_
          refine k_goto C (tgt := 291) (by decide) dL_does_270 ?_
          refine k_sub [0, 3, 4] rfl ?_
          refine k_widen ?_ ?_ (join291 _ _ _ _ _ _ _ hRz hLz hFz (by first | exact Or.inl hVz0 | exact hVz))
          · (try dsimp only); omega
          · (try dsimp only); omega
      · skip
        first
        | omega
        | exact absurd hc250 (nI_ge (by omega) (by omega))
        | exact absurd hc250 (by decide)
        | exact absurd hc250 (nI_pos (by omega))
        | exact absurd (nI_pos' (by omega)) hc250
        | exact absurd rfl hc250
        | exact absurd hc250 (nI_ne0 (by omega) (by omega))
        | exact hc250 rfl
        | contradiction
        | exact absurd hc250 (nI_n101 (by omega))
        | exact absurd hc250.symm (nI_n101 (by omega))
        | (simp_all; done)
  · skip
    refine k_tswOut C (tgt := 273) (by decide) (by decide) dL_does_25 ?_
    by_cases hct : ct = 0
    · skip
      refine k_aload_n C (f := 0) (i := 0) (p := 3) rfl rfl dL_does_273 ?_
      refine k_bipush C bc_7 dL_does_274 ?_
      refine k_iconst C ic_0 dL_does_276 ?_
      refine k_callSgq C s_L_163 h_L_call__ (ct_L_call__ (ct_c7 (u1 := nI 0) (u2 := nI 0) (u3 := nI 0) (u4 := nI 0) (u5 := nI 0) hx hR hok) (fun _ _ _ _ h => ⟨_, h.2.2.1⟩)) rfl rfl (Nat.le_of_ble_eq_true rfl) ⟨Nat.le_of_ble_eq_true rfl, Nat.le_of_ble_eq_true rfl⟩ ⟨rfl, rfl⟩ ⟨by show _ ≤ 2700; (try dsimp only); omega, by show _ ≤ 16000; (try dsimp only); omega⟩ dL_does_277 ?_
      intro v S hv
      obtain ⟨rfl, -, hv3⟩ := hv
      have e2 := (hv3 (by rw [if_pos hct]; decide)).symm
      subst e2
      rw [if_neg (by rw [if_pos hct]; decide)]
      show am_K G X _ _ _ _ _ _ _ _ _ (.int (-102) :: _)
      have hRz := hR
      have hLz := hLS
      have hFz : RFr x I I := RFr.rf
      refine k_bipush C bc_m104 dL_does_280 ?_
      first
      | refine k_icmpN_eq C (tgt := 289) (by omega) (by omega) (by decide) dL_does_282 (fun hc282 => ?_) (fun hc282 => ?_)
      | refine k_icmp_eq C (tgt := 289) (by decide) dL_does_282 (fun hc282 => ?_) (fun hc282 => ?_)
      · skip
        first
        | exact absurd hc282 (by decide)
        | exact absurd hc282 (fun z => nI_pos (n := ct - 1) (by omega) (by rw [z]; decide))
      · skip
        refine k_iconst C ic_1 dL_does_285 ?_
        refine k_goto C (tgt := 290) (by decide) dL_does_286 ?_
        exact k_zret C (by first | rfl | exact am_bz) (by show _ ≤ 2700; (try dsimp only); omega) (by show _ ≤ 16000; (try dsimp only); omega) (⟨LK.fr hFz, rfl, _, _, _, _, _, hRz, hLz⟩) dL_does_290
    · skip
      have hct8 : ct ≤ 8 := by obtain ⟨nx, hh⟩ := RR_h hR; exact hh.2.2.2.1
      refine k_aload_n C (f := 0) (i := 0) (p := 3) rfl rfl dL_does_273 ?_
      refine k_bipush C bc_7 dL_does_274 ?_
      refine k_iconst C ic_0 dL_does_276 ?_
      refine k_callSgq C s_L_163 h_L_call__ (ct_L_call__ (ct_c7 (u1 := nI 0) (u2 := nI 0) (u3 := nI 0) (u4 := nI 0) (u5 := nI 0) hx hR hok) (fun _ _ _ _ h => ⟨_, h.2.2.1⟩)) rfl rfl (Nat.le_of_ble_eq_true rfl) ⟨Nat.le_of_ble_eq_true rfl, Nat.le_of_ble_eq_true rfl⟩ ⟨rfl, rfl⟩ ⟨by show _ ≤ 2700; (try dsimp only); omega, by show _ ≤ 16000; (try dsimp only); omega⟩ dL_does_277 ?_
      intro v S hv
      obtain ⟨rfl, hv2, -⟩ := hv
      obtain ⟨hRz, hFz⟩ := hv2 (if_neg hct)
      rw [if_pos (if_neg hct)]
      show am_K G X _ _ _ _ _ _ _ _ _ (.int (nI (ct - 1)) :: _)
      have hLz := LSt_undo hLS hct
      refine k_bipush C bc_m104 dL_does_280 ?_
      first
      | refine k_icmpN_eq C (tgt := 289) (by omega) (by omega) (by decide) dL_does_282 (fun hc282 => ?_) (fun hc282 => ?_)
      | refine k_icmp_eq C (tgt := 289) (by decide) dL_does_282 (fun hc282 => ?_) (fun hc282 => ?_)
      · skip
        first
        | exact absurd hc282 (by decide)
        | exact absurd hc282 (fun z => nI_pos (n := ct - 1) (by omega) (by rw [z]; decide))
      · skip
        refine k_iconst C ic_1 dL_does_285 ?_
        refine k_goto C (tgt := 290) (by decide) dL_does_286 ?_
        exact k_zret C (by first | rfl | exact am_bz) (by show _ ≤ 2700; (try dsimp only); omega) (by show _ ≤ 16000; (try dsimp only); omega) (⟨LK.fr hFz, rfl, _, _, _, _, _, hRz, hLz⟩) dL_does_290
