theorem start_n (L : Nat) : sp_nc (sp_start L) = 0 ∧ sp_nw (sp_start L) = 0 ∧ sp_ns (sp_start L) = 0 := by
  have e : ∀ k : Nat, k ≠ 0 → sp_start L k = nI 0 := fun k hk => if_neg hk
  have z : (nI 0).toNatClampNeg = 0 := by decide
  refine ⟨?_, ?_, ?_⟩
  · unfold sp_nc; rw [e 6 (by omega)]; exact z
  · unfold sp_nw; rw [e 7 (by omega)]; exact z
  · unfold sp_ns; rw [e 8 (by omega)]; exact z
set_option maxHeartbeats 4000000 in
set_option maxRecDepth 100000 in
theorem ct_X2_readRoute {G : am_G} {Λ : am_L} {I : am_I} {J : am_J} {i n : Nat} {tb : Nat → Nat} {t : sp_T} (hi : InLay Λ i) (hx : InTxt I i tb n) (ht : InTok I i n t) : am_Ct G yX2_readRoute cX2_readRoute 1 (some .boolean) { frames := 5, cells := 0, slots := 0, locals := 107 } [.ref i] Λ I J (am_gen Λ J (fun v I' => POut I' i n v (fun I1 s => PlanRel I1 (i + 3) s.2) (sp_rRoute tb n t) ∧ DFr i I I')) am_never := by
  refine am_ct_of (own := RX2) rfl (by decide) (Nat.le_of_ble_eq_true rfl) (fun X C => ?_)
  change am_K G X { frames := 5, cells := 0, slots := 0, locals := 107 } 1 Λ I J 0 0 0 [(0, .ref i)] []
  have hc := L2_c hi
  have hp := L0_p hc
  have hn := hx.2.1
  refine k_aload_n C (f := 0) (i := 0) (p := 0) rfl rfl dX2_readRoute_0 ?_
  refine k_ldcS C 1 (by rfl) dX2_readRoute_1 ?_
  refine k_callVp C s_X2_77 h_X2_isWord (L2_s hi) rfl (ct_X2_isWord (si := 1) hi hx ht (by decide)) rfl rfl (Nat.le_of_ble_eq_true rfl) ⟨Nat.le_of_ble_eq_true rfl, Nat.le_of_ble_eq_true rfl⟩ ⟨Nat.le_of_ble_eq_true rfl, Nat.le_of_ble_eq_true rfl⟩ ⟨rfl, rfl⟩ dX2_readRoute_3 ?_
  first
  | refine k_ifb_ne C (tgt := 11) (by decide) dX2_readRoute_6 (fun hc6 => ?_) (fun hc6 => ?_)
  | refine k_if_ne C (tgt := 11) (by decide) dX2_readRoute_6 (fun hc6 => ?_) (fun hc6 => ?_)
  · skip
    refine k_aload_n C (f := 0) (i := 0) (p := 0) rfl rfl dX2_readRoute_11 ?_
    refine k_callVg C s_X2_47 h_X2_step (L2_s hi) rfl (ct_X2_step (k := t.2.2.1) hi hx ht.2.2.2.2.2.2.1 ht.2.2.1) rfl rfl (Nat.le_of_ble_eq_true rfl) ⟨Nat.le_of_ble_eq_true rfl, Nat.le_of_ble_eq_true rfl⟩ ⟨Nat.le_of_ble_eq_true rfl, Nat.le_of_ble_eq_true rfl⟩ ⟨rfl, rfl⟩ dX2_readRoute_12 ?_
    intro v I12 hv
    obtain ⟨rfl, q12, w12, g12⟩ := hv
    have hf12 := g12
    have hx12 := hx.fr hf12
    have u12 : InTok I12 i n (sp_nx tb n t) := q12
    refine k_aload_n C (f := 0) (i := 0) (p := 0) rfl rfl dX2_readRoute_15 ?_
    refine k_bipush C bc_10 dX2_readRoute_16 ?_
    refine k_sipush C sc_999 dX2_readRoute_18 ?_
    refine k_callVg C s_X2_81 h_X2_takeNumber (L2_s hi) rfl (ct_X2_takeNumber (lo := 10) (hi2 := 999) hi hx12 u12 (by decide) (by decide)) rfl rfl (Nat.le_of_ble_eq_true rfl) ⟨Nat.le_of_ble_eq_true rfl, Nat.le_of_ble_eq_true rfl⟩ ⟨Nat.le_of_ble_eq_true rfl, Nat.le_of_ble_eq_true rfl⟩ ⟨rfl, rfl⟩ dX2_readRoute_21 ?_
    intro v I21 hv
    obtain ⟨rfl, ok21, no21, g21⟩ := hv
    have hf21 := hf12.tr g21
    have hx21 := hx.fr hf21
    first
    | refine k_ifb_ne C (tgt := 29) (by decide) dX2_readRoute_24 (fun hc24 => ?_) (fun hc24 => ?_)
    | refine k_if_ne C (tgt := 29) (by decide) dX2_readRoute_24 (fun hc24 => ?_) (fun hc24 => ?_)
    · skip
      obtain ⟨u21, m21⟩ := ok21 hc24
      refine k_aload_n C (f := 0) (i := 0) (p := 0) rfl rfl dX2_readRoute_29 ?_
      refine k_getR C f_X2_23 (L2_s (by assumption)) (fun _ _ _ => rfl) (L2_2 (by assumption)) dX2_readRoute_30 ?_
      refine k_getR C f_X2_85 (L0_s (by assumption)) (fun _ _ _ => rfl) (L0_0 (by assumption)) dX2_readRoute_33 ?_
      refine k_aload_n C (f := 0) (i := 0) (p := 0) rfl rfl dX2_readRoute_36 ?_
      refine k_getI C f_X2_89 (L2_s (by assumption)) (fun _ _ _ => rfl) (by first | assumption | rfl) dX2_readRoute_37 ?_
      refine k_callVg C s_X2_92 h_X3_clear (L3_s (by assumption)) rfl (ct_X3_clear (r := sp_start (sp_nx tb n t).2.2.2) hp rfl (start_n _)) rfl rfl (Nat.le_of_ble_eq_true rfl) ⟨Nat.le_of_ble_eq_true rfl, Nat.le_of_ble_eq_true rfl⟩ ⟨Nat.le_of_ble_eq_true rfl, Nat.le_of_ble_eq_true rfl⟩ ⟨rfl, rfl⟩ dX2_readRoute_40 ?_
      intro v I40 hv
      obtain ⟨rfl, r40, g40⟩ := hv
      have hf40 : DFr i I I40 := hf21.d.tr (DFr.pl g40)
      have hx40 := hx.dfr hf40
      have u40 : InTok I40 i n (sp_nx tb n (sp_nx tb n t)) := u21.row (g40 i (by omega))
      refine k_aload_n C (f := 0) (i := 0) (p := 0) rfl rfl dX2_readRoute_43 ?_
      refine k_callVg C s_X2_95 h_X2_takeSemicolon (L2_s hi) rfl (ct_X2_takeSemicolon hi hx40 u40) rfl rfl (Nat.le_of_ble_eq_true rfl) ⟨Nat.le_of_ble_eq_true rfl, Nat.le_of_ble_eq_true rfl⟩ ⟨Nat.le_of_ble_eq_true rfl, Nat.le_of_ble_eq_true rfl⟩ ⟨rfl, rfl⟩ dX2_readRoute_44 ?_
      intro v I44 hv
      obtain ⟨rfl, ok44, no44, g44⟩ := hv
      exact k_zret C (by first | rfl | exact am_bz) (Nat.le_of_ble_eq_true rfl) (Nat.le_of_ble_eq_true rfl) (⟨rfl, rfl, ⟨POut_ts (tb := tb) (t := (sp_nx tb n (sp_nx tb n t))) (r := sp_start (sp_nx tb n t).2.2.2) (by unfold sp_rRoute; rw [if_pos hc6, sp_tn_t hc24]; rfl) (fun c => ⟨ok44 c, r40.inf g44⟩) (fun c => (congrArg (fun z => z i 4) (no44 c)).trans u40.2.1) (by have z := u40.2.2.2.2.2; omega), hf40.tr g44.d⟩⟩) dX2_readRoute_47
    · skip
      refine k_iconst C ic_0 dX2_readRoute_27 ?_
      exact k_zret C (by first | rfl | exact am_bz) (Nat.le_of_ble_eq_true rfl) (Nat.le_of_ble_eq_true rfl) (⟨rfl, rfl, ⟨POut_e (x := (sp_nx tb n t).2.1) (by unfold sp_rRoute; rw [if_pos hc6, sp_tn_f hc24]; rfl) ((congrArg (fun z => z i 4) (no21 hc24)).trans u12.2.1) (by have z := u12.2.2.2.2.2; omega), hf21.d⟩⟩) dX2_readRoute_28
  · skip
    refine k_iconst C ic_0 dX2_readRoute_9 ?_
    exact k_zret C (by first | rfl | exact am_bz) (Nat.le_of_ble_eq_true rfl) (Nat.le_of_ble_eq_true rfl) (⟨rfl, rfl, ⟨POut_e (x := t.2.1) (if_neg hc6) ht.2.1 (by have z := ht.2.2.2.2.2; omega), DFr.rf⟩⟩) dX2_readRoute_10
set_option maxHeartbeats 4000000 in
set_option maxRecDepth 100000 in
theorem ct_X2_readCamel {G : am_G} {Λ : am_L} {I : am_I} {J : am_J} {i n : Nat} {tb : Nat → Nat} {s : sp_S}  (hi : InLay Λ i) (hx : InTxt I i tb n) (ht : InTok I i n s.1) (hr : PlanRel I (i + 3) s.2) (hnn : sp_nc s.2 < 10) : am_Ct G yX2_readCamel cX2_readCamel 3 (some .boolean) { frames := 3, cells := 0, slots := 0, locals := 63 } [.ref i] Λ I J (am_gen Λ J (fun v I' => POut I' i n v (fun I1 s => PlanRel I1 (i + 3) s.2) (sp_rCamel tb n s) ∧ DFr i I I')) am_never := by
  refine am_ct_of (own := RX2) rfl (by decide) (Nat.le_of_ble_eq_true rfl) (fun X C => ?_)
  change am_K G X { frames := 3, cells := 0, slots := 0, locals := 63 } 3 Λ I J 0 0 0 [(0, .ref i)] []
  have hc := L2_c hi
  have hp := L0_p hc
  have hn := hx.2.1
  refine k_aload_n C (f := 0) (i := 0) (p := 0) rfl rfl dX2_readCamel_0 ?_
  refine k_callVg C s_X2_47 h_X2_step (L2_s hi) rfl (ct_X2_step (k := s.1.2.2.1) hi hx ht.2.2.2.2.2.2.1 ht.2.2.1) rfl rfl (Nat.le_of_ble_eq_true rfl) ⟨Nat.le_of_ble_eq_true rfl, Nat.le_of_ble_eq_true rfl⟩ ⟨Nat.le_of_ble_eq_true rfl, Nat.le_of_ble_eq_true rfl⟩ ⟨rfl, rfl⟩ dX2_readCamel_1 ?_
  intro v I1 hv
  obtain ⟨rfl, q1, w1, g1⟩ := hv
  have hf1 := g1
  have hx1 := hx.fr hf1
  have u1 : InTok I1 i n (sp_nx tb n s.1) := q1
  refine k_aload_n C (f := 0) (i := 0) (p := 0) rfl rfl dX2_readCamel_4 ?_
  refine k_bipush C bc_10 dX2_readCamel_5 ?_
  refine k_bipush C bc_60 dX2_readCamel_7 ?_
  refine k_callVg C s_X2_81 h_X2_takeNumber (L2_s hi) rfl (ct_X2_takeNumber (lo := 10) (hi2 := 60) hi hx1 u1 (by decide) (by decide)) rfl rfl (Nat.le_of_ble_eq_true rfl) ⟨Nat.le_of_ble_eq_true rfl, Nat.le_of_ble_eq_true rfl⟩ ⟨Nat.le_of_ble_eq_true rfl, Nat.le_of_ble_eq_true rfl⟩ ⟨rfl, rfl⟩ dX2_readCamel_9 ?_
  intro v I9 hv
  obtain ⟨rfl, ok9, no9, g9⟩ := hv
  have hf9 := hf1.tr g9
  have hx9 := hx.fr hf9
  first
  | refine k_ifb_ne C (tgt := 17) (by decide) dX2_readCamel_12 (fun hc12 => ?_) (fun hc12 => ?_)
  | refine k_if_ne C (tgt := 17) (by decide) dX2_readCamel_12 (fun hc12 => ?_) (fun hc12 => ?_)
  · skip
    obtain ⟨u9, m9⟩ := ok9 hc12
    refine k_aload_n C (f := 0) (i := 0) (p := 0) rfl rfl dX2_readCamel_17 ?_
    refine k_getI C f_X2_89 (L2_s (by assumption)) (fun _ _ _ => rfl) (by first | assumption | rfl) dX2_readCamel_18 ?_
    refine k_istore_n C (f := 1) (i := 1) (lv := [(1, _), (0, _)]) rfl (Nat.le_of_ble_eq_true rfl) rfl dX2_readCamel_21 ?_
    refine k_aload_n C (f := 0) (i := 0) (p := 1) rfl rfl dX2_readCamel_22 ?_
    refine k_iconst C ic_1 dX2_readCamel_23 ?_
    refine k_bipush C bc_9 dX2_readCamel_24 ?_
    refine k_callVg C s_X2_81 h_X2_takeNumber (L2_s hi) rfl (ct_X2_takeNumber (lo := 1) (hi2 := 9) hi hx9 u9 (by decide) (by decide)) rfl rfl (Nat.le_of_ble_eq_true rfl) ⟨Nat.le_of_ble_eq_true rfl, Nat.le_of_ble_eq_true rfl⟩ ⟨Nat.le_of_ble_eq_true rfl, Nat.le_of_ble_eq_true rfl⟩ ⟨rfl, rfl⟩ dX2_readCamel_26 ?_
    intro v I26 hv
    obtain ⟨rfl, ok26, no26, g26⟩ := hv
    have hf26 := hf9.tr g26
    have hx26 := hx.fr hf26
    first
    | refine k_ifb_ne C (tgt := 34) (by decide) dX2_readCamel_29 (fun hc29 => ?_) (fun hc29 => ?_)
    | refine k_if_ne C (tgt := 34) (by decide) dX2_readCamel_29 (fun hc29 => ?_) (fun hc29 => ?_)
    · skip
      obtain ⟨u26, m26⟩ := ok26 hc29
      refine k_aload_n C (f := 0) (i := 0) (p := 1) rfl rfl dX2_readCamel_34 ?_
      refine k_getI C f_X2_89 (L2_s (by assumption)) (fun _ _ _ => rfl) (by first | assumption | rfl) dX2_readCamel_35 ?_
      refine k_istore_n C (f := 2) (i := 2) (lv := [(2, _), (1, _), (0, _)]) rfl (Nat.le_of_ble_eq_true rfl) rfl dX2_readCamel_38 ?_
      refine k_aload_n C (f := 0) (i := 0) (p := 2) rfl rfl dX2_readCamel_39 ?_
      refine k_bipush C bc_10 dX2_readCamel_40 ?_
      refine k_bipush C bc_90 dX2_readCamel_42 ?_
      refine k_callVg C s_X2_81 h_X2_takeNumber (L2_s hi) rfl (ct_X2_takeNumber (lo := 10) (hi2 := 90) hi hx26 u26 (by decide) (by decide)) rfl rfl (Nat.le_of_ble_eq_true rfl) ⟨Nat.le_of_ble_eq_true rfl, Nat.le_of_ble_eq_true rfl⟩ ⟨Nat.le_of_ble_eq_true rfl, Nat.le_of_ble_eq_true rfl⟩ ⟨rfl, rfl⟩ dX2_readCamel_44 ?_
      intro v I44 hv
      obtain ⟨rfl, ok44, no44, g44⟩ := hv
      have hf44 := hf26.tr g44
      have hx44 := hx.fr hf44
      first
      | refine k_ifb_ne C (tgt := 52) (by decide) dX2_readCamel_47 (fun hc47 => ?_) (fun hc47 => ?_)
      | refine k_if_ne C (tgt := 52) (by decide) dX2_readCamel_47 (fun hc47 => ?_) (fun hc47 => ?_)
      · skip
        obtain ⟨u44, m44⟩ := ok44 hc47
        refine k_aload_n C (f := 0) (i := 0) (p := 2) rfl rfl dX2_readCamel_52 ?_
        refine k_getR C f_X2_23 (L2_s (by assumption)) (fun _ _ _ => rfl) (L2_2 (by assumption)) dX2_readCamel_53 ?_
        refine k_getR C f_X2_85 (L0_s (by assumption)) (fun _ _ _ => rfl) (L0_0 (by assumption)) dX2_readCamel_56 ?_
        refine k_iload_n C (f := 1) (i := 1) (p := 1) rfl rfl dX2_readCamel_59 ?_
        refine k_iload_n C (f := 2) (i := 2) (p := 0) rfl rfl dX2_readCamel_60 ?_
        refine k_aload_n C (f := 0) (i := 0) (p := 2) rfl rfl dX2_readCamel_61 ?_
        refine k_getI C f_X2_89 (L2_s (by assumption)) (fun _ _ _ => rfl) (by first | assumption | rfl) dX2_readCamel_62 ?_
        refine k_callVg C s_X2_103 h_X3_addCamel (L3_s (by assumption)) rfl (ct_X3_addCamel hp (hr.inf hf44) (by omega)) rfl rfl (Nat.le_of_ble_eq_true rfl) ⟨Nat.le_of_ble_eq_true rfl, Nat.le_of_ble_eq_true rfl⟩ ⟨Nat.le_of_ble_eq_true rfl, Nat.le_of_ble_eq_true rfl⟩ ⟨rfl, rfl⟩ dX2_readCamel_65 ?_
        intro v I65 hv
        obtain ⟨rfl, r65, ga65⟩ := hv
        have hfa : DFr i I I65 := hf44.d.tr (DFr.pl ga65)
        have hxa := hx.dfr hfa
        have ua : InTok I65 i n (sp_nx tb n (sp_nx tb n (sp_nx tb n (sp_nx tb n s.1)))) := u44.row (ga65 i (by omega))
        refine k_aload_n C (f := 0) (i := 0) (p := 2) rfl rfl dX2_readCamel_68 ?_
        refine k_callVg C s_X2_95 h_X2_takeSemicolon (L2_s hi) rfl (ct_X2_takeSemicolon hi hxa ua) rfl rfl (Nat.le_of_ble_eq_true rfl) ⟨Nat.le_of_ble_eq_true rfl, Nat.le_of_ble_eq_true rfl⟩ ⟨Nat.le_of_ble_eq_true rfl, Nat.le_of_ble_eq_true rfl⟩ ⟨rfl, rfl⟩ dX2_readCamel_69 ?_
        intro v I69 hv
        obtain ⟨rfl, oks, nos, gs⟩ := hv
        exact k_zret C (by first | rfl | exact am_bz) (Nat.le_of_ble_eq_true rfl) (Nat.le_of_ble_eq_true rfl) (⟨rfl, rfl, ⟨POut_ts (tb := tb) (t := (sp_nx tb n (sp_nx tb n (sp_nx tb n (sp_nx tb n s.1))))) (r := sp_addCamel s.2 (nI (sp_nx tb n s.1).2.2.2) (nI (sp_nx tb n (sp_nx tb n s.1)).2.2.2) (nI (sp_nx tb n (sp_nx tb n (sp_nx tb n s.1))).2.2.2)) (by simp only [sp_rCamel, sp_tn_t hc12, sp_tn_t hc29, sp_tn_t hc47, sp_bd]) (fun c => ⟨oks c, r65.inf gs⟩) (fun c => (congrArg (fun z => z i 4) (nos c)).trans ua.2.1) (by have z := ua.2.2.2.2.2; omega), hfa.tr gs.d⟩⟩) dX2_readCamel_72
      · skip
        refine k_iconst C ic_0 dX2_readCamel_50 ?_
        exact k_zret C (by first | rfl | exact am_bz) (Nat.le_of_ble_eq_true rfl) (Nat.le_of_ble_eq_true rfl) (⟨rfl, rfl, ⟨POut_e (x := (sp_nx tb n (sp_nx tb n (sp_nx tb n s.1))).2.1) (by simp only [sp_rCamel, sp_tn_t hc12, sp_tn_t hc29, sp_tn_f hc47, sp_bd]) ((congrArg (fun z => z i 4) (no44 hc47)).trans u26.2.1) (by have z := u26.2.2.2.2.2; omega), hf44.d⟩⟩) dX2_readCamel_51
    · skip
      refine k_iconst C ic_0 dX2_readCamel_32 ?_
      exact k_zret C (by first | rfl | exact am_bz) (Nat.le_of_ble_eq_true rfl) (Nat.le_of_ble_eq_true rfl) (⟨rfl, rfl, ⟨POut_e (x := (sp_nx tb n (sp_nx tb n s.1)).2.1) (by simp only [sp_rCamel, sp_tn_t hc12, sp_tn_f hc29, sp_bd]) ((congrArg (fun z => z i 4) (no26 hc29)).trans u9.2.1) (by have z := u9.2.2.2.2.2; omega), hf26.d⟩⟩) dX2_readCamel_33
  · skip
    refine k_iconst C ic_0 dX2_readCamel_15 ?_
    exact k_zret C (by first | rfl | exact am_bz) (Nat.le_of_ble_eq_true rfl) (Nat.le_of_ble_eq_true rfl) (⟨rfl, rfl, ⟨POut_e (x := (sp_nx tb n s.1).2.1) (by simp only [sp_rCamel, sp_tn_f hc12, sp_bd]) ((congrArg (fun z => z i 4) (no9 hc12)).trans u1.2.1) (by have z := u1.2.2.2.2.2; omega), hf9.d⟩⟩) dX2_readCamel_16
set_option maxHeartbeats 4000000 in
set_option maxRecDepth 100000 in
theorem ct_X2_readStorm {G : am_G} {Λ : am_L} {I : am_I} {J : am_J} {i n : Nat} {tb : Nat → Nat} {s : sp_S}  (hi : InLay Λ i) (hx : InTxt I i tb n) (ht : InTok I i n s.1) (hr : PlanRel I (i + 3) s.2) (hnn : sp_ns s.2 < 6) : am_Ct G yX2_readStorm cX2_readStorm 3 (some .boolean) { frames := 3, cells := 0, slots := 0, locals := 63 } [.ref i] Λ I J (am_gen Λ J (fun v I' => POut I' i n v (fun I1 s => PlanRel I1 (i + 3) s.2) (sp_rStorm tb n s) ∧ DFr i I I')) am_never := by
  refine am_ct_of (own := RX2) rfl (by decide) (Nat.le_of_ble_eq_true rfl) (fun X C => ?_)
  change am_K G X { frames := 3, cells := 0, slots := 0, locals := 63 } 3 Λ I J 0 0 0 [(0, .ref i)] []
  have hc := L2_c hi
  have hp := L0_p hc
  have hn := hx.2.1
  refine k_aload_n C (f := 0) (i := 0) (p := 0) rfl rfl dX2_readStorm_0 ?_
  refine k_callVg C s_X2_47 h_X2_step (L2_s hi) rfl (ct_X2_step (k := s.1.2.2.1) hi hx ht.2.2.2.2.2.2.1 ht.2.2.1) rfl rfl (Nat.le_of_ble_eq_true rfl) ⟨Nat.le_of_ble_eq_true rfl, Nat.le_of_ble_eq_true rfl⟩ ⟨Nat.le_of_ble_eq_true rfl, Nat.le_of_ble_eq_true rfl⟩ ⟨rfl, rfl⟩ dX2_readStorm_1 ?_
  intro v I1 hv
  obtain ⟨rfl, q1, w1, g1⟩ := hv
  have hf1 := g1
  have hx1 := hx.fr hf1
  have u1 : InTok I1 i n (sp_nx tb n s.1) := q1
  refine k_aload_n C (f := 0) (i := 0) (p := 0) rfl rfl dX2_readStorm_4 ?_
  refine k_iconst C ic_0 dX2_readStorm_5 ?_
  refine k_sipush C sc_200 dX2_readStorm_6 ?_
  refine k_callVg C s_X2_81 h_X2_takeNumber (L2_s hi) rfl (ct_X2_takeNumber (lo := 0) (hi2 := 200) hi hx1 u1 (by decide) (by decide)) rfl rfl (Nat.le_of_ble_eq_true rfl) ⟨Nat.le_of_ble_eq_true rfl, Nat.le_of_ble_eq_true rfl⟩ ⟨Nat.le_of_ble_eq_true rfl, Nat.le_of_ble_eq_true rfl⟩ ⟨rfl, rfl⟩ dX2_readStorm_9 ?_
  intro v I9 hv
  obtain ⟨rfl, ok9, no9, g9⟩ := hv
  have hf9 := hf1.tr g9
  have hx9 := hx.fr hf9
  first
  | refine k_ifb_ne C (tgt := 17) (by decide) dX2_readStorm_12 (fun hc12 => ?_) (fun hc12 => ?_)
  | refine k_if_ne C (tgt := 17) (by decide) dX2_readStorm_12 (fun hc12 => ?_) (fun hc12 => ?_)
  · skip
    obtain ⟨u9, m9⟩ := ok9 hc12
    refine k_aload_n C (f := 0) (i := 0) (p := 0) rfl rfl dX2_readStorm_17 ?_
    refine k_getI C f_X2_89 (L2_s (by assumption)) (fun _ _ _ => rfl) (by first | assumption | rfl) dX2_readStorm_18 ?_
    refine k_istore_n C (f := 1) (i := 1) (lv := [(1, _), (0, _)]) rfl (Nat.le_of_ble_eq_true rfl) rfl dX2_readStorm_21 ?_
    refine k_aload_n C (f := 0) (i := 0) (p := 1) rfl rfl dX2_readStorm_22 ?_
    refine k_iload_n C (f := 1) (i := 1) (p := 0) rfl rfl dX2_readStorm_23 ?_
    refine k_sipush C sc_200 dX2_readStorm_24 ?_
    refine k_callVg C s_X2_81 h_X2_takeNumber (L2_s hi) rfl (ct_X2_takeNumber (lo := (sp_nx tb n s.1).2.2.2) (hi2 := 200) hi hx9 u9 (by have z := u1.2.2.2.2.2.2.2; have z2 := hn; omega) (by have z := u1.2.2.2.2.2.2.2; omega)) rfl rfl (Nat.le_of_ble_eq_true rfl) ⟨Nat.le_of_ble_eq_true rfl, Nat.le_of_ble_eq_true rfl⟩ ⟨Nat.le_of_ble_eq_true rfl, Nat.le_of_ble_eq_true rfl⟩ ⟨rfl, rfl⟩ dX2_readStorm_27 ?_
    intro v I27 hv
    obtain ⟨rfl, ok27, no27, g27⟩ := hv
    have hf27 := hf9.tr g27
    have hx27 := hx.fr hf27
    first
    | refine k_ifb_ne C (tgt := 35) (by decide) dX2_readStorm_30 (fun hc30 => ?_) (fun hc30 => ?_)
    | refine k_if_ne C (tgt := 35) (by decide) dX2_readStorm_30 (fun hc30 => ?_) (fun hc30 => ?_)
    · skip
      obtain ⟨u27, m27⟩ := ok27 hc30
      refine k_aload_n C (f := 0) (i := 0) (p := 1) rfl rfl dX2_readStorm_35 ?_
      refine k_getI C f_X2_89 (L2_s (by assumption)) (fun _ _ _ => rfl) (by first | assumption | rfl) dX2_readStorm_36 ?_
      refine k_istore_n C (f := 2) (i := 2) (lv := [(2, _), (1, _), (0, _)]) rfl (Nat.le_of_ble_eq_true rfl) rfl dX2_readStorm_39 ?_
      refine k_aload_n C (f := 0) (i := 0) (p := 2) rfl rfl dX2_readStorm_40 ?_
      refine k_iconst C ic_1 dX2_readStorm_41 ?_
      refine k_bipush C bc_9 dX2_readStorm_42 ?_
      refine k_callVg C s_X2_81 h_X2_takeNumber (L2_s hi) rfl (ct_X2_takeNumber (lo := 1) (hi2 := 9) hi hx27 u27 (by decide) (by decide)) rfl rfl (Nat.le_of_ble_eq_true rfl) ⟨Nat.le_of_ble_eq_true rfl, Nat.le_of_ble_eq_true rfl⟩ ⟨Nat.le_of_ble_eq_true rfl, Nat.le_of_ble_eq_true rfl⟩ ⟨rfl, rfl⟩ dX2_readStorm_44 ?_
      intro v I44 hv
      obtain ⟨rfl, ok44, no44, g44⟩ := hv
      have hf44 := hf27.tr g44
      have hx44 := hx.fr hf44
      first
      | refine k_ifb_ne C (tgt := 52) (by decide) dX2_readStorm_47 (fun hc47 => ?_) (fun hc47 => ?_)
      | refine k_if_ne C (tgt := 52) (by decide) dX2_readStorm_47 (fun hc47 => ?_) (fun hc47 => ?_)
      · skip
        obtain ⟨u44, m44⟩ := ok44 hc47
        refine k_aload_n C (f := 0) (i := 0) (p := 2) rfl rfl dX2_readStorm_52 ?_
        refine k_getR C f_X2_23 (L2_s (by assumption)) (fun _ _ _ => rfl) (L2_2 (by assumption)) dX2_readStorm_53 ?_
        refine k_getR C f_X2_85 (L0_s (by assumption)) (fun _ _ _ => rfl) (L0_0 (by assumption)) dX2_readStorm_56 ?_
        refine k_iload_n C (f := 1) (i := 1) (p := 1) rfl rfl dX2_readStorm_59 ?_
        refine k_iload_n C (f := 2) (i := 2) (p := 0) rfl rfl dX2_readStorm_60 ?_
        refine k_aload_n C (f := 0) (i := 0) (p := 2) rfl rfl dX2_readStorm_61 ?_
        refine k_getI C f_X2_89 (L2_s (by assumption)) (fun _ _ _ => rfl) (by first | assumption | rfl) dX2_readStorm_62 ?_
        refine k_callVg C s_X2_128 h_X3_addStorm (L3_s (by assumption)) rfl (ct_X3_addStorm hp (hr.inf hf44) (by omega)) rfl rfl (Nat.le_of_ble_eq_true rfl) ⟨Nat.le_of_ble_eq_true rfl, Nat.le_of_ble_eq_true rfl⟩ ⟨Nat.le_of_ble_eq_true rfl, Nat.le_of_ble_eq_true rfl⟩ ⟨rfl, rfl⟩ dX2_readStorm_65 ?_
        intro v I65 hv
        obtain ⟨rfl, r65, ga65⟩ := hv
        have hfa : DFr i I I65 := hf44.d.tr (DFr.pl ga65)
        have hxa := hx.dfr hfa
        have ua : InTok I65 i n (sp_nx tb n (sp_nx tb n (sp_nx tb n (sp_nx tb n s.1)))) := u44.row (ga65 i (by omega))
        refine k_aload_n C (f := 0) (i := 0) (p := 2) rfl rfl dX2_readStorm_68 ?_
        refine k_callVg C s_X2_95 h_X2_takeSemicolon (L2_s hi) rfl (ct_X2_takeSemicolon hi hxa ua) rfl rfl (Nat.le_of_ble_eq_true rfl) ⟨Nat.le_of_ble_eq_true rfl, Nat.le_of_ble_eq_true rfl⟩ ⟨Nat.le_of_ble_eq_true rfl, Nat.le_of_ble_eq_true rfl⟩ ⟨rfl, rfl⟩ dX2_readStorm_69 ?_
        intro v I69 hv
        obtain ⟨rfl, oks, nos, gs⟩ := hv
        exact k_zret C (by first | rfl | exact am_bz) (Nat.le_of_ble_eq_true rfl) (Nat.le_of_ble_eq_true rfl) (⟨rfl, rfl, ⟨POut_ts (tb := tb) (t := (sp_nx tb n (sp_nx tb n (sp_nx tb n (sp_nx tb n s.1))))) (r := sp_addStorm s.2 (nI (sp_nx tb n s.1).2.2.2) (nI (sp_nx tb n (sp_nx tb n s.1)).2.2.2) (nI (sp_nx tb n (sp_nx tb n (sp_nx tb n s.1))).2.2.2)) (by simp only [sp_rStorm, sp_tn_t hc12, sp_tn_t hc30, sp_tn_t hc47, sp_bd]) (fun c => ⟨oks c, r65.inf gs⟩) (fun c => (congrArg (fun z => z i 4) (nos c)).trans ua.2.1) (by have z := ua.2.2.2.2.2; omega), hfa.tr gs.d⟩⟩) dX2_readStorm_72
      · skip
        refine k_iconst C ic_0 dX2_readStorm_50 ?_
        exact k_zret C (by first | rfl | exact am_bz) (Nat.le_of_ble_eq_true rfl) (Nat.le_of_ble_eq_true rfl) (⟨rfl, rfl, ⟨POut_e (x := (sp_nx tb n (sp_nx tb n (sp_nx tb n s.1))).2.1) (by simp only [sp_rStorm, sp_tn_t hc12, sp_tn_t hc30, sp_tn_f hc47, sp_bd]) ((congrArg (fun z => z i 4) (no44 hc47)).trans u27.2.1) (by have z := u27.2.2.2.2.2; omega), hf44.d⟩⟩) dX2_readStorm_51
    · skip
      refine k_iconst C ic_0 dX2_readStorm_33 ?_
      exact k_zret C (by first | rfl | exact am_bz) (Nat.le_of_ble_eq_true rfl) (Nat.le_of_ble_eq_true rfl) (⟨rfl, rfl, ⟨POut_e (x := (sp_nx tb n (sp_nx tb n s.1)).2.1) (by simp only [sp_rStorm, sp_tn_t hc12, sp_tn_f hc30, sp_bd]) ((congrArg (fun z => z i 4) (no27 hc30)).trans u9.2.1) (by have z := u9.2.2.2.2.2; omega), hf27.d⟩⟩) dX2_readStorm_34
  · skip
    refine k_iconst C ic_0 dX2_readStorm_15 ?_
    exact k_zret C (by first | rfl | exact am_bz) (Nat.le_of_ble_eq_true rfl) (Nat.le_of_ble_eq_true rfl) (⟨rfl, rfl, ⟨POut_e (x := (sp_nx tb n s.1).2.1) (by simp only [sp_rStorm, sp_tn_f hc12, sp_bd]) ((congrArg (fun z => z i 4) (no9 hc12)).trans u1.2.1) (by have z := u1.2.2.2.2.2; omega), hf9.d⟩⟩) dX2_readStorm_16
set_option maxHeartbeats 4000000 in
set_option maxRecDepth 100000 in
theorem ct_X2_readWell {G : am_G} {Λ : am_L} {I : am_I} {J : am_J} {i n : Nat} {tb : Nat → Nat} {s : sp_S} {L : Nat} (hi : InLay Λ i) (hx : InTxt I i tb n) (ht : InTok I i n s.1) (hr : PlanRel I (i + 3) s.2) (hnn : sp_nw s.2 < 8) (hL : s.2 0 = nI L) (hL9 : L ≤ 999) : am_Ct G yX2_readWell cX2_readWell 3 (some .boolean) { frames := 3, cells := 0, slots := 0, locals := 63 } [.ref i] Λ I J (am_gen Λ J (fun v I' => POut I' i n v (fun I1 s => PlanRel I1 (i + 3) s.2) (sp_rWell tb n s) ∧ DFr i I I')) am_never := by
  refine am_ct_of (own := RX2) rfl (by decide) (Nat.le_of_ble_eq_true rfl) (fun X C => ?_)
  change am_K G X { frames := 3, cells := 0, slots := 0, locals := 63 } 3 Λ I J 0 0 0 [(0, .ref i)] []
  have hc := L2_c hi
  have hp := L0_p hc
  have hn := hx.2.1
  have hLb : (s.2 0).toNatClampNeg < 2 ^ 31 := by rw [hL, nI_clamp (by omega)]; omega
  refine k_aload_n C (f := 0) (i := 0) (p := 0) rfl rfl dX2_readWell_0 ?_
  refine k_callVg C s_X2_47 h_X2_step (L2_s hi) rfl (ct_X2_step (k := s.1.2.2.1) hi hx ht.2.2.2.2.2.2.1 ht.2.2.1) rfl rfl (Nat.le_of_ble_eq_true rfl) ⟨Nat.le_of_ble_eq_true rfl, Nat.le_of_ble_eq_true rfl⟩ ⟨Nat.le_of_ble_eq_true rfl, Nat.le_of_ble_eq_true rfl⟩ ⟨rfl, rfl⟩ dX2_readWell_1 ?_
  intro v I1 hv
  obtain ⟨rfl, q1, w1, g1⟩ := hv
  have hf1 := g1
  have hx1 := hx.fr hf1
  have u1 : InTok I1 i n (sp_nx tb n s.1) := q1
  have k1 := u1.2.2.2.2.1
  have hr1 := hr.inf hf1
  have hL1 : I1 (i + 3) 0 = nI (s.2 0).toNatClampNeg := by rw [PR_0 hr1, hL, nI_clamp (by omega)]
  refine k_aload_n C (f := 0) (i := 0) (p := 0) rfl rfl dX2_readWell_4 ?_
  refine k_getI C f_X2_69 (L2_s (by assumption)) (fun _ _ _ => rfl) (u1.1) dX2_readWell_5 ?_
  refine k_iconst C ic_2 dX2_readWell_8 ?_
  first
  | refine k_icmpN_ne C (tgt := 32) (by omega) (by omega) (by decide) dX2_readWell_9 (fun hc9 => ?_) (fun hc9 => ?_)
  | refine k_icmp_ne C (tgt := 32) (by decide) dX2_readWell_9 (fun hc9 => ?_) (fun hc9 => ?_)
  · skip
    have hnw : ¬ ((sp_nx tb n s.1).1 = 2 ∧ ¬ sp_wellOn s.2 (nI (sp_nx tb n s.1).2.2.2) = -1) := fun z => by omega
    refine k_aload_n C (f := 0) (i := 0) (p := 0) rfl rfl dX2_readWell_32 ?_
    refine k_iconst C ic_0 dX2_readWell_33 ?_
    refine k_aload_n C (f := 0) (i := 0) (p := 0) rfl rfl dX2_readWell_34 ?_
    refine k_getR C f_X2_23 (L2_s (by assumption)) (fun _ _ _ => rfl) (L2_2 (by assumption)) dX2_readWell_35 ?_
    refine k_getR C f_X2_85 (L0_s (by assumption)) (fun _ _ _ => rfl) (L0_0 (by assumption)) dX2_readWell_38 ?_
    refine k_getI C f_X2_119 (L3_s (by assumption)) (fun _ _ _ => rfl) (hL1) dX2_readWell_41 ?_
    refine k_callVg C s_X2_81 h_X2_takeNumber (L2_s hi) rfl (ct_X2_takeNumber (lo := 0) (hi2 := (s.2 0).toNatClampNeg) hi hx1 u1 (by decide) hLb) rfl rfl (Nat.le_of_ble_eq_true rfl) ⟨Nat.le_of_ble_eq_true rfl, Nat.le_of_ble_eq_true rfl⟩ ⟨Nat.le_of_ble_eq_true rfl, Nat.le_of_ble_eq_true rfl⟩ ⟨rfl, rfl⟩ dX2_readWell_44 ?_
    intro v I44 hv
    obtain ⟨rfl, ok44, no44, g44⟩ := hv
    have hf44 := hf1.tr g44
    have hx44 := hx.fr hf44
    first
    | refine k_ifb_ne C (tgt := 52) (by decide) dX2_readWell_47 (fun hc47 => ?_) (fun hc47 => ?_)
    | refine k_if_ne C (tgt := 52) (by decide) dX2_readWell_47 (fun hc47 => ?_) (fun hc47 => ?_)
    · skip
      obtain ⟨u44, m44⟩ := ok44 hc47
      refine k_aload_n C (f := 0) (i := 0) (p := 0) rfl rfl dX2_readWell_52 ?_
      refine k_getI C f_X2_89 (L2_s (by assumption)) (fun _ _ _ => rfl) (by first | assumption | rfl) dX2_readWell_53 ?_
      refine k_istore_n C (f := 1) (i := 1) (lv := [(1, _), (0, _)]) rfl (Nat.le_of_ble_eq_true rfl) rfl dX2_readWell_56 ?_
      refine k_aload_n C (f := 0) (i := 0) (p := 1) rfl rfl dX2_readWell_57 ?_
      refine k_iconst C ic_1 dX2_readWell_58 ?_
      refine k_sipush C sc_999 dX2_readWell_59 ?_
      refine k_callVg C s_X2_81 h_X2_takeNumber (L2_s hi) rfl (ct_X2_takeNumber (lo := 1) (hi2 := 999) hi hx44 u44 (by decide) (by decide)) rfl rfl (Nat.le_of_ble_eq_true rfl) ⟨Nat.le_of_ble_eq_true rfl, Nat.le_of_ble_eq_true rfl⟩ ⟨Nat.le_of_ble_eq_true rfl, Nat.le_of_ble_eq_true rfl⟩ ⟨rfl, rfl⟩ dX2_readWell_62 ?_
      intro v I62 hv
      obtain ⟨rfl, ok62, no62, g62⟩ := hv
      have hf62 := hf44.tr g62
      have hx62 := hx.fr hf62
      first
      | refine k_ifb_ne C (tgt := 70) (by decide) dX2_readWell_65 (fun hc65 => ?_) (fun hc65 => ?_)
      | refine k_if_ne C (tgt := 70) (by decide) dX2_readWell_65 (fun hc65 => ?_) (fun hc65 => ?_)
      · skip
        obtain ⟨u62, m62⟩ := ok62 hc65
        refine k_aload_n C (f := 0) (i := 0) (p := 1) rfl rfl dX2_readWell_70 ?_
        refine k_getI C f_X2_89 (L2_s (by assumption)) (fun _ _ _ => rfl) (by first | assumption | rfl) dX2_readWell_71 ?_
        refine k_istore_n C (f := 2) (i := 2) (lv := [(2, _), (1, _), (0, _)]) rfl (Nat.le_of_ble_eq_true rfl) rfl dX2_readWell_74 ?_
        refine k_aload_n C (f := 0) (i := 0) (p := 2) rfl rfl dX2_readWell_75 ?_
        refine k_iconst C ic_0 dX2_readWell_76 ?_
        refine k_bipush C bc_99 dX2_readWell_77 ?_
        refine k_callVg C s_X2_81 h_X2_takeNumber (L2_s hi) rfl (ct_X2_takeNumber (lo := 0) (hi2 := 99) hi hx62 u62 (by decide) (by decide)) rfl rfl (Nat.le_of_ble_eq_true rfl) ⟨Nat.le_of_ble_eq_true rfl, Nat.le_of_ble_eq_true rfl⟩ ⟨Nat.le_of_ble_eq_true rfl, Nat.le_of_ble_eq_true rfl⟩ ⟨rfl, rfl⟩ dX2_readWell_79 ?_
        intro v I79 hv
        obtain ⟨rfl, ok79, no79, g79⟩ := hv
        have hf79 := hf62.tr g79
        have hx79 := hx.fr hf79
        first
        | refine k_ifb_ne C (tgt := 87) (by decide) dX2_readWell_82 (fun hc82 => ?_) (fun hc82 => ?_)
        | refine k_if_ne C (tgt := 87) (by decide) dX2_readWell_82 (fun hc82 => ?_) (fun hc82 => ?_)
        · skip
          obtain ⟨u79, m79⟩ := ok79 hc82
          refine k_aload_n C (f := 0) (i := 0) (p := 2) rfl rfl dX2_readWell_87 ?_
          refine k_getR C f_X2_23 (L2_s (by assumption)) (fun _ _ _ => rfl) (L2_2 (by assumption)) dX2_readWell_88 ?_
          refine k_getR C f_X2_85 (L0_s (by assumption)) (fun _ _ _ => rfl) (L0_0 (by assumption)) dX2_readWell_91 ?_
          refine k_iload_n C (f := 1) (i := 1) (p := 1) rfl rfl dX2_readWell_94 ?_
          refine k_iload_n C (f := 2) (i := 2) (p := 0) rfl rfl dX2_readWell_95 ?_
          refine k_aload_n C (f := 0) (i := 0) (p := 2) rfl rfl dX2_readWell_96 ?_
          refine k_getI C f_X2_89 (L2_s (by assumption)) (fun _ _ _ => rfl) (by first | assumption | rfl) dX2_readWell_97 ?_
          refine k_callVg C s_X2_120 h_X3_addWell (L3_s (by assumption)) rfl (ct_X3_addWell hp (hr.inf hf79) (by omega)) rfl rfl (Nat.le_of_ble_eq_true rfl) ⟨Nat.le_of_ble_eq_true rfl, Nat.le_of_ble_eq_true rfl⟩ ⟨Nat.le_of_ble_eq_true rfl, Nat.le_of_ble_eq_true rfl⟩ ⟨rfl, rfl⟩ dX2_readWell_100 ?_
          intro v I100 hv
          obtain ⟨rfl, r100, ga100⟩ := hv
          have hfa : DFr i I I100 := hf79.d.tr (DFr.pl ga100)
          have hxa := hx.dfr hfa
          have ua : InTok I100 i n (sp_nx tb n (sp_nx tb n (sp_nx tb n (sp_nx tb n s.1)))) := u79.row (ga100 i (by omega))
          refine k_aload_n C (f := 0) (i := 0) (p := 2) rfl rfl dX2_readWell_103 ?_
          refine k_callVg C s_X2_95 h_X2_takeSemicolon (L2_s hi) rfl (ct_X2_takeSemicolon hi hxa ua) rfl rfl (Nat.le_of_ble_eq_true rfl) ⟨Nat.le_of_ble_eq_true rfl, Nat.le_of_ble_eq_true rfl⟩ ⟨Nat.le_of_ble_eq_true rfl, Nat.le_of_ble_eq_true rfl⟩ ⟨rfl, rfl⟩ dX2_readWell_104 ?_
          intro v I104 hv
          obtain ⟨rfl, oks, nos, gs⟩ := hv
          exact k_zret C (by first | rfl | exact am_bz) (Nat.le_of_ble_eq_true rfl) (Nat.le_of_ble_eq_true rfl) (⟨rfl, rfl, ⟨POut_ts (tb := tb) (t := (sp_nx tb n (sp_nx tb n (sp_nx tb n (sp_nx tb n s.1))))) (r := sp_addWell s.2 (nI (sp_nx tb n s.1).2.2.2) (nI (sp_nx tb n (sp_nx tb n s.1)).2.2.2) (nI (sp_nx tb n (sp_nx tb n (sp_nx tb n s.1))).2.2.2)) (by simp only [sp_rWell, if_neg hnw, sp_rWell2, sp_tn_t hc47, sp_tn_t hc65, sp_tn_t hc82, sp_bd]) (fun c => ⟨oks c, r100.inf gs⟩) (fun c => (congrArg (fun z => z i 4) (nos c)).trans ua.2.1) (by have z := ua.2.2.2.2.2; omega), hfa.tr gs.d⟩⟩) dX2_readWell_107
        · skip
          refine k_iconst C ic_0 dX2_readWell_85 ?_
          exact k_zret C (by first | rfl | exact am_bz) (Nat.le_of_ble_eq_true rfl) (Nat.le_of_ble_eq_true rfl) (⟨rfl, rfl, ⟨POut_e (x := (sp_nx tb n (sp_nx tb n (sp_nx tb n s.1))).2.1) (by simp only [sp_rWell, if_neg hnw, sp_rWell2, sp_tn_t hc47, sp_tn_t hc65, sp_tn_f hc82, sp_bd]) ((congrArg (fun z => z i 4) (no79 hc82)).trans u62.2.1) (by have z := u62.2.2.2.2.2; omega), hf79.d⟩⟩) dX2_readWell_86
      · skip
        refine k_iconst C ic_0 dX2_readWell_68 ?_
        exact k_zret C (by first | rfl | exact am_bz) (Nat.le_of_ble_eq_true rfl) (Nat.le_of_ble_eq_true rfl) (⟨rfl, rfl, ⟨POut_e (x := (sp_nx tb n (sp_nx tb n s.1)).2.1) (by simp only [sp_rWell, if_neg hnw, sp_rWell2, sp_tn_t hc47, sp_tn_f hc65, sp_bd]) ((congrArg (fun z => z i 4) (no62 hc65)).trans u44.2.1) (by have z := u44.2.2.2.2.2; omega), hf62.d⟩⟩) dX2_readWell_69
    · skip
      refine k_iconst C ic_0 dX2_readWell_50 ?_
      exact k_zret C (by first | rfl | exact am_bz) (Nat.le_of_ble_eq_true rfl) (Nat.le_of_ble_eq_true rfl) (⟨rfl, rfl, ⟨POut_e (x := (sp_nx tb n s.1).2.1) (by simp only [sp_rWell, if_neg hnw, sp_rWell2, sp_tn_f hc47, sp_bd]) ((congrArg (fun z => z i 4) (no44 hc47)).trans u1.2.1) (by have z := u1.2.2.2.2.2; omega), hf44.d⟩⟩) dX2_readWell_51
  · skip
    refine k_aload_n C (f := 0) (i := 0) (p := 0) rfl rfl dX2_readWell_12 ?_
    refine k_getR C f_X2_23 (L2_s (by assumption)) (fun _ _ _ => rfl) (L2_2 (by assumption)) dX2_readWell_13 ?_
    refine k_getR C f_X2_85 (L0_s (by assumption)) (fun _ _ _ => rfl) (L0_0 (by assumption)) dX2_readWell_16 ?_
    refine k_aload_n C (f := 0) (i := 0) (p := 0) rfl rfl dX2_readWell_19 ?_
    refine k_getI C f_X2_112 (L2_s (by assumption)) (fun _ _ _ => rfl) (u1.2.2.2.1 (by omega)) dX2_readWell_20 ?_
    refine k_callVp C s_X2_115 h_X3_wellAt (L3_s (by assumption)) rfl (ct_X3_wellAt hp hr1) rfl rfl (Nat.le_of_ble_eq_true rfl) ⟨Nat.le_of_ble_eq_true rfl, Nat.le_of_ble_eq_true rfl⟩ ⟨Nat.le_of_ble_eq_true rfl, Nat.le_of_ble_eq_true rfl⟩ ⟨rfl, rfl⟩ dX2_readWell_23 ?_
    refine k_iconst C ic_m1 dX2_readWell_26 ?_
    first
    | refine k_icmpN_eq C (tgt := 32) (by omega) (by omega) (by decide) dX2_readWell_27 (fun hc27 => ?_) (fun hc27 => ?_)
    | refine k_icmp_eq C (tgt := 32) (by decide) dX2_readWell_27 (fun hc27 => ?_) (fun hc27 => ?_)
    · skip
      have hnw : ¬ ((sp_nx tb n s.1).1 = 2 ∧ ¬ sp_wellOn s.2 (nI (sp_nx tb n s.1).2.2.2) = -1) := fun z => z.2 hc27
      refine k_aload_n C (f := 0) (i := 0) (p := 0) rfl rfl dX2_readWell_32 ?_
      refine k_iconst C ic_0 dX2_readWell_33 ?_
      refine k_aload_n C (f := 0) (i := 0) (p := 0) rfl rfl dX2_readWell_34 ?_
      refine k_getR C f_X2_23 (L2_s (by assumption)) (fun _ _ _ => rfl) (L2_2 (by assumption)) dX2_readWell_35 ?_
      refine k_getR C f_X2_85 (L0_s (by assumption)) (fun _ _ _ => rfl) (L0_0 (by assumption)) dX2_readWell_38 ?_
      refine k_getI C f_X2_119 (L3_s (by assumption)) (fun _ _ _ => rfl) (hL1) dX2_readWell_41 ?_
      refine k_callVg C s_X2_81 h_X2_takeNumber (L2_s hi) rfl (ct_X2_takeNumber (lo := 0) (hi2 := (s.2 0).toNatClampNeg) hi hx1 u1 (by decide) hLb) rfl rfl (Nat.le_of_ble_eq_true rfl) ⟨Nat.le_of_ble_eq_true rfl, Nat.le_of_ble_eq_true rfl⟩ ⟨Nat.le_of_ble_eq_true rfl, Nat.le_of_ble_eq_true rfl⟩ ⟨rfl, rfl⟩ dX2_readWell_44 ?_
      intro v I44 hv
      obtain ⟨rfl, ok44, no44, g44⟩ := hv
      have hf44 := hf1.tr g44
      have hx44 := hx.fr hf44
      first
      | refine k_ifb_ne C (tgt := 52) (by decide) dX2_readWell_47 (fun hc47 => ?_) (fun hc47 => ?_)
      | refine k_if_ne C (tgt := 52) (by decide) dX2_readWell_47 (fun hc47 => ?_) (fun hc47 => ?_)
      · skip
        obtain ⟨u44, m44⟩ := ok44 hc47
        refine k_aload_n C (f := 0) (i := 0) (p := 0) rfl rfl dX2_readWell_52 ?_
        refine k_getI C f_X2_89 (L2_s (by assumption)) (fun _ _ _ => rfl) (by first | assumption | rfl) dX2_readWell_53 ?_
        refine k_istore_n C (f := 1) (i := 1) (lv := [(1, _), (0, _)]) rfl (Nat.le_of_ble_eq_true rfl) rfl dX2_readWell_56 ?_
        refine k_aload_n C (f := 0) (i := 0) (p := 1) rfl rfl dX2_readWell_57 ?_
        refine k_iconst C ic_1 dX2_readWell_58 ?_
        refine k_sipush C sc_999 dX2_readWell_59 ?_
        refine k_callVg C s_X2_81 h_X2_takeNumber (L2_s hi) rfl (ct_X2_takeNumber (lo := 1) (hi2 := 999) hi hx44 u44 (by decide) (by decide)) rfl rfl (Nat.le_of_ble_eq_true rfl) ⟨Nat.le_of_ble_eq_true rfl, Nat.le_of_ble_eq_true rfl⟩ ⟨Nat.le_of_ble_eq_true rfl, Nat.le_of_ble_eq_true rfl⟩ ⟨rfl, rfl⟩ dX2_readWell_62 ?_
        intro v I62 hv
        obtain ⟨rfl, ok62, no62, g62⟩ := hv
        have hf62 := hf44.tr g62
        have hx62 := hx.fr hf62
        first
        | refine k_ifb_ne C (tgt := 70) (by decide) dX2_readWell_65 (fun hc65 => ?_) (fun hc65 => ?_)
        | refine k_if_ne C (tgt := 70) (by decide) dX2_readWell_65 (fun hc65 => ?_) (fun hc65 => ?_)
        · skip
          obtain ⟨u62, m62⟩ := ok62 hc65
          refine k_aload_n C (f := 0) (i := 0) (p := 1) rfl rfl dX2_readWell_70 ?_
          refine k_getI C f_X2_89 (L2_s (by assumption)) (fun _ _ _ => rfl) (by first | assumption | rfl) dX2_readWell_71 ?_
          refine k_istore_n C (f := 2) (i := 2) (lv := [(2, _), (1, _), (0, _)]) rfl (Nat.le_of_ble_eq_true rfl) rfl dX2_readWell_74 ?_
          refine k_aload_n C (f := 0) (i := 0) (p := 2) rfl rfl dX2_readWell_75 ?_
          refine k_iconst C ic_0 dX2_readWell_76 ?_
          refine k_bipush C bc_99 dX2_readWell_77 ?_
          refine k_callVg C s_X2_81 h_X2_takeNumber (L2_s hi) rfl (ct_X2_takeNumber (lo := 0) (hi2 := 99) hi hx62 u62 (by decide) (by decide)) rfl rfl (Nat.le_of_ble_eq_true rfl) ⟨Nat.le_of_ble_eq_true rfl, Nat.le_of_ble_eq_true rfl⟩ ⟨Nat.le_of_ble_eq_true rfl, Nat.le_of_ble_eq_true rfl⟩ ⟨rfl, rfl⟩ dX2_readWell_79 ?_
          intro v I79 hv
          obtain ⟨rfl, ok79, no79, g79⟩ := hv
          have hf79 := hf62.tr g79
          have hx79 := hx.fr hf79
          first
          | refine k_ifb_ne C (tgt := 87) (by decide) dX2_readWell_82 (fun hc82 => ?_) (fun hc82 => ?_)
          | refine k_if_ne C (tgt := 87) (by decide) dX2_readWell_82 (fun hc82 => ?_) (fun hc82 => ?_)
          · skip
            obtain ⟨u79, m79⟩ := ok79 hc82
            refine k_aload_n C (f := 0) (i := 0) (p := 2) rfl rfl dX2_readWell_87 ?_
            refine k_getR C f_X2_23 (L2_s (by assumption)) (fun _ _ _ => rfl) (L2_2 (by assumption)) dX2_readWell_88 ?_
            refine k_getR C f_X2_85 (L0_s (by assumption)) (fun _ _ _ => rfl) (L0_0 (by assumption)) dX2_readWell_91 ?_
            refine k_iload_n C (f := 1) (i := 1) (p := 1) rfl rfl dX2_readWell_94 ?_
            refine k_iload_n C (f := 2) (i := 2) (p := 0) rfl rfl dX2_readWell_95 ?_
            refine k_aload_n C (f := 0) (i := 0) (p := 2) rfl rfl dX2_readWell_96 ?_
            refine k_getI C f_X2_89 (L2_s (by assumption)) (fun _ _ _ => rfl) (by first | assumption | rfl) dX2_readWell_97 ?_
            refine k_callVg C s_X2_120 h_X3_addWell (L3_s (by assumption)) rfl (ct_X3_addWell hp (hr.inf hf79) (by omega)) rfl rfl (Nat.le_of_ble_eq_true rfl) ⟨Nat.le_of_ble_eq_true rfl, Nat.le_of_ble_eq_true rfl⟩ ⟨Nat.le_of_ble_eq_true rfl, Nat.le_of_ble_eq_true rfl⟩ ⟨rfl, rfl⟩ dX2_readWell_100 ?_
            intro v I100 hv
            obtain ⟨rfl, r100, ga100⟩ := hv
            have hfa : DFr i I I100 := hf79.d.tr (DFr.pl ga100)
            have hxa := hx.dfr hfa
            have ua : InTok I100 i n (sp_nx tb n (sp_nx tb n (sp_nx tb n (sp_nx tb n s.1)))) := u79.row (ga100 i (by omega))
            refine k_aload_n C (f := 0) (i := 0) (p := 2) rfl rfl dX2_readWell_103 ?_
            refine k_callVg C s_X2_95 h_X2_takeSemicolon (L2_s hi) rfl (ct_X2_takeSemicolon hi hxa ua) rfl rfl (Nat.le_of_ble_eq_true rfl) ⟨Nat.le_of_ble_eq_true rfl, Nat.le_of_ble_eq_true rfl⟩ ⟨Nat.le_of_ble_eq_true rfl, Nat.le_of_ble_eq_true rfl⟩ ⟨rfl, rfl⟩ dX2_readWell_104 ?_
            intro v I104 hv
            obtain ⟨rfl, oks, nos, gs⟩ := hv
            exact k_zret C (by first | rfl | exact am_bz) (Nat.le_of_ble_eq_true rfl) (Nat.le_of_ble_eq_true rfl) (⟨rfl, rfl, ⟨POut_ts (tb := tb) (t := (sp_nx tb n (sp_nx tb n (sp_nx tb n (sp_nx tb n s.1))))) (r := sp_addWell s.2 (nI (sp_nx tb n s.1).2.2.2) (nI (sp_nx tb n (sp_nx tb n s.1)).2.2.2) (nI (sp_nx tb n (sp_nx tb n (sp_nx tb n s.1))).2.2.2)) (by simp only [sp_rWell, if_neg hnw, sp_rWell2, sp_tn_t hc47, sp_tn_t hc65, sp_tn_t hc82, sp_bd]) (fun c => ⟨oks c, r100.inf gs⟩) (fun c => (congrArg (fun z => z i 4) (nos c)).trans ua.2.1) (by have z := ua.2.2.2.2.2; omega), hfa.tr gs.d⟩⟩) dX2_readWell_107
          · skip
            refine k_iconst C ic_0 dX2_readWell_85 ?_
            exact k_zret C (by first | rfl | exact am_bz) (Nat.le_of_ble_eq_true rfl) (Nat.le_of_ble_eq_true rfl) (⟨rfl, rfl, ⟨POut_e (x := (sp_nx tb n (sp_nx tb n (sp_nx tb n s.1))).2.1) (by simp only [sp_rWell, if_neg hnw, sp_rWell2, sp_tn_t hc47, sp_tn_t hc65, sp_tn_f hc82, sp_bd]) ((congrArg (fun z => z i 4) (no79 hc82)).trans u62.2.1) (by have z := u62.2.2.2.2.2; omega), hf79.d⟩⟩) dX2_readWell_86
        · skip
          refine k_iconst C ic_0 dX2_readWell_68 ?_
          exact k_zret C (by first | rfl | exact am_bz) (Nat.le_of_ble_eq_true rfl) (Nat.le_of_ble_eq_true rfl) (⟨rfl, rfl, ⟨POut_e (x := (sp_nx tb n (sp_nx tb n s.1)).2.1) (by simp only [sp_rWell, if_neg hnw, sp_rWell2, sp_tn_t hc47, sp_tn_f hc65, sp_bd]) ((congrArg (fun z => z i 4) (no62 hc65)).trans u44.2.1) (by have z := u44.2.2.2.2.2; omega), hf62.d⟩⟩) dX2_readWell_69
      · skip
        refine k_iconst C ic_0 dX2_readWell_50 ?_
        exact k_zret C (by first | rfl | exact am_bz) (Nat.le_of_ble_eq_true rfl) (Nat.le_of_ble_eq_true rfl) (⟨rfl, rfl, ⟨POut_e (x := (sp_nx tb n s.1).2.1) (by simp only [sp_rWell, if_neg hnw, sp_rWell2, sp_tn_f hc47, sp_bd]) ((congrArg (fun z => z i 4) (no44 hc47)).trans u1.2.1) (by have z := u1.2.2.2.2.2; omega), hf44.d⟩⟩) dX2_readWell_51
    · skip
      refine k_iconst C ic_0 dX2_readWell_30 ?_
      exact k_zret C (by first | rfl | exact am_bz) (Nat.le_of_ble_eq_true rfl) (Nat.le_of_ble_eq_true rfl) (⟨rfl, rfl, ⟨POut_e (x := (sp_nx tb n s.1).2.1) (by unfold sp_rWell; exact if_pos ⟨by omega, hc27⟩) u1.2.1 (by have z := u1.2.2.2.2.2; omega), hf1.d⟩⟩) dX2_readWell_31
