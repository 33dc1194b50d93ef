def sp_err {α : Type} : Except Nat α → Int32
  | .ok _ => -1
  | .error x => nI x
theorem rRoute_inv {tb : Nat → Nat} {n : Nat} {t : sp_T} {s : sp_S} (h : sp_rRoute tb n t = .ok s) : ∃ L : Nat, s.2 = sp_start L ∧ 10 ≤ L ∧ L ≤ 999 := by
  unfold sp_rRoute at h
  by_cases q : sp_isw tb t 1 = true
  · rw [if_pos q] at h
    obtain ⟨a, ha, h⟩ := sp_bd_inv h
    obtain ⟨d, hd, h⟩ := sp_bd_inv h
    cases h
    have ga := sp_tn_inv ha
    exact ⟨a.1, rfl, by rw [ga.2]; exact ga.1.2.1, by rw [ga.2]; exact ga.1.2.2⟩
  · rw [if_neg q] at h; cases h
set_option maxHeartbeats 4000000 in
set_option maxRecDepth 100000 in
theorem ct_X2_findError {G : am_G} {Λ : am_L} {I : am_I} {J : am_J} {i n : Nat} {tb : Nat → Nat}  (hi : InLay Λ i) (hx : InTxt I i tb n) : am_Ct G yX2_findError cX2_findError 2 (some .int) { frames := 7, cells := 0, slots := 0, locals := 151 } [.ref i] Λ I J (am_gen Λ J (fun v I' => v = some (.int (sp_err (sp_parse tb n))) ∧ I' i 1 = nI 0 ∧ (∀ r, sp_parse tb n = .ok r → CarRel I' (i + 2) (i + 13) (i + 3) r) ∧ (∀ x, sp_parse tb n = .error x → x ≤ n) ∧ ∀ b : Nat, (b < i ∨ i + 23 ≤ b) → I' b = I b)) am_never := by
  refine am_ct_of (own := RX2) rfl (by decide) (Nat.le_of_ble_eq_true rfl) (fun X C => ?_)
  change am_K G X { frames := 7, cells := 0, slots := 0, locals := 151 } 2 Λ I J 0 0 0 [(0, .ref i)] []
  have hc := L2_c hi
  have hp := L0_p hc
  have hn := hx.2.1
  refine k_aload_n C (f := 0) (i := 0) (p := 0) rfl rfl dX2_findError_0 ?_
  refine k_iconst C ic_0 dX2_findError_1 ?_
  refine k_putI C f_X2_44 (L2_s (by assumption)) rfl rfl dX2_findError_2 ?_
  obtain ⟨I5, hI5⟩ : ∃ z : am_I, z = am_up I i 5 (nI 0) := ⟨_, rfl⟩
  rw [← hI5]
  have hf5 : InFr i I I5 := by rw [hI5]; exact InFr.rf.up (by omega)
  have hx5 := hx.fr hf5
  refine k_aload_n C (f := 0) (i := 0) (p := 0) rfl rfl dX2_findError_5 ?_
  refine k_callVg C s_X2_47 h_X2_step (L2_s hi) rfl (ct_X2_step (k := 0) hi hx5 (Nat.zero_le _) (by rw [hI5]; exact am_up_eq)) rfl rfl (Nat.le_of_ble_eq_true rfl) ⟨Nat.le_of_ble_eq_true rfl, Nat.le_of_ble_eq_true rfl⟩ ⟨Nat.le_of_ble_eq_true rfl, Nat.le_of_ble_eq_true rfl⟩ ⟨rfl, rfl⟩ dX2_findError_6 ?_
  intro v I6 hv
  obtain ⟨rfl, u6, w6, g6⟩ := hv
  have hf6 : DFr i I I6 := hf5.d.tr g6.d
  have hx6 := hx.dfr hf6
  refine k_aload_n C (f := 0) (i := 0) (p := 0) rfl rfl dX2_findError_9 ?_
  refine k_callVg C s_X2_50 h_X2_readRoute (L2_s hi) rfl (ct_X2_readRoute hi hx6 u6) rfl rfl (Nat.le_of_ble_eq_true rfl) ⟨Nat.le_of_ble_eq_true rfl, Nat.le_of_ble_eq_true rfl⟩ ⟨Nat.le_of_ble_eq_true rfl, Nat.le_of_ble_eq_true rfl⟩ ⟨rfl, rfl⟩ dX2_findError_10 ?_
  intro v I10 hv
  obtain ⟨⟨rfl, p10, n10⟩, g10⟩ := hv
  have hf10 : DFr i I I10 := hf6.tr g10
  have hx10 := hx.dfr hf10
  first
  | refine k_ifb_eq C (tgt := 41) (by decide) dX2_findError_13 (fun hc13 => ?_) (fun hc13 => ?_)
  | refine k_if_eq C (tgt := 41) (by decide) dX2_findError_13 (fun hc13 => ?_) (fun hc13 => ?_)
  · skip
    obtain ⟨x1, e10⟩ := sp_nok hc13
    obtain ⟨hst, hle⟩ := n10 x1 e10
    have hF := hf10
    have hbad : sp_parse tb n = .error x1 := by
      simp only [sp_parse, sp_rPlan, e10, sp_bd]
    refine k_iconst C ic_0 dX2_findError_41 ?_
    refine k_istore_n C (f := 1) (i := 1) (lv := [(1, _), (0, _)]) rfl (Nat.le_of_ble_eq_true rfl) rfl dX2_findError_42 ?_
    refine k_iload_n C (f := 1) (i := 1) (p := 0) rfl rfl dX2_findError_43 ?_
    first
    | refine k_ifb_eq C (tgt := 74) (by decide) dX2_findError_44 (fun hc44 => ?_) (fun hc44 => ?_)
    | refine k_if_eq C (tgt := 74) (by decide) dX2_findError_44 (fun hc44 => ?_) (fun hc44 => ?_)
    · skip
      refine k_aload_n C (f := 0) (i := 0) (p := 1) rfl rfl dX2_findError_74 ?_
      refine k_iconst C ic_0 dX2_findError_75 ?_
      refine k_putI C f_X2_41 (L2_s (by assumption)) rfl rfl dX2_findError_76 ?_
      refine k_iload_n C (f := 1) (i := 1) (p := 0) rfl rfl dX2_findError_79 ?_
      first
      | refine k_ifb_eq C (tgt := 87) (by decide) dX2_findError_80 (fun hc80 => ?_) (fun hc80 => ?_)
      | refine k_if_eq C (tgt := 87) (by decide) dX2_findError_80 (fun hc80 => ?_) (fun hc80 => ?_)
      · skip
        refine k_aload_n C (f := 0) (i := 0) (p := 1) rfl rfl dX2_findError_87 ?_
        refine k_getI C f_X2_72 (L2_s (by assumption)) (fun _ _ _ => rfl) (Eq.trans (am_up_n2 (by omega)) hst) dX2_findError_88 ?_
        exact k_iret C (Nat.le_of_ble_eq_true rfl) (Nat.le_of_ble_eq_true rfl) (⟨rfl, rfl, by
          have hFr : ∀ (I9 : am_I) (b : Nat), DFr i I I9 → (b < i ∨ i + 23 ≤ b) → am_up I9 i 1 (nI 0) b = I b := fun I9 b h hb => by
            rw [am_up_ne (by omega)]
            exact funext fun K => h b K (by omega) (by omega)
          first
          | (refine ⟨by rw [hgood]; rfl, am_up_eq, fun r hr => ?_, fun x h => ?_, fun b hb => hFr _ b hF hb⟩
             · rw [hgood] at hr
               cases hr
               exact CR_agree r55 (funext fun K => am_up_n2 (by omega)) (fun b g1 g2 => funext fun K => am_up_n2 (by omega)) (fun b g1 g2 => funext fun K => am_up_n2 (by omega))
             · rw [hgood] at h
               cases h)
          | (refine ⟨by rw [hbad]; rfl, am_up_eq, fun r hr => ?_, fun x h => ?_, fun b hb => hFr _ b hF hb⟩
             · rw [hbad] at hr
               cases hr
             · rw [hbad] at h
               cases h
               exact hle)⟩) dX2_findError_91
      · skip
        exact absurd (by decide) hc80
    · skip
      exact absurd (by decide) hc44
  · skip
    obtain ⟨z10, e10⟩ := sp_ok_iff.mp hc13
    obtain ⟨u10, r10⟩ := p10 z10 e10
    have q10 : PG z10.2 0 0 0 := by obtain ⟨L, h1, h2, h3⟩ := rRoute_inv e10; rw [h1]; exact PG_start h3
    refine k_aload_n C (f := 0) (i := 0) (p := 0) rfl rfl dX2_findError_16 ?_
    refine k_callVg C s_X2_54 h_X2_readCamels (L2_s hi) rfl (ct_X2_readCamels hi hx10 u10 r10 q10) rfl rfl (Nat.le_of_ble_eq_true rfl) ⟨Nat.le_of_ble_eq_true rfl, Nat.le_of_ble_eq_true rfl⟩ ⟨Nat.le_of_ble_eq_true rfl, Nat.le_of_ble_eq_true rfl⟩ ⟨rfl, rfl⟩ dX2_findError_17 ?_
    intro v I17 hv
    obtain ⟨⟨rfl, p17, n17⟩, g17⟩ := hv
    have hf17 : DFr i I I17 := hf10.tr g17
    have hx17 := hx.dfr hf17
    first
    | refine k_ifb_eq C (tgt := 41) (by decide) dX2_findError_20 (fun hc20 => ?_) (fun hc20 => ?_)
    | refine k_if_eq C (tgt := 41) (by decide) dX2_findError_20 (fun hc20 => ?_) (fun hc20 => ?_)
    · skip
      obtain ⟨x1, e17⟩ := sp_nok hc20
      obtain ⟨hst, hle⟩ := n17 x1 e17
      have hF := hf17
      have hbad : sp_parse tb n = .error x1 := by
        simp only [sp_parse, sp_rPlan, e10, e17, sp_bd]
      refine k_iconst C ic_0 dX2_findError_41 ?_
      refine k_istore_n C (f := 1) (i := 1) (lv := [(1, _), (0, _)]) rfl (Nat.le_of_ble_eq_true rfl) rfl dX2_findError_42 ?_
      refine k_iload_n C (f := 1) (i := 1) (p := 0) rfl rfl dX2_findError_43 ?_
      first
      | refine k_ifb_eq C (tgt := 74) (by decide) dX2_findError_44 (fun hc44 => ?_) (fun hc44 => ?_)
      | refine k_if_eq C (tgt := 74) (by decide) dX2_findError_44 (fun hc44 => ?_) (fun hc44 => ?_)
      · skip
        refine k_aload_n C (f := 0) (i := 0) (p := 1) rfl rfl dX2_findError_74 ?_
        refine k_iconst C ic_0 dX2_findError_75 ?_
        refine k_putI C f_X2_41 (L2_s (by assumption)) rfl rfl dX2_findError_76 ?_
        refine k_iload_n C (f := 1) (i := 1) (p := 0) rfl rfl dX2_findError_79 ?_
        first
        | refine k_ifb_eq C (tgt := 87) (by decide) dX2_findError_80 (fun hc80 => ?_) (fun hc80 => ?_)
        | refine k_if_eq C (tgt := 87) (by decide) dX2_findError_80 (fun hc80 => ?_) (fun hc80 => ?_)
        · skip
          refine k_aload_n C (f := 0) (i := 0) (p := 1) rfl rfl dX2_findError_87 ?_
          refine k_getI C f_X2_72 (L2_s (by assumption)) (fun _ _ _ => rfl) (Eq.trans (am_up_n2 (by omega)) hst) dX2_findError_88 ?_
          exact k_iret C (Nat.le_of_ble_eq_true rfl) (Nat.le_of_ble_eq_true rfl) (⟨rfl, rfl, by
            have hFr : ∀ (I9 : am_I) (b : Nat), DFr i I I9 → (b < i ∨ i + 23 ≤ b) → am_up I9 i 1 (nI 0) b = I b := fun I9 b h hb => by
              rw [am_up_ne (by omega)]
              exact funext fun K => h b K (by omega) (by omega)
            first
            | (refine ⟨by rw [hgood]; rfl, am_up_eq, fun r hr => ?_, fun x h => ?_, fun b hb => hFr _ b hF hb⟩
               · rw [hgood] at hr
                 cases hr
                 exact CR_agree r55 (funext fun K => am_up_n2 (by omega)) (fun b g1 g2 => funext fun K => am_up_n2 (by omega)) (fun b g1 g2 => funext fun K => am_up_n2 (by omega))
               · rw [hgood] at h
                 cases h)
            | (refine ⟨by rw [hbad]; rfl, am_up_eq, fun r hr => ?_, fun x h => ?_, fun b hb => hFr _ b hF hb⟩
               · rw [hbad] at hr
                 cases hr
               · rw [hbad] at h
                 cases h
                 exact hle)⟩) dX2_findError_91
        · skip
          exact absurd (by decide) hc80
      · skip
        exact absurd (by decide) hc44
    · skip
      obtain ⟨z17, e17⟩ := sp_ok_iff.mp hc20
      obtain ⟨u17, r17⟩ := p17 z17 e17
      refine k_aload_n C (f := 0) (i := 0) (p := 0) rfl rfl dX2_findError_23 ?_
      refine k_callVg C s_X2_57 h_X2_readWells (L2_s hi) rfl (ct_X2_readWells hi hx17 u17 r17.1 r17.2) rfl rfl (Nat.le_of_ble_eq_true rfl) ⟨Nat.le_of_ble_eq_true rfl, Nat.le_of_ble_eq_true rfl⟩ ⟨Nat.le_of_ble_eq_true rfl, Nat.le_of_ble_eq_true rfl⟩ ⟨rfl, rfl⟩ dX2_findError_24 ?_
      intro v I24 hv
      obtain ⟨⟨rfl, p24, n24⟩, g24⟩ := hv
      have hf24 : DFr i I I24 := hf17.tr g24
      have hx24 := hx.dfr hf24
      first
      | refine k_ifb_eq C (tgt := 41) (by decide) dX2_findError_27 (fun hc27 => ?_) (fun hc27 => ?_)
      | refine k_if_eq C (tgt := 41) (by decide) dX2_findError_27 (fun hc27 => ?_) (fun hc27 => ?_)
      · skip
        obtain ⟨x1, e24⟩ := sp_nok hc27
        obtain ⟨hst, hle⟩ := n24 x1 e24
        have hF := hf24
        have hbad : sp_parse tb n = .error x1 := by
          simp only [sp_parse, sp_rPlan, e10, e17, e24, sp_bd]
        refine k_iconst C ic_0 dX2_findError_41 ?_
        refine k_istore_n C (f := 1) (i := 1) (lv := [(1, _), (0, _)]) rfl (Nat.le_of_ble_eq_true rfl) rfl dX2_findError_42 ?_
        refine k_iload_n C (f := 1) (i := 1) (p := 0) rfl rfl dX2_findError_43 ?_
        first
        | refine k_ifb_eq C (tgt := 74) (by decide) dX2_findError_44 (fun hc44 => ?_) (fun hc44 => ?_)
        | refine k_if_eq C (tgt := 74) (by decide) dX2_findError_44 (fun hc44 => ?_) (fun hc44 => ?_)
        · skip
          refine k_aload_n C (f := 0) (i := 0) (p := 1) rfl rfl dX2_findError_74 ?_
          refine k_iconst C ic_0 dX2_findError_75 ?_
          refine k_putI C f_X2_41 (L2_s (by assumption)) rfl rfl dX2_findError_76 ?_
          refine k_iload_n C (f := 1) (i := 1) (p := 0) rfl rfl dX2_findError_79 ?_
          first
          | refine k_ifb_eq C (tgt := 87) (by decide) dX2_findError_80 (fun hc80 => ?_) (fun hc80 => ?_)
          | refine k_if_eq C (tgt := 87) (by decide) dX2_findError_80 (fun hc80 => ?_) (fun hc80 => ?_)
          · skip
            refine k_aload_n C (f := 0) (i := 0) (p := 1) rfl rfl dX2_findError_87 ?_
            refine k_getI C f_X2_72 (L2_s (by assumption)) (fun _ _ _ => rfl) (Eq.trans (am_up_n2 (by omega)) hst) dX2_findError_88 ?_
            exact k_iret C (Nat.le_of_ble_eq_true rfl) (Nat.le_of_ble_eq_true rfl) (⟨rfl, rfl, by
              have hFr : ∀ (I9 : am_I) (b : Nat), DFr i I I9 → (b < i ∨ i + 23 ≤ b) → am_up I9 i 1 (nI 0) b = I b := fun I9 b h hb => by
                rw [am_up_ne (by omega)]
                exact funext fun K => h b K (by omega) (by omega)
              first
              | (refine ⟨by rw [hgood]; rfl, am_up_eq, fun r hr => ?_, fun x h => ?_, fun b hb => hFr _ b hF hb⟩
                 · rw [hgood] at hr
                   cases hr
                   exact CR_agree r55 (funext fun K => am_up_n2 (by omega)) (fun b g1 g2 => funext fun K => am_up_n2 (by omega)) (fun b g1 g2 => funext fun K => am_up_n2 (by omega))
                 · rw [hgood] at h
                   cases h)
              | (refine ⟨by rw [hbad]; rfl, am_up_eq, fun r hr => ?_, fun x h => ?_, fun b hb => hFr _ b hF hb⟩
                 · rw [hbad] at hr
                   cases hr
                 · rw [hbad] at h
                   cases h
                   exact hle)⟩) dX2_findError_91
          · skip
            exact absurd (by decide) hc80
        · skip
          exact absurd (by decide) hc44
      · skip
        obtain ⟨z24, e24⟩ := sp_ok_iff.mp hc27
        obtain ⟨u24, r24⟩ := p24 z24 e24
        refine k_aload_n C (f := 0) (i := 0) (p := 0) rfl rfl dX2_findError_30 ?_
        refine k_callVg C s_X2_60 h_X2_readStorms (L2_s hi) rfl (ct_X2_readStorms hi hx24 u24 r24.1 r24.2) rfl rfl (Nat.le_of_ble_eq_true rfl) ⟨Nat.le_of_ble_eq_true rfl, Nat.le_of_ble_eq_true rfl⟩ ⟨Nat.le_of_ble_eq_true rfl, Nat.le_of_ble_eq_true rfl⟩ ⟨rfl, rfl⟩ dX2_findError_31 ?_
        intro v I31 hv
        obtain ⟨⟨rfl, p31, n31⟩, g31⟩ := hv
        have hf31 : DFr i I I31 := hf24.tr g31
        have hx31 := hx.dfr hf31
        first
        | refine k_ifb_eq C (tgt := 41) (by decide) dX2_findError_34 (fun hc34 => ?_) (fun hc34 => ?_)
        | refine k_if_eq C (tgt := 41) (by decide) dX2_findError_34 (fun hc34 => ?_) (fun hc34 => ?_)
        · skip
          obtain ⟨x1, e31⟩ := sp_nok hc34
          obtain ⟨hst, hle⟩ := n31 x1 e31
          have hF := hf31
          have hbad : sp_parse tb n = .error x1 := by
            simp only [sp_parse, sp_rPlan, e10, e17, e24, e31, sp_bd]
          refine k_iconst C ic_0 dX2_findError_41 ?_
          refine k_istore_n C (f := 1) (i := 1) (lv := [(1, _), (0, _)]) rfl (Nat.le_of_ble_eq_true rfl) rfl dX2_findError_42 ?_
          refine k_iload_n C (f := 1) (i := 1) (p := 0) rfl rfl dX2_findError_43 ?_
          first
          | refine k_ifb_eq C (tgt := 74) (by decide) dX2_findError_44 (fun hc44 => ?_) (fun hc44 => ?_)
          | refine k_if_eq C (tgt := 74) (by decide) dX2_findError_44 (fun hc44 => ?_) (fun hc44 => ?_)
          · skip
            refine k_aload_n C (f := 0) (i := 0) (p := 1) rfl rfl dX2_findError_74 ?_
            refine k_iconst C ic_0 dX2_findError_75 ?_
            refine k_putI C f_X2_41 (L2_s (by assumption)) rfl rfl dX2_findError_76 ?_
            refine k_iload_n C (f := 1) (i := 1) (p := 0) rfl rfl dX2_findError_79 ?_
            first
            | refine k_ifb_eq C (tgt := 87) (by decide) dX2_findError_80 (fun hc80 => ?_) (fun hc80 => ?_)
            | refine k_if_eq C (tgt := 87) (by decide) dX2_findError_80 (fun hc80 => ?_) (fun hc80 => ?_)
            · skip
              refine k_aload_n C (f := 0) (i := 0) (p := 1) rfl rfl dX2_findError_87 ?_
              refine k_getI C f_X2_72 (L2_s (by assumption)) (fun _ _ _ => rfl) (Eq.trans (am_up_n2 (by omega)) hst) dX2_findError_88 ?_
              exact k_iret C (Nat.le_of_ble_eq_true rfl) (Nat.le_of_ble_eq_true rfl) (⟨rfl, rfl, by
                have hFr : ∀ (I9 : am_I) (b : Nat), DFr i I I9 → (b < i ∨ i + 23 ≤ b) → am_up I9 i 1 (nI 0) b = I b := fun I9 b h hb => by
                  rw [am_up_ne (by omega)]
                  exact funext fun K => h b K (by omega) (by omega)
                first
                | (refine ⟨by rw [hgood]; rfl, am_up_eq, fun r hr => ?_, fun x h => ?_, fun b hb => hFr _ b hF hb⟩
                   · rw [hgood] at hr
                     cases hr
                     exact CR_agree r55 (funext fun K => am_up_n2 (by omega)) (fun b g1 g2 => funext fun K => am_up_n2 (by omega)) (fun b g1 g2 => funext fun K => am_up_n2 (by omega))
                   · rw [hgood] at h
                     cases h)
                | (refine ⟨by rw [hbad]; rfl, am_up_eq, fun r hr => ?_, fun x h => ?_, fun b hb => hFr _ b hF hb⟩
                   · rw [hbad] at hr
                     cases hr
                   · rw [hbad] at h
                     cases h
                     exact hle)⟩) dX2_findError_91
            · skip
              exact absurd (by decide) hc80
          · skip
            exact absurd (by decide) hc44
        · skip
          obtain ⟨z31, e31⟩ := sp_ok_iff.mp hc34
          obtain ⟨u31, r31⟩ := p31 z31 e31
          refine k_iconst C ic_1 dX2_findError_37 ?_
          refine k_goto C (tgt := 42) (by decide) dX2_findError_38 ?_
          refine k_istore_n C (f := 1) (i := 1) (lv := [(1, _), (0, _)]) rfl (Nat.le_of_ble_eq_true rfl) rfl dX2_findError_42 ?_
          refine k_iload_n C (f := 1) (i := 1) (p := 0) rfl rfl dX2_findError_43 ?_
          first
          | refine k_ifb_eq C (tgt := 74) (by decide) dX2_findError_44 (fun hc44 => ?_) (fun hc44 => ?_)
          | refine k_if_eq C (tgt := 74) (by decide) dX2_findError_44 (fun hc44 => ?_) (fun hc44 => ?_)
          · skip
            exact absurd hc44 (by decide)
          · skip
            refine k_aload_n C (f := 0) (i := 0) (p := 1) rfl rfl dX2_findError_47 ?_
            refine k_getR C f_X2_23 (L2_s (by assumption)) (fun _ _ _ => rfl) (L2_2 (by assumption)) dX2_findError_48 ?_
            refine k_callVg C s_X2_63 h_X0_setOut (L0_s (by assumption)) rfl (ct_X0_setOut hc r31.1 r31.2.2.2.2.1) rfl rfl (Nat.le_of_ble_eq_true rfl) ⟨Nat.le_of_ble_eq_true rfl, Nat.le_of_ble_eq_true rfl⟩ ⟨Nat.le_of_ble_eq_true rfl, Nat.le_of_ble_eq_true rfl⟩ ⟨rfl, rfl⟩ dX2_findError_51 ?_
            intro v I51 hv
            obtain ⟨rfl, r51, g51⟩ := hv
            have hf51 : DFr i I I51 := hf31.tr (DFr.ca g51)
            have hx51 := hx.dfr hf51
            have u51 : InTok I51 i n z31.1 := u31.row (g51 i (by omega) (by omega))
            refine k_aload_n C (f := 0) (i := 0) (p := 1) rfl rfl dX2_findError_54 ?_
            refine k_callVg C s_X2_66 h_X2_readLoads (L2_s hi) rfl (ct_X2_readLoads hi hx51 u51 r51 (by have z := r31.2.2.2.2.1.1.2.2.2.2.2; omega)) rfl rfl (Nat.le_of_ble_eq_true rfl) ⟨Nat.le_of_ble_eq_true rfl, Nat.le_of_ble_eq_true rfl⟩ ⟨Nat.le_of_ble_eq_true rfl, Nat.le_of_ble_eq_true rfl⟩ ⟨rfl, rfl⟩ dX2_findError_55 ?_
            intro v I55 hv
            obtain ⟨⟨rfl, p55, n55⟩, g55⟩ := hv
            have hf55 : DFr i I I55 := hf51.tr g55
            have hx55 := hx.dfr hf55
            first
            | refine k_ifb_eq C (tgt := 72) (by decide) dX2_findError_58 (fun hc58 => ?_) (fun hc58 => ?_)
            | refine k_if_eq C (tgt := 72) (by decide) dX2_findError_58 (fun hc58 => ?_) (fun hc58 => ?_)
            · skip
              obtain ⟨x1, e55⟩ := sp_nok hc58
              obtain ⟨hst, hle⟩ := n55 x1 e55
              have hF := hf55
              have hbad : sp_parse tb n = .error x1 := by
                simp only [sp_parse, sp_rPlan, e10, e17, e24, e31, e55, sp_bd]
              refine k_iconst C ic_0 dX2_findError_72 ?_
              refine k_istore_n C (f := 1) (i := 1) (lv := [(1, _), (0, _)]) rfl (Nat.le_of_ble_eq_true rfl) rfl dX2_findError_73 ?_
              refine k_aload_n C (f := 0) (i := 0) (p := 1) rfl rfl dX2_findError_74 ?_
              refine k_iconst C ic_0 dX2_findError_75 ?_
              refine k_putI C f_X2_41 (L2_s (by assumption)) rfl rfl dX2_findError_76 ?_
              refine k_iload_n C (f := 1) (i := 1) (p := 0) rfl rfl dX2_findError_79 ?_
              first
              | refine k_ifb_eq C (tgt := 87) (by decide) dX2_findError_80 (fun hc80 => ?_) (fun hc80 => ?_)
              | refine k_if_eq C (tgt := 87) (by decide) dX2_findError_80 (fun hc80 => ?_) (fun hc80 => ?_)
              · skip
                refine k_aload_n C (f := 0) (i := 0) (p := 1) rfl rfl dX2_findError_87 ?_
                refine k_getI C f_X2_72 (L2_s (by assumption)) (fun _ _ _ => rfl) (Eq.trans (am_up_n2 (by omega)) hst) dX2_findError_88 ?_
                exact k_iret C (Nat.le_of_ble_eq_true rfl) (Nat.le_of_ble_eq_true rfl) (⟨rfl, rfl, by
                  have hFr : ∀ (I9 : am_I) (b : Nat), DFr i I I9 → (b < i ∨ i + 23 ≤ b) → am_up I9 i 1 (nI 0) b = I b := fun I9 b h hb => by
                    rw [am_up_ne (by omega)]
                    exact funext fun K => h b K (by omega) (by omega)
                  first
                  | (refine ⟨by rw [hgood]; rfl, am_up_eq, fun r hr => ?_, fun x h => ?_, fun b hb => hFr _ b hF hb⟩
                     · rw [hgood] at hr
                       cases hr
                       exact CR_agree r55 (funext fun K => am_up_n2 (by omega)) (fun b g1 g2 => funext fun K => am_up_n2 (by omega)) (fun b g1 g2 => funext fun K => am_up_n2 (by omega))
                     · rw [hgood] at h
                       cases h)
                  | (refine ⟨by rw [hbad]; rfl, am_up_eq, fun r hr => ?_, fun x h => ?_, fun b hb => hFr _ b hF hb⟩
                     · rw [hbad] at hr
                       cases hr
                     · rw [hbad] at h
                       cases h
                       exact hle)⟩) dX2_findError_91
              · skip
                exact absurd (by decide) hc80
            · skip
              obtain ⟨z55, e55⟩ := sp_ok_iff.mp hc58
              obtain ⟨u55, r55⟩ := p55 z55 e55
              refine k_aload_n C (f := 0) (i := 0) (p := 1) rfl rfl dX2_findError_61 ?_
              refine k_getI C f_X2_69 (L2_s (by assumption)) (fun _ _ _ => rfl) (u55.1) dX2_findError_62 ?_
              first
              | refine k_ifb_ne C (tgt := 72) (by decide) dX2_findError_65 (fun hc65 => ?_) (fun hc65 => ?_)
              | refine k_if_ne C (tgt := 72) (by decide) dX2_findError_65 (fun hc65 => ?_) (fun hc65 => ?_)
              · skip
                have hst := u55.2.1
                have hle : z55.1.2.1 ≤ n := by have z := u55.2.2.2.2.2; omega
                have hF := hf55
                have hbad : sp_parse tb n = .error z55.1.2.1 := by
                  simp only [sp_parse, sp_rPlan, e10, e17, e24, e31, e55, sp_bd]
                  exact if_neg (fun z => hc65 (by rw [z]; rfl))
                refine k_iconst C ic_0 dX2_findError_72 ?_
                refine k_istore_n C (f := 1) (i := 1) (lv := [(1, _), (0, _)]) rfl (Nat.le_of_ble_eq_true rfl) rfl dX2_findError_73 ?_
                refine k_aload_n C (f := 0) (i := 0) (p := 1) rfl rfl dX2_findError_74 ?_
                refine k_iconst C ic_0 dX2_findError_75 ?_
                refine k_putI C f_X2_41 (L2_s (by assumption)) rfl rfl dX2_findError_76 ?_
                refine k_iload_n C (f := 1) (i := 1) (p := 0) rfl rfl dX2_findError_79 ?_
                first
                | refine k_ifb_eq C (tgt := 87) (by decide) dX2_findError_80 (fun hc80 => ?_) (fun hc80 => ?_)
                | refine k_if_eq C (tgt := 87) (by decide) dX2_findError_80 (fun hc80 => ?_) (fun hc80 => ?_)
                · skip
                  refine k_aload_n C (f := 0) (i := 0) (p := 1) rfl rfl dX2_findError_87 ?_
                  refine k_getI C f_X2_72 (L2_s (by assumption)) (fun _ _ _ => rfl) (Eq.trans (am_up_n2 (by omega)) hst) dX2_findError_88 ?_
                  exact k_iret C (Nat.le_of_ble_eq_true rfl) (Nat.le_of_ble_eq_true rfl) (⟨rfl, rfl, by
                    have hFr : ∀ (I9 : am_I) (b : Nat), DFr i I I9 → (b < i ∨ i + 23 ≤ b) → am_up I9 i 1 (nI 0) b = I b := fun I9 b h hb => by
                      rw [am_up_ne (by omega)]
                      exact funext fun K => h b K (by omega) (by omega)
                    first
                    | (refine ⟨by rw [hgood]; rfl, am_up_eq, fun r hr => ?_, fun x h => ?_, fun b hb => hFr _ b hF hb⟩
                       · rw [hgood] at hr
                         cases hr
                         exact CR_agree r55 (funext fun K => am_up_n2 (by omega)) (fun b g1 g2 => funext fun K => am_up_n2 (by omega)) (fun b g1 g2 => funext fun K => am_up_n2 (by omega))
                       · rw [hgood] at h
                         cases h)
                    | (refine ⟨by rw [hbad]; rfl, am_up_eq, fun r hr => ?_, fun x h => ?_, fun b hb => hFr _ b hF hb⟩
                       · rw [hbad] at hr
                         cases hr
                       · rw [hbad] at h
                         cases h
                         exact hle)⟩) dX2_findError_91
                · skip
                  exact absurd (by decide) hc80
              · skip
                have hF := hf55
                have hgood : sp_parse tb n = .ok z55.2 := by
                  simp only [sp_parse, sp_rPlan, e10, e17, e24, e31, e55, sp_bd]
                  exact if_pos ((nI_eq (b := 0) (by have z := u55.2.2.2.2.1; omega) (by decide)).mp hc65)
                refine k_iconst C ic_1 dX2_findError_68 ?_
                refine k_goto C (tgt := 73) (by decide) dX2_findError_69 ?_
                refine k_istore_n C (f := 1) (i := 1) (lv := [(1, _), (0, _)]) rfl (Nat.le_of_ble_eq_true rfl) rfl dX2_findError_73 ?_
                refine k_aload_n C (f := 0) (i := 0) (p := 1) rfl rfl dX2_findError_74 ?_
                refine k_iconst C ic_0 dX2_findError_75 ?_
                refine k_putI C f_X2_41 (L2_s (by assumption)) rfl rfl dX2_findError_76 ?_
                refine k_iload_n C (f := 1) (i := 1) (p := 0) rfl rfl dX2_findError_79 ?_
                first
                | refine k_ifb_eq C (tgt := 87) (by decide) dX2_findError_80 (fun hc80 => ?_) (fun hc80 => ?_)
                | refine k_if_eq C (tgt := 87) (by decide) dX2_findError_80 (fun hc80 => ?_) (fun hc80 => ?_)
                · skip
                  exact absurd hc80 (by decide)
                · skip
                  refine k_iconst C ic_m1 dX2_findError_83 ?_
                  refine k_goto C (tgt := 91) (by decide) dX2_findError_84 ?_
                  exact k_iret C (Nat.le_of_ble_eq_true rfl) (Nat.le_of_ble_eq_true rfl) (⟨rfl, rfl, by
                    have hFr : ∀ (I9 : am_I) (b : Nat), DFr i I I9 → (b < i ∨ i + 23 ≤ b) → am_up I9 i 1 (nI 0) b = I b := fun I9 b h hb => by
                      rw [am_up_ne (by omega)]
                      exact funext fun K => h b K (by omega) (by omega)
                    first
                    | (refine ⟨by rw [hgood]; rfl, am_up_eq, fun r hr => ?_, fun x h => ?_, fun b hb => hFr _ b hF hb⟩
                       · rw [hgood] at hr
                         cases hr
                         exact CR_agree r55 (funext fun K => am_up_n2 (by omega)) (fun b g1 g2 => funext fun K => am_up_n2 (by omega)) (fun b g1 g2 => funext fun K => am_up_n2 (by omega))
                       · rw [hgood] at h
                         cases h)
                    | (refine ⟨by rw [hbad]; rfl, am_up_eq, fun r hr => ?_, fun x h => ?_, fun b hb => hFr _ b hF hb⟩
                       · rw [hbad] at hr
                         cases hr
                       · rw [hbad] at h
                         cases h
                         exact hle)⟩) dX2_findError_91
