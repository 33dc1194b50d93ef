/-! ===== the model: loads read ===== -/
def md_tl (tb : Nat → Nat) (n w : Nat) (e : Except Nat sp_S) : Except Nat sp_S := sp_bd e (fun s => if sp_isw tb s.1 6 = true then (if (sp_nx tb n s.1).1 = 2 ∧ (sp_nx tb n s.1).2.2.2 < sp_nc s.2 ∧ ¬ sp_free s.2 (sp_nx tb n s.1).2.2.2 < nI w then .ok (sp_nx tb n (sp_nx tb n s.1), s.2) else .error (sp_nx tb n s.1).2.1) else .ok s)
def md_cr (tb : Nat → Nat) (n : Nat) (e : Except Nat sp_S) : Int32 := match e with
  | .ok s => if sp_isw tb s.1 6 = true then nI (sp_nx tb n s.1).2.2.2 else -1
  | .error _ => -1
theorem tl_inv {tb : Nat → Nat} {n w : Nat} {e : Except Nat sp_S} {s' : sp_S} (h : md_tl tb n w e = .ok s') : ∃ s : sp_S, e = .ok s ∧ s'.2 = s.2 := by
  obtain ⟨s, h1, h2⟩ := sp_bd_inv h
  refine ⟨s, h1, ?_⟩
  by_cases c : sp_isw tb s.1 6 = true
  · rw [if_pos c] at h2
    by_cases d : (sp_nx tb n s.1).1 = 2 ∧ (sp_nx tb n s.1).2.2.2 < sp_nc s.2 ∧ ¬ sp_free s.2 (sp_nx tb n s.1).2.2.2 < nI w
    · rw [if_pos d] at h2; cases h2; rfl
    · rw [if_neg d] at h2; cases h2
  · rw [if_neg c] at h2; cases h2; rfl
theorem bring_free {r : Nat → Int32} {x z : Int32} {j : Nat} (hj : j < 10) (hl : sp_nl r < 20) : sp_free (sp_bring r x z) j = sp_free r j := by
  unfold sp_free
  rw [bring_car (by omega) (by omega), bring_at ⟨by omega, by omega, by omega, by omega, by omega⟩]
theorem rLoad_S {tb : Nat → Nat} {n : Nat} {g e1 e2 e3 e4 e5 : Except Nat sp_S} (hg : ∀ s : sp_S, g = .ok s → sp_nl s.2 < 20 ∧ sp_nc s.2 ≤ 10) (h1 : e1 = sp_bd g (md_nx tb n)) (h2 : e2 = sp_tnS tb n 1 99 e1) (h3 : e3 = sp_tnS tb n 1 99 e2) (h4 : e4 = md_tl tb n (sp_tz tb n 1 99 e1) e3) (h5 : e5 = sp_tsS tb n e4) :
    sp_bd g (sp_rLoad tb n) = sp_bd e5 (fun s => .ok (s.1, upd (sp_bring s.2 (nI (sp_tz tb n 1 99 e1)) (nI (sp_tz tb n 1 99 e2))) (142 + 4 * sp_nl s.2) (md_cr tb n e3))) := by
  cases g with
  | error x => subst h1; subst h2; subst h3; subst h4; subst h5; rfl
  | ok s =>
    obtain ⟨hl, hc⟩ := hg s rfl
    have k1 : e1 = .ok (sp_nx tb n s.1, s.2) := h1
    subst k1
    show sp_rLoad tb n s = _
    unfold sp_rLoad
    by_cases c1 : (sp_nx tb n s.1).1 = 2 ∧ 1 ≤ (sp_nx tb n s.1).2.2.2 ∧ (sp_nx tb n s.1).2.2.2 ≤ 99
    · have k2 : e2 = .ok (sp_nx tb n (sp_nx tb n s.1), s.2) := by rw [h2]; show sp_bd (sp_tn tb n 1 99 _) _ = _; rw [sp_tn_t c1]; rfl
      subst k2
      have z1 : sp_tz tb n 1 99 (.ok (sp_nx tb n s.1, s.2)) = (sp_nx tb n s.1).2.2.2 := if_pos c1
      rw [z1] at h4 ⊢
      rw [sp_tn_t c1]
      simp only [sp_bd]
      generalize (sp_nx tb n s.1).2.2.2 = a1 at h4 ⊢
      generalize (sp_nx tb n (sp_nx tb n s.1)) = t2 at h3 ⊢
      by_cases c2 : t2.1 = 2 ∧ 1 ≤ t2.2.2.2 ∧ t2.2.2.2 ≤ 99
      · have k3 : e3 = .ok (sp_nx tb n t2, s.2) := by rw [h3]; show sp_bd (sp_tn tb n 1 99 t2) _ = _; rw [sp_tn_t c2]; rfl
        subst k3
        rw [sp_tn_t c2, show sp_tz tb n 1 99 (.ok (t2, s.2)) = t2.2.2.2 from if_pos c2]
        simp only [sp_bd]
        generalize (sp_nx tb n t2) = t3 at h4 ⊢
        unfold sp_rTail
        by_cases c3 : sp_isw tb t3 6 = true
        · rw [if_pos c3, show md_cr tb n (.ok (t3, s.2)) = nI (sp_nx tb n t3).2.2.2 from if_pos c3]
          have nc9 : sp_nc (sp_bring s.2 (nI a1) (nI t2.2.2.2)) = sp_nc s.2 := by unfold sp_nc; rw [bring_at ⟨by omega, by omega, by omega, by omega, by omega⟩]
          rw [nc9]
          by_cases c4 : (sp_nx tb n t3).1 = 2 ∧ (sp_nx tb n t3).2.2.2 < sp_nc s.2 ∧ ¬ sp_free s.2 (sp_nx tb n t3).2.2.2 < nI a1
          · have k4 : e4 = .ok (sp_nx tb n (sp_nx tb n t3), s.2) := by
              rw [h4]
              show (if sp_isw tb t3 6 = true then _ else _) = _
              rw [if_pos c3]
              exact if_pos c4
            subst k4
            rw [if_pos ⟨c4.1, c4.2.1, by rw [bring_free (by omega) hl]; exact c4.2.2⟩]
            have k5 : e5 = sp_bd (sp_ts tb n (sp_nx tb n (sp_nx tb n t3))) (fun d => .ok (d, s.2)) := h5
            rw [k5]
            cases sp_ts tb n (sp_nx tb n (sp_nx tb n t3)) <;> rfl
          · have k4 : e4 = .error (sp_nx tb n t3).2.1 := by
              rw [h4]
              show (if sp_isw tb t3 6 = true then _ else _) = _
              rw [if_pos c3]
              exact if_neg c4
            subst k4
            rw [if_neg (fun z => c4 ⟨z.1, z.2.1, by rw [← bring_free (x := nI a1) (z := nI t2.2.2.2) (show (sp_nx tb n t3).2.2.2 < 10 by omega) hl]; exact z.2.2⟩), h5]
            rfl
        · have k4 : e4 = .ok (t3, s.2) := by
            rw [h4]
            show (if sp_isw tb t3 6 = true then _ else _) = _
            exact if_neg c3
          subst k4
          rw [if_neg c3, show md_cr tb n (.ok (t3, s.2)) = -1 from if_neg c3]
          have k5 : e5 = sp_bd (sp_ts tb n t3) (fun d => .ok (d, s.2)) := h5
          rw [k5]
          have e9 : upd (sp_bring s.2 (nI a1) (nI t2.2.2.2)) (142 + 4 * sp_nl s.2) (-1) = sp_bring s.2 (nI a1) (nI t2.2.2.2) := by
            have z := (bring_ws (r := s.2) (x := nI a1) (y := nI t2.2.2.2)).2.2.1
            conv => lhs; rw [← z]
            exact upd_id
          cases sp_ts tb n t3 with
          | error x => rfl
          | ok d =>
            show Except.ok (d, sp_bring s.2 (nI a1) (nI t2.2.2.2)) = Except.ok (d, upd (sp_bring s.2 (nI a1) (nI t2.2.2.2)) (142 + 4 * sp_nl s.2) (-1))
            rw [e9]
      · have k3 : e3 = .error t2.2.1 := by rw [h3]; show sp_bd (sp_tn tb n 1 99 t2) _ = _; rw [sp_tn_f c2]; rfl
        subst k3
        subst h4
        rw [sp_tn_f c2, h5]
        rfl
    · have k2 : e2 = .error (sp_nx tb n s.1).2.1 := by rw [h2]; show sp_bd (sp_tn tb n 1 99 _) _ = _; rw [sp_tn_f c1]; rfl
      subst k2
      subst h3
      subst h4
      rw [sp_tn_f c1, h5]
      rfl
theorem upd_bring {r : Nat → Int32} {x z c : Int32} (hn : sp_nl r < 20) : RowB r → RowB (upd (sp_bring r x z) (142 + 4 * sp_nl r) c) := fun h => (h.bring hn).up (by omega)
set_option maxHeartbeats 4000000 in
set_option maxRecDepth 100000 in
theorem ct_X6_readLoad {G : am_G} {Λ : am_L} {I : am_I} {J : am_J} {y n : Nat} {tb : Nat → Nat} {e : Except Nat sp_S}  (hx : ModLay Λ y) (ht : MTxt I y tb n) (hP : MP I J y tb n e) : am_Ct G yX6_readLoad cX6_readLoad 5 none { frames := 5, cells := 0, slots := 0, locals := 105 } [.ref y] Λ I J (am_gj Λ (fun v I' J' => v = none ∧ MP I' J' y tb n (sp_bd (md_gt (fun s => decide (sp_nl s.2 < 20)) e) (sp_rLoad tb n)) ∧ MPf y I I' ∧ JFr y J J')) am_never := by
  refine am_ct_of (own := RX6) rfl (by decide) (Nat.le_of_ble_eq_true rfl) (fun X C => ?_)
  change am_K G X { frames := 5, cells := 0, slots := 0, locals := 105 } 5 Λ I J 0 0 0 [(0, .ref y)] []
  obtain ⟨rd, hrd, hBd, hrs⟩ := MP_row hP
  obtain ⟨⟨h6d, h7d, h8d, h9d⟩, hb6, hb7, hb8, hb9⟩ := hBd
  refine k_aload_n C (f := 0) (i := 0) (p := 0) rfl rfl dX6_readLoad_0 ?_
  refine k_aload_n C (f := 0) (i := 0) (p := 0) rfl rfl dX6_readLoad_1 ?_
  refine k_getR C f_X6_13 (L6_s (by assumption)) (fun _ _ _ => rfl) (L6_1 (by assumption)) dX6_readLoad_2 ?_
  refine k_bipush C bc_9 dX6_readLoad_5 ?_
  refine k_iald C (A6_1 (by assumption)) (by first | rfl | assumption) (by omega) (by decide) ((MR hrd (by decide)).trans h9d) dX6_readLoad_7 ?_
  refine k_bipush C bc_20 dX6_readLoad_8 ?_
  refine k_icmpN_ge C (tgt := 17) (by omega) (by omega) (by decide) dX6_readLoad_10 (fun hc10 => ?_) (fun hc10 => ?_)
  · skip
    refine k_iconst C ic_0 dX6_readLoad_17 ?_
    refine k_callVj C s_X6_191 h_X6_takes (L6_s (by assumption)) rfl (ct_X6_takes hx ht hP) rfl rfl (Nat.le_of_ble_eq_true rfl) ⟨Nat.le_of_ble_eq_true rfl, Nat.le_of_ble_eq_true rfl⟩ ⟨Nat.le_of_ble_eq_true rfl, Nat.le_of_ble_eq_true rfl⟩ ⟨rfl, rfl⟩ dX6_readLoad_18 ?_
    intro v I1 J1 hv
    obtain ⟨rfl, hP1, F1, G1⟩ := hv
    have hg1 : ∃ z : Except Nat sp_S, MP I1 J1 y tb n z ∧ z = sp_bd (md_gt (fun s => decide (sp_nl s.2 < 20)) e) (md_nx tb n) := ⟨_, hP1, by
      first
      | exact md_gt1 (fun s hs => by
          subst hs
          have z := hrs s rfl
          subst z
          exact decide_eq_true (by omega))
      | exact md_gt0 (fun s hs w => by
          subst hs
          have z := hrs s rfl
          subst z
          have w2 := of_decide_eq_true w
          omega)⟩
    clear hP1
    obtain ⟨e1, hP1, he1⟩ := hg1
    refine k_pop C rfl dX6_readLoad_21 ?_
    refine k_aload_n C (f := 0) (i := 0) (p := 0) rfl rfl dX6_readLoad_22 ?_
    refine k_iconst C ic_1 dX6_readLoad_23 ?_
    refine k_bipush C bc_99 dX6_readLoad_24 ?_
    refine k_callVj C s_X6_201 h_X6_takesNumber (L6_s (by assumption)) rfl (ct_X6_takesNumber hx (F1.txt ht) hP1 (by decide)) rfl rfl (Nat.le_of_ble_eq_true rfl) ⟨Nat.le_of_ble_eq_true rfl, Nat.le_of_ble_eq_true rfl⟩ ⟨Nat.le_of_ble_eq_true rfl, Nat.le_of_ble_eq_true rfl⟩ ⟨rfl, rfl⟩ dX6_readLoad_26 ?_
    intro v I2 J2 hv
    obtain ⟨rfl, hP2, F2, G2⟩ := hv
    have F2 := F1.tr F2
    have G2 := G1.tr G2
    obtain ⟨e2, he2⟩ : ∃ z : Except Nat sp_S, z = sp_tnS tb n 1 99 e1 := ⟨_, rfl⟩
    rw [← he2] at hP2
    refine k_istore_n C (f := 1) (i := 1) (lv := [(1, _), (0, _)]) rfl (Nat.le_of_ble_eq_true rfl) rfl dX6_readLoad_29 ?_
    refine k_aload_n C (f := 0) (i := 0) (p := 1) rfl rfl dX6_readLoad_30 ?_
    refine k_iconst C ic_1 dX6_readLoad_31 ?_
    refine k_bipush C bc_99 dX6_readLoad_32 ?_
    refine k_callVj C s_X6_201 h_X6_takesNumber (L6_s (by assumption)) rfl (ct_X6_takesNumber hx (F2.txt ht) hP2 (by decide)) rfl rfl (Nat.le_of_ble_eq_true rfl) ⟨Nat.le_of_ble_eq_true rfl, Nat.le_of_ble_eq_true rfl⟩ ⟨Nat.le_of_ble_eq_true rfl, Nat.le_of_ble_eq_true rfl⟩ ⟨rfl, rfl⟩ dX6_readLoad_34 ?_
    intro v I3 J3 hv
    obtain ⟨rfl, hP3, F3, G3⟩ := hv
    have F3 := F2.tr F3
    have G3 := G2.tr G3
    obtain ⟨e3, he3⟩ : ∃ z : Except Nat sp_S, z = sp_tnS tb n 1 99 e2 := ⟨_, rfl⟩
    rw [← he3] at hP3
    refine k_istore_n C (f := 2) (i := 2) (lv := [(2, _), (1, _), (0, _)]) rfl (Nat.le_of_ble_eq_true rfl) rfl dX6_readLoad_37 ?_
    refine k_iconst C ic_m1 dX6_readLoad_38 ?_
    refine k_istore_n C (f := 3) (i := 3) (lv := [(3, _), (2, _), (1, _), (0, _)]) rfl (Nat.le_of_ble_eq_true rfl) rfl dX6_readLoad_39 ?_
    refine k_aload_n C (f := 0) (i := 0) (p := 3) rfl rfl dX6_readLoad_40 ?_
    refine k_getI C f_X6_184 (L6_s (by assumption)) (fun _ _ _ => rfl) (MP_17 hP3) dX6_readLoad_41 ?_
    first
    | refine k_ifb_ne C (tgt := 123) (by decide) dX6_readLoad_44 (fun hc44 => ?_) (fun hc44 => ?_)
    | refine k_if_ne C (tgt := 123) (by decide) dX6_readLoad_44 (fun hc44 => ?_) (fun hc44 => ?_)
    · skip
      obtain ⟨I4, hI4⟩ : ∃ z : am_I, z = I3 := ⟨_, rfl⟩
      obtain ⟨J4, hJ4⟩ : ∃ z : am_J, z = J3 := ⟨_, rfl⟩
      obtain ⟨e4, he4a⟩ : ∃ z : Except Nat sp_S, z = e3 := ⟨_, rfl⟩
      have hP4 : MP I4 J4 y tb n e4 := by rw [hI4, hJ4, he4a]; exact hP3
      have F4 : MPf y I I4 := by rw [hI4]; exact F3
      have G4 : JFr y J J4 := by rw [hJ4]; exact G3
      rw [← hI4, ← hJ4]
      have hcr : (-1 : Int32) = md_cr tb n e3 := by
        obtain ⟨x, hx3⟩ := sp_nok hc44
        rw [hx3]
        rfl
      have he4 : e4 = md_tl tb n (sp_tz tb n 1 99 e1) e3 := by
        rw [he4a]
        obtain ⟨x, hx3⟩ := sp_nok hc44
        rw [hx3]
        rfl
      clear hI4 hJ4 he4a
      refine k_aload_n C (f := 0) (i := 0) (p := 3) rfl rfl dX6_readLoad_123 ?_
      refine k_aload_n C (f := 0) (i := 0) (p := 3) rfl rfl dX6_readLoad_124 ?_
      refine k_getI C f_X6_164 (L6_s (by assumption)) (fun _ _ _ => rfl) (rfl) dX6_readLoad_125 ?_
      refine k_iconst C ic_3 dX6_readLoad_128 ?_
      refine k_icmp_ne C (tgt := 136) (by decide) dX6_readLoad_129 (fun hc129 => ?_) (fun hc129 => ?_)
      · skip
        refine k_iconst C ic_0 dX6_readLoad_136 ?_
        refine k_callVj C s_X6_191 h_X6_takes (L6_s (by assumption)) rfl (ct_X6_takes hx (F4.txt ht) hP4) rfl rfl (Nat.le_of_ble_eq_true rfl) ⟨Nat.le_of_ble_eq_true rfl, Nat.le_of_ble_eq_true rfl⟩ ⟨Nat.le_of_ble_eq_true rfl, Nat.le_of_ble_eq_true rfl⟩ ⟨rfl, rfl⟩ dX6_readLoad_137 ?_
        intro v I5 J5 hv
        obtain ⟨rfl, hP5, F5, G5⟩ := hv
        have F5 := F4.tr F5
        have G5 := G4.tr G5
        rw [show sp_tk tb n _ e4 = sp_tsS tb n e4 from by first | exact sp_tkS1 hP4 hc129 | exact sp_tkS0 hP4 hc129] at hP5 ⊢
        obtain ⟨e5, he5⟩ : ∃ z : Except Nat sp_S, z = sp_tsS tb n e4 := ⟨_, rfl⟩
        rw [← he5] at hP5 ⊢
        refine k_ifb_eq C (tgt := 166) (by decide) dX6_readLoad_140 (fun hc140 => ?_) (fun hc140 => ?_)
        · skip
          exact k_vret C (Nat.le_of_ble_eq_true rfl) (Nat.le_of_ble_eq_true rfl) (⟨rfl, ⟨rfl, by
              rw [rLoad_S (fun s hs => by
                obtain ⟨s8, w1, w2⟩ := sp_bd_inv hs
                by_cases q : decide (sp_nl s8.2 < 20) = true
                · rw [if_pos q] at w2
                  cases w2
                  rw [w1] at hP
                  exact ⟨of_decide_eq_true q, hP.2.2.2.2.1.2.1⟩
                · rw [if_neg q] at w2; cases w2) he1 he2 he3 he4 he5]
              first
              | (obtain ⟨x, hx5⟩ := sp_nok hc140
                 rw [hx5] at hP5 ⊢
                 exact hP5)
              | (rw [hs5, ← hcr]
                 exact MP_set hPk hm hg (upd_bring hnl0 qB) (by rw [upd_ne (by omega), bring_at ⟨by omega, by omega, by omega, by omega, by omega⟩]; exact qL)), by
              first
              | exact F5.tr (f1_mpf hg)
              | exact F5, G5⟩⟩) dX6_readLoad_166
        · skip
          obtain ⟨s5, hs5⟩ := sp_ok_iff.mp hc140
          have hrow : ∃ s : sp_S, e = .ok s ∧ sp_nl s.2 < 20 ∧ s5.2 = s.2 := by
            obtain ⟨a4, b4, d4⟩ := tsS_inv (he5.symm.trans hs5)
            obtain ⟨a3, b3, d3⟩ := tl_inv (he4.symm.trans b4)
            obtain ⟨a2, b2, d2⟩ := tnS_inv (he3.symm.trans b3)
            obtain ⟨a1, b1, d1⟩ := tnS_inv (he2.symm.trans b2)
            obtain ⟨a0, b0, p0, d0⟩ := md_gt_inv (he1.symm.trans b1)
            exact ⟨a0, b0, of_decide_eq_true p0, d4.trans (d3.trans (d2.trans (d1.trans d0)))⟩
          obtain ⟨s0, hs0, hcnt, hs2⟩ := hrow
          have hPk := hP5
          rw [hs5] at hPk
          obtain ⟨q17, q9, qT, qm, qB, qL⟩ := id hPk
          have hnl0 : sp_nl s5.2 < 20 := by rw [hs2]; exact hcnt
          refine k_aload_n C (f := 0) (i := 0) (p := 3) rfl rfl dX6_readLoad_143 ?_
          refine k_getR C f_X6_13 (L6_s (by assumption)) (fun _ _ _ => rfl) (L6_1 (by assumption)) dX6_readLoad_144 ?_
          refine k_iload_n C (f := 1) (i := 1) (p := 2) rfl rfl dX6_readLoad_147 ?_
          refine k_iload_n C (f := 2) (i := 2) (p := 1) rfl rfl dX6_readLoad_148 ?_
          refine k_callSg C s_X6_52 h_X6_addsLoad (ct_X6_addsLoad (A6_1 hx) qm qB hnl0) rfl rfl (Nat.le_of_ble_eq_true rfl) ⟨Nat.le_of_ble_eq_true rfl, Nat.le_of_ble_eq_true rfl⟩ ⟨Nat.le_of_ble_eq_true rfl, Nat.le_of_ble_eq_true rfl⟩ ⟨rfl, rfl⟩ dX6_readLoad_149 ?_
          intro v I6 hv
          obtain ⟨rfl, hm, hg⟩ := hv
          refine k_istore C (i := 4) (lv := [(4, _), (3, _), (2, _), (1, _), (0, _)]) (Nat.le_of_ble_eq_true rfl) rfl dX6_readLoad_152 ?_
          refine k_aload_n C (f := 0) (i := 0) (p := 4) rfl rfl dX6_readLoad_154 ?_
          refine k_getR C f_X6_13 (L6_s (by assumption)) (fun _ _ _ => rfl) (L6_1 (by assumption)) dX6_readLoad_155 ?_
          refine k_iload C (i := 4) (p := 0) rfl dX6_readLoad_158 ?_
          refine k_iconst C ic_2 dX6_readLoad_160 ?_
          refine k_callSp C s_X6_56 h_X6_loadAt (ct_X6_loadAt ) rfl rfl (Nat.le_of_ble_eq_true rfl) ⟨Nat.le_of_ble_eq_true rfl, Nat.le_of_ble_eq_true rfl⟩ ⟨Nat.le_of_ble_eq_true rfl, Nat.le_of_ble_eq_true rfl⟩ ⟨rfl, rfl⟩ dX6_readLoad_161 ?_
          refine k_iload_n C (f := 3) (i := 3) (p := 1) rfl rfl dX6_readLoad_164 ?_
          refine k_rst C (i := 142 + 4 * sp_nl s5.2) (A6_1 hx) (by first | rfl | assumption) (by omega) (by omega) hm hg dX6_readLoad_165 (fun I9 hm hg => ?_)
          exact k_vret C (Nat.le_of_ble_eq_true rfl) (Nat.le_of_ble_eq_true rfl) (⟨rfl, ⟨rfl, by
              rw [rLoad_S (fun s hs => by
                obtain ⟨s8, w1, w2⟩ := sp_bd_inv hs
                by_cases q : decide (sp_nl s8.2 < 20) = true
                · rw [if_pos q] at w2
                  cases w2
                  rw [w1] at hP
                  exact ⟨of_decide_eq_true q, hP.2.2.2.2.1.2.1⟩
                · rw [if_neg q] at w2; cases w2) he1 he2 he3 he4 he5]
              first
              | (obtain ⟨x, hx5⟩ := sp_nok hc140
                 rw [hx5] at hP5 ⊢
                 exact hP5)
              | (rw [hs5, ← hcr]
                 exact MP_set hPk hm hg (upd_bring hnl0 qB) (by rw [upd_ne (by omega), bring_at ⟨by omega, by omega, by omega, by omega, by omega⟩]; exact qL)), by
              first
              | exact F5.tr (f1_mpf hg)
              | exact F5, G5⟩⟩) dX6_readLoad_166
      · skip
        refine k_iconst C ic_1 dX6_readLoad_132 ?_
        refine k_goto C (tgt := 137) (by decide) dX6_readLoad_133 ?_
        refine k_callVj C s_X6_191 h_X6_takes (L6_s (by assumption)) rfl (ct_X6_takes hx (F4.txt ht) hP4) rfl rfl (Nat.le_of_ble_eq_true rfl) ⟨Nat.le_of_ble_eq_true rfl, Nat.le_of_ble_eq_true rfl⟩ ⟨Nat.le_of_ble_eq_true rfl, Nat.le_of_ble_eq_true rfl⟩ ⟨rfl, rfl⟩ dX6_readLoad_137 ?_
        intro v I5 J5 hv
        obtain ⟨rfl, hP5, F5, G5⟩ := hv
        have F5 := F4.tr F5
        have G5 := G4.tr G5
        rw [show sp_tk tb n _ e4 = sp_tsS tb n e4 from by first | exact sp_tkS1 hP4 hc129 | exact sp_tkS0 hP4 hc129] at hP5 ⊢
        obtain ⟨e5, he5⟩ : ∃ z : Except Nat sp_S, z = sp_tsS tb n e4 := ⟨_, rfl⟩
        rw [← he5] at hP5 ⊢
        refine k_ifb_eq C (tgt := 166) (by decide) dX6_readLoad_140 (fun hc140 => ?_) (fun hc140 => ?_)
        · skip
          exact k_vret C (Nat.le_of_ble_eq_true rfl) (Nat.le_of_ble_eq_true rfl) (⟨rfl, ⟨rfl, by
              rw [rLoad_S (fun s hs => by
                obtain ⟨s8, w1, w2⟩ := sp_bd_inv hs
                by_cases q : decide (sp_nl s8.2 < 20) = true
                · rw [if_pos q] at w2
                  cases w2
                  rw [w1] at hP
                  exact ⟨of_decide_eq_true q, hP.2.2.2.2.1.2.1⟩
                · rw [if_neg q] at w2; cases w2) he1 he2 he3 he4 he5]
              first
              | (obtain ⟨x, hx5⟩ := sp_nok hc140
                 rw [hx5] at hP5 ⊢
                 exact hP5)
              | (rw [hs5, ← hcr]
                 exact MP_set hPk hm hg (upd_bring hnl0 qB) (by rw [upd_ne (by omega), bring_at ⟨by omega, by omega, by omega, by omega, by omega⟩]; exact qL)), by
              first
              | exact F5.tr (f1_mpf hg)
              | exact F5, G5⟩⟩) dX6_readLoad_166
        · skip
          obtain ⟨s5, hs5⟩ := sp_ok_iff.mp hc140
          have hrow : ∃ s : sp_S, e = .ok s ∧ sp_nl s.2 < 20 ∧ s5.2 = s.2 := by
            obtain ⟨a4, b4, d4⟩ := tsS_inv (he5.symm.trans hs5)
            obtain ⟨a3, b3, d3⟩ := tl_inv (he4.symm.trans b4)
            obtain ⟨a2, b2, d2⟩ := tnS_inv (he3.symm.trans b3)
            obtain ⟨a1, b1, d1⟩ := tnS_inv (he2.symm.trans b2)
            obtain ⟨a0, b0, p0, d0⟩ := md_gt_inv (he1.symm.trans b1)
            exact ⟨a0, b0, of_decide_eq_true p0, d4.trans (d3.trans (d2.trans (d1.trans d0)))⟩
          obtain ⟨s0, hs0, hcnt, hs2⟩ := hrow
          have hPk := hP5
          rw [hs5] at hPk
          obtain ⟨q17, q9, qT, qm, qB, qL⟩ := id hPk
          have hnl0 : sp_nl s5.2 < 20 := by rw [hs2]; exact hcnt
          refine k_aload_n C (f := 0) (i := 0) (p := 3) rfl rfl dX6_readLoad_143 ?_
          refine k_getR C f_X6_13 (L6_s (by assumption)) (fun _ _ _ => rfl) (L6_1 (by assumption)) dX6_readLoad_144 ?_
          refine k_iload_n C (f := 1) (i := 1) (p := 2) rfl rfl dX6_readLoad_147 ?_
          refine k_iload_n C (f := 2) (i := 2) (p := 1) rfl rfl dX6_readLoad_148 ?_
          refine k_callSg C s_X6_52 h_X6_addsLoad (ct_X6_addsLoad (A6_1 hx) qm qB hnl0) rfl rfl (Nat.le_of_ble_eq_true rfl) ⟨Nat.le_of_ble_eq_true rfl, Nat.le_of_ble_eq_true rfl⟩ ⟨Nat.le_of_ble_eq_true rfl, Nat.le_of_ble_eq_true rfl⟩ ⟨rfl, rfl⟩ dX6_readLoad_149 ?_
          intro v I6 hv
          obtain ⟨rfl, hm, hg⟩ := hv
          refine k_istore C (i := 4) (lv := [(4, _), (3, _), (2, _), (1, _), (0, _)]) (Nat.le_of_ble_eq_true rfl) rfl dX6_readLoad_152 ?_
          refine k_aload_n C (f := 0) (i := 0) (p := 4) rfl rfl dX6_readLoad_154 ?_
          refine k_getR C f_X6_13 (L6_s (by assumption)) (fun _ _ _ => rfl) (L6_1 (by assumption)) dX6_readLoad_155 ?_
          refine k_iload C (i := 4) (p := 0) rfl dX6_readLoad_158 ?_
          refine k_iconst C ic_2 dX6_readLoad_160 ?_
          refine k_callSp C s_X6_56 h_X6_loadAt (ct_X6_loadAt ) rfl rfl (Nat.le_of_ble_eq_true rfl) ⟨Nat.le_of_ble_eq_true rfl, Nat.le_of_ble_eq_true rfl⟩ ⟨Nat.le_of_ble_eq_true rfl, Nat.le_of_ble_eq_true rfl⟩ ⟨rfl, rfl⟩ dX6_readLoad_161 ?_
          refine k_iload_n C (f := 3) (i := 3) (p := 1) rfl rfl dX6_readLoad_164 ?_
          refine k_rst C (i := 142 + 4 * sp_nl s5.2) (A6_1 hx) (by first | rfl | assumption) (by omega) (by omega) hm hg dX6_readLoad_165 (fun I9 hm hg => ?_)
          exact k_vret C (Nat.le_of_ble_eq_true rfl) (Nat.le_of_ble_eq_true rfl) (⟨rfl, ⟨rfl, by
              rw [rLoad_S (fun s hs => by
                obtain ⟨s8, w1, w2⟩ := sp_bd_inv hs
                by_cases q : decide (sp_nl s8.2 < 20) = true
                · rw [if_pos q] at w2
                  cases w2
                  rw [w1] at hP
                  exact ⟨of_decide_eq_true q, hP.2.2.2.2.1.2.1⟩
                · rw [if_neg q] at w2; cases w2) he1 he2 he3 he4 he5]
              first
              | (obtain ⟨x, hx5⟩ := sp_nok hc140
                 rw [hx5] at hP5 ⊢
                 exact hP5)
              | (rw [hs5, ← hcr]
                 exact MP_set hPk hm hg (upd_bring hnl0 qB) (by rw [upd_ne (by omega), bring_at ⟨by omega, by omega, by omega, by omega, by omega⟩]; exact qL)), by
              first
              | exact F5.tr (f1_mpf hg)
              | exact F5, G5⟩⟩) dX6_readLoad_166
    · skip
      obtain ⟨s3, hs3⟩ := sp_ok_iff.mp (Decidable.byContradiction hc44)
      have hPs := hP3
      rw [hs3] at hPs
      obtain ⟨q17, q9, qT, qm, qB, qL⟩ := id hPs
      have own6 : md_own 6 = 419 := by decide +kernel
      refine k_aload_n C (f := 0) (i := 0) (p := 3) rfl rfl dX6_readLoad_47 ?_
      refine k_ldc2 C l_X6_207 dX6_readLoad_48 ?_
      refine k_callVp C s_X6_197 h_X6_isWord (L6_s (by assumption)) rfl (ct_X6_isWord hx) rfl rfl (Nat.le_of_ble_eq_true rfl) ⟨Nat.le_of_ble_eq_true rfl, Nat.le_of_ble_eq_true rfl⟩ ⟨Nat.le_of_ble_eq_true rfl, Nat.le_of_ble_eq_true rfl⟩ ⟨rfl, rfl⟩ dX6_readLoad_51 ?_
      first
      | refine k_ifb_eq C (tgt := 123) (by decide) dX6_readLoad_54 (fun hc54 => ?_) (fun hc54 => ?_)
      | refine k_if_eq C (tgt := 123) (by decide) dX6_readLoad_54 (fun hc54 => ?_) (fun hc54 => ?_)
      · skip
        obtain ⟨I4, hI4⟩ : ∃ z : am_I, z = I3 := ⟨_, rfl⟩
        obtain ⟨J4, hJ4⟩ : ∃ z : am_J, z = J3 := ⟨_, rfl⟩
        obtain ⟨e4, he4a⟩ : ∃ z : Except Nat sp_S, z = e3 := ⟨_, rfl⟩
        have hP4 : MP I4 J4 y tb n e4 := by rw [hI4, hJ4, he4a]; exact hP3
        have F4 : MPf y I I4 := by rw [hI4]; exact F3
        have G4 : JFr y J J4 := by rw [hJ4]; exact G3
        rw [← hI4, ← hJ4]
        have hcr : (-1 : Int32) = md_cr tb n e3 := by
          rw [hs3]
          exact (if_neg (fun z => hc54 (by rw [← own6]; exact (MTok_isw qT (by decide) (by decide)).mpr z))).symm
        have he4 : e4 = md_tl tb n (sp_tz tb n 1 99 e1) e3 := by
          rw [he4a]
          rw [hs3]
          exact (if_neg (fun z => hc54 (by rw [← own6]; exact (MTok_isw qT (by decide) (by decide)).mpr z))).symm
        clear hI4 hJ4 he4a
        refine k_aload_n C (f := 0) (i := 0) (p := 3) rfl rfl dX6_readLoad_123 ?_
        refine k_aload_n C (f := 0) (i := 0) (p := 3) rfl rfl dX6_readLoad_124 ?_
        refine k_getI C f_X6_164 (L6_s (by assumption)) (fun _ _ _ => rfl) (rfl) dX6_readLoad_125 ?_
        refine k_iconst C ic_3 dX6_readLoad_128 ?_
        refine k_icmp_ne C (tgt := 136) (by decide) dX6_readLoad_129 (fun hc129 => ?_) (fun hc129 => ?_)
        · skip
          refine k_iconst C ic_0 dX6_readLoad_136 ?_
          refine k_callVj C s_X6_191 h_X6_takes (L6_s (by assumption)) rfl (ct_X6_takes hx (F4.txt ht) hP4) rfl rfl (Nat.le_of_ble_eq_true rfl) ⟨Nat.le_of_ble_eq_true rfl, Nat.le_of_ble_eq_true rfl⟩ ⟨Nat.le_of_ble_eq_true rfl, Nat.le_of_ble_eq_true rfl⟩ ⟨rfl, rfl⟩ dX6_readLoad_137 ?_
          intro v I5 J5 hv
          obtain ⟨rfl, hP5, F5, G5⟩ := hv
          have F5 := F4.tr F5
          have G5 := G4.tr G5
          rw [show sp_tk tb n _ e4 = sp_tsS tb n e4 from by first | exact sp_tkS1 hP4 hc129 | exact sp_tkS0 hP4 hc129] at hP5 ⊢
          obtain ⟨e5, he5⟩ : ∃ z : Except Nat sp_S, z = sp_tsS tb n e4 := ⟨_, rfl⟩
          rw [← he5] at hP5 ⊢
          refine k_ifb_eq C (tgt := 166) (by decide) dX6_readLoad_140 (fun hc140 => ?_) (fun hc140 => ?_)
          · skip
            exact k_vret C (Nat.le_of_ble_eq_true rfl) (Nat.le_of_ble_eq_true rfl) (⟨rfl, ⟨rfl, by
                rw [rLoad_S (fun s hs => by
                  obtain ⟨s8, w1, w2⟩ := sp_bd_inv hs
                  by_cases q : decide (sp_nl s8.2 < 20) = true
                  · rw [if_pos q] at w2
                    cases w2
                    rw [w1] at hP
                    exact ⟨of_decide_eq_true q, hP.2.2.2.2.1.2.1⟩
                  · rw [if_neg q] at w2; cases w2) he1 he2 he3 he4 he5]
                first
                | (obtain ⟨x, hx5⟩ := sp_nok hc140
                   rw [hx5] at hP5 ⊢
                   exact hP5)
                | (rw [hs5, ← hcr]
                   exact MP_set hPk hm hg (upd_bring hnl0 qB) (by rw [upd_ne (by omega), bring_at ⟨by omega, by omega, by omega, by omega, by omega⟩]; exact qL)), by
                first
                | exact F5.tr (f1_mpf hg)
                | exact F5, G5⟩⟩) dX6_readLoad_166
          · skip
            obtain ⟨s5, hs5⟩ := sp_ok_iff.mp hc140
            have hrow : ∃ s : sp_S, e = .ok s ∧ sp_nl s.2 < 20 ∧ s5.2 = s.2 := by
              obtain ⟨a4, b4, d4⟩ := tsS_inv (he5.symm.trans hs5)
              obtain ⟨a3, b3, d3⟩ := tl_inv (he4.symm.trans b4)
              obtain ⟨a2, b2, d2⟩ := tnS_inv (he3.symm.trans b3)
              obtain ⟨a1, b1, d1⟩ := tnS_inv (he2.symm.trans b2)
              obtain ⟨a0, b0, p0, d0⟩ := md_gt_inv (he1.symm.trans b1)
              exact ⟨a0, b0, of_decide_eq_true p0, d4.trans (d3.trans (d2.trans (d1.trans d0)))⟩
            obtain ⟨s0, hs0, hcnt, hs2⟩ := hrow
            have hPk := hP5
            rw [hs5] at hPk
            obtain ⟨q17, q9, qT, qm, qB, qL⟩ := id hPk
            have hnl0 : sp_nl s5.2 < 20 := by rw [hs2]; exact hcnt
            refine k_aload_n C (f := 0) (i := 0) (p := 3) rfl rfl dX6_readLoad_143 ?_
            refine k_getR C f_X6_13 (L6_s (by assumption)) (fun _ _ _ => rfl) (L6_1 (by assumption)) dX6_readLoad_144 ?_
            refine k_iload_n C (f := 1) (i := 1) (p := 2) rfl rfl dX6_readLoad_147 ?_
            refine k_iload_n C (f := 2) (i := 2) (p := 1) rfl rfl dX6_readLoad_148 ?_
            refine k_callSg C s_X6_52 h_X6_addsLoad (ct_X6_addsLoad (A6_1 hx) qm qB hnl0) rfl rfl (Nat.le_of_ble_eq_true rfl) ⟨Nat.le_of_ble_eq_true rfl, Nat.le_of_ble_eq_true rfl⟩ ⟨Nat.le_of_ble_eq_true rfl, Nat.le_of_ble_eq_true rfl⟩ ⟨rfl, rfl⟩ dX6_readLoad_149 ?_
            intro v I6 hv
            obtain ⟨rfl, hm, hg⟩ := hv
            refine k_istore C (i := 4) (lv := [(4, _), (3, _), (2, _), (1, _), (0, _)]) (Nat.le_of_ble_eq_true rfl) rfl dX6_readLoad_152 ?_
            refine k_aload_n C (f := 0) (i := 0) (p := 4) rfl rfl dX6_readLoad_154 ?_
            refine k_getR C f_X6_13 (L6_s (by assumption)) (fun _ _ _ => rfl) (L6_1 (by assumption)) dX6_readLoad_155 ?_
            refine k_iload C (i := 4) (p := 0) rfl dX6_readLoad_158 ?_
            refine k_iconst C ic_2 dX6_readLoad_160 ?_
            refine k_callSp C s_X6_56 h_X6_loadAt (ct_X6_loadAt ) rfl rfl (Nat.le_of_ble_eq_true rfl) ⟨Nat.le_of_ble_eq_true rfl, Nat.le_of_ble_eq_true rfl⟩ ⟨Nat.le_of_ble_eq_true rfl, Nat.le_of_ble_eq_true rfl⟩ ⟨rfl, rfl⟩ dX6_readLoad_161 ?_
            refine k_iload_n C (f := 3) (i := 3) (p := 1) rfl rfl dX6_readLoad_164 ?_
            refine k_rst C (i := 142 + 4 * sp_nl s5.2) (A6_1 hx) (by first | rfl | assumption) (by omega) (by omega) hm hg dX6_readLoad_165 (fun I9 hm hg => ?_)
            exact k_vret C (Nat.le_of_ble_eq_true rfl) (Nat.le_of_ble_eq_true rfl) (⟨rfl, ⟨rfl, by
                rw [rLoad_S (fun s hs => by
                  obtain ⟨s8, w1, w2⟩ := sp_bd_inv hs
                  by_cases q : decide (sp_nl s8.2 < 20) = true
                  · rw [if_pos q] at w2
                    cases w2
                    rw [w1] at hP
                    exact ⟨of_decide_eq_true q, hP.2.2.2.2.1.2.1⟩
                  · rw [if_neg q] at w2; cases w2) he1 he2 he3 he4 he5]
                first
                | (obtain ⟨x, hx5⟩ := sp_nok hc140
                   rw [hx5] at hP5 ⊢
                   exact hP5)
                | (rw [hs5, ← hcr]
                   exact MP_set hPk hm hg (upd_bring hnl0 qB) (by rw [upd_ne (by omega), bring_at ⟨by omega, by omega, by omega, by omega, by omega⟩]; exact qL)), by
                first
                | exact F5.tr (f1_mpf hg)
                | exact F5, G5⟩⟩) dX6_readLoad_166
        · skip
          refine k_iconst C ic_1 dX6_readLoad_132 ?_
          refine k_goto C (tgt := 137) (by decide) dX6_readLoad_133 ?_
          refine k_callVj C s_X6_191 h_X6_takes (L6_s (by assumption)) rfl (ct_X6_takes hx (F4.txt ht) hP4) rfl rfl (Nat.le_of_ble_eq_true rfl) ⟨Nat.le_of_ble_eq_true rfl, Nat.le_of_ble_eq_true rfl⟩ ⟨Nat.le_of_ble_eq_true rfl, Nat.le_of_ble_eq_true rfl⟩ ⟨rfl, rfl⟩ dX6_readLoad_137 ?_
          intro v I5 J5 hv
          obtain ⟨rfl, hP5, F5, G5⟩ := hv
          have F5 := F4.tr F5
          have G5 := G4.tr G5
          rw [show sp_tk tb n _ e4 = sp_tsS tb n e4 from by first | exact sp_tkS1 hP4 hc129 | exact sp_tkS0 hP4 hc129] at hP5 ⊢
          obtain ⟨e5, he5⟩ : ∃ z : Except Nat sp_S, z = sp_tsS tb n e4 := ⟨_, rfl⟩
          rw [← he5] at hP5 ⊢
          refine k_ifb_eq C (tgt := 166) (by decide) dX6_readLoad_140 (fun hc140 => ?_) (fun hc140 => ?_)
          · skip
            exact k_vret C (Nat.le_of_ble_eq_true rfl) (Nat.le_of_ble_eq_true rfl) (⟨rfl, ⟨rfl, by
                rw [rLoad_S (fun s hs => by
                  obtain ⟨s8, w1, w2⟩ := sp_bd_inv hs
                  by_cases q : decide (sp_nl s8.2 < 20) = true
                  · rw [if_pos q] at w2
                    cases w2
                    rw [w1] at hP
                    exact ⟨of_decide_eq_true q, hP.2.2.2.2.1.2.1⟩
                  · rw [if_neg q] at w2; cases w2) he1 he2 he3 he4 he5]
                first
                | (obtain ⟨x, hx5⟩ := sp_nok hc140
                   rw [hx5] at hP5 ⊢
                   exact hP5)
                | (rw [hs5, ← hcr]
                   exact MP_set hPk hm hg (upd_bring hnl0 qB) (by rw [upd_ne (by omega), bring_at ⟨by omega, by omega, by omega, by omega, by omega⟩]; exact qL)), by
                first
                | exact F5.tr (f1_mpf hg)
                | exact F5, G5⟩⟩) dX6_readLoad_166
          · skip
            obtain ⟨s5, hs5⟩ := sp_ok_iff.mp hc140
            have hrow : ∃ s : sp_S, e = .ok s ∧ sp_nl s.2 < 20 ∧ s5.2 = s.2 := by
              obtain ⟨a4, b4, d4⟩ := tsS_inv (he5.symm.trans hs5)
              obtain ⟨a3, b3, d3⟩ := tl_inv (he4.symm.trans b4)
              obtain ⟨a2, b2, d2⟩ := tnS_inv (he3.symm.trans b3)
              obtain ⟨a1, b1, d1⟩ := tnS_inv (he2.symm.trans b2)
              obtain ⟨a0, b0, p0, d0⟩ := md_gt_inv (he1.symm.trans b1)
              exact ⟨a0, b0, of_decide_eq_true p0, d4.trans (d3.trans (d2.trans (d1.trans d0)))⟩
            obtain ⟨s0, hs0, hcnt, hs2⟩ := hrow
            have hPk := hP5
            rw [hs5] at hPk
            obtain ⟨q17, q9, qT, qm, qB, qL⟩ := id hPk
            have hnl0 : sp_nl s5.2 < 20 := by rw [hs2]; exact hcnt
            refine k_aload_n C (f := 0) (i := 0) (p := 3) rfl rfl dX6_readLoad_143 ?_
            refine k_getR C f_X6_13 (L6_s (by assumption)) (fun _ _ _ => rfl) (L6_1 (by assumption)) dX6_readLoad_144 ?_
            refine k_iload_n C (f := 1) (i := 1) (p := 2) rfl rfl dX6_readLoad_147 ?_
            refine k_iload_n C (f := 2) (i := 2) (p := 1) rfl rfl dX6_readLoad_148 ?_
            refine k_callSg C s_X6_52 h_X6_addsLoad (ct_X6_addsLoad (A6_1 hx) qm qB hnl0) rfl rfl (Nat.le_of_ble_eq_true rfl) ⟨Nat.le_of_ble_eq_true rfl, Nat.le_of_ble_eq_true rfl⟩ ⟨Nat.le_of_ble_eq_true rfl, Nat.le_of_ble_eq_true rfl⟩ ⟨rfl, rfl⟩ dX6_readLoad_149 ?_
            intro v I6 hv
            obtain ⟨rfl, hm, hg⟩ := hv
            refine k_istore C (i := 4) (lv := [(4, _), (3, _), (2, _), (1, _), (0, _)]) (Nat.le_of_ble_eq_true rfl) rfl dX6_readLoad_152 ?_
            refine k_aload_n C (f := 0) (i := 0) (p := 4) rfl rfl dX6_readLoad_154 ?_
            refine k_getR C f_X6_13 (L6_s (by assumption)) (fun _ _ _ => rfl) (L6_1 (by assumption)) dX6_readLoad_155 ?_
            refine k_iload C (i := 4) (p := 0) rfl dX6_readLoad_158 ?_
            refine k_iconst C ic_2 dX6_readLoad_160 ?_
            refine k_callSp C s_X6_56 h_X6_loadAt (ct_X6_loadAt ) rfl rfl (Nat.le_of_ble_eq_true rfl) ⟨Nat.le_of_ble_eq_true rfl, Nat.le_of_ble_eq_true rfl⟩ ⟨Nat.le_of_ble_eq_true rfl, Nat.le_of_ble_eq_true rfl⟩ ⟨rfl, rfl⟩ dX6_readLoad_161 ?_
            refine k_iload_n C (f := 3) (i := 3) (p := 1) rfl rfl dX6_readLoad_164 ?_
            refine k_rst C (i := 142 + 4 * sp_nl s5.2) (A6_1 hx) (by first | rfl | assumption) (by omega) (by omega) hm hg dX6_readLoad_165 (fun I9 hm hg => ?_)
            exact k_vret C (Nat.le_of_ble_eq_true rfl) (Nat.le_of_ble_eq_true rfl) (⟨rfl, ⟨rfl, by
                rw [rLoad_S (fun s hs => by
                  obtain ⟨s8, w1, w2⟩ := sp_bd_inv hs
                  by_cases q : decide (sp_nl s8.2 < 20) = true
                  · rw [if_pos q] at w2
                    cases w2
                    rw [w1] at hP
                    exact ⟨of_decide_eq_true q, hP.2.2.2.2.1.2.1⟩
                  · rw [if_neg q] at w2; cases w2) he1 he2 he3 he4 he5]
                first
                | (obtain ⟨x, hx5⟩ := sp_nok hc140
                   rw [hx5] at hP5 ⊢
                   exact hP5)
                | (rw [hs5, ← hcr]
                   exact MP_set hPk hm hg (upd_bring hnl0 qB) (by rw [upd_ne (by omega), bring_at ⟨by omega, by omega, by omega, by omega, by omega⟩]; exact qL)), by
                first
                | exact F5.tr (f1_mpf hg)
                | exact F5, G5⟩⟩) dX6_readLoad_166
      · skip
        have hon : sp_isw tb s3.1 6 = true := (MTok_isw qT (by decide) (by decide)).mp (by rw [own6]; exact hc54)
        refine k_aload_n C (f := 0) (i := 0) (p := 3) rfl rfl dX6_readLoad_57 ?_
        refine k_callVj C s_X6_188 h_X6_next (L6_s (by assumption)) rfl (ct_X6_next (k := s3.1.2.2.1) hx (F3.txt ht) qT.2.2.2.2.2.2.2.1 qT.2.2.1) rfl rfl (Nat.le_of_ble_eq_true rfl) ⟨Nat.le_of_ble_eq_true rfl, Nat.le_of_ble_eq_true rfl⟩ ⟨Nat.le_of_ble_eq_true rfl, Nat.le_of_ble_eq_true rfl⟩ ⟨rfl, rfl⟩ dX6_readLoad_58 ?_
        intro v I7 J7 hv
        obtain ⟨rfl, qT7, T7, G7⟩ := hv
        have F7 := F3.tr T7.mp
        have G7 := G3.tr G7
        have hP7 : MP I7 J7 y tb n (.ok (sp_nx tb n s3.1, s3.2)) := ⟨(T7 y 17 (by omega)).trans q17, (T7 y 9 (by omega)).trans q9, qT7, MR_ne qm (funext (fun K => T7 _ K (by omega))), qB, qL⟩
        have m15 : I7 y 15 = nI (sp_nx tb n s3.1).2.2.2 := qT7.2.2.2.1
        have m14 : I7 y 14 = nI (sp_nx tb n s3.1).1 := qT7.1
        have mb9 : (sp_nx tb n s3.1).2.2.2 ≤ 999 := qT7.2.2.2.2.2.2.2.2
        have mb4 : (sp_nx tb n s3.1).1 ≤ 4 := qT7.2.2.2.2.2.1
        have qm7 : MRow I7 (y + 2) 0 s3.2 := MR_ne qm (funext (fun K => T7 _ K (by omega)))
        obtain ⟨⟨r6, r7, r8, r9⟩, rb6, rb7, rb8, rb9⟩ := id qB
        refine k_aload_n C (f := 0) (i := 0) (p := 3) rfl rfl dX6_readLoad_61 ?_
        refine k_getI C f_X6_157 (L6_s (by assumption)) (fun _ _ _ => rfl) (m15) dX6_readLoad_62 ?_
        refine k_istore_n C (f := 3) (i := 3) (lv := [(3, _), (2, _), (1, _), (0, _)]) rfl (Nat.le_of_ble_eq_true rfl) rfl dX6_readLoad_65 ?_
        refine k_aload_n C (f := 0) (i := 0) (p := 3) rfl rfl dX6_readLoad_66 ?_
        refine k_getI C f_X6_164 (L6_s (by assumption)) (fun _ _ _ => rfl) (rfl) dX6_readLoad_67 ?_
        refine k_iconst C ic_2 dX6_readLoad_70 ?_
        refine k_icmp_ne C (tgt := 89) (by decide) dX6_readLoad_71 (fun hc71 => ?_) (fun hc71 => ?_)
        · skip
          refine k_iconst C ic_0 dX6_readLoad_89 ?_
          refine k_istore C (i := 4) (lv := [(4, _), (3, _), (2, _), (1, _), (0, _)]) (Nat.le_of_ble_eq_true rfl) rfl dX6_readLoad_90 ?_
          refine k_iload C (i := 4) (p := 0) rfl dX6_readLoad_92 ?_
          refine k_if_eq C (tgt := 116) (by decide) dX6_readLoad_94 (fun hc94 => ?_) (fun hc94 => ?_)
          · skip
            refine k_aload_n C (f := 0) (i := 0) (p := 4) rfl rfl dX6_readLoad_116 ?_
            refine k_iload C (i := 4) (p := 0) rfl dX6_readLoad_117 ?_
            refine k_callVj C s_X6_191 h_X6_takes (L6_s (by assumption)) rfl (ct_X6_takes hx (F7.txt ht) hP7) rfl rfl (Nat.le_of_ble_eq_true rfl) ⟨Nat.le_of_ble_eq_true rfl, Nat.le_of_ble_eq_true rfl⟩ ⟨Nat.le_of_ble_eq_true rfl, Nat.le_of_ble_eq_true rfl⟩ ⟨rfl, rfl⟩ dX6_readLoad_119 ?_
            intro v I4 J4 hv
            obtain ⟨rfl, hP4, F4, G4⟩ := hv
            have F4 := F7.tr F4
            have G4 := G7.tr G4
            have hg4 : ∃ z : Except Nat sp_S, MP I4 J4 y tb n z ∧ z = md_tl tb n (sp_tz tb n 1 99 e1) e3 := ⟨_, hP4, by
              rw [hs3]
              show _ = (if sp_isw tb s3.1 6 = true then _ else _)
              rw [if_pos hon]
              first
              | (rw [sp_tk1]; exact (if_pos ⟨(nI_eq (by omega) (by decide)).mp (m14.symm.trans hc71), hvn, hc106⟩).symm)
              | (have hcc := hc106
                 rw [sp_tk0]
                 exact (if_neg (fun z => z.2.2 hcc)).symm)
              | (have hcc : sp_nc s3.2 ≤ (sp_nx tb n s3.1).2.2.2 := by omega
                 rw [sp_tk0]
                 exact (if_neg (fun z => absurd z.2.1 (by omega))).symm)
              | (have hcc : ¬ I7 y 14 = nI 2 := hc71
                 rw [sp_tk0]
                 exact (if_neg (fun z => hcc (m14.trans (by rw [z.1])))).symm)⟩
            clear hP4
            obtain ⟨e4, hP4, he4⟩ := hg4
            have hcr : nI (sp_nx tb n s3.1).2.2.2 = md_cr tb n e3 := by
              rw [hs3]
              exact (if_pos hon).symm
            refine k_pop C rfl dX6_readLoad_122 ?_
            refine k_aload_n C (f := 0) (i := 0) (p := 4) rfl rfl dX6_readLoad_123 ?_
            refine k_aload_n C (f := 0) (i := 0) (p := 4) rfl rfl dX6_readLoad_124 ?_
            refine k_getI C f_X6_164 (L6_s (by assumption)) (fun _ _ _ => rfl) (rfl) dX6_readLoad_125 ?_
            refine k_iconst C ic_3 dX6_readLoad_128 ?_
            refine k_icmp_ne C (tgt := 136) (by decide) dX6_readLoad_129 (fun hc129 => ?_) (fun hc129 => ?_)
            · skip
              refine k_iconst C ic_0 dX6_readLoad_136 ?_
              refine k_callVj C s_X6_191 h_X6_takes (L6_s (by assumption)) rfl (ct_X6_takes hx (F4.txt ht) hP4) rfl rfl (Nat.le_of_ble_eq_true rfl) ⟨Nat.le_of_ble_eq_true rfl, Nat.le_of_ble_eq_true rfl⟩ ⟨Nat.le_of_ble_eq_true rfl, Nat.le_of_ble_eq_true rfl⟩ ⟨rfl, rfl⟩ dX6_readLoad_137 ?_
              intro v I5 J5 hv
              obtain ⟨rfl, hP5, F5, G5⟩ := hv
              have F5 := F4.tr F5
              have G5 := G4.tr G5
              rw [show sp_tk tb n _ e4 = sp_tsS tb n e4 from by first | exact sp_tkS1 hP4 hc129 | exact sp_tkS0 hP4 hc129] at hP5 ⊢
              obtain ⟨e5, he5⟩ : ∃ z : Except Nat sp_S, z = sp_tsS tb n e4 := ⟨_, rfl⟩
              rw [← he5] at hP5 ⊢
              refine k_ifb_eq C (tgt := 166) (by decide) dX6_readLoad_140 (fun hc140 => ?_) (fun hc140 => ?_)
              · skip
                exact k_vret C (Nat.le_of_ble_eq_true rfl) (Nat.le_of_ble_eq_true rfl) (⟨rfl, ⟨rfl, by
                    rw [rLoad_S (fun s hs => by
                      obtain ⟨s8, w1, w2⟩ := sp_bd_inv hs
                      by_cases q : decide (sp_nl s8.2 < 20) = true
                      · rw [if_pos q] at w2
                        cases w2
                        rw [w1] at hP
                        exact ⟨of_decide_eq_true q, hP.2.2.2.2.1.2.1⟩
                      · rw [if_neg q] at w2; cases w2) he1 he2 he3 he4 he5]
                    first
                    | (obtain ⟨x, hx5⟩ := sp_nok hc140
                       rw [hx5] at hP5 ⊢
                       exact hP5)
                    | (rw [hs5, ← hcr]
                       exact MP_set hPk hm hg (upd_bring hnl0 qB) (by rw [upd_ne (by omega), bring_at ⟨by omega, by omega, by omega, by omega, by omega⟩]; exact qL)), by
                    first
                    | exact F5.tr (f1_mpf hg)
                    | exact F5, G5⟩⟩) dX6_readLoad_166
              · skip
                obtain ⟨s5, hs5⟩ := sp_ok_iff.mp hc140
                have hrow : ∃ s : sp_S, e = .ok s ∧ sp_nl s.2 < 20 ∧ s5.2 = s.2 := by
                  obtain ⟨a4, b4, d4⟩ := tsS_inv (he5.symm.trans hs5)
                  obtain ⟨a3, b3, d3⟩ := tl_inv (he4.symm.trans b4)
                  obtain ⟨a2, b2, d2⟩ := tnS_inv (he3.symm.trans b3)
                  obtain ⟨a1, b1, d1⟩ := tnS_inv (he2.symm.trans b2)
                  obtain ⟨a0, b0, p0, d0⟩ := md_gt_inv (he1.symm.trans b1)
                  exact ⟨a0, b0, of_decide_eq_true p0, d4.trans (d3.trans (d2.trans (d1.trans d0)))⟩
                obtain ⟨s0, hs0, hcnt, hs2⟩ := hrow
                have hPk := hP5
                rw [hs5] at hPk
                obtain ⟨q17, q9, qT, qm, qB, qL⟩ := id hPk
                have hnl0 : sp_nl s5.2 < 20 := by rw [hs2]; exact hcnt
                refine k_aload_n C (f := 0) (i := 0) (p := 4) rfl rfl dX6_readLoad_143 ?_
                refine k_getR C f_X6_13 (L6_s (by assumption)) (fun _ _ _ => rfl) (L6_1 (by assumption)) dX6_readLoad_144 ?_
                refine k_iload_n C (f := 1) (i := 1) (p := 3) rfl rfl dX6_readLoad_147 ?_
                refine k_iload_n C (f := 2) (i := 2) (p := 2) rfl rfl dX6_readLoad_148 ?_
                refine k_callSg C s_X6_52 h_X6_addsLoad (ct_X6_addsLoad (A6_1 hx) qm qB hnl0) rfl rfl (Nat.le_of_ble_eq_true rfl) ⟨Nat.le_of_ble_eq_true rfl, Nat.le_of_ble_eq_true rfl⟩ ⟨Nat.le_of_ble_eq_true rfl, Nat.le_of_ble_eq_true rfl⟩ ⟨rfl, rfl⟩ dX6_readLoad_149 ?_
                intro v I6 hv
                obtain ⟨rfl, hm, hg⟩ := hv
                refine k_istore C (i := 4) (lv := [(4, _), (3, _), (2, _), (1, _), (0, _)]) (Nat.le_of_ble_eq_true rfl) rfl dX6_readLoad_152 ?_
                refine k_aload_n C (f := 0) (i := 0) (p := 4) rfl rfl dX6_readLoad_154 ?_
                refine k_getR C f_X6_13 (L6_s (by assumption)) (fun _ _ _ => rfl) (L6_1 (by assumption)) dX6_readLoad_155 ?_
                refine k_iload C (i := 4) (p := 0) rfl dX6_readLoad_158 ?_
                refine k_iconst C ic_2 dX6_readLoad_160 ?_
                refine k_callSp C s_X6_56 h_X6_loadAt (ct_X6_loadAt ) rfl rfl (Nat.le_of_ble_eq_true rfl) ⟨Nat.le_of_ble_eq_true rfl, Nat.le_of_ble_eq_true rfl⟩ ⟨Nat.le_of_ble_eq_true rfl, Nat.le_of_ble_eq_true rfl⟩ ⟨rfl, rfl⟩ dX6_readLoad_161 ?_
                refine k_iload_n C (f := 3) (i := 3) (p := 1) rfl rfl dX6_readLoad_164 ?_
                refine k_rst C (i := 142 + 4 * sp_nl s5.2) (A6_1 hx) (by first | rfl | assumption) (by omega) (by omega) hm hg dX6_readLoad_165 (fun I9 hm hg => ?_)
                exact k_vret C (Nat.le_of_ble_eq_true rfl) (Nat.le_of_ble_eq_true rfl) (⟨rfl, ⟨rfl, by
                    rw [rLoad_S (fun s hs => by
                      obtain ⟨s8, w1, w2⟩ := sp_bd_inv hs
                      by_cases q : decide (sp_nl s8.2 < 20) = true
                      · rw [if_pos q] at w2
                        cases w2
                        rw [w1] at hP
                        exact ⟨of_decide_eq_true q, hP.2.2.2.2.1.2.1⟩
                      · rw [if_neg q] at w2; cases w2) he1 he2 he3 he4 he5]
                    first
                    | (obtain ⟨x, hx5⟩ := sp_nok hc140
                       rw [hx5] at hP5 ⊢
                       exact hP5)
                    | (rw [hs5, ← hcr]
                       exact MP_set hPk hm hg (upd_bring hnl0 qB) (by rw [upd_ne (by omega), bring_at ⟨by omega, by omega, by omega, by omega, by omega⟩]; exact qL)), by
                    first
                    | exact F5.tr (f1_mpf hg)
                    | exact F5, G5⟩⟩) dX6_readLoad_166
            · skip
              refine k_iconst C ic_1 dX6_readLoad_132 ?_
              refine k_goto C (tgt := 137) (by decide) dX6_readLoad_133 ?_
              refine k_callVj C s_X6_191 h_X6_takes (L6_s (by assumption)) rfl (ct_X6_takes hx (F4.txt ht) hP4) rfl rfl (Nat.le_of_ble_eq_true rfl) ⟨Nat.le_of_ble_eq_true rfl, Nat.le_of_ble_eq_true rfl⟩ ⟨Nat.le_of_ble_eq_true rfl, Nat.le_of_ble_eq_true rfl⟩ ⟨rfl, rfl⟩ dX6_readLoad_137 ?_
              intro v I5 J5 hv
              obtain ⟨rfl, hP5, F5, G5⟩ := hv
              have F5 := F4.tr F5
              have G5 := G4.tr G5
              rw [show sp_tk tb n _ e4 = sp_tsS tb n e4 from by first | exact sp_tkS1 hP4 hc129 | exact sp_tkS0 hP4 hc129] at hP5 ⊢
              obtain ⟨e5, he5⟩ : ∃ z : Except Nat sp_S, z = sp_tsS tb n e4 := ⟨_, rfl⟩
              rw [← he5] at hP5 ⊢
              refine k_ifb_eq C (tgt := 166) (by decide) dX6_readLoad_140 (fun hc140 => ?_) (fun hc140 => ?_)
              · skip
                exact k_vret C (Nat.le_of_ble_eq_true rfl) (Nat.le_of_ble_eq_true rfl) (⟨rfl, ⟨rfl, by
                    rw [rLoad_S (fun s hs => by
                      obtain ⟨s8, w1, w2⟩ := sp_bd_inv hs
                      by_cases q : decide (sp_nl s8.2 < 20) = true
                      · rw [if_pos q] at w2
                        cases w2
                        rw [w1] at hP
                        exact ⟨of_decide_eq_true q, hP.2.2.2.2.1.2.1⟩
                      · rw [if_neg q] at w2; cases w2) he1 he2 he3 he4 he5]
                    first
                    | (obtain ⟨x, hx5⟩ := sp_nok hc140
                       rw [hx5] at hP5 ⊢
                       exact hP5)
                    | (rw [hs5, ← hcr]
                       exact MP_set hPk hm hg (upd_bring hnl0 qB) (by rw [upd_ne (by omega), bring_at ⟨by omega, by omega, by omega, by omega, by omega⟩]; exact qL)), by
                    first
                    | exact F5.tr (f1_mpf hg)
                    | exact F5, G5⟩⟩) dX6_readLoad_166
              · skip
                obtain ⟨s5, hs5⟩ := sp_ok_iff.mp hc140
                have hrow : ∃ s : sp_S, e = .ok s ∧ sp_nl s.2 < 20 ∧ s5.2 = s.2 := by
                  obtain ⟨a4, b4, d4⟩ := tsS_inv (he5.symm.trans hs5)
                  obtain ⟨a3, b3, d3⟩ := tl_inv (he4.symm.trans b4)
                  obtain ⟨a2, b2, d2⟩ := tnS_inv (he3.symm.trans b3)
                  obtain ⟨a1, b1, d1⟩ := tnS_inv (he2.symm.trans b2)
                  obtain ⟨a0, b0, p0, d0⟩ := md_gt_inv (he1.symm.trans b1)
                  exact ⟨a0, b0, of_decide_eq_true p0, d4.trans (d3.trans (d2.trans (d1.trans d0)))⟩
                obtain ⟨s0, hs0, hcnt, hs2⟩ := hrow
                have hPk := hP5
                rw [hs5] at hPk
                obtain ⟨q17, q9, qT, qm, qB, qL⟩ := id hPk
                have hnl0 : sp_nl s5.2 < 20 := by rw [hs2]; exact hcnt
                refine k_aload_n C (f := 0) (i := 0) (p := 4) rfl rfl dX6_readLoad_143 ?_
                refine k_getR C f_X6_13 (L6_s (by assumption)) (fun _ _ _ => rfl) (L6_1 (by assumption)) dX6_readLoad_144 ?_
                refine k_iload_n C (f := 1) (i := 1) (p := 3) rfl rfl dX6_readLoad_147 ?_
                refine k_iload_n C (f := 2) (i := 2) (p := 2) rfl rfl dX6_readLoad_148 ?_
                refine k_callSg C s_X6_52 h_X6_addsLoad (ct_X6_addsLoad (A6_1 hx) qm qB hnl0) rfl rfl (Nat.le_of_ble_eq_true rfl) ⟨Nat.le_of_ble_eq_true rfl, Nat.le_of_ble_eq_true rfl⟩ ⟨Nat.le_of_ble_eq_true rfl, Nat.le_of_ble_eq_true rfl⟩ ⟨rfl, rfl⟩ dX6_readLoad_149 ?_
                intro v I6 hv
                obtain ⟨rfl, hm, hg⟩ := hv
                refine k_istore C (i := 4) (lv := [(4, _), (3, _), (2, _), (1, _), (0, _)]) (Nat.le_of_ble_eq_true rfl) rfl dX6_readLoad_152 ?_
                refine k_aload_n C (f := 0) (i := 0) (p := 4) rfl rfl dX6_readLoad_154 ?_
                refine k_getR C f_X6_13 (L6_s (by assumption)) (fun _ _ _ => rfl) (L6_1 (by assumption)) dX6_readLoad_155 ?_
                refine k_iload C (i := 4) (p := 0) rfl dX6_readLoad_158 ?_
                refine k_iconst C ic_2 dX6_readLoad_160 ?_
                refine k_callSp C s_X6_56 h_X6_loadAt (ct_X6_loadAt ) rfl rfl (Nat.le_of_ble_eq_true rfl) ⟨Nat.le_of_ble_eq_true rfl, Nat.le_of_ble_eq_true rfl⟩ ⟨Nat.le_of_ble_eq_true rfl, Nat.le_of_ble_eq_true rfl⟩ ⟨rfl, rfl⟩ dX6_readLoad_161 ?_
                refine k_iload_n C (f := 3) (i := 3) (p := 1) rfl rfl dX6_readLoad_164 ?_
                refine k_rst C (i := 142 + 4 * sp_nl s5.2) (A6_1 hx) (by first | rfl | assumption) (by omega) (by omega) hm hg dX6_readLoad_165 (fun I9 hm hg => ?_)
                exact k_vret C (Nat.le_of_ble_eq_true rfl) (Nat.le_of_ble_eq_true rfl) (⟨rfl, ⟨rfl, by
                    rw [rLoad_S (fun s hs => by
                      obtain ⟨s8, w1, w2⟩ := sp_bd_inv hs
                      by_cases q : decide (sp_nl s8.2 < 20) = true
                      · rw [if_pos q] at w2
                        cases w2
                        rw [w1] at hP
                        exact ⟨of_decide_eq_true q, hP.2.2.2.2.1.2.1⟩
                      · rw [if_neg q] at w2; cases w2) he1 he2 he3 he4 he5]
                    first
                    | (obtain ⟨x, hx5⟩ := sp_nok hc140
                       rw [hx5] at hP5 ⊢
                       exact hP5)
                    | (rw [hs5, ← hcr]
                       exact MP_set hPk hm hg (upd_bring hnl0 qB) (by rw [upd_ne (by omega), bring_at ⟨by omega, by omega, by omega, by omega, by omega⟩]; exact qL)), by
                    first
                    | exact F5.tr (f1_mpf hg)
                    | exact F5, G5⟩⟩) dX6_readLoad_166
          · skip
            exact absurd (by decide) hc94
        · skip
          refine k_iload_n C (f := 3) (i := 3) (p := 0) rfl rfl dX6_readLoad_74 ?_
          refine k_aload_n C (f := 0) (i := 0) (p := 3) rfl rfl dX6_readLoad_75 ?_
          refine k_getR C f_X6_13 (L6_s (by assumption)) (fun _ _ _ => rfl) (L6_1 (by assumption)) dX6_readLoad_76 ?_
          refine k_bipush C bc_6 dX6_readLoad_79 ?_
          refine k_iald C (A6_1 (by assumption)) (by first | rfl | assumption) (by omega) (by decide) ((MR qm7 (by decide)).trans r6) dX6_readLoad_81 ?_
          refine k_icmpN_ge C (tgt := 89) (by omega) (by omega) (by decide) dX6_readLoad_82 (fun hc82 => ?_) (fun hc82 => ?_)
          · skip
            refine k_iconst C ic_0 dX6_readLoad_89 ?_
            refine k_istore C (i := 4) (lv := [(4, _), (3, _), (2, _), (1, _), (0, _)]) (Nat.le_of_ble_eq_true rfl) rfl dX6_readLoad_90 ?_
            refine k_iload C (i := 4) (p := 0) rfl dX6_readLoad_92 ?_
            refine k_if_eq C (tgt := 116) (by decide) dX6_readLoad_94 (fun hc94 => ?_) (fun hc94 => ?_)
            · skip
              refine k_aload_n C (f := 0) (i := 0) (p := 4) rfl rfl dX6_readLoad_116 ?_
              refine k_iload C (i := 4) (p := 0) rfl dX6_readLoad_117 ?_
              refine k_callVj C s_X6_191 h_X6_takes (L6_s (by assumption)) rfl (ct_X6_takes hx (F7.txt ht) hP7) rfl rfl (Nat.le_of_ble_eq_true rfl) ⟨Nat.le_of_ble_eq_true rfl, Nat.le_of_ble_eq_true rfl⟩ ⟨Nat.le_of_ble_eq_true rfl, Nat.le_of_ble_eq_true rfl⟩ ⟨rfl, rfl⟩ dX6_readLoad_119 ?_
              intro v I4 J4 hv
              obtain ⟨rfl, hP4, F4, G4⟩ := hv
              have F4 := F7.tr F4
              have G4 := G7.tr G4
              have hg4 : ∃ z : Except Nat sp_S, MP I4 J4 y tb n z ∧ z = md_tl tb n (sp_tz tb n 1 99 e1) e3 := ⟨_, hP4, by
                rw [hs3]
                show _ = (if sp_isw tb s3.1 6 = true then _ else _)
                rw [if_pos hon]
                first
                | (rw [sp_tk1]; exact (if_pos ⟨(nI_eq (by omega) (by decide)).mp (m14.symm.trans hc71), hvn, hc106⟩).symm)
                | (have hcc := hc106
                   rw [sp_tk0]
                   exact (if_neg (fun z => z.2.2 hcc)).symm)
                | (have hcc : sp_nc s3.2 ≤ (sp_nx tb n s3.1).2.2.2 := by omega
                   rw [sp_tk0]
                   exact (if_neg (fun z => absurd z.2.1 (by omega))).symm)
                | (have hcc : ¬ I7 y 14 = nI 2 := hc71
                   rw [sp_tk0]
                   exact (if_neg (fun z => hcc (m14.trans (by rw [z.1])))).symm)⟩
              clear hP4
              obtain ⟨e4, hP4, he4⟩ := hg4
              have hcr : nI (sp_nx tb n s3.1).2.2.2 = md_cr tb n e3 := by
                rw [hs3]
                exact (if_pos hon).symm
              refine k_pop C rfl dX6_readLoad_122 ?_
              refine k_aload_n C (f := 0) (i := 0) (p := 4) rfl rfl dX6_readLoad_123 ?_
              refine k_aload_n C (f := 0) (i := 0) (p := 4) rfl rfl dX6_readLoad_124 ?_
              refine k_getI C f_X6_164 (L6_s (by assumption)) (fun _ _ _ => rfl) (rfl) dX6_readLoad_125 ?_
              refine k_iconst C ic_3 dX6_readLoad_128 ?_
              refine k_icmp_ne C (tgt := 136) (by decide) dX6_readLoad_129 (fun hc129 => ?_) (fun hc129 => ?_)
              · skip
                refine k_iconst C ic_0 dX6_readLoad_136 ?_
                refine k_callVj C s_X6_191 h_X6_takes (L6_s (by assumption)) rfl (ct_X6_takes hx (F4.txt ht) hP4) rfl rfl (Nat.le_of_ble_eq_true rfl) ⟨Nat.le_of_ble_eq_true rfl, Nat.le_of_ble_eq_true rfl⟩ ⟨Nat.le_of_ble_eq_true rfl, Nat.le_of_ble_eq_true rfl⟩ ⟨rfl, rfl⟩ dX6_readLoad_137 ?_
                intro v I5 J5 hv
                obtain ⟨rfl, hP5, F5, G5⟩ := hv
                have F5 := F4.tr F5
                have G5 := G4.tr G5
                rw [show sp_tk tb n _ e4 = sp_tsS tb n e4 from by first | exact sp_tkS1 hP4 hc129 | exact sp_tkS0 hP4 hc129] at hP5 ⊢
                obtain ⟨e5, he5⟩ : ∃ z : Except Nat sp_S, z = sp_tsS tb n e4 := ⟨_, rfl⟩
                rw [← he5] at hP5 ⊢
                refine k_ifb_eq C (tgt := 166) (by decide) dX6_readLoad_140 (fun hc140 => ?_) (fun hc140 => ?_)
                · skip
                  exact k_vret C (Nat.le_of_ble_eq_true rfl) (Nat.le_of_ble_eq_true rfl) (⟨rfl, ⟨rfl, by
                      rw [rLoad_S (fun s hs => by
                        obtain ⟨s8, w1, w2⟩ := sp_bd_inv hs
                        by_cases q : decide (sp_nl s8.2 < 20) = true
                        · rw [if_pos q] at w2
                          cases w2
                          rw [w1] at hP
                          exact ⟨of_decide_eq_true q, hP.2.2.2.2.1.2.1⟩
                        · rw [if_neg q] at w2; cases w2) he1 he2 he3 he4 he5]
                      first
                      | (obtain ⟨x, hx5⟩ := sp_nok hc140
                         rw [hx5] at hP5 ⊢
                         exact hP5)
                      | (rw [hs5, ← hcr]
                         exact MP_set hPk hm hg (upd_bring hnl0 qB) (by rw [upd_ne (by omega), bring_at ⟨by omega, by omega, by omega, by omega, by omega⟩]; exact qL)), by
                      first
                      | exact F5.tr (f1_mpf hg)
                      | exact F5, G5⟩⟩) dX6_readLoad_166
                · skip
                  obtain ⟨s5, hs5⟩ := sp_ok_iff.mp hc140
                  have hrow : ∃ s : sp_S, e = .ok s ∧ sp_nl s.2 < 20 ∧ s5.2 = s.2 := by
                    obtain ⟨a4, b4, d4⟩ := tsS_inv (he5.symm.trans hs5)
                    obtain ⟨a3, b3, d3⟩ := tl_inv (he4.symm.trans b4)
                    obtain ⟨a2, b2, d2⟩ := tnS_inv (he3.symm.trans b3)
                    obtain ⟨a1, b1, d1⟩ := tnS_inv (he2.symm.trans b2)
                    obtain ⟨a0, b0, p0, d0⟩ := md_gt_inv (he1.symm.trans b1)
                    exact ⟨a0, b0, of_decide_eq_true p0, d4.trans (d3.trans (d2.trans (d1.trans d0)))⟩
                  obtain ⟨s0, hs0, hcnt, hs2⟩ := hrow
                  have hPk := hP5
                  rw [hs5] at hPk
                  obtain ⟨q17, q9, qT, qm, qB, qL⟩ := id hPk
                  have hnl0 : sp_nl s5.2 < 20 := by rw [hs2]; exact hcnt
                  refine k_aload_n C (f := 0) (i := 0) (p := 4) rfl rfl dX6_readLoad_143 ?_
                  refine k_getR C f_X6_13 (L6_s (by assumption)) (fun _ _ _ => rfl) (L6_1 (by assumption)) dX6_readLoad_144 ?_
                  refine k_iload_n C (f := 1) (i := 1) (p := 3) rfl rfl dX6_readLoad_147 ?_
                  refine k_iload_n C (f := 2) (i := 2) (p := 2) rfl rfl dX6_readLoad_148 ?_
                  refine k_callSg C s_X6_52 h_X6_addsLoad (ct_X6_addsLoad (A6_1 hx) qm qB hnl0) rfl rfl (Nat.le_of_ble_eq_true rfl) ⟨Nat.le_of_ble_eq_true rfl, Nat.le_of_ble_eq_true rfl⟩ ⟨Nat.le_of_ble_eq_true rfl, Nat.le_of_ble_eq_true rfl⟩ ⟨rfl, rfl⟩ dX6_readLoad_149 ?_
                  intro v I6 hv
                  obtain ⟨rfl, hm, hg⟩ := hv
                  refine k_istore C (i := 4) (lv := [(4, _), (3, _), (2, _), (1, _), (0, _)]) (Nat.le_of_ble_eq_true rfl) rfl dX6_readLoad_152 ?_
                  refine k_aload_n C (f := 0) (i := 0) (p := 4) rfl rfl dX6_readLoad_154 ?_
                  refine k_getR C f_X6_13 (L6_s (by assumption)) (fun _ _ _ => rfl) (L6_1 (by assumption)) dX6_readLoad_155 ?_
                  refine k_iload C (i := 4) (p := 0) rfl dX6_readLoad_158 ?_
                  refine k_iconst C ic_2 dX6_readLoad_160 ?_
                  refine k_callSp C s_X6_56 h_X6_loadAt (ct_X6_loadAt ) rfl rfl (Nat.le_of_ble_eq_true rfl) ⟨Nat.le_of_ble_eq_true rfl, Nat.le_of_ble_eq_true rfl⟩ ⟨Nat.le_of_ble_eq_true rfl, Nat.le_of_ble_eq_true rfl⟩ ⟨rfl, rfl⟩ dX6_readLoad_161 ?_
                  refine k_iload_n C (f := 3) (i := 3) (p := 1) rfl rfl dX6_readLoad_164 ?_
                  refine k_rst C (i := 142 + 4 * sp_nl s5.2) (A6_1 hx) (by first | rfl | assumption) (by omega) (by omega) hm hg dX6_readLoad_165 (fun I9 hm hg => ?_)
                  exact k_vret C (Nat.le_of_ble_eq_true rfl) (Nat.le_of_ble_eq_true rfl) (⟨rfl, ⟨rfl, by
                      rw [rLoad_S (fun s hs => by
                        obtain ⟨s8, w1, w2⟩ := sp_bd_inv hs
                        by_cases q : decide (sp_nl s8.2 < 20) = true
                        · rw [if_pos q] at w2
                          cases w2
                          rw [w1] at hP
                          exact ⟨of_decide_eq_true q, hP.2.2.2.2.1.2.1⟩
                        · rw [if_neg q] at w2; cases w2) he1 he2 he3 he4 he5]
                      first
                      | (obtain ⟨x, hx5⟩ := sp_nok hc140
                         rw [hx5] at hP5 ⊢
                         exact hP5)
                      | (rw [hs5, ← hcr]
                         exact MP_set hPk hm hg (upd_bring hnl0 qB) (by rw [upd_ne (by omega), bring_at ⟨by omega, by omega, by omega, by omega, by omega⟩]; exact qL)), by
                      first
                      | exact F5.tr (f1_mpf hg)
                      | exact F5, G5⟩⟩) dX6_readLoad_166
              · skip
                refine k_iconst C ic_1 dX6_readLoad_132 ?_
                refine k_goto C (tgt := 137) (by decide) dX6_readLoad_133 ?_
                refine k_callVj C s_X6_191 h_X6_takes (L6_s (by assumption)) rfl (ct_X6_takes hx (F4.txt ht) hP4) rfl rfl (Nat.le_of_ble_eq_true rfl) ⟨Nat.le_of_ble_eq_true rfl, Nat.le_of_ble_eq_true rfl⟩ ⟨Nat.le_of_ble_eq_true rfl, Nat.le_of_ble_eq_true rfl⟩ ⟨rfl, rfl⟩ dX6_readLoad_137 ?_
                intro v I5 J5 hv
                obtain ⟨rfl, hP5, F5, G5⟩ := hv
                have F5 := F4.tr F5
                have G5 := G4.tr G5
                rw [show sp_tk tb n _ e4 = sp_tsS tb n e4 from by first | exact sp_tkS1 hP4 hc129 | exact sp_tkS0 hP4 hc129] at hP5 ⊢
                obtain ⟨e5, he5⟩ : ∃ z : Except Nat sp_S, z = sp_tsS tb n e4 := ⟨_, rfl⟩
                rw [← he5] at hP5 ⊢
                refine k_ifb_eq C (tgt := 166) (by decide) dX6_readLoad_140 (fun hc140 => ?_) (fun hc140 => ?_)
                · skip
                  exact k_vret C (Nat.le_of_ble_eq_true rfl) (Nat.le_of_ble_eq_true rfl) (⟨rfl, ⟨rfl, by
                      rw [rLoad_S (fun s hs => by
                        obtain ⟨s8, w1, w2⟩ := sp_bd_inv hs
                        by_cases q : decide (sp_nl s8.2 < 20) = true
                        · rw [if_pos q] at w2
                          cases w2
                          rw [w1] at hP
                          exact ⟨of_decide_eq_true q, hP.2.2.2.2.1.2.1⟩
                        · rw [if_neg q] at w2; cases w2) he1 he2 he3 he4 he5]
                      first
                      | (obtain ⟨x, hx5⟩ := sp_nok hc140
                         rw [hx5] at hP5 ⊢
                         exact hP5)
                      | (rw [hs5, ← hcr]
                         exact MP_set hPk hm hg (upd_bring hnl0 qB) (by rw [upd_ne (by omega), bring_at ⟨by omega, by omega, by omega, by omega, by omega⟩]; exact qL)), by
                      first
                      | exact F5.tr (f1_mpf hg)
                      | exact F5, G5⟩⟩) dX6_readLoad_166
                · skip
                  obtain ⟨s5, hs5⟩ := sp_ok_iff.mp hc140
                  have hrow : ∃ s : sp_S, e = .ok s ∧ sp_nl s.2 < 20 ∧ s5.2 = s.2 := by
                    obtain ⟨a4, b4, d4⟩ := tsS_inv (he5.symm.trans hs5)
                    obtain ⟨a3, b3, d3⟩ := tl_inv (he4.symm.trans b4)
                    obtain ⟨a2, b2, d2⟩ := tnS_inv (he3.symm.trans b3)
                    obtain ⟨a1, b1, d1⟩ := tnS_inv (he2.symm.trans b2)
                    obtain ⟨a0, b0, p0, d0⟩ := md_gt_inv (he1.symm.trans b1)
                    exact ⟨a0, b0, of_decide_eq_true p0, d4.trans (d3.trans (d2.trans (d1.trans d0)))⟩
                  obtain ⟨s0, hs0, hcnt, hs2⟩ := hrow
                  have hPk := hP5
                  rw [hs5] at hPk
                  obtain ⟨q17, q9, qT, qm, qB, qL⟩ := id hPk
                  have hnl0 : sp_nl s5.2 < 20 := by rw [hs2]; exact hcnt
                  refine k_aload_n C (f := 0) (i := 0) (p := 4) rfl rfl dX6_readLoad_143 ?_
                  refine k_getR C f_X6_13 (L6_s (by assumption)) (fun _ _ _ => rfl) (L6_1 (by assumption)) dX6_readLoad_144 ?_
                  refine k_iload_n C (f := 1) (i := 1) (p := 3) rfl rfl dX6_readLoad_147 ?_
                  refine k_iload_n C (f := 2) (i := 2) (p := 2) rfl rfl dX6_readLoad_148 ?_
                  refine k_callSg C s_X6_52 h_X6_addsLoad (ct_X6_addsLoad (A6_1 hx) qm qB hnl0) rfl rfl (Nat.le_of_ble_eq_true rfl) ⟨Nat.le_of_ble_eq_true rfl, Nat.le_of_ble_eq_true rfl⟩ ⟨Nat.le_of_ble_eq_true rfl, Nat.le_of_ble_eq_true rfl⟩ ⟨rfl, rfl⟩ dX6_readLoad_149 ?_
                  intro v I6 hv
                  obtain ⟨rfl, hm, hg⟩ := hv
                  refine k_istore C (i := 4) (lv := [(4, _), (3, _), (2, _), (1, _), (0, _)]) (Nat.le_of_ble_eq_true rfl) rfl dX6_readLoad_152 ?_
                  refine k_aload_n C (f := 0) (i := 0) (p := 4) rfl rfl dX6_readLoad_154 ?_
                  refine k_getR C f_X6_13 (L6_s (by assumption)) (fun _ _ _ => rfl) (L6_1 (by assumption)) dX6_readLoad_155 ?_
                  refine k_iload C (i := 4) (p := 0) rfl dX6_readLoad_158 ?_
                  refine k_iconst C ic_2 dX6_readLoad_160 ?_
                  refine k_callSp C s_X6_56 h_X6_loadAt (ct_X6_loadAt ) rfl rfl (Nat.le_of_ble_eq_true rfl) ⟨Nat.le_of_ble_eq_true rfl, Nat.le_of_ble_eq_true rfl⟩ ⟨Nat.le_of_ble_eq_true rfl, Nat.le_of_ble_eq_true rfl⟩ ⟨rfl, rfl⟩ dX6_readLoad_161 ?_
                  refine k_iload_n C (f := 3) (i := 3) (p := 1) rfl rfl dX6_readLoad_164 ?_
                  refine k_rst C (i := 142 + 4 * sp_nl s5.2) (A6_1 hx) (by first | rfl | assumption) (by omega) (by omega) hm hg dX6_readLoad_165 (fun I9 hm hg => ?_)
                  exact k_vret C (Nat.le_of_ble_eq_true rfl) (Nat.le_of_ble_eq_true rfl) (⟨rfl, ⟨rfl, by
                      rw [rLoad_S (fun s hs => by
                        obtain ⟨s8, w1, w2⟩ := sp_bd_inv hs
                        by_cases q : decide (sp_nl s8.2 < 20) = true
                        · rw [if_pos q] at w2
                          cases w2
                          rw [w1] at hP
                          exact ⟨of_decide_eq_true q, hP.2.2.2.2.1.2.1⟩
                        · rw [if_neg q] at w2; cases w2) he1 he2 he3 he4 he5]
                      first
                      | (obtain ⟨x, hx5⟩ := sp_nok hc140
                         rw [hx5] at hP5 ⊢
                         exact hP5)
                      | (rw [hs5, ← hcr]
                         exact MP_set hPk hm hg (upd_bring hnl0 qB) (by rw [upd_ne (by omega), bring_at ⟨by omega, by omega, by omega, by omega, by omega⟩]; exact qL)), by
                      first
                      | exact F5.tr (f1_mpf hg)
                      | exact F5, G5⟩⟩) dX6_readLoad_166
            · skip
              exact absurd (by decide) hc94
          · skip
            have hvn : (sp_nx tb n s3.1).2.2.2 < sp_nc s3.2 := by omega
            refine k_iconst C ic_1 dX6_readLoad_85 ?_
            refine k_goto C (tgt := 90) (by decide) dX6_readLoad_86 ?_
            refine k_istore C (i := 4) (lv := [(4, _), (3, _), (2, _), (1, _), (0, _)]) (Nat.le_of_ble_eq_true rfl) rfl dX6_readLoad_90 ?_
            refine k_iload C (i := 4) (p := 0) rfl dX6_readLoad_92 ?_
            refine k_if_eq C (tgt := 116) (by decide) dX6_readLoad_94 (fun hc94 => ?_) (fun hc94 => ?_)
            · skip
              exact absurd hc94 (by decide)
            · skip
              refine k_iload_n C (f := 1) (i := 1) (p := 3) rfl rfl dX6_readLoad_97 ?_
              refine k_aload_n C (f := 0) (i := 0) (p := 4) rfl rfl dX6_readLoad_98 ?_
              refine k_getR C f_X6_13 (L6_s (by assumption)) (fun _ _ _ => rfl) (L6_1 (by assumption)) dX6_readLoad_99 ?_
              refine k_iload_n C (f := 3) (i := 3) (p := 1) rfl rfl dX6_readLoad_102 ?_
              refine k_callSp C s_X6_209 h_X6_freeOf (ct_X6_freeOf (A6_1 hx) qm7 qB (by omega)) rfl rfl (Nat.le_of_ble_eq_true rfl) ⟨Nat.le_of_ble_eq_true rfl, Nat.le_of_ble_eq_true rfl⟩ ⟨Nat.le_of_ble_eq_true rfl, Nat.le_of_ble_eq_true rfl⟩ ⟨rfl, rfl⟩ dX6_readLoad_103 ?_
              refine k_icmp_gt C (tgt := 113) (by decide) dX6_readLoad_106 (fun hc106 => ?_) (fun hc106 => ?_)
              · skip
                refine k_iconst C ic_0 dX6_readLoad_113 ?_
                refine k_istore C (i := 4) (lv := [(4, _), (3, _), (2, _), (1, _), (0, _)]) (Nat.le_of_ble_eq_true rfl) rfl dX6_readLoad_114 ?_
                refine k_aload_n C (f := 0) (i := 0) (p := 4) rfl rfl dX6_readLoad_116 ?_
                refine k_iload C (i := 4) (p := 0) rfl dX6_readLoad_117 ?_
                refine k_callVj C s_X6_191 h_X6_takes (L6_s (by assumption)) rfl (ct_X6_takes hx (F7.txt ht) hP7) rfl rfl (Nat.le_of_ble_eq_true rfl) ⟨Nat.le_of_ble_eq_true rfl, Nat.le_of_ble_eq_true rfl⟩ ⟨Nat.le_of_ble_eq_true rfl, Nat.le_of_ble_eq_true rfl⟩ ⟨rfl, rfl⟩ dX6_readLoad_119 ?_
                intro v I4 J4 hv
                obtain ⟨rfl, hP4, F4, G4⟩ := hv
                have F4 := F7.tr F4
                have G4 := G7.tr G4
                have hg4 : ∃ z : Except Nat sp_S, MP I4 J4 y tb n z ∧ z = md_tl tb n (sp_tz tb n 1 99 e1) e3 := ⟨_, hP4, by
                  rw [hs3]
                  show _ = (if sp_isw tb s3.1 6 = true then _ else _)
                  rw [if_pos hon]
                  first
                  | (rw [sp_tk1]; exact (if_pos ⟨(nI_eq (by omega) (by decide)).mp (m14.symm.trans hc71), hvn, hc106⟩).symm)
                  | (have hcc := hc106
                     rw [sp_tk0]
                     exact (if_neg (fun z => z.2.2 hcc)).symm)
                  | (have hcc : sp_nc s3.2 ≤ (sp_nx tb n s3.1).2.2.2 := by omega
                     rw [sp_tk0]
                     exact (if_neg (fun z => absurd z.2.1 (by omega))).symm)
                  | (have hcc : ¬ I7 y 14 = nI 2 := hc71
                     rw [sp_tk0]
                     exact (if_neg (fun z => hcc (m14.trans (by rw [z.1])))).symm)⟩
                clear hP4
                obtain ⟨e4, hP4, he4⟩ := hg4
                have hcr : nI (sp_nx tb n s3.1).2.2.2 = md_cr tb n e3 := by
                  rw [hs3]
                  exact (if_pos hon).symm
                refine k_pop C rfl dX6_readLoad_122 ?_
                refine k_aload_n C (f := 0) (i := 0) (p := 4) rfl rfl dX6_readLoad_123 ?_
                refine k_aload_n C (f := 0) (i := 0) (p := 4) rfl rfl dX6_readLoad_124 ?_
                refine k_getI C f_X6_164 (L6_s (by assumption)) (fun _ _ _ => rfl) (rfl) dX6_readLoad_125 ?_
                refine k_iconst C ic_3 dX6_readLoad_128 ?_
                refine k_icmp_ne C (tgt := 136) (by decide) dX6_readLoad_129 (fun hc129 => ?_) (fun hc129 => ?_)
                · skip
                  refine k_iconst C ic_0 dX6_readLoad_136 ?_
                  refine k_callVj C s_X6_191 h_X6_takes (L6_s (by assumption)) rfl (ct_X6_takes hx (F4.txt ht) hP4) rfl rfl (Nat.le_of_ble_eq_true rfl) ⟨Nat.le_of_ble_eq_true rfl, Nat.le_of_ble_eq_true rfl⟩ ⟨Nat.le_of_ble_eq_true rfl, Nat.le_of_ble_eq_true rfl⟩ ⟨rfl, rfl⟩ dX6_readLoad_137 ?_
                  intro v I5 J5 hv
                  obtain ⟨rfl, hP5, F5, G5⟩ := hv
                  have F5 := F4.tr F5
                  have G5 := G4.tr G5
                  rw [show sp_tk tb n _ e4 = sp_tsS tb n e4 from by first | exact sp_tkS1 hP4 hc129 | exact sp_tkS0 hP4 hc129] at hP5 ⊢
                  obtain ⟨e5, he5⟩ : ∃ z : Except Nat sp_S, z = sp_tsS tb n e4 := ⟨_, rfl⟩
                  rw [← he5] at hP5 ⊢
                  refine k_ifb_eq C (tgt := 166) (by decide) dX6_readLoad_140 (fun hc140 => ?_) (fun hc140 => ?_)
                  · skip
                    exact k_vret C (Nat.le_of_ble_eq_true rfl) (Nat.le_of_ble_eq_true rfl) (⟨rfl, ⟨rfl, by
                        rw [rLoad_S (fun s hs => by
                          obtain ⟨s8, w1, w2⟩ := sp_bd_inv hs
                          by_cases q : decide (sp_nl s8.2 < 20) = true
                          · rw [if_pos q] at w2
                            cases w2
                            rw [w1] at hP
                            exact ⟨of_decide_eq_true q, hP.2.2.2.2.1.2.1⟩
                          · rw [if_neg q] at w2; cases w2) he1 he2 he3 he4 he5]
                        first
                        | (obtain ⟨x, hx5⟩ := sp_nok hc140
                           rw [hx5] at hP5 ⊢
                           exact hP5)
                        | (rw [hs5, ← hcr]
                           exact MP_set hPk hm hg (upd_bring hnl0 qB) (by rw [upd_ne (by omega), bring_at ⟨by omega, by omega, by omega, by omega, by omega⟩]; exact qL)), by
                        first
                        | exact F5.tr (f1_mpf hg)
                        | exact F5, G5⟩⟩) dX6_readLoad_166
                  · skip
                    obtain ⟨s5, hs5⟩ := sp_ok_iff.mp hc140
                    have hrow : ∃ s : sp_S, e = .ok s ∧ sp_nl s.2 < 20 ∧ s5.2 = s.2 := by
                      obtain ⟨a4, b4, d4⟩ := tsS_inv (he5.symm.trans hs5)
                      obtain ⟨a3, b3, d3⟩ := tl_inv (he4.symm.trans b4)
                      obtain ⟨a2, b2, d2⟩ := tnS_inv (he3.symm.trans b3)
                      obtain ⟨a1, b1, d1⟩ := tnS_inv (he2.symm.trans b2)
                      obtain ⟨a0, b0, p0, d0⟩ := md_gt_inv (he1.symm.trans b1)
                      exact ⟨a0, b0, of_decide_eq_true p0, d4.trans (d3.trans (d2.trans (d1.trans d0)))⟩
                    obtain ⟨s0, hs0, hcnt, hs2⟩ := hrow
                    have hPk := hP5
                    rw [hs5] at hPk
                    obtain ⟨q17, q9, qT, qm, qB, qL⟩ := id hPk
                    have hnl0 : sp_nl s5.2 < 20 := by rw [hs2]; exact hcnt
                    refine k_aload_n C (f := 0) (i := 0) (p := 4) rfl rfl dX6_readLoad_143 ?_
                    refine k_getR C f_X6_13 (L6_s (by assumption)) (fun _ _ _ => rfl) (L6_1 (by assumption)) dX6_readLoad_144 ?_
                    refine k_iload_n C (f := 1) (i := 1) (p := 3) rfl rfl dX6_readLoad_147 ?_
                    refine k_iload_n C (f := 2) (i := 2) (p := 2) rfl rfl dX6_readLoad_148 ?_
                    refine k_callSg C s_X6_52 h_X6_addsLoad (ct_X6_addsLoad (A6_1 hx) qm qB hnl0) rfl rfl (Nat.le_of_ble_eq_true rfl) ⟨Nat.le_of_ble_eq_true rfl, Nat.le_of_ble_eq_true rfl⟩ ⟨Nat.le_of_ble_eq_true rfl, Nat.le_of_ble_eq_true rfl⟩ ⟨rfl, rfl⟩ dX6_readLoad_149 ?_
                    intro v I6 hv
                    obtain ⟨rfl, hm, hg⟩ := hv
                    refine k_istore C (i := 4) (lv := [(4, _), (3, _), (2, _), (1, _), (0, _)]) (Nat.le_of_ble_eq_true rfl) rfl dX6_readLoad_152 ?_
                    refine k_aload_n C (f := 0) (i := 0) (p := 4) rfl rfl dX6_readLoad_154 ?_
                    refine k_getR C f_X6_13 (L6_s (by assumption)) (fun _ _ _ => rfl) (L6_1 (by assumption)) dX6_readLoad_155 ?_
                    refine k_iload C (i := 4) (p := 0) rfl dX6_readLoad_158 ?_
                    refine k_iconst C ic_2 dX6_readLoad_160 ?_
                    refine k_callSp C s_X6_56 h_X6_loadAt (ct_X6_loadAt ) rfl rfl (Nat.le_of_ble_eq_true rfl) ⟨Nat.le_of_ble_eq_true rfl, Nat.le_of_ble_eq_true rfl⟩ ⟨Nat.le_of_ble_eq_true rfl, Nat.le_of_ble_eq_true rfl⟩ ⟨rfl, rfl⟩ dX6_readLoad_161 ?_
                    refine k_iload_n C (f := 3) (i := 3) (p := 1) rfl rfl dX6_readLoad_164 ?_
                    refine k_rst C (i := 142 + 4 * sp_nl s5.2) (A6_1 hx) (by first | rfl | assumption) (by omega) (by omega) hm hg dX6_readLoad_165 (fun I9 hm hg => ?_)
                    exact k_vret C (Nat.le_of_ble_eq_true rfl) (Nat.le_of_ble_eq_true rfl) (⟨rfl, ⟨rfl, by
                        rw [rLoad_S (fun s hs => by
                          obtain ⟨s8, w1, w2⟩ := sp_bd_inv hs
                          by_cases q : decide (sp_nl s8.2 < 20) = true
                          · rw [if_pos q] at w2
                            cases w2
                            rw [w1] at hP
                            exact ⟨of_decide_eq_true q, hP.2.2.2.2.1.2.1⟩
                          · rw [if_neg q] at w2; cases w2) he1 he2 he3 he4 he5]
                        first
                        | (obtain ⟨x, hx5⟩ := sp_nok hc140
                           rw [hx5] at hP5 ⊢
                           exact hP5)
                        | (rw [hs5, ← hcr]
                           exact MP_set hPk hm hg (upd_bring hnl0 qB) (by rw [upd_ne (by omega), bring_at ⟨by omega, by omega, by omega, by omega, by omega⟩]; exact qL)), by
                        first
                        | exact F5.tr (f1_mpf hg)
                        | exact F5, G5⟩⟩) dX6_readLoad_166
                · skip
                  refine k_iconst C ic_1 dX6_readLoad_132 ?_
                  refine k_goto C (tgt := 137) (by decide) dX6_readLoad_133 ?_
                  refine k_callVj C s_X6_191 h_X6_takes (L6_s (by assumption)) rfl (ct_X6_takes hx (F4.txt ht) hP4) rfl rfl (Nat.le_of_ble_eq_true rfl) ⟨Nat.le_of_ble_eq_true rfl, Nat.le_of_ble_eq_true rfl⟩ ⟨Nat.le_of_ble_eq_true rfl, Nat.le_of_ble_eq_true rfl⟩ ⟨rfl, rfl⟩ dX6_readLoad_137 ?_
                  intro v I5 J5 hv
                  obtain ⟨rfl, hP5, F5, G5⟩ := hv
                  have F5 := F4.tr F5
                  have G5 := G4.tr G5
                  rw [show sp_tk tb n _ e4 = sp_tsS tb n e4 from by first | exact sp_tkS1 hP4 hc129 | exact sp_tkS0 hP4 hc129] at hP5 ⊢
                  obtain ⟨e5, he5⟩ : ∃ z : Except Nat sp_S, z = sp_tsS tb n e4 := ⟨_, rfl⟩
                  rw [← he5] at hP5 ⊢
                  refine k_ifb_eq C (tgt := 166) (by decide) dX6_readLoad_140 (fun hc140 => ?_) (fun hc140 => ?_)
                  · skip
                    exact k_vret C (Nat.le_of_ble_eq_true rfl) (Nat.le_of_ble_eq_true rfl) (⟨rfl, ⟨rfl, by
                        rw [rLoad_S (fun s hs => by
                          obtain ⟨s8, w1, w2⟩ := sp_bd_inv hs
                          by_cases q : decide (sp_nl s8.2 < 20) = true
                          · rw [if_pos q] at w2
                            cases w2
                            rw [w1] at hP
                            exact ⟨of_decide_eq_true q, hP.2.2.2.2.1.2.1⟩
                          · rw [if_neg q] at w2; cases w2) he1 he2 he3 he4 he5]
                        first
                        | (obtain ⟨x, hx5⟩ := sp_nok hc140
                           rw [hx5] at hP5 ⊢
                           exact hP5)
                        | (rw [hs5, ← hcr]
                           exact MP_set hPk hm hg (upd_bring hnl0 qB) (by rw [upd_ne (by omega), bring_at ⟨by omega, by omega, by omega, by omega, by omega⟩]; exact qL)), by
                        first
                        | exact F5.tr (f1_mpf hg)
                        | exact F5, G5⟩⟩) dX6_readLoad_166
                  · skip
                    obtain ⟨s5, hs5⟩ := sp_ok_iff.mp hc140
                    have hrow : ∃ s : sp_S, e = .ok s ∧ sp_nl s.2 < 20 ∧ s5.2 = s.2 := by
                      obtain ⟨a4, b4, d4⟩ := tsS_inv (he5.symm.trans hs5)
                      obtain ⟨a3, b3, d3⟩ := tl_inv (he4.symm.trans b4)
                      obtain ⟨a2, b2, d2⟩ := tnS_inv (he3.symm.trans b3)
                      obtain ⟨a1, b1, d1⟩ := tnS_inv (he2.symm.trans b2)
                      obtain ⟨a0, b0, p0, d0⟩ := md_gt_inv (he1.symm.trans b1)
                      exact ⟨a0, b0, of_decide_eq_true p0, d4.trans (d3.trans (d2.trans (d1.trans d0)))⟩
                    obtain ⟨s0, hs0, hcnt, hs2⟩ := hrow
                    have hPk := hP5
                    rw [hs5] at hPk
                    obtain ⟨q17, q9, qT, qm, qB, qL⟩ := id hPk
                    have hnl0 : sp_nl s5.2 < 20 := by rw [hs2]; exact hcnt
                    refine k_aload_n C (f := 0) (i := 0) (p := 4) rfl rfl dX6_readLoad_143 ?_
                    refine k_getR C f_X6_13 (L6_s (by assumption)) (fun _ _ _ => rfl) (L6_1 (by assumption)) dX6_readLoad_144 ?_
                    refine k_iload_n C (f := 1) (i := 1) (p := 3) rfl rfl dX6_readLoad_147 ?_
                    refine k_iload_n C (f := 2) (i := 2) (p := 2) rfl rfl dX6_readLoad_148 ?_
                    refine k_callSg C s_X6_52 h_X6_addsLoad (ct_X6_addsLoad (A6_1 hx) qm qB hnl0) rfl rfl (Nat.le_of_ble_eq_true rfl) ⟨Nat.le_of_ble_eq_true rfl, Nat.le_of_ble_eq_true rfl⟩ ⟨Nat.le_of_ble_eq_true rfl, Nat.le_of_ble_eq_true rfl⟩ ⟨rfl, rfl⟩ dX6_readLoad_149 ?_
                    intro v I6 hv
                    obtain ⟨rfl, hm, hg⟩ := hv
                    refine k_istore C (i := 4) (lv := [(4, _), (3, _), (2, _), (1, _), (0, _)]) (Nat.le_of_ble_eq_true rfl) rfl dX6_readLoad_152 ?_
                    refine k_aload_n C (f := 0) (i := 0) (p := 4) rfl rfl dX6_readLoad_154 ?_
                    refine k_getR C f_X6_13 (L6_s (by assumption)) (fun _ _ _ => rfl) (L6_1 (by assumption)) dX6_readLoad_155 ?_
                    refine k_iload C (i := 4) (p := 0) rfl dX6_readLoad_158 ?_
                    refine k_iconst C ic_2 dX6_readLoad_160 ?_
                    refine k_callSp C s_X6_56 h_X6_loadAt (ct_X6_loadAt ) rfl rfl (Nat.le_of_ble_eq_true rfl) ⟨Nat.le_of_ble_eq_true rfl, Nat.le_of_ble_eq_true rfl⟩ ⟨Nat.le_of_ble_eq_true rfl, Nat.le_of_ble_eq_true rfl⟩ ⟨rfl, rfl⟩ dX6_readLoad_161 ?_
                    refine k_iload_n C (f := 3) (i := 3) (p := 1) rfl rfl dX6_readLoad_164 ?_
                    refine k_rst C (i := 142 + 4 * sp_nl s5.2) (A6_1 hx) (by first | rfl | assumption) (by omega) (by omega) hm hg dX6_readLoad_165 (fun I9 hm hg => ?_)
                    exact k_vret C (Nat.le_of_ble_eq_true rfl) (Nat.le_of_ble_eq_true rfl) (⟨rfl, ⟨rfl, by
                        rw [rLoad_S (fun s hs => by
                          obtain ⟨s8, w1, w2⟩ := sp_bd_inv hs
                          by_cases q : decide (sp_nl s8.2 < 20) = true
                          · rw [if_pos q] at w2
                            cases w2
                            rw [w1] at hP
                            exact ⟨of_decide_eq_true q, hP.2.2.2.2.1.2.1⟩
                          · rw [if_neg q] at w2; cases w2) he1 he2 he3 he4 he5]
                        first
                        | (obtain ⟨x, hx5⟩ := sp_nok hc140
                           rw [hx5] at hP5 ⊢
                           exact hP5)
                        | (rw [hs5, ← hcr]
                           exact MP_set hPk hm hg (upd_bring hnl0 qB) (by rw [upd_ne (by omega), bring_at ⟨by omega, by omega, by omega, by omega, by omega⟩]; exact qL)), by
                        first
                        | exact F5.tr (f1_mpf hg)
                        | exact F5, G5⟩⟩) dX6_readLoad_166
              · skip
                refine k_iconst C ic_1 dX6_readLoad_109 ?_
                refine k_goto C (tgt := 114) (by decide) dX6_readLoad_110 ?_
                refine k_istore C (i := 4) (lv := [(4, _), (3, _), (2, _), (1, _), (0, _)]) (Nat.le_of_ble_eq_true rfl) rfl dX6_readLoad_114 ?_
                refine k_aload_n C (f := 0) (i := 0) (p := 4) rfl rfl dX6_readLoad_116 ?_
                refine k_iload C (i := 4) (p := 0) rfl dX6_readLoad_117 ?_
                refine k_callVj C s_X6_191 h_X6_takes (L6_s (by assumption)) rfl (ct_X6_takes hx (F7.txt ht) hP7) rfl rfl (Nat.le_of_ble_eq_true rfl) ⟨Nat.le_of_ble_eq_true rfl, Nat.le_of_ble_eq_true rfl⟩ ⟨Nat.le_of_ble_eq_true rfl, Nat.le_of_ble_eq_true rfl⟩ ⟨rfl, rfl⟩ dX6_readLoad_119 ?_
                intro v I4 J4 hv
                obtain ⟨rfl, hP4, F4, G4⟩ := hv
                have F4 := F7.tr F4
                have G4 := G7.tr G4
                have hg4 : ∃ z : Except Nat sp_S, MP I4 J4 y tb n z ∧ z = md_tl tb n (sp_tz tb n 1 99 e1) e3 := ⟨_, hP4, by
                  rw [hs3]
                  show _ = (if sp_isw tb s3.1 6 = true then _ else _)
                  rw [if_pos hon]
                  first
                  | (rw [sp_tk1]; exact (if_pos ⟨(nI_eq (by omega) (by decide)).mp (m14.symm.trans hc71), hvn, hc106⟩).symm)
                  | (have hcc := hc106
                     rw [sp_tk0]
                     exact (if_neg (fun z => z.2.2 hcc)).symm)
                  | (have hcc : sp_nc s3.2 ≤ (sp_nx tb n s3.1).2.2.2 := by omega
                     rw [sp_tk0]
                     exact (if_neg (fun z => absurd z.2.1 (by omega))).symm)
                  | (have hcc : ¬ I7 y 14 = nI 2 := hc71
                     rw [sp_tk0]
                     exact (if_neg (fun z => hcc (m14.trans (by rw [z.1])))).symm)⟩
                clear hP4
                obtain ⟨e4, hP4, he4⟩ := hg4
                have hcr : nI (sp_nx tb n s3.1).2.2.2 = md_cr tb n e3 := by
                  rw [hs3]
                  exact (if_pos hon).symm
                refine k_pop C rfl dX6_readLoad_122 ?_
                refine k_aload_n C (f := 0) (i := 0) (p := 4) rfl rfl dX6_readLoad_123 ?_
                refine k_aload_n C (f := 0) (i := 0) (p := 4) rfl rfl dX6_readLoad_124 ?_
                refine k_getI C f_X6_164 (L6_s (by assumption)) (fun _ _ _ => rfl) (rfl) dX6_readLoad_125 ?_
                refine k_iconst C ic_3 dX6_readLoad_128 ?_
                refine k_icmp_ne C (tgt := 136) (by decide) dX6_readLoad_129 (fun hc129 => ?_) (fun hc129 => ?_)
                · skip
                  refine k_iconst C ic_0 dX6_readLoad_136 ?_
                  refine k_callVj C s_X6_191 h_X6_takes (L6_s (by assumption)) rfl (ct_X6_takes hx (F4.txt ht) hP4) rfl rfl (Nat.le_of_ble_eq_true rfl) ⟨Nat.le_of_ble_eq_true rfl, Nat.le_of_ble_eq_true rfl⟩ ⟨Nat.le_of_ble_eq_true rfl, Nat.le_of_ble_eq_true rfl⟩ ⟨rfl, rfl⟩ dX6_readLoad_137 ?_
                  intro v I5 J5 hv
                  obtain ⟨rfl, hP5, F5, G5⟩ := hv
                  have F5 := F4.tr F5
                  have G5 := G4.tr G5
                  rw [show sp_tk tb n _ e4 = sp_tsS tb n e4 from by first | exact sp_tkS1 hP4 hc129 | exact sp_tkS0 hP4 hc129] at hP5 ⊢
                  obtain ⟨e5, he5⟩ : ∃ z : Except Nat sp_S, z = sp_tsS tb n e4 := ⟨_, rfl⟩
                  rw [← he5] at hP5 ⊢
                  refine k_ifb_eq C (tgt := 166) (by decide) dX6_readLoad_140 (fun hc140 => ?_) (fun hc140 => ?_)
                  · skip
                    exact k_vret C (Nat.le_of_ble_eq_true rfl) (Nat.le_of_ble_eq_true rfl) (⟨rfl, ⟨rfl, by
                        rw [rLoad_S (fun s hs => by
                          obtain ⟨s8, w1, w2⟩ := sp_bd_inv hs
                          by_cases q : decide (sp_nl s8.2 < 20) = true
                          · rw [if_pos q] at w2
                            cases w2
                            rw [w1] at hP
                            exact ⟨of_decide_eq_true q, hP.2.2.2.2.1.2.1⟩
                          · rw [if_neg q] at w2; cases w2) he1 he2 he3 he4 he5]
                        first
                        | (obtain ⟨x, hx5⟩ := sp_nok hc140
                           rw [hx5] at hP5 ⊢
                           exact hP5)
                        | (rw [hs5, ← hcr]
                           exact MP_set hPk hm hg (upd_bring hnl0 qB) (by rw [upd_ne (by omega), bring_at ⟨by omega, by omega, by omega, by omega, by omega⟩]; exact qL)), by
                        first
                        | exact F5.tr (f1_mpf hg)
                        | exact F5, G5⟩⟩) dX6_readLoad_166
                  · skip
                    obtain ⟨s5, hs5⟩ := sp_ok_iff.mp hc140
                    have hrow : ∃ s : sp_S, e = .ok s ∧ sp_nl s.2 < 20 ∧ s5.2 = s.2 := by
                      obtain ⟨a4, b4, d4⟩ := tsS_inv (he5.symm.trans hs5)
                      obtain ⟨a3, b3, d3⟩ := tl_inv (he4.symm.trans b4)
                      obtain ⟨a2, b2, d2⟩ := tnS_inv (he3.symm.trans b3)
                      obtain ⟨a1, b1, d1⟩ := tnS_inv (he2.symm.trans b2)
                      obtain ⟨a0, b0, p0, d0⟩ := md_gt_inv (he1.symm.trans b1)
                      exact ⟨a0, b0, of_decide_eq_true p0, d4.trans (d3.trans (d2.trans (d1.trans d0)))⟩
                    obtain ⟨s0, hs0, hcnt, hs2⟩ := hrow
                    have hPk := hP5
                    rw [hs5] at hPk
                    obtain ⟨q17, q9, qT, qm, qB, qL⟩ := id hPk
                    have hnl0 : sp_nl s5.2 < 20 := by rw [hs2]; exact hcnt
                    refine k_aload_n C (f := 0) (i := 0) (p := 4) rfl rfl dX6_readLoad_143 ?_
                    refine k_getR C f_X6_13 (L6_s (by assumption)) (fun _ _ _ => rfl) (L6_1 (by assumption)) dX6_readLoad_144 ?_
                    refine k_iload_n C (f := 1) (i := 1) (p := 3) rfl rfl dX6_readLoad_147 ?_
                    refine k_iload_n C (f := 2) (i := 2) (p := 2) rfl rfl dX6_readLoad_148 ?_
                    refine k_callSg C s_X6_52 h_X6_addsLoad (ct_X6_addsLoad (A6_1 hx) qm qB hnl0) rfl rfl (Nat.le_of_ble_eq_true rfl) ⟨Nat.le_of_ble_eq_true rfl, Nat.le_of_ble_eq_true rfl⟩ ⟨Nat.le_of_ble_eq_true rfl, Nat.le_of_ble_eq_true rfl⟩ ⟨rfl, rfl⟩ dX6_readLoad_149 ?_
                    intro v I6 hv
                    obtain ⟨rfl, hm, hg⟩ := hv
                    refine k_istore C (i := 4) (lv := [(4, _), (3, _), (2, _), (1, _), (0, _)]) (Nat.le_of_ble_eq_true rfl) rfl dX6_readLoad_152 ?_
                    refine k_aload_n C (f := 0) (i := 0) (p := 4) rfl rfl dX6_readLoad_154 ?_
                    refine k_getR C f_X6_13 (L6_s (by assumption)) (fun _ _ _ => rfl) (L6_1 (by assumption)) dX6_readLoad_155 ?_
                    refine k_iload C (i := 4) (p := 0) rfl dX6_readLoad_158 ?_
                    refine k_iconst C ic_2 dX6_readLoad_160 ?_
                    refine k_callSp C s_X6_56 h_X6_loadAt (ct_X6_loadAt ) rfl rfl (Nat.le_of_ble_eq_true rfl) ⟨Nat.le_of_ble_eq_true rfl, Nat.le_of_ble_eq_true rfl⟩ ⟨Nat.le_of_ble_eq_true rfl, Nat.le_of_ble_eq_true rfl⟩ ⟨rfl, rfl⟩ dX6_readLoad_161 ?_
                    refine k_iload_n C (f := 3) (i := 3) (p := 1) rfl rfl dX6_readLoad_164 ?_
                    refine k_rst C (i := 142 + 4 * sp_nl s5.2) (A6_1 hx) (by first | rfl | assumption) (by omega) (by omega) hm hg dX6_readLoad_165 (fun I9 hm hg => ?_)
                    exact k_vret C (Nat.le_of_ble_eq_true rfl) (Nat.le_of_ble_eq_true rfl) (⟨rfl, ⟨rfl, by
                        rw [rLoad_S (fun s hs => by
                          obtain ⟨s8, w1, w2⟩ := sp_bd_inv hs
                          by_cases q : decide (sp_nl s8.2 < 20) = true
                          · rw [if_pos q] at w2
                            cases w2
                            rw [w1] at hP
                            exact ⟨of_decide_eq_true q, hP.2.2.2.2.1.2.1⟩
                          · rw [if_neg q] at w2; cases w2) he1 he2 he3 he4 he5]
                        first
                        | (obtain ⟨x, hx5⟩ := sp_nok hc140
                           rw [hx5] at hP5 ⊢
                           exact hP5)
                        | (rw [hs5, ← hcr]
                           exact MP_set hPk hm hg (upd_bring hnl0 qB) (by rw [upd_ne (by omega), bring_at ⟨by omega, by omega, by omega, by omega, by omega⟩]; exact qL)), by
                        first
                        | exact F5.tr (f1_mpf hg)
                        | exact F5, G5⟩⟩) dX6_readLoad_166
                · skip
                  refine k_iconst C ic_1 dX6_readLoad_132 ?_
                  refine k_goto C (tgt := 137) (by decide) dX6_readLoad_133 ?_
                  refine k_callVj C s_X6_191 h_X6_takes (L6_s (by assumption)) rfl (ct_X6_takes hx (F4.txt ht) hP4) rfl rfl (Nat.le_of_ble_eq_true rfl) ⟨Nat.le_of_ble_eq_true rfl, Nat.le_of_ble_eq_true rfl⟩ ⟨Nat.le_of_ble_eq_true rfl, Nat.le_of_ble_eq_true rfl⟩ ⟨rfl, rfl⟩ dX6_readLoad_137 ?_
                  intro v I5 J5 hv
                  obtain ⟨rfl, hP5, F5, G5⟩ := hv
                  have F5 := F4.tr F5
                  have G5 := G4.tr G5
                  rw [show sp_tk tb n _ e4 = sp_tsS tb n e4 from by first | exact sp_tkS1 hP4 hc129 | exact sp_tkS0 hP4 hc129] at hP5 ⊢
                  obtain ⟨e5, he5⟩ : ∃ z : Except Nat sp_S, z = sp_tsS tb n e4 := ⟨_, rfl⟩
                  rw [← he5] at hP5 ⊢
                  refine k_ifb_eq C (tgt := 166) (by decide) dX6_readLoad_140 (fun hc140 => ?_) (fun hc140 => ?_)
                  · skip
                    exact k_vret C (Nat.le_of_ble_eq_true rfl) (Nat.le_of_ble_eq_true rfl) (⟨rfl, ⟨rfl, by
                        rw [rLoad_S (fun s hs => by
                          obtain ⟨s8, w1, w2⟩ := sp_bd_inv hs
                          by_cases q : decide (sp_nl s8.2 < 20) = true
                          · rw [if_pos q] at w2
                            cases w2
                            rw [w1] at hP
                            exact ⟨of_decide_eq_true q, hP.2.2.2.2.1.2.1⟩
                          · rw [if_neg q] at w2; cases w2) he1 he2 he3 he4 he5]
                        first
                        | (obtain ⟨x, hx5⟩ := sp_nok hc140
                           rw [hx5] at hP5 ⊢
                           exact hP5)
                        | (rw [hs5, ← hcr]
                           exact MP_set hPk hm hg (upd_bring hnl0 qB) (by rw [upd_ne (by omega), bring_at ⟨by omega, by omega, by omega, by omega, by omega⟩]; exact qL)), by
                        first
                        | exact F5.tr (f1_mpf hg)
                        | exact F5, G5⟩⟩) dX6_readLoad_166
                  · skip
                    obtain ⟨s5, hs5⟩ := sp_ok_iff.mp hc140
                    have hrow : ∃ s : sp_S, e = .ok s ∧ sp_nl s.2 < 20 ∧ s5.2 = s.2 := by
                      obtain ⟨a4, b4, d4⟩ := tsS_inv (he5.symm.trans hs5)
                      obtain ⟨a3, b3, d3⟩ := tl_inv (he4.symm.trans b4)
                      obtain ⟨a2, b2, d2⟩ := tnS_inv (he3.symm.trans b3)
                      obtain ⟨a1, b1, d1⟩ := tnS_inv (he2.symm.trans b2)
                      obtain ⟨a0, b0, p0, d0⟩ := md_gt_inv (he1.symm.trans b1)
                      exact ⟨a0, b0, of_decide_eq_true p0, d4.trans (d3.trans (d2.trans (d1.trans d0)))⟩
                    obtain ⟨s0, hs0, hcnt, hs2⟩ := hrow
                    have hPk := hP5
                    rw [hs5] at hPk
                    obtain ⟨q17, q9, qT, qm, qB, qL⟩ := id hPk
                    have hnl0 : sp_nl s5.2 < 20 := by rw [hs2]; exact hcnt
                    refine k_aload_n C (f := 0) (i := 0) (p := 4) rfl rfl dX6_readLoad_143 ?_
                    refine k_getR C f_X6_13 (L6_s (by assumption)) (fun _ _ _ => rfl) (L6_1 (by assumption)) dX6_readLoad_144 ?_
                    refine k_iload_n C (f := 1) (i := 1) (p := 3) rfl rfl dX6_readLoad_147 ?_
                    refine k_iload_n C (f := 2) (i := 2) (p := 2) rfl rfl dX6_readLoad_148 ?_
                    refine k_callSg C s_X6_52 h_X6_addsLoad (ct_X6_addsLoad (A6_1 hx) qm qB hnl0) rfl rfl (Nat.le_of_ble_eq_true rfl) ⟨Nat.le_of_ble_eq_true rfl, Nat.le_of_ble_eq_true rfl⟩ ⟨Nat.le_of_ble_eq_true rfl, Nat.le_of_ble_eq_true rfl⟩ ⟨rfl, rfl⟩ dX6_readLoad_149 ?_
                    intro v I6 hv
                    obtain ⟨rfl, hm, hg⟩ := hv
                    refine k_istore C (i := 4) (lv := [(4, _), (3, _), (2, _), (1, _), (0, _)]) (Nat.le_of_ble_eq_true rfl) rfl dX6_readLoad_152 ?_
                    refine k_aload_n C (f := 0) (i := 0) (p := 4) rfl rfl dX6_readLoad_154 ?_
                    refine k_getR C f_X6_13 (L6_s (by assumption)) (fun _ _ _ => rfl) (L6_1 (by assumption)) dX6_readLoad_155 ?_
                    refine k_iload C (i := 4) (p := 0) rfl dX6_readLoad_158 ?_
                    refine k_iconst C ic_2 dX6_readLoad_160 ?_
                    refine k_callSp C s_X6_56 h_X6_loadAt (ct_X6_loadAt ) rfl rfl (Nat.le_of_ble_eq_true rfl) ⟨Nat.le_of_ble_eq_true rfl, Nat.le_of_ble_eq_true rfl⟩ ⟨Nat.le_of_ble_eq_true rfl, Nat.le_of_ble_eq_true rfl⟩ ⟨rfl, rfl⟩ dX6_readLoad_161 ?_
                    refine k_iload_n C (f := 3) (i := 3) (p := 1) rfl rfl dX6_readLoad_164 ?_
                    refine k_rst C (i := 142 + 4 * sp_nl s5.2) (A6_1 hx) (by first | rfl | assumption) (by omega) (by omega) hm hg dX6_readLoad_165 (fun I9 hm hg => ?_)
                    exact k_vret C (Nat.le_of_ble_eq_true rfl) (Nat.le_of_ble_eq_true rfl) (⟨rfl, ⟨rfl, by
                        rw [rLoad_S (fun s hs => by
                          obtain ⟨s8, w1, w2⟩ := sp_bd_inv hs
                          by_cases q : decide (sp_nl s8.2 < 20) = true
                          · rw [if_pos q] at w2
                            cases w2
                            rw [w1] at hP
                            exact ⟨of_decide_eq_true q, hP.2.2.2.2.1.2.1⟩
                          · rw [if_neg q] at w2; cases w2) he1 he2 he3 he4 he5]
                        first
                        | (obtain ⟨x, hx5⟩ := sp_nok hc140
                           rw [hx5] at hP5 ⊢
                           exact hP5)
                        | (rw [hs5, ← hcr]
                           exact MP_set hPk hm hg (upd_bring hnl0 qB) (by rw [upd_ne (by omega), bring_at ⟨by omega, by omega, by omega, by omega, by omega⟩]; exact qL)), by
                        first
                        | exact F5.tr (f1_mpf hg)
                        | exact F5, G5⟩⟩) dX6_readLoad_166
  · skip
    refine k_iconst C ic_1 dX6_readLoad_13 ?_
    refine k_goto C (tgt := 18) (by decide) dX6_readLoad_14 ?_
    refine k_callVj C s_X6_191 h_X6_takes (L6_s (by assumption)) rfl (ct_X6_takes hx ht hP) rfl rfl (Nat.le_of_ble_eq_true rfl) ⟨Nat.le_of_ble_eq_true rfl, Nat.le_of_ble_eq_true rfl⟩ ⟨Nat.le_of_ble_eq_true rfl, Nat.le_of_ble_eq_true rfl⟩ ⟨rfl, rfl⟩ dX6_readLoad_18 ?_
    intro v I1 J1 hv
    obtain ⟨rfl, hP1, F1, G1⟩ := hv
    have hg1 : ∃ z : Except Nat sp_S, MP I1 J1 y tb n z ∧ z = sp_bd (md_gt (fun s => decide (sp_nl s.2 < 20)) e) (md_nx tb n) := ⟨_, hP1, by
      first
      | exact md_gt1 (fun s hs => by
          subst hs
          have z := hrs s rfl
          subst z
          exact decide_eq_true (by omega))
      | exact md_gt0 (fun s hs w => by
          subst hs
          have z := hrs s rfl
          subst z
          have w2 := of_decide_eq_true w
          omega)⟩
    clear hP1
    obtain ⟨e1, hP1, he1⟩ := hg1
    refine k_pop C rfl dX6_readLoad_21 ?_
    refine k_aload_n C (f := 0) (i := 0) (p := 0) rfl rfl dX6_readLoad_22 ?_
    refine k_iconst C ic_1 dX6_readLoad_23 ?_
    refine k_bipush C bc_99 dX6_readLoad_24 ?_
    refine k_callVj C s_X6_201 h_X6_takesNumber (L6_s (by assumption)) rfl (ct_X6_takesNumber hx (F1.txt ht) hP1 (by decide)) rfl rfl (Nat.le_of_ble_eq_true rfl) ⟨Nat.le_of_ble_eq_true rfl, Nat.le_of_ble_eq_true rfl⟩ ⟨Nat.le_of_ble_eq_true rfl, Nat.le_of_ble_eq_true rfl⟩ ⟨rfl, rfl⟩ dX6_readLoad_26 ?_
    intro v I2 J2 hv
    obtain ⟨rfl, hP2, F2, G2⟩ := hv
    have F2 := F1.tr F2
    have G2 := G1.tr G2
    obtain ⟨e2, he2⟩ : ∃ z : Except Nat sp_S, z = sp_tnS tb n 1 99 e1 := ⟨_, rfl⟩
    rw [← he2] at hP2
    refine k_istore_n C (f := 1) (i := 1) (lv := [(1, _), (0, _)]) rfl (Nat.le_of_ble_eq_true rfl) rfl dX6_readLoad_29 ?_
    refine k_aload_n C (f := 0) (i := 0) (p := 1) rfl rfl dX6_readLoad_30 ?_
    refine k_iconst C ic_1 dX6_readLoad_31 ?_
    refine k_bipush C bc_99 dX6_readLoad_32 ?_
    refine k_callVj C s_X6_201 h_X6_takesNumber (L6_s (by assumption)) rfl (ct_X6_takesNumber hx (F2.txt ht) hP2 (by decide)) rfl rfl (Nat.le_of_ble_eq_true rfl) ⟨Nat.le_of_ble_eq_true rfl, Nat.le_of_ble_eq_true rfl⟩ ⟨Nat.le_of_ble_eq_true rfl, Nat.le_of_ble_eq_true rfl⟩ ⟨rfl, rfl⟩ dX6_readLoad_34 ?_
    intro v I3 J3 hv
    obtain ⟨rfl, hP3, F3, G3⟩ := hv
    have F3 := F2.tr F3
    have G3 := G2.tr G3
    obtain ⟨e3, he3⟩ : ∃ z : Except Nat sp_S, z = sp_tnS tb n 1 99 e2 := ⟨_, rfl⟩
    rw [← he3] at hP3
    refine k_istore_n C (f := 2) (i := 2) (lv := [(2, _), (1, _), (0, _)]) rfl (Nat.le_of_ble_eq_true rfl) rfl dX6_readLoad_37 ?_
    refine k_iconst C ic_m1 dX6_readLoad_38 ?_
    refine k_istore_n C (f := 3) (i := 3) (lv := [(3, _), (2, _), (1, _), (0, _)]) rfl (Nat.le_of_ble_eq_true rfl) rfl dX6_readLoad_39 ?_
    refine k_aload_n C (f := 0) (i := 0) (p := 3) rfl rfl dX6_readLoad_40 ?_
    refine k_getI C f_X6_184 (L6_s (by assumption)) (fun _ _ _ => rfl) (MP_17 hP3) dX6_readLoad_41 ?_
    first
    | refine k_ifb_ne C (tgt := 123) (by decide) dX6_readLoad_44 (fun hc44 => ?_) (fun hc44 => ?_)
    | refine k_if_ne C (tgt := 123) (by decide) dX6_readLoad_44 (fun hc44 => ?_) (fun hc44 => ?_)
    · skip
      obtain ⟨I4, hI4⟩ : ∃ z : am_I, z = I3 := ⟨_, rfl⟩
      obtain ⟨J4, hJ4⟩ : ∃ z : am_J, z = J3 := ⟨_, rfl⟩
      obtain ⟨e4, he4a⟩ : ∃ z : Except Nat sp_S, z = e3 := ⟨_, rfl⟩
      have hP4 : MP I4 J4 y tb n e4 := by rw [hI4, hJ4, he4a]; exact hP3
      have F4 : MPf y I I4 := by rw [hI4]; exact F3
      have G4 : JFr y J J4 := by rw [hJ4]; exact G3
      rw [← hI4, ← hJ4]
      have hcr : (-1 : Int32) = md_cr tb n e3 := by
        obtain ⟨x, hx3⟩ := sp_nok hc44
        rw [hx3]
        rfl
      have he4 : e4 = md_tl tb n (sp_tz tb n 1 99 e1) e3 := by
        rw [he4a]
        obtain ⟨x, hx3⟩ := sp_nok hc44
        rw [hx3]
        rfl
      clear hI4 hJ4 he4a
      refine k_aload_n C (f := 0) (i := 0) (p := 3) rfl rfl dX6_readLoad_123 ?_
      refine k_aload_n C (f := 0) (i := 0) (p := 3) rfl rfl dX6_readLoad_124 ?_
      refine k_getI C f_X6_164 (L6_s (by assumption)) (fun _ _ _ => rfl) (rfl) dX6_readLoad_125 ?_
      refine k_iconst C ic_3 dX6_readLoad_128 ?_
      refine k_icmp_ne C (tgt := 136) (by decide) dX6_readLoad_129 (fun hc129 => ?_) (fun hc129 => ?_)
      · skip
        refine k_iconst C ic_0 dX6_readLoad_136 ?_
        refine k_callVj C s_X6_191 h_X6_takes (L6_s (by assumption)) rfl (ct_X6_takes hx (F4.txt ht) hP4) rfl rfl (Nat.le_of_ble_eq_true rfl) ⟨Nat.le_of_ble_eq_true rfl, Nat.le_of_ble_eq_true rfl⟩ ⟨Nat.le_of_ble_eq_true rfl, Nat.le_of_ble_eq_true rfl⟩ ⟨rfl, rfl⟩ dX6_readLoad_137 ?_
        intro v I5 J5 hv
        obtain ⟨rfl, hP5, F5, G5⟩ := hv
        have F5 := F4.tr F5
        have G5 := G4.tr G5
        rw [show sp_tk tb n _ e4 = sp_tsS tb n e4 from by first | exact sp_tkS1 hP4 hc129 | exact sp_tkS0 hP4 hc129] at hP5 ⊢
        obtain ⟨e5, he5⟩ : ∃ z : Except Nat sp_S, z = sp_tsS tb n e4 := ⟨_, rfl⟩
        rw [← he5] at hP5 ⊢
        refine k_ifb_eq C (tgt := 166) (by decide) dX6_readLoad_140 (fun hc140 => ?_) (fun hc140 => ?_)
        · skip
          exact k_vret C (Nat.le_of_ble_eq_true rfl) (Nat.le_of_ble_eq_true rfl) (⟨rfl, ⟨rfl, by
              rw [rLoad_S (fun s hs => by
                obtain ⟨s8, w1, w2⟩ := sp_bd_inv hs
                by_cases q : decide (sp_nl s8.2 < 20) = true
                · rw [if_pos q] at w2
                  cases w2
                  rw [w1] at hP
                  exact ⟨of_decide_eq_true q, hP.2.2.2.2.1.2.1⟩
                · rw [if_neg q] at w2; cases w2) he1 he2 he3 he4 he5]
              first
              | (obtain ⟨x, hx5⟩ := sp_nok hc140
                 rw [hx5] at hP5 ⊢
                 exact hP5)
              | (rw [hs5, ← hcr]
                 exact MP_set hPk hm hg (upd_bring hnl0 qB) (by rw [upd_ne (by omega), bring_at ⟨by omega, by omega, by omega, by omega, by omega⟩]; exact qL)), by
              first
              | exact F5.tr (f1_mpf hg)
              | exact F5, G5⟩⟩) dX6_readLoad_166
        · skip
          obtain ⟨s5, hs5⟩ := sp_ok_iff.mp hc140
          have hrow : ∃ s : sp_S, e = .ok s ∧ sp_nl s.2 < 20 ∧ s5.2 = s.2 := by
            obtain ⟨a4, b4, d4⟩ := tsS_inv (he5.symm.trans hs5)
            obtain ⟨a3, b3, d3⟩ := tl_inv (he4.symm.trans b4)
            obtain ⟨a2, b2, d2⟩ := tnS_inv (he3.symm.trans b3)
            obtain ⟨a1, b1, d1⟩ := tnS_inv (he2.symm.trans b2)
            obtain ⟨a0, b0, p0, d0⟩ := md_gt_inv (he1.symm.trans b1)
            exact ⟨a0, b0, of_decide_eq_true p0, d4.trans (d3.trans (d2.trans (d1.trans d0)))⟩
          obtain ⟨s0, hs0, hcnt, hs2⟩ := hrow
          have hPk := hP5
          rw [hs5] at hPk
          obtain ⟨q17, q9, qT, qm, qB, qL⟩ := id hPk
          have hnl0 : sp_nl s5.2 < 20 := by rw [hs2]; exact hcnt
          refine k_aload_n C (f := 0) (i := 0) (p := 3) rfl rfl dX6_readLoad_143 ?_
          refine k_getR C f_X6_13 (L6_s (by assumption)) (fun _ _ _ => rfl) (L6_1 (by assumption)) dX6_readLoad_144 ?_
          refine k_iload_n C (f := 1) (i := 1) (p := 2) rfl rfl dX6_readLoad_147 ?_
          refine k_iload_n C (f := 2) (i := 2) (p := 1) rfl rfl dX6_readLoad_148 ?_
          refine k_callSg C s_X6_52 h_X6_addsLoad (ct_X6_addsLoad (A6_1 hx) qm qB hnl0) rfl rfl (Nat.le_of_ble_eq_true rfl) ⟨Nat.le_of_ble_eq_true rfl, Nat.le_of_ble_eq_true rfl⟩ ⟨Nat.le_of_ble_eq_true rfl, Nat.le_of_ble_eq_true rfl⟩ ⟨rfl, rfl⟩ dX6_readLoad_149 ?_
          intro v I6 hv
          obtain ⟨rfl, hm, hg⟩ := hv
          refine k_istore C (i := 4) (lv := [(4, _), (3, _), (2, _), (1, _), (0, _)]) (Nat.le_of_ble_eq_true rfl) rfl dX6_readLoad_152 ?_
          refine k_aload_n C (f := 0) (i := 0) (p := 4) rfl rfl dX6_readLoad_154 ?_
          refine k_getR C f_X6_13 (L6_s (by assumption)) (fun _ _ _ => rfl) (L6_1 (by assumption)) dX6_readLoad_155 ?_
          refine k_iload C (i := 4) (p := 0) rfl dX6_readLoad_158 ?_
          refine k_iconst C ic_2 dX6_readLoad_160 ?_
          refine k_callSp C s_X6_56 h_X6_loadAt (ct_X6_loadAt ) rfl rfl (Nat.le_of_ble_eq_true rfl) ⟨Nat.le_of_ble_eq_true rfl, Nat.le_of_ble_eq_true rfl⟩ ⟨Nat.le_of_ble_eq_true rfl, Nat.le_of_ble_eq_true rfl⟩ ⟨rfl, rfl⟩ dX6_readLoad_161 ?_
          refine k_iload_n C (f := 3) (i := 3) (p := 1) rfl rfl dX6_readLoad_164 ?_
          refine k_rst C (i := 142 + 4 * sp_nl s5.2) (A6_1 hx) (by first | rfl | assumption) (by omega) (by omega) hm hg dX6_readLoad_165 (fun I9 hm hg => ?_)
          exact k_vret C (Nat.le_of_ble_eq_true rfl) (Nat.le_of_ble_eq_true rfl) (⟨rfl, ⟨rfl, by
              rw [rLoad_S (fun s hs => by
                obtain ⟨s8, w1, w2⟩ := sp_bd_inv hs
                by_cases q : decide (sp_nl s8.2 < 20) = true
                · rw [if_pos q] at w2
                  cases w2
                  rw [w1] at hP
                  exact ⟨of_decide_eq_true q, hP.2.2.2.2.1.2.1⟩
                · rw [if_neg q] at w2; cases w2) he1 he2 he3 he4 he5]
              first
              | (obtain ⟨x, hx5⟩ := sp_nok hc140
                 rw [hx5] at hP5 ⊢
                 exact hP5)
              | (rw [hs5, ← hcr]
                 exact MP_set hPk hm hg (upd_bring hnl0 qB) (by rw [upd_ne (by omega), bring_at ⟨by omega, by omega, by omega, by omega, by omega⟩]; exact qL)), by
              first
              | exact F5.tr (f1_mpf hg)
              | exact F5, G5⟩⟩) dX6_readLoad_166
      · skip
        refine k_iconst C ic_1 dX6_readLoad_132 ?_
        refine k_goto C (tgt := 137) (by decide) dX6_readLoad_133 ?_
        refine k_callVj C s_X6_191 h_X6_takes (L6_s (by assumption)) rfl (ct_X6_takes hx (F4.txt ht) hP4) rfl rfl (Nat.le_of_ble_eq_true rfl) ⟨Nat.le_of_ble_eq_true rfl, Nat.le_of_ble_eq_true rfl⟩ ⟨Nat.le_of_ble_eq_true rfl, Nat.le_of_ble_eq_true rfl⟩ ⟨rfl, rfl⟩ dX6_readLoad_137 ?_
        intro v I5 J5 hv
        obtain ⟨rfl, hP5, F5, G5⟩ := hv
        have F5 := F4.tr F5
        have G5 := G4.tr G5
        rw [show sp_tk tb n _ e4 = sp_tsS tb n e4 from by first | exact sp_tkS1 hP4 hc129 | exact sp_tkS0 hP4 hc129] at hP5 ⊢
        obtain ⟨e5, he5⟩ : ∃ z : Except Nat sp_S, z = sp_tsS tb n e4 := ⟨_, rfl⟩
        rw [← he5] at hP5 ⊢
        refine k_ifb_eq C (tgt := 166) (by decide) dX6_readLoad_140 (fun hc140 => ?_) (fun hc140 => ?_)
        · skip
          exact k_vret C (Nat.le_of_ble_eq_true rfl) (Nat.le_of_ble_eq_true rfl) (⟨rfl, ⟨rfl, by
              rw [rLoad_S (fun s hs => by
                obtain ⟨s8, w1, w2⟩ := sp_bd_inv hs
                by_cases q : decide (sp_nl s8.2 < 20) = true
                · rw [if_pos q] at w2
                  cases w2
                  rw [w1] at hP
                  exact ⟨of_decide_eq_true q, hP.2.2.2.2.1.2.1⟩
                · rw [if_neg q] at w2; cases w2) he1 he2 he3 he4 he5]
              first
              | (obtain ⟨x, hx5⟩ := sp_nok hc140
                 rw [hx5] at hP5 ⊢
                 exact hP5)
              | (rw [hs5, ← hcr]
                 exact MP_set hPk hm hg (upd_bring hnl0 qB) (by rw [upd_ne (by omega), bring_at ⟨by omega, by omega, by omega, by omega, by omega⟩]; exact qL)), by
              first
              | exact F5.tr (f1_mpf hg)
              | exact F5, G5⟩⟩) dX6_readLoad_166
        · skip
          obtain ⟨s5, hs5⟩ := sp_ok_iff.mp hc140
          have hrow : ∃ s : sp_S, e = .ok s ∧ sp_nl s.2 < 20 ∧ s5.2 = s.2 := by
            obtain ⟨a4, b4, d4⟩ := tsS_inv (he5.symm.trans hs5)
            obtain ⟨a3, b3, d3⟩ := tl_inv (he4.symm.trans b4)
            obtain ⟨a2, b2, d2⟩ := tnS_inv (he3.symm.trans b3)
            obtain ⟨a1, b1, d1⟩ := tnS_inv (he2.symm.trans b2)
            obtain ⟨a0, b0, p0, d0⟩ := md_gt_inv (he1.symm.trans b1)
            exact ⟨a0, b0, of_decide_eq_true p0, d4.trans (d3.trans (d2.trans (d1.trans d0)))⟩
          obtain ⟨s0, hs0, hcnt, hs2⟩ := hrow
          have hPk := hP5
          rw [hs5] at hPk
          obtain ⟨q17, q9, qT, qm, qB, qL⟩ := id hPk
          have hnl0 : sp_nl s5.2 < 20 := by rw [hs2]; exact hcnt
          refine k_aload_n C (f := 0) (i := 0) (p := 3) rfl rfl dX6_readLoad_143 ?_
          refine k_getR C f_X6_13 (L6_s (by assumption)) (fun _ _ _ => rfl) (L6_1 (by assumption)) dX6_readLoad_144 ?_
          refine k_iload_n C (f := 1) (i := 1) (p := 2) rfl rfl dX6_readLoad_147 ?_
          refine k_iload_n C (f := 2) (i := 2) (p := 1) rfl rfl dX6_readLoad_148 ?_
          refine k_callSg C s_X6_52 h_X6_addsLoad (ct_X6_addsLoad (A6_1 hx) qm qB hnl0) rfl rfl (Nat.le_of_ble_eq_true rfl) ⟨Nat.le_of_ble_eq_true rfl, Nat.le_of_ble_eq_true rfl⟩ ⟨Nat.le_of_ble_eq_true rfl, Nat.le_of_ble_eq_true rfl⟩ ⟨rfl, rfl⟩ dX6_readLoad_149 ?_
          intro v I6 hv
          obtain ⟨rfl, hm, hg⟩ := hv
          refine k_istore C (i := 4) (lv := [(4, _), (3, _), (2, _), (1, _), (0, _)]) (Nat.le_of_ble_eq_true rfl) rfl dX6_readLoad_152 ?_
          refine k_aload_n C (f := 0) (i := 0) (p := 4) rfl rfl dX6_readLoad_154 ?_
          refine k_getR C f_X6_13 (L6_s (by assumption)) (fun _ _ _ => rfl) (L6_1 (by assumption)) dX6_readLoad_155 ?_
          refine k_iload C (i := 4) (p := 0) rfl dX6_readLoad_158 ?_
          refine k_iconst C ic_2 dX6_readLoad_160 ?_
          refine k_callSp C s_X6_56 h_X6_loadAt (ct_X6_loadAt ) rfl rfl (Nat.le_of_ble_eq_true rfl) ⟨Nat.le_of_ble_eq_true rfl, Nat.le_of_ble_eq_true rfl⟩ ⟨Nat.le_of_ble_eq_true rfl, Nat.le_of_ble_eq_true rfl⟩ ⟨rfl, rfl⟩ dX6_readLoad_161 ?_
          refine k_iload_n C (f := 3) (i := 3) (p := 1) rfl rfl dX6_readLoad_164 ?_
          refine k_rst C (i := 142 + 4 * sp_nl s5.2) (A6_1 hx) (by first | rfl | assumption) (by omega) (by omega) hm hg dX6_readLoad_165 (fun I9 hm hg => ?_)
          exact k_vret C (Nat.le_of_ble_eq_true rfl) (Nat.le_of_ble_eq_true rfl) (⟨rfl, ⟨rfl, by
              rw [rLoad_S (fun s hs => by
                obtain ⟨s8, w1, w2⟩ := sp_bd_inv hs
                by_cases q : decide (sp_nl s8.2 < 20) = true
                · rw [if_pos q] at w2
                  cases w2
                  rw [w1] at hP
                  exact ⟨of_decide_eq_true q, hP.2.2.2.2.1.2.1⟩
                · rw [if_neg q] at w2; cases w2) he1 he2 he3 he4 he5]
              first
              | (obtain ⟨x, hx5⟩ := sp_nok hc140
                 rw [hx5] at hP5 ⊢
                 exact hP5)
              | (rw [hs5, ← hcr]
                 exact MP_set hPk hm hg (upd_bring hnl0 qB) (by rw [upd_ne (by omega), bring_at ⟨by omega, by omega, by omega, by omega, by omega⟩]; exact qL)), by
              first
              | exact F5.tr (f1_mpf hg)
              | exact F5, G5⟩⟩) dX6_readLoad_166
    · skip
      obtain ⟨s3, hs3⟩ := sp_ok_iff.mp (Decidable.byContradiction hc44)
      have hPs := hP3
      rw [hs3] at hPs
      obtain ⟨q17, q9, qT, qm, qB, qL⟩ := id hPs
      have own6 : md_own 6 = 419 := by decide +kernel
      refine k_aload_n C (f := 0) (i := 0) (p := 3) rfl rfl dX6_readLoad_47 ?_
      refine k_ldc2 C l_X6_207 dX6_readLoad_48 ?_
      refine k_callVp C s_X6_197 h_X6_isWord (L6_s (by assumption)) rfl (ct_X6_isWord hx) rfl rfl (Nat.le_of_ble_eq_true rfl) ⟨Nat.le_of_ble_eq_true rfl, Nat.le_of_ble_eq_true rfl⟩ ⟨Nat.le_of_ble_eq_true rfl, Nat.le_of_ble_eq_true rfl⟩ ⟨rfl, rfl⟩ dX6_readLoad_51 ?_
      first
      | refine k_ifb_eq C (tgt := 123) (by decide) dX6_readLoad_54 (fun hc54 => ?_) (fun hc54 => ?_)
      | refine k_if_eq C (tgt := 123) (by decide) dX6_readLoad_54 (fun hc54 => ?_) (fun hc54 => ?_)
      · skip
        obtain ⟨I4, hI4⟩ : ∃ z : am_I, z = I3 := ⟨_, rfl⟩
        obtain ⟨J4, hJ4⟩ : ∃ z : am_J, z = J3 := ⟨_, rfl⟩
        obtain ⟨e4, he4a⟩ : ∃ z : Except Nat sp_S, z = e3 := ⟨_, rfl⟩
        have hP4 : MP I4 J4 y tb n e4 := by rw [hI4, hJ4, he4a]; exact hP3
        have F4 : MPf y I I4 := by rw [hI4]; exact F3
        have G4 : JFr y J J4 := by rw [hJ4]; exact G3
        rw [← hI4, ← hJ4]
        have hcr : (-1 : Int32) = md_cr tb n e3 := by
          rw [hs3]
          exact (if_neg (fun z => hc54 (by rw [← own6]; exact (MTok_isw qT (by decide) (by decide)).mpr z))).symm
        have he4 : e4 = md_tl tb n (sp_tz tb n 1 99 e1) e3 := by
          rw [he4a]
          rw [hs3]
          exact (if_neg (fun z => hc54 (by rw [← own6]; exact (MTok_isw qT (by decide) (by decide)).mpr z))).symm
        clear hI4 hJ4 he4a
        refine k_aload_n C (f := 0) (i := 0) (p := 3) rfl rfl dX6_readLoad_123 ?_
        refine k_aload_n C (f := 0) (i := 0) (p := 3) rfl rfl dX6_readLoad_124 ?_
        refine k_getI C f_X6_164 (L6_s (by assumption)) (fun _ _ _ => rfl) (rfl) dX6_readLoad_125 ?_
        refine k_iconst C ic_3 dX6_readLoad_128 ?_
        refine k_icmp_ne C (tgt := 136) (by decide) dX6_readLoad_129 (fun hc129 => ?_) (fun hc129 => ?_)
        · skip
          refine k_iconst C ic_0 dX6_readLoad_136 ?_
          refine k_callVj C s_X6_191 h_X6_takes (L6_s (by assumption)) rfl (ct_X6_takes hx (F4.txt ht) hP4) rfl rfl (Nat.le_of_ble_eq_true rfl) ⟨Nat.le_of_ble_eq_true rfl, Nat.le_of_ble_eq_true rfl⟩ ⟨Nat.le_of_ble_eq_true rfl, Nat.le_of_ble_eq_true rfl⟩ ⟨rfl, rfl⟩ dX6_readLoad_137 ?_
          intro v I5 J5 hv
          obtain ⟨rfl, hP5, F5, G5⟩ := hv
          have F5 := F4.tr F5
          have G5 := G4.tr G5
          rw [show sp_tk tb n _ e4 = sp_tsS tb n e4 from by first | exact sp_tkS1 hP4 hc129 | exact sp_tkS0 hP4 hc129] at hP5 ⊢
          obtain ⟨e5, he5⟩ : ∃ z : Except Nat sp_S, z = sp_tsS tb n e4 := ⟨_, rfl⟩
          rw [← he5] at hP5 ⊢
          refine k_ifb_eq C (tgt := 166) (by decide) dX6_readLoad_140 (fun hc140 => ?_) (fun hc140 => ?_)
          · skip
            exact k_vret C (Nat.le_of_ble_eq_true rfl) (Nat.le_of_ble_eq_true rfl) (⟨rfl, ⟨rfl, by
                rw [rLoad_S (fun s hs => by
                  obtain ⟨s8, w1, w2⟩ := sp_bd_inv hs
                  by_cases q : decide (sp_nl s8.2 < 20) = true
                  · rw [if_pos q] at w2
                    cases w2
                    rw [w1] at hP
                    exact ⟨of_decide_eq_true q, hP.2.2.2.2.1.2.1⟩
                  · rw [if_neg q] at w2; cases w2) he1 he2 he3 he4 he5]
                first
                | (obtain ⟨x, hx5⟩ := sp_nok hc140
                   rw [hx5] at hP5 ⊢
                   exact hP5)
                | (rw [hs5, ← hcr]
                   exact MP_set hPk hm hg (upd_bring hnl0 qB) (by rw [upd_ne (by omega), bring_at ⟨by omega, by omega, by omega, by omega, by omega⟩]; exact qL)), by
                first
                | exact F5.tr (f1_mpf hg)
                | exact F5, G5⟩⟩) dX6_readLoad_166
          · skip
            obtain ⟨s5, hs5⟩ := sp_ok_iff.mp hc140
            have hrow : ∃ s : sp_S, e = .ok s ∧ sp_nl s.2 < 20 ∧ s5.2 = s.2 := by
              obtain ⟨a4, b4, d4⟩ := tsS_inv (he5.symm.trans hs5)
              obtain ⟨a3, b3, d3⟩ := tl_inv (he4.symm.trans b4)
              obtain ⟨a2, b2, d2⟩ := tnS_inv (he3.symm.trans b3)
              obtain ⟨a1, b1, d1⟩ := tnS_inv (he2.symm.trans b2)
              obtain ⟨a0, b0, p0, d0⟩ := md_gt_inv (he1.symm.trans b1)
              exact ⟨a0, b0, of_decide_eq_true p0, d4.trans (d3.trans (d2.trans (d1.trans d0)))⟩
            obtain ⟨s0, hs0, hcnt, hs2⟩ := hrow
            have hPk := hP5
            rw [hs5] at hPk
            obtain ⟨q17, q9, qT, qm, qB, qL⟩ := id hPk
            have hnl0 : sp_nl s5.2 < 20 := by rw [hs2]; exact hcnt
            refine k_aload_n C (f := 0) (i := 0) (p := 3) rfl rfl dX6_readLoad_143 ?_
            refine k_getR C f_X6_13 (L6_s (by assumption)) (fun _ _ _ => rfl) (L6_1 (by assumption)) dX6_readLoad_144 ?_
            refine k_iload_n C (f := 1) (i := 1) (p := 2) rfl rfl dX6_readLoad_147 ?_
            refine k_iload_n C (f := 2) (i := 2) (p := 1) rfl rfl dX6_readLoad_148 ?_
            refine k_callSg C s_X6_52 h_X6_addsLoad (ct_X6_addsLoad (A6_1 hx) qm qB hnl0) rfl rfl (Nat.le_of_ble_eq_true rfl) ⟨Nat.le_of_ble_eq_true rfl, Nat.le_of_ble_eq_true rfl⟩ ⟨Nat.le_of_ble_eq_true rfl, Nat.le_of_ble_eq_true rfl⟩ ⟨rfl, rfl⟩ dX6_readLoad_149 ?_
            intro v I6 hv
            obtain ⟨rfl, hm, hg⟩ := hv
            refine k_istore C (i := 4) (lv := [(4, _), (3, _), (2, _), (1, _), (0, _)]) (Nat.le_of_ble_eq_true rfl) rfl dX6_readLoad_152 ?_
            refine k_aload_n C (f := 0) (i := 0) (p := 4) rfl rfl dX6_readLoad_154 ?_
            refine k_getR C f_X6_13 (L6_s (by assumption)) (fun _ _ _ => rfl) (L6_1 (by assumption)) dX6_readLoad_155 ?_
            refine k_iload C (i := 4) (p := 0) rfl dX6_readLoad_158 ?_
            refine k_iconst C ic_2 dX6_readLoad_160 ?_
            refine k_callSp C s_X6_56 h_X6_loadAt (ct_X6_loadAt ) rfl rfl (Nat.le_of_ble_eq_true rfl) ⟨Nat.le_of_ble_eq_true rfl, Nat.le_of_ble_eq_true rfl⟩ ⟨Nat.le_of_ble_eq_true rfl, Nat.le_of_ble_eq_true rfl⟩ ⟨rfl, rfl⟩ dX6_readLoad_161 ?_
            refine k_iload_n C (f := 3) (i := 3) (p := 1) rfl rfl dX6_readLoad_164 ?_
            refine k_rst C (i := 142 + 4 * sp_nl s5.2) (A6_1 hx) (by first | rfl | assumption) (by omega) (by omega) hm hg dX6_readLoad_165 (fun I9 hm hg => ?_)
            exact k_vret C (Nat.le_of_ble_eq_true rfl) (Nat.le_of_ble_eq_true rfl) (⟨rfl, ⟨rfl, by
                rw [rLoad_S (fun s hs => by
                  obtain ⟨s8, w1, w2⟩ := sp_bd_inv hs
                  by_cases q : decide (sp_nl s8.2 < 20) = true
                  · rw [if_pos q] at w2
                    cases w2
                    rw [w1] at hP
                    exact ⟨of_decide_eq_true q, hP.2.2.2.2.1.2.1⟩
                  · rw [if_neg q] at w2; cases w2) he1 he2 he3 he4 he5]
                first
                | (obtain ⟨x, hx5⟩ := sp_nok hc140
                   rw [hx5] at hP5 ⊢
                   exact hP5)
                | (rw [hs5, ← hcr]
                   exact MP_set hPk hm hg (upd_bring hnl0 qB) (by rw [upd_ne (by omega), bring_at ⟨by omega, by omega, by omega, by omega, by omega⟩]; exact qL)), by
                first
                | exact F5.tr (f1_mpf hg)
                | exact F5, G5⟩⟩) dX6_readLoad_166
        · skip
          refine k_iconst C ic_1 dX6_readLoad_132 ?_
          refine k_goto C (tgt := 137) (by decide) dX6_readLoad_133 ?_
          refine k_callVj C s_X6_191 h_X6_takes (L6_s (by assumption)) rfl (ct_X6_takes hx (F4.txt ht) hP4) rfl rfl (Nat.le_of_ble_eq_true rfl) ⟨Nat.le_of_ble_eq_true rfl, Nat.le_of_ble_eq_true rfl⟩ ⟨Nat.le_of_ble_eq_true rfl, Nat.le_of_ble_eq_true rfl⟩ ⟨rfl, rfl⟩ dX6_readLoad_137 ?_
          intro v I5 J5 hv
          obtain ⟨rfl, hP5, F5, G5⟩ := hv
          have F5 := F4.tr F5
          have G5 := G4.tr G5
          rw [show sp_tk tb n _ e4 = sp_tsS tb n e4 from by first | exact sp_tkS1 hP4 hc129 | exact sp_tkS0 hP4 hc129] at hP5 ⊢
          obtain ⟨e5, he5⟩ : ∃ z : Except Nat sp_S, z = sp_tsS tb n e4 := ⟨_, rfl⟩
          rw [← he5] at hP5 ⊢
          refine k_ifb_eq C (tgt := 166) (by decide) dX6_readLoad_140 (fun hc140 => ?_) (fun hc140 => ?_)
          · skip
            exact k_vret C (Nat.le_of_ble_eq_true rfl) (Nat.le_of_ble_eq_true rfl) (⟨rfl, ⟨rfl, by
                rw [rLoad_S (fun s hs => by
                  obtain ⟨s8, w1, w2⟩ := sp_bd_inv hs
                  by_cases q : decide (sp_nl s8.2 < 20) = true
                  · rw [if_pos q] at w2
                    cases w2
                    rw [w1] at hP
                    exact ⟨of_decide_eq_true q, hP.2.2.2.2.1.2.1⟩
                  · rw [if_neg q] at w2; cases w2) he1 he2 he3 he4 he5]
                first
                | (obtain ⟨x, hx5⟩ := sp_nok hc140
                   rw [hx5] at hP5 ⊢
                   exact hP5)
                | (rw [hs5, ← hcr]
                   exact MP_set hPk hm hg (upd_bring hnl0 qB) (by rw [upd_ne (by omega), bring_at ⟨by omega, by omega, by omega, by omega, by omega⟩]; exact qL)), by
                first
                | exact F5.tr (f1_mpf hg)
                | exact F5, G5⟩⟩) dX6_readLoad_166
          · skip
            obtain ⟨s5, hs5⟩ := sp_ok_iff.mp hc140
            have hrow : ∃ s : sp_S, e = .ok s ∧ sp_nl s.2 < 20 ∧ s5.2 = s.2 := by
              obtain ⟨a4, b4, d4⟩ := tsS_inv (he5.symm.trans hs5)
              obtain ⟨a3, b3, d3⟩ := tl_inv (he4.symm.trans b4)
              obtain ⟨a2, b2, d2⟩ := tnS_inv (he3.symm.trans b3)
              obtain ⟨a1, b1, d1⟩ := tnS_inv (he2.symm.trans b2)
              obtain ⟨a0, b0, p0, d0⟩ := md_gt_inv (he1.symm.trans b1)
              exact ⟨a0, b0, of_decide_eq_true p0, d4.trans (d3.trans (d2.trans (d1.trans d0)))⟩
            obtain ⟨s0, hs0, hcnt, hs2⟩ := hrow
            have hPk := hP5
            rw [hs5] at hPk
            obtain ⟨q17, q9, qT, qm, qB, qL⟩ := id hPk
            have hnl0 : sp_nl s5.2 < 20 := by rw [hs2]; exact hcnt
            refine k_aload_n C (f := 0) (i := 0) (p := 3) rfl rfl dX6_readLoad_143 ?_
            refine k_getR C f_X6_13 (L6_s (by assumption)) (fun _ _ _ => rfl) (L6_1 (by assumption)) dX6_readLoad_144 ?_
            refine k_iload_n C (f := 1) (i := 1) (p := 2) rfl rfl dX6_readLoad_147 ?_
            refine k_iload_n C (f := 2) (i := 2) (p := 1) rfl rfl dX6_readLoad_148 ?_
            refine k_callSg C s_X6_52 h_X6_addsLoad (ct_X6_addsLoad (A6_1 hx) qm qB hnl0) rfl rfl (Nat.le_of_ble_eq_true rfl) ⟨Nat.le_of_ble_eq_true rfl, Nat.le_of_ble_eq_true rfl⟩ ⟨Nat.le_of_ble_eq_true rfl, Nat.le_of_ble_eq_true rfl⟩ ⟨rfl, rfl⟩ dX6_readLoad_149 ?_
            intro v I6 hv
            obtain ⟨rfl, hm, hg⟩ := hv
            refine k_istore C (i := 4) (lv := [(4, _), (3, _), (2, _), (1, _), (0, _)]) (Nat.le_of_ble_eq_true rfl) rfl dX6_readLoad_152 ?_
            refine k_aload_n C (f := 0) (i := 0) (p := 4) rfl rfl dX6_readLoad_154 ?_
            refine k_getR C f_X6_13 (L6_s (by assumption)) (fun _ _ _ => rfl) (L6_1 (by assumption)) dX6_readLoad_155 ?_
            refine k_iload C (i := 4) (p := 0) rfl dX6_readLoad_158 ?_
            refine k_iconst C ic_2 dX6_readLoad_160 ?_
            refine k_callSp C s_X6_56 h_X6_loadAt (ct_X6_loadAt ) rfl rfl (Nat.le_of_ble_eq_true rfl) ⟨Nat.le_of_ble_eq_true rfl, Nat.le_of_ble_eq_true rfl⟩ ⟨Nat.le_of_ble_eq_true rfl, Nat.le_of_ble_eq_true rfl⟩ ⟨rfl, rfl⟩ dX6_readLoad_161 ?_
            refine k_iload_n C (f := 3) (i := 3) (p := 1) rfl rfl dX6_readLoad_164 ?_
            refine k_rst C (i := 142 + 4 * sp_nl s5.2) (A6_1 hx) (by first | rfl | assumption) (by omega) (by omega) hm hg dX6_readLoad_165 (fun I9 hm hg => ?_)
            exact k_vret C (Nat.le_of_ble_eq_true rfl) (Nat.le_of_ble_eq_true rfl) (⟨rfl, ⟨rfl, by
                rw [rLoad_S (fun s hs => by
                  obtain ⟨s8, w1, w2⟩ := sp_bd_inv hs
                  by_cases q : decide (sp_nl s8.2 < 20) = true
                  · rw [if_pos q] at w2
                    cases w2
                    rw [w1] at hP
                    exact ⟨of_decide_eq_true q, hP.2.2.2.2.1.2.1⟩
                  · rw [if_neg q] at w2; cases w2) he1 he2 he3 he4 he5]
                first
                | (obtain ⟨x, hx5⟩ := sp_nok hc140
                   rw [hx5] at hP5 ⊢
                   exact hP5)
                | (rw [hs5, ← hcr]
                   exact MP_set hPk hm hg (upd_bring hnl0 qB) (by rw [upd_ne (by omega), bring_at ⟨by omega, by omega, by omega, by omega, by omega⟩]; exact qL)), by
                first
                | exact F5.tr (f1_mpf hg)
                | exact F5, G5⟩⟩) dX6_readLoad_166
      · skip
        have hon : sp_isw tb s3.1 6 = true := (MTok_isw qT (by decide) (by decide)).mp (by rw [own6]; exact hc54)
        refine k_aload_n C (f := 0) (i := 0) (p := 3) rfl rfl dX6_readLoad_57 ?_
        refine k_callVj C s_X6_188 h_X6_next (L6_s (by assumption)) rfl (ct_X6_next (k := s3.1.2.2.1) hx (F3.txt ht) qT.2.2.2.2.2.2.2.1 qT.2.2.1) rfl rfl (Nat.le_of_ble_eq_true rfl) ⟨Nat.le_of_ble_eq_true rfl, Nat.le_of_ble_eq_true rfl⟩ ⟨Nat.le_of_ble_eq_true rfl, Nat.le_of_ble_eq_true rfl⟩ ⟨rfl, rfl⟩ dX6_readLoad_58 ?_
        intro v I7 J7 hv
        obtain ⟨rfl, qT7, T7, G7⟩ := hv
        have F7 := F3.tr T7.mp
        have G7 := G3.tr G7
        have hP7 : MP I7 J7 y tb n (.ok (sp_nx tb n s3.1, s3.2)) := ⟨(T7 y 17 (by omega)).trans q17, (T7 y 9 (by omega)).trans q9, qT7, MR_ne qm (funext (fun K => T7 _ K (by omega))), qB, qL⟩
        have m15 : I7 y 15 = nI (sp_nx tb n s3.1).2.2.2 := qT7.2.2.2.1
        have m14 : I7 y 14 = nI (sp_nx tb n s3.1).1 := qT7.1
        have mb9 : (sp_nx tb n s3.1).2.2.2 ≤ 999 := qT7.2.2.2.2.2.2.2.2
        have mb4 : (sp_nx tb n s3.1).1 ≤ 4 := qT7.2.2.2.2.2.1
        have qm7 : MRow I7 (y + 2) 0 s3.2 := MR_ne qm (funext (fun K => T7 _ K (by omega)))
        obtain ⟨⟨r6, r7, r8, r9⟩, rb6, rb7, rb8, rb9⟩ := id qB
        refine k_aload_n C (f := 0) (i := 0) (p := 3) rfl rfl dX6_readLoad_61 ?_
        refine k_getI C f_X6_157 (L6_s (by assumption)) (fun _ _ _ => rfl) (m15) dX6_readLoad_62 ?_
        refine k_istore_n C (f := 3) (i := 3) (lv := [(3, _), (2, _), (1, _), (0, _)]) rfl (Nat.le_of_ble_eq_true rfl) rfl dX6_readLoad_65 ?_
        refine k_aload_n C (f := 0) (i := 0) (p := 3) rfl rfl dX6_readLoad_66 ?_
        refine k_getI C f_X6_164 (L6_s (by assumption)) (fun _ _ _ => rfl) (rfl) dX6_readLoad_67 ?_
        refine k_iconst C ic_2 dX6_readLoad_70 ?_
        refine k_icmp_ne C (tgt := 89) (by decide) dX6_readLoad_71 (fun hc71 => ?_) (fun hc71 => ?_)
        · skip
          refine k_iconst C ic_0 dX6_readLoad_89 ?_
          refine k_istore C (i := 4) (lv := [(4, _), (3, _), (2, _), (1, _), (0, _)]) (Nat.le_of_ble_eq_true rfl) rfl dX6_readLoad_90 ?_
          refine k_iload C (i := 4) (p := 0) rfl dX6_readLoad_92 ?_
          refine k_if_eq C (tgt := 116) (by decide) dX6_readLoad_94 (fun hc94 => ?_) (fun hc94 => ?_)
          · skip
            refine k_aload_n C (f := 0) (i := 0) (p := 4) rfl rfl dX6_readLoad_116 ?_
            refine k_iload C (i := 4) (p := 0) rfl dX6_readLoad_117 ?_
            refine k_callVj C s_X6_191 h_X6_takes (L6_s (by assumption)) rfl (ct_X6_takes hx (F7.txt ht) hP7) rfl rfl (Nat.le_of_ble_eq_true rfl) ⟨Nat.le_of_ble_eq_true rfl, Nat.le_of_ble_eq_true rfl⟩ ⟨Nat.le_of_ble_eq_true rfl, Nat.le_of_ble_eq_true rfl⟩ ⟨rfl, rfl⟩ dX6_readLoad_119 ?_
            intro v I4 J4 hv
            obtain ⟨rfl, hP4, F4, G4⟩ := hv
            have F4 := F7.tr F4
            have G4 := G7.tr G4
            have hg4 : ∃ z : Except Nat sp_S, MP I4 J4 y tb n z ∧ z = md_tl tb n (sp_tz tb n 1 99 e1) e3 := ⟨_, hP4, by
              rw [hs3]
              show _ = (if sp_isw tb s3.1 6 = true then _ else _)
              rw [if_pos hon]
              first
              | (rw [sp_tk1]; exact (if_pos ⟨(nI_eq (by omega) (by decide)).mp (m14.symm.trans hc71), hvn, hc106⟩).symm)
              | (have hcc := hc106
                 rw [sp_tk0]
                 exact (if_neg (fun z => z.2.2 hcc)).symm)
              | (have hcc : sp_nc s3.2 ≤ (sp_nx tb n s3.1).2.2.2 := by omega
                 rw [sp_tk0]
                 exact (if_neg (fun z => absurd z.2.1 (by omega))).symm)
              | (have hcc : ¬ I7 y 14 = nI 2 := hc71
                 rw [sp_tk0]
                 exact (if_neg (fun z => hcc (m14.trans (by rw [z.1])))).symm)⟩
            clear hP4
            obtain ⟨e4, hP4, he4⟩ := hg4
            have hcr : nI (sp_nx tb n s3.1).2.2.2 = md_cr tb n e3 := by
              rw [hs3]
              exact (if_pos hon).symm
            refine k_pop C rfl dX6_readLoad_122 ?_
            refine k_aload_n C (f := 0) (i := 0) (p := 4) rfl rfl dX6_readLoad_123 ?_
            refine k_aload_n C (f := 0) (i := 0) (p := 4) rfl rfl dX6_readLoad_124 ?_
            refine k_getI C f_X6_164 (L6_s (by assumption)) (fun _ _ _ => rfl) (rfl) dX6_readLoad_125 ?_
            refine k_iconst C ic_3 dX6_readLoad_128 ?_
            refine k_icmp_ne C (tgt := 136) (by decide) dX6_readLoad_129 (fun hc129 => ?_) (fun hc129 => ?_)
            · skip
              refine k_iconst C ic_0 dX6_readLoad_136 ?_
              refine k_callVj C s_X6_191 h_X6_takes (L6_s (by assumption)) rfl (ct_X6_takes hx (F4.txt ht) hP4) rfl rfl (Nat.le_of_ble_eq_true rfl) ⟨Nat.le_of_ble_eq_true rfl, Nat.le_of_ble_eq_true rfl⟩ ⟨Nat.le_of_ble_eq_true rfl, Nat.le_of_ble_eq_true rfl⟩ ⟨rfl, rfl⟩ dX6_readLoad_137 ?_
              intro v I5 J5 hv
              obtain ⟨rfl, hP5, F5, G5⟩ := hv
              have F5 := F4.tr F5
              have G5 := G4.tr G5
              rw [show sp_tk tb n _ e4 = sp_tsS tb n e4 from by first | exact sp_tkS1 hP4 hc129 | exact sp_tkS0 hP4 hc129] at hP5 ⊢
              obtain ⟨e5, he5⟩ : ∃ z : Except Nat sp_S, z = sp_tsS tb n e4 := ⟨_, rfl⟩
              rw [← he5] at hP5 ⊢
              refine k_ifb_eq C (tgt := 166) (by decide) dX6_readLoad_140 (fun hc140 => ?_) (fun hc140 => ?_)
              · skip
                exact k_vret C (Nat.le_of_ble_eq_true rfl) (Nat.le_of_ble_eq_true rfl) (⟨rfl, ⟨rfl, by
                    rw [rLoad_S (fun s hs => by
                      obtain ⟨s8, w1, w2⟩ := sp_bd_inv hs
                      by_cases q : decide (sp_nl s8.2 < 20) = true
                      · rw [if_pos q] at w2
                        cases w2
                        rw [w1] at hP
                        exact ⟨of_decide_eq_true q, hP.2.2.2.2.1.2.1⟩
                      · rw [if_neg q] at w2; cases w2) he1 he2 he3 he4 he5]
                    first
                    | (obtain ⟨x, hx5⟩ := sp_nok hc140
                       rw [hx5] at hP5 ⊢
                       exact hP5)
                    | (rw [hs5, ← hcr]
                       exact MP_set hPk hm hg (upd_bring hnl0 qB) (by rw [upd_ne (by omega), bring_at ⟨by omega, by omega, by omega, by omega, by omega⟩]; exact qL)), by
                    first
                    | exact F5.tr (f1_mpf hg)
                    | exact F5, G5⟩⟩) dX6_readLoad_166
              · skip
                obtain ⟨s5, hs5⟩ := sp_ok_iff.mp hc140
                have hrow : ∃ s : sp_S, e = .ok s ∧ sp_nl s.2 < 20 ∧ s5.2 = s.2 := by
                  obtain ⟨a4, b4, d4⟩ := tsS_inv (he5.symm.trans hs5)
                  obtain ⟨a3, b3, d3⟩ := tl_inv (he4.symm.trans b4)
                  obtain ⟨a2, b2, d2⟩ := tnS_inv (he3.symm.trans b3)
                  obtain ⟨a1, b1, d1⟩ := tnS_inv (he2.symm.trans b2)
                  obtain ⟨a0, b0, p0, d0⟩ := md_gt_inv (he1.symm.trans b1)
                  exact ⟨a0, b0, of_decide_eq_true p0, d4.trans (d3.trans (d2.trans (d1.trans d0)))⟩
                obtain ⟨s0, hs0, hcnt, hs2⟩ := hrow
                have hPk := hP5
                rw [hs5] at hPk
                obtain ⟨q17, q9, qT, qm, qB, qL⟩ := id hPk
                have hnl0 : sp_nl s5.2 < 20 := by rw [hs2]; exact hcnt
                refine k_aload_n C (f := 0) (i := 0) (p := 4) rfl rfl dX6_readLoad_143 ?_
                refine k_getR C f_X6_13 (L6_s (by assumption)) (fun _ _ _ => rfl) (L6_1 (by assumption)) dX6_readLoad_144 ?_
                refine k_iload_n C (f := 1) (i := 1) (p := 3) rfl rfl dX6_readLoad_147 ?_
                refine k_iload_n C (f := 2) (i := 2) (p := 2) rfl rfl dX6_readLoad_148 ?_
                refine k_callSg C s_X6_52 h_X6_addsLoad (ct_X6_addsLoad (A6_1 hx) qm qB hnl0) rfl rfl (Nat.le_of_ble_eq_true rfl) ⟨Nat.le_of_ble_eq_true rfl, Nat.le_of_ble_eq_true rfl⟩ ⟨Nat.le_of_ble_eq_true rfl, Nat.le_of_ble_eq_true rfl⟩ ⟨rfl, rfl⟩ dX6_readLoad_149 ?_
                intro v I6 hv
                obtain ⟨rfl, hm, hg⟩ := hv
                refine k_istore C (i := 4) (lv := [(4, _), (3, _), (2, _), (1, _), (0, _)]) (Nat.le_of_ble_eq_true rfl) rfl dX6_readLoad_152 ?_
                refine k_aload_n C (f := 0) (i := 0) (p := 4) rfl rfl dX6_readLoad_154 ?_
                refine k_getR C f_X6_13 (L6_s (by assumption)) (fun _ _ _ => rfl) (L6_1 (by assumption)) dX6_readLoad_155 ?_
                refine k_iload C (i := 4) (p := 0) rfl dX6_readLoad_158 ?_
                refine k_iconst C ic_2 dX6_readLoad_160 ?_
                refine k_callSp C s_X6_56 h_X6_loadAt (ct_X6_loadAt ) rfl rfl (Nat.le_of_ble_eq_true rfl) ⟨Nat.le_of_ble_eq_true rfl, Nat.le_of_ble_eq_true rfl⟩ ⟨Nat.le_of_ble_eq_true rfl, Nat.le_of_ble_eq_true rfl⟩ ⟨rfl, rfl⟩ dX6_readLoad_161 ?_
                refine k_iload_n C (f := 3) (i := 3) (p := 1) rfl rfl dX6_readLoad_164 ?_
                refine k_rst C (i := 142 + 4 * sp_nl s5.2) (A6_1 hx) (by first | rfl | assumption) (by omega) (by omega) hm hg dX6_readLoad_165 (fun I9 hm hg => ?_)
                exact k_vret C (Nat.le_of_ble_eq_true rfl) (Nat.le_of_ble_eq_true rfl) (⟨rfl, ⟨rfl, by
                    rw [rLoad_S (fun s hs => by
                      obtain ⟨s8, w1, w2⟩ := sp_bd_inv hs
                      by_cases q : decide (sp_nl s8.2 < 20) = true
                      · rw [if_pos q] at w2
                        cases w2
                        rw [w1] at hP
                        exact ⟨of_decide_eq_true q, hP.2.2.2.2.1.2.1⟩
                      · rw [if_neg q] at w2; cases w2) he1 he2 he3 he4 he5]
                    first
                    | (obtain ⟨x, hx5⟩ := sp_nok hc140
                       rw [hx5] at hP5 ⊢
                       exact hP5)
                    | (rw [hs5, ← hcr]
                       exact MP_set hPk hm hg (upd_bring hnl0 qB) (by rw [upd_ne (by omega), bring_at ⟨by omega, by omega, by omega, by omega, by omega⟩]; exact qL)), by
                    first
                    | exact F5.tr (f1_mpf hg)
                    | exact F5, G5⟩⟩) dX6_readLoad_166
            · skip
              refine k_iconst C ic_1 dX6_readLoad_132 ?_
              refine k_goto C (tgt := 137) (by decide) dX6_readLoad_133 ?_
              refine k_callVj C s_X6_191 h_X6_takes (L6_s (by assumption)) rfl (ct_X6_takes hx (F4.txt ht) hP4) rfl rfl (Nat.le_of_ble_eq_true rfl) ⟨Nat.le_of_ble_eq_true rfl, Nat.le_of_ble_eq_true rfl⟩ ⟨Nat.le_of_ble_eq_true rfl, Nat.le_of_ble_eq_true rfl⟩ ⟨rfl, rfl⟩ dX6_readLoad_137 ?_
              intro v I5 J5 hv
              obtain ⟨rfl, hP5, F5, G5⟩ := hv
              have F5 := F4.tr F5
              have G5 := G4.tr G5
              rw [show sp_tk tb n _ e4 = sp_tsS tb n e4 from by first | exact sp_tkS1 hP4 hc129 | exact sp_tkS0 hP4 hc129] at hP5 ⊢
              obtain ⟨e5, he5⟩ : ∃ z : Except Nat sp_S, z = sp_tsS tb n e4 := ⟨_, rfl⟩
              rw [← he5] at hP5 ⊢
              refine k_ifb_eq C (tgt := 166) (by decide) dX6_readLoad_140 (fun hc140 => ?_) (fun hc140 => ?_)
              · skip
                exact k_vret C (Nat.le_of_ble_eq_true rfl) (Nat.le_of_ble_eq_true rfl) (⟨rfl, ⟨rfl, by
                    rw [rLoad_S (fun s hs => by
                      obtain ⟨s8, w1, w2⟩ := sp_bd_inv hs
                      by_cases q : decide (sp_nl s8.2 < 20) = true
                      · rw [if_pos q] at w2
                        cases w2
                        rw [w1] at hP
                        exact ⟨of_decide_eq_true q, hP.2.2.2.2.1.2.1⟩
                      · rw [if_neg q] at w2; cases w2) he1 he2 he3 he4 he5]
                    first
                    | (obtain ⟨x, hx5⟩ := sp_nok hc140
                       rw [hx5] at hP5 ⊢
                       exact hP5)
                    | (rw [hs5, ← hcr]
                       exact MP_set hPk hm hg (upd_bring hnl0 qB) (by rw [upd_ne (by omega), bring_at ⟨by omega, by omega, by omega, by omega, by omega⟩]; exact qL)), by
                    first
                    | exact F5.tr (f1_mpf hg)
                    | exact F5, G5⟩⟩) dX6_readLoad_166
              · skip
                obtain ⟨s5, hs5⟩ := sp_ok_iff.mp hc140
                have hrow : ∃ s : sp_S, e = .ok s ∧ sp_nl s.2 < 20 ∧ s5.2 = s.2 := by
                  obtain ⟨a4, b4, d4⟩ := tsS_inv (he5.symm.trans hs5)
                  obtain ⟨a3, b3, d3⟩ := tl_inv (he4.symm.trans b4)
                  obtain ⟨a2, b2, d2⟩ := tnS_inv (he3.symm.trans b3)
                  obtain ⟨a1, b1, d1⟩ := tnS_inv (he2.symm.trans b2)
                  obtain ⟨a0, b0, p0, d0⟩ := md_gt_inv (he1.symm.trans b1)
                  exact ⟨a0, b0, of_decide_eq_true p0, d4.trans (d3.trans (d2.trans (d1.trans d0)))⟩
                obtain ⟨s0, hs0, hcnt, hs2⟩ := hrow
                have hPk := hP5
                rw [hs5] at hPk
                obtain ⟨q17, q9, qT, qm, qB, qL⟩ := id hPk
                have hnl0 : sp_nl s5.2 < 20 := by rw [hs2]; exact hcnt
                refine k_aload_n C (f := 0) (i := 0) (p := 4) rfl rfl dX6_readLoad_143 ?_
                refine k_getR C f_X6_13 (L6_s (by assumption)) (fun _ _ _ => rfl) (L6_1 (by assumption)) dX6_readLoad_144 ?_
                refine k_iload_n C (f := 1) (i := 1) (p := 3) rfl rfl dX6_readLoad_147 ?_
                refine k_iload_n C (f := 2) (i := 2) (p := 2) rfl rfl dX6_readLoad_148 ?_
                refine k_callSg C s_X6_52 h_X6_addsLoad (ct_X6_addsLoad (A6_1 hx) qm qB hnl0) rfl rfl (Nat.le_of_ble_eq_true rfl) ⟨Nat.le_of_ble_eq_true rfl, Nat.le_of_ble_eq_true rfl⟩ ⟨Nat.le_of_ble_eq_true rfl, Nat.le_of_ble_eq_true rfl⟩ ⟨rfl, rfl⟩ dX6_readLoad_149 ?_
                intro v I6 hv
                obtain ⟨rfl, hm, hg⟩ := hv
                refine k_istore C (i := 4) (lv := [(4, _), (3, _), (2, _), (1, _), (0, _)]) (Nat.le_of_ble_eq_true rfl) rfl dX6_readLoad_152 ?_
                refine k_aload_n C (f := 0) (i := 0) (p := 4) rfl rfl dX6_readLoad_154 ?_
                refine k_getR C f_X6_13 (L6_s (by assumption)) (fun _ _ _ => rfl) (L6_1 (by assumption)) dX6_readLoad_155 ?_
                refine k_iload C (i := 4) (p := 0) rfl dX6_readLoad_158 ?_
                refine k_iconst C ic_2 dX6_readLoad_160 ?_
                refine k_callSp C s_X6_56 h_X6_loadAt (ct_X6_loadAt ) rfl rfl (Nat.le_of_ble_eq_true rfl) ⟨Nat.le_of_ble_eq_true rfl, Nat.le_of_ble_eq_true rfl⟩ ⟨Nat.le_of_ble_eq_true rfl, Nat.le_of_ble_eq_true rfl⟩ ⟨rfl, rfl⟩ dX6_readLoad_161 ?_
                refine k_iload_n C (f := 3) (i := 3) (p := 1) rfl rfl dX6_readLoad_164 ?_
                refine k_rst C (i := 142 + 4 * sp_nl s5.2) (A6_1 hx) (by first | rfl | assumption) (by omega) (by omega) hm hg dX6_readLoad_165 (fun I9 hm hg => ?_)
                exact k_vret C (Nat.le_of_ble_eq_true rfl) (Nat.le_of_ble_eq_true rfl) (⟨rfl, ⟨rfl, by
                    rw [rLoad_S (fun s hs => by
                      obtain ⟨s8, w1, w2⟩ := sp_bd_inv hs
                      by_cases q : decide (sp_nl s8.2 < 20) = true
                      · rw [if_pos q] at w2
                        cases w2
                        rw [w1] at hP
                        exact ⟨of_decide_eq_true q, hP.2.2.2.2.1.2.1⟩
                      · rw [if_neg q] at w2; cases w2) he1 he2 he3 he4 he5]
                    first
                    | (obtain ⟨x, hx5⟩ := sp_nok hc140
                       rw [hx5] at hP5 ⊢
                       exact hP5)
                    | (rw [hs5, ← hcr]
                       exact MP_set hPk hm hg (upd_bring hnl0 qB) (by rw [upd_ne (by omega), bring_at ⟨by omega, by omega, by omega, by omega, by omega⟩]; exact qL)), by
                    first
                    | exact F5.tr (f1_mpf hg)
                    | exact F5, G5⟩⟩) dX6_readLoad_166
          · skip
            exact absurd (by decide) hc94
        · skip
          refine k_iload_n C (f := 3) (i := 3) (p := 0) rfl rfl dX6_readLoad_74 ?_
          refine k_aload_n C (f := 0) (i := 0) (p := 3) rfl rfl dX6_readLoad_75 ?_
          refine k_getR C f_X6_13 (L6_s (by assumption)) (fun _ _ _ => rfl) (L6_1 (by assumption)) dX6_readLoad_76 ?_
          refine k_bipush C bc_6 dX6_readLoad_79 ?_
          refine k_iald C (A6_1 (by assumption)) (by first | rfl | assumption) (by omega) (by decide) ((MR qm7 (by decide)).trans r6) dX6_readLoad_81 ?_
          refine k_icmpN_ge C (tgt := 89) (by omega) (by omega) (by decide) dX6_readLoad_82 (fun hc82 => ?_) (fun hc82 => ?_)
          · skip
            refine k_iconst C ic_0 dX6_readLoad_89 ?_
            refine k_istore C (i := 4) (lv := [(4, _), (3, _), (2, _), (1, _), (0, _)]) (Nat.le_of_ble_eq_true rfl) rfl dX6_readLoad_90 ?_
            refine k_iload C (i := 4) (p := 0) rfl dX6_readLoad_92 ?_
            refine k_if_eq C (tgt := 116) (by decide) dX6_readLoad_94 (fun hc94 => ?_) (fun hc94 => ?_)
            · skip
              refine k_aload_n C (f := 0) (i := 0) (p := 4) rfl rfl dX6_readLoad_116 ?_
              refine k_iload C (i := 4) (p := 0) rfl dX6_readLoad_117 ?_
              refine k_callVj C s_X6_191 h_X6_takes (L6_s (by assumption)) rfl (ct_X6_takes hx (F7.txt ht) hP7) rfl rfl (Nat.le_of_ble_eq_true rfl) ⟨Nat.le_of_ble_eq_true rfl, Nat.le_of_ble_eq_true rfl⟩ ⟨Nat.le_of_ble_eq_true rfl, Nat.le_of_ble_eq_true rfl⟩ ⟨rfl, rfl⟩ dX6_readLoad_119 ?_
              intro v I4 J4 hv
              obtain ⟨rfl, hP4, F4, G4⟩ := hv
              have F4 := F7.tr F4
              have G4 := G7.tr G4
              have hg4 : ∃ z : Except Nat sp_S, MP I4 J4 y tb n z ∧ z = md_tl tb n (sp_tz tb n 1 99 e1) e3 := ⟨_, hP4, by
                rw [hs3]
                show _ = (if sp_isw tb s3.1 6 = true then _ else _)
                rw [if_pos hon]
                first
                | (rw [sp_tk1]; exact (if_pos ⟨(nI_eq (by omega) (by decide)).mp (m14.symm.trans hc71), hvn, hc106⟩).symm)
                | (have hcc := hc106
                   rw [sp_tk0]
                   exact (if_neg (fun z => z.2.2 hcc)).symm)
                | (have hcc : sp_nc s3.2 ≤ (sp_nx tb n s3.1).2.2.2 := by omega
                   rw [sp_tk0]
                   exact (if_neg (fun z => absurd z.2.1 (by omega))).symm)
                | (have hcc : ¬ I7 y 14 = nI 2 := hc71
                   rw [sp_tk0]
                   exact (if_neg (fun z => hcc (m14.trans (by rw [z.1])))).symm)⟩
              clear hP4
              obtain ⟨e4, hP4, he4⟩ := hg4
              have hcr : nI (sp_nx tb n s3.1).2.2.2 = md_cr tb n e3 := by
                rw [hs3]
                exact (if_pos hon).symm
              refine k_pop C rfl dX6_readLoad_122 ?_
              refine k_aload_n C (f := 0) (i := 0) (p := 4) rfl rfl dX6_readLoad_123 ?_
              refine k_aload_n C (f := 0) (i := 0) (p := 4) rfl rfl dX6_readLoad_124 ?_
              refine k_getI C f_X6_164 (L6_s (by assumption)) (fun _ _ _ => rfl) (rfl) dX6_readLoad_125 ?_
              refine k_iconst C ic_3 dX6_readLoad_128 ?_
              refine k_icmp_ne C (tgt := 136) (by decide) dX6_readLoad_129 (fun hc129 => ?_) (fun hc129 => ?_)
              · skip
                refine k_iconst C ic_0 dX6_readLoad_136 ?_
                refine k_callVj C s_X6_191 h_X6_takes (L6_s (by assumption)) rfl (ct_X6_takes hx (F4.txt ht) hP4) rfl rfl (Nat.le_of_ble_eq_true rfl) ⟨Nat.le_of_ble_eq_true rfl, Nat.le_of_ble_eq_true rfl⟩ ⟨Nat.le_of_ble_eq_true rfl, Nat.le_of_ble_eq_true rfl⟩ ⟨rfl, rfl⟩ dX6_readLoad_137 ?_
                intro v I5 J5 hv
                obtain ⟨rfl, hP5, F5, G5⟩ := hv
                have F5 := F4.tr F5
                have G5 := G4.tr G5
                rw [show sp_tk tb n _ e4 = sp_tsS tb n e4 from by first | exact sp_tkS1 hP4 hc129 | exact sp_tkS0 hP4 hc129] at hP5 ⊢
                obtain ⟨e5, he5⟩ : ∃ z : Except Nat sp_S, z = sp_tsS tb n e4 := ⟨_, rfl⟩
                rw [← he5] at hP5 ⊢
                refine k_ifb_eq C (tgt := 166) (by decide) dX6_readLoad_140 (fun hc140 => ?_) (fun hc140 => ?_)
                · skip
                  exact k_vret C (Nat.le_of_ble_eq_true rfl) (Nat.le_of_ble_eq_true rfl) (⟨rfl, ⟨rfl, by
                      rw [rLoad_S (fun s hs => by
                        obtain ⟨s8, w1, w2⟩ := sp_bd_inv hs
                        by_cases q : decide (sp_nl s8.2 < 20) = true
                        · rw [if_pos q] at w2
                          cases w2
                          rw [w1] at hP
                          exact ⟨of_decide_eq_true q, hP.2.2.2.2.1.2.1⟩
                        · rw [if_neg q] at w2; cases w2) he1 he2 he3 he4 he5]
                      first
                      | (obtain ⟨x, hx5⟩ := sp_nok hc140
                         rw [hx5] at hP5 ⊢
                         exact hP5)
                      | (rw [hs5, ← hcr]
                         exact MP_set hPk hm hg (upd_bring hnl0 qB) (by rw [upd_ne (by omega), bring_at ⟨by omega, by omega, by omega, by omega, by omega⟩]; exact qL)), by
                      first
                      | exact F5.tr (f1_mpf hg)
                      | exact F5, G5⟩⟩) dX6_readLoad_166
                · skip
                  obtain ⟨s5, hs5⟩ := sp_ok_iff.mp hc140
                  have hrow : ∃ s : sp_S, e = .ok s ∧ sp_nl s.2 < 20 ∧ s5.2 = s.2 := by
                    obtain ⟨a4, b4, d4⟩ := tsS_inv (he5.symm.trans hs5)
                    obtain ⟨a3, b3, d3⟩ := tl_inv (he4.symm.trans b4)
                    obtain ⟨a2, b2, d2⟩ := tnS_inv (he3.symm.trans b3)
                    obtain ⟨a1, b1, d1⟩ := tnS_inv (he2.symm.trans b2)
                    obtain ⟨a0, b0, p0, d0⟩ := md_gt_inv (he1.symm.trans b1)
                    exact ⟨a0, b0, of_decide_eq_true p0, d4.trans (d3.trans (d2.trans (d1.trans d0)))⟩
                  obtain ⟨s0, hs0, hcnt, hs2⟩ := hrow
                  have hPk := hP5
                  rw [hs5] at hPk
                  obtain ⟨q17, q9, qT, qm, qB, qL⟩ := id hPk
                  have hnl0 : sp_nl s5.2 < 20 := by rw [hs2]; exact hcnt
                  refine k_aload_n C (f := 0) (i := 0) (p := 4) rfl rfl dX6_readLoad_143 ?_
                  refine k_getR C f_X6_13 (L6_s (by assumption)) (fun _ _ _ => rfl) (L6_1 (by assumption)) dX6_readLoad_144 ?_
                  refine k_iload_n C (f := 1) (i := 1) (p := 3) rfl rfl dX6_readLoad_147 ?_
                  refine k_iload_n C (f := 2) (i := 2) (p := 2) rfl rfl dX6_readLoad_148 ?_
                  refine k_callSg C s_X6_52 h_X6_addsLoad (ct_X6_addsLoad (A6_1 hx) qm qB hnl0) rfl rfl (Nat.le_of_ble_eq_true rfl) ⟨Nat.le_of_ble_eq_true rfl, Nat.le_of_ble_eq_true rfl⟩ ⟨Nat.le_of_ble_eq_true rfl, Nat.le_of_ble_eq_true rfl⟩ ⟨rfl, rfl⟩ dX6_readLoad_149 ?_
                  intro v I6 hv
                  obtain ⟨rfl, hm, hg⟩ := hv
                  refine k_istore C (i := 4) (lv := [(4, _), (3, _), (2, _), (1, _), (0, _)]) (Nat.le_of_ble_eq_true rfl) rfl dX6_readLoad_152 ?_
                  refine k_aload_n C (f := 0) (i := 0) (p := 4) rfl rfl dX6_readLoad_154 ?_
                  refine k_getR C f_X6_13 (L6_s (by assumption)) (fun _ _ _ => rfl) (L6_1 (by assumption)) dX6_readLoad_155 ?_
                  refine k_iload C (i := 4) (p := 0) rfl dX6_readLoad_158 ?_
                  refine k_iconst C ic_2 dX6_readLoad_160 ?_
                  refine k_callSp C s_X6_56 h_X6_loadAt (ct_X6_loadAt ) rfl rfl (Nat.le_of_ble_eq_true rfl) ⟨Nat.le_of_ble_eq_true rfl, Nat.le_of_ble_eq_true rfl⟩ ⟨Nat.le_of_ble_eq_true rfl, Nat.le_of_ble_eq_true rfl⟩ ⟨rfl, rfl⟩ dX6_readLoad_161 ?_
                  refine k_iload_n C (f := 3) (i := 3) (p := 1) rfl rfl dX6_readLoad_164 ?_
                  refine k_rst C (i := 142 + 4 * sp_nl s5.2) (A6_1 hx) (by first | rfl | assumption) (by omega) (by omega) hm hg dX6_readLoad_165 (fun I9 hm hg => ?_)
                  exact k_vret C (Nat.le_of_ble_eq_true rfl) (Nat.le_of_ble_eq_true rfl) (⟨rfl, ⟨rfl, by
                      rw [rLoad_S (fun s hs => by
                        obtain ⟨s8, w1, w2⟩ := sp_bd_inv hs
                        by_cases q : decide (sp_nl s8.2 < 20) = true
                        · rw [if_pos q] at w2
                          cases w2
                          rw [w1] at hP
                          exact ⟨of_decide_eq_true q, hP.2.2.2.2.1.2.1⟩
                        · rw [if_neg q] at w2; cases w2) he1 he2 he3 he4 he5]
                      first
                      | (obtain ⟨x, hx5⟩ := sp_nok hc140
                         rw [hx5] at hP5 ⊢
                         exact hP5)
                      | (rw [hs5, ← hcr]
                         exact MP_set hPk hm hg (upd_bring hnl0 qB) (by rw [upd_ne (by omega), bring_at ⟨by omega, by omega, by omega, by omega, by omega⟩]; exact qL)), by
                      first
                      | exact F5.tr (f1_mpf hg)
                      | exact F5, G5⟩⟩) dX6_readLoad_166
              · skip
                refine k_iconst C ic_1 dX6_readLoad_132 ?_
                refine k_goto C (tgt := 137) (by decide) dX6_readLoad_133 ?_
                refine k_callVj C s_X6_191 h_X6_takes (L6_s (by assumption)) rfl (ct_X6_takes hx (F4.txt ht) hP4) rfl rfl (Nat.le_of_ble_eq_true rfl) ⟨Nat.le_of_ble_eq_true rfl, Nat.le_of_ble_eq_true rfl⟩ ⟨Nat.le_of_ble_eq_true rfl, Nat.le_of_ble_eq_true rfl⟩ ⟨rfl, rfl⟩ dX6_readLoad_137 ?_
                intro v I5 J5 hv
                obtain ⟨rfl, hP5, F5, G5⟩ := hv
                have F5 := F4.tr F5
                have G5 := G4.tr G5
                rw [show sp_tk tb n _ e4 = sp_tsS tb n e4 from by first | exact sp_tkS1 hP4 hc129 | exact sp_tkS0 hP4 hc129] at hP5 ⊢
                obtain ⟨e5, he5⟩ : ∃ z : Except Nat sp_S, z = sp_tsS tb n e4 := ⟨_, rfl⟩
                rw [← he5] at hP5 ⊢
                refine k_ifb_eq C (tgt := 166) (by decide) dX6_readLoad_140 (fun hc140 => ?_) (fun hc140 => ?_)
                · skip
                  exact k_vret C (Nat.le_of_ble_eq_true rfl) (Nat.le_of_ble_eq_true rfl) (⟨rfl, ⟨rfl, by
                      rw [rLoad_S (fun s hs => by
                        obtain ⟨s8, w1, w2⟩ := sp_bd_inv hs
                        by_cases q : decide (sp_nl s8.2 < 20) = true
                        · rw [if_pos q] at w2
                          cases w2
                          rw [w1] at hP
                          exact ⟨of_decide_eq_true q, hP.2.2.2.2.1.2.1⟩
                        · rw [if_neg q] at w2; cases w2) he1 he2 he3 he4 he5]
                      first
                      | (obtain ⟨x, hx5⟩ := sp_nok hc140
                         rw [hx5] at hP5 ⊢
                         exact hP5)
                      | (rw [hs5, ← hcr]
                         exact MP_set hPk hm hg (upd_bring hnl0 qB) (by rw [upd_ne (by omega), bring_at ⟨by omega, by omega, by omega, by omega, by omega⟩]; exact qL)), by
                      first
                      | exact F5.tr (f1_mpf hg)
                      | exact F5, G5⟩⟩) dX6_readLoad_166
                · skip
                  obtain ⟨s5, hs5⟩ := sp_ok_iff.mp hc140
                  have hrow : ∃ s : sp_S, e = .ok s ∧ sp_nl s.2 < 20 ∧ s5.2 = s.2 := by
                    obtain ⟨a4, b4, d4⟩ := tsS_inv (he5.symm.trans hs5)
                    obtain ⟨a3, b3, d3⟩ := tl_inv (he4.symm.trans b4)
                    obtain ⟨a2, b2, d2⟩ := tnS_inv (he3.symm.trans b3)
                    obtain ⟨a1, b1, d1⟩ := tnS_inv (he2.symm.trans b2)
                    obtain ⟨a0, b0, p0, d0⟩ := md_gt_inv (he1.symm.trans b1)
                    exact ⟨a0, b0, of_decide_eq_true p0, d4.trans (d3.trans (d2.trans (d1.trans d0)))⟩
                  obtain ⟨s0, hs0, hcnt, hs2⟩ := hrow
                  have hPk := hP5
                  rw [hs5] at hPk
                  obtain ⟨q17, q9, qT, qm, qB, qL⟩ := id hPk
                  have hnl0 : sp_nl s5.2 < 20 := by rw [hs2]; exact hcnt
                  refine k_aload_n C (f := 0) (i := 0) (p := 4) rfl rfl dX6_readLoad_143 ?_
                  refine k_getR C f_X6_13 (L6_s (by assumption)) (fun _ _ _ => rfl) (L6_1 (by assumption)) dX6_readLoad_144 ?_
                  refine k_iload_n C (f := 1) (i := 1) (p := 3) rfl rfl dX6_readLoad_147 ?_
                  refine k_iload_n C (f := 2) (i := 2) (p := 2) rfl rfl dX6_readLoad_148 ?_
                  refine k_callSg C s_X6_52 h_X6_addsLoad (ct_X6_addsLoad (A6_1 hx) qm qB hnl0) rfl rfl (Nat.le_of_ble_eq_true rfl) ⟨Nat.le_of_ble_eq_true rfl, Nat.le_of_ble_eq_true rfl⟩ ⟨Nat.le_of_ble_eq_true rfl, Nat.le_of_ble_eq_true rfl⟩ ⟨rfl, rfl⟩ dX6_readLoad_149 ?_
                  intro v I6 hv
                  obtain ⟨rfl, hm, hg⟩ := hv
                  refine k_istore C (i := 4) (lv := [(4, _), (3, _), (2, _), (1, _), (0, _)]) (Nat.le_of_ble_eq_true rfl) rfl dX6_readLoad_152 ?_
                  refine k_aload_n C (f := 0) (i := 0) (p := 4) rfl rfl dX6_readLoad_154 ?_
                  refine k_getR C f_X6_13 (L6_s (by assumption)) (fun _ _ _ => rfl) (L6_1 (by assumption)) dX6_readLoad_155 ?_
                  refine k_iload C (i := 4) (p := 0) rfl dX6_readLoad_158 ?_
                  refine k_iconst C ic_2 dX6_readLoad_160 ?_
                  refine k_callSp C s_X6_56 h_X6_loadAt (ct_X6_loadAt ) rfl rfl (Nat.le_of_ble_eq_true rfl) ⟨Nat.le_of_ble_eq_true rfl, Nat.le_of_ble_eq_true rfl⟩ ⟨Nat.le_of_ble_eq_true rfl, Nat.le_of_ble_eq_true rfl⟩ ⟨rfl, rfl⟩ dX6_readLoad_161 ?_
                  refine k_iload_n C (f := 3) (i := 3) (p := 1) rfl rfl dX6_readLoad_164 ?_
                  refine k_rst C (i := 142 + 4 * sp_nl s5.2) (A6_1 hx) (by first | rfl | assumption) (by omega) (by omega) hm hg dX6_readLoad_165 (fun I9 hm hg => ?_)
                  exact k_vret C (Nat.le_of_ble_eq_true rfl) (Nat.le_of_ble_eq_true rfl) (⟨rfl, ⟨rfl, by
                      rw [rLoad_S (fun s hs => by
                        obtain ⟨s8, w1, w2⟩ := sp_bd_inv hs
                        by_cases q : decide (sp_nl s8.2 < 20) = true
                        · rw [if_pos q] at w2
                          cases w2
                          rw [w1] at hP
                          exact ⟨of_decide_eq_true q, hP.2.2.2.2.1.2.1⟩
                        · rw [if_neg q] at w2; cases w2) he1 he2 he3 he4 he5]
                      first
                      | (obtain ⟨x, hx5⟩ := sp_nok hc140
                         rw [hx5] at hP5 ⊢
                         exact hP5)
                      | (rw [hs5, ← hcr]
                         exact MP_set hPk hm hg (upd_bring hnl0 qB) (by rw [upd_ne (by omega), bring_at ⟨by omega, by omega, by omega, by omega, by omega⟩]; exact qL)), by
                      first
                      | exact F5.tr (f1_mpf hg)
                      | exact F5, G5⟩⟩) dX6_readLoad_166
            · skip
              exact absurd (by decide) hc94
          · skip
            have hvn : (sp_nx tb n s3.1).2.2.2 < sp_nc s3.2 := by omega
            refine k_iconst C ic_1 dX6_readLoad_85 ?_
            refine k_goto C (tgt := 90) (by decide) dX6_readLoad_86 ?_
            refine k_istore C (i := 4) (lv := [(4, _), (3, _), (2, _), (1, _), (0, _)]) (Nat.le_of_ble_eq_true rfl) rfl dX6_readLoad_90 ?_
            refine k_iload C (i := 4) (p := 0) rfl dX6_readLoad_92 ?_
            refine k_if_eq C (tgt := 116) (by decide) dX6_readLoad_94 (fun hc94 => ?_) (fun hc94 => ?_)
            · skip
              exact absurd hc94 (by decide)
            · skip
              refine k_iload_n C (f := 1) (i := 1) (p := 3) rfl rfl dX6_readLoad_97 ?_
              refine k_aload_n C (f := 0) (i := 0) (p := 4) rfl rfl dX6_readLoad_98 ?_
              refine k_getR C f_X6_13 (L6_s (by assumption)) (fun _ _ _ => rfl) (L6_1 (by assumption)) dX6_readLoad_99 ?_
              refine k_iload_n C (f := 3) (i := 3) (p := 1) rfl rfl dX6_readLoad_102 ?_
              refine k_callSp C s_X6_209 h_X6_freeOf (ct_X6_freeOf (A6_1 hx) qm7 qB (by omega)) rfl rfl (Nat.le_of_ble_eq_true rfl) ⟨Nat.le_of_ble_eq_true rfl, Nat.le_of_ble_eq_true rfl⟩ ⟨Nat.le_of_ble_eq_true rfl, Nat.le_of_ble_eq_true rfl⟩ ⟨rfl, rfl⟩ dX6_readLoad_103 ?_
              refine k_icmp_gt C (tgt := 113) (by decide) dX6_readLoad_106 (fun hc106 => ?_) (fun hc106 => ?_)
              · skip
                refine k_iconst C ic_0 dX6_readLoad_113 ?_
                refine k_istore C (i := 4) (lv := [(4, _), (3, _), (2, _), (1, _), (0, _)]) (Nat.le_of_ble_eq_true rfl) rfl dX6_readLoad_114 ?_
                refine k_aload_n C (f := 0) (i := 0) (p := 4) rfl rfl dX6_readLoad_116 ?_
                refine k_iload C (i := 4) (p := 0) rfl dX6_readLoad_117 ?_
                refine k_callVj C s_X6_191 h_X6_takes (L6_s (by assumption)) rfl (ct_X6_takes hx (F7.txt ht) hP7) rfl rfl (Nat.le_of_ble_eq_true rfl) ⟨Nat.le_of_ble_eq_true rfl, Nat.le_of_ble_eq_true rfl⟩ ⟨Nat.le_of_ble_eq_true rfl, Nat.le_of_ble_eq_true rfl⟩ ⟨rfl, rfl⟩ dX6_readLoad_119 ?_
                intro v I4 J4 hv
                obtain ⟨rfl, hP4, F4, G4⟩ := hv
                have F4 := F7.tr F4
                have G4 := G7.tr G4
                have hg4 : ∃ z : Except Nat sp_S, MP I4 J4 y tb n z ∧ z = md_tl tb n (sp_tz tb n 1 99 e1) e3 := ⟨_, hP4, by
                  rw [hs3]
                  show _ = (if sp_isw tb s3.1 6 = true then _ else _)
                  rw [if_pos hon]
                  first
                  | (rw [sp_tk1]; exact (if_pos ⟨(nI_eq (by omega) (by decide)).mp (m14.symm.trans hc71), hvn, hc106⟩).symm)
                  | (have hcc := hc106
                     rw [sp_tk0]
                     exact (if_neg (fun z => z.2.2 hcc)).symm)
                  | (have hcc : sp_nc s3.2 ≤ (sp_nx tb n s3.1).2.2.2 := by omega
                     rw [sp_tk0]
                     exact (if_neg (fun z => absurd z.2.1 (by omega))).symm)
                  | (have hcc : ¬ I7 y 14 = nI 2 := hc71
                     rw [sp_tk0]
                     exact (if_neg (fun z => hcc (m14.trans (by rw [z.1])))).symm)⟩
                clear hP4
                obtain ⟨e4, hP4, he4⟩ := hg4
                have hcr : nI (sp_nx tb n s3.1).2.2.2 = md_cr tb n e3 := by
                  rw [hs3]
                  exact (if_pos hon).symm
                refine k_pop C rfl dX6_readLoad_122 ?_
                refine k_aload_n C (f := 0) (i := 0) (p := 4) rfl rfl dX6_readLoad_123 ?_
                refine k_aload_n C (f := 0) (i := 0) (p := 4) rfl rfl dX6_readLoad_124 ?_
                refine k_getI C f_X6_164 (L6_s (by assumption)) (fun _ _ _ => rfl) (rfl) dX6_readLoad_125 ?_
                refine k_iconst C ic_3 dX6_readLoad_128 ?_
                refine k_icmp_ne C (tgt := 136) (by decide) dX6_readLoad_129 (fun hc129 => ?_) (fun hc129 => ?_)
                · skip
                  refine k_iconst C ic_0 dX6_readLoad_136 ?_
                  refine k_callVj C s_X6_191 h_X6_takes (L6_s (by assumption)) rfl (ct_X6_takes hx (F4.txt ht) hP4) rfl rfl (Nat.le_of_ble_eq_true rfl) ⟨Nat.le_of_ble_eq_true rfl, Nat.le_of_ble_eq_true rfl⟩ ⟨Nat.le_of_ble_eq_true rfl, Nat.le_of_ble_eq_true rfl⟩ ⟨rfl, rfl⟩ dX6_readLoad_137 ?_
                  intro v I5 J5 hv
                  obtain ⟨rfl, hP5, F5, G5⟩ := hv
                  have F5 := F4.tr F5
                  have G5 := G4.tr G5
                  rw [show sp_tk tb n _ e4 = sp_tsS tb n e4 from by first | exact sp_tkS1 hP4 hc129 | exact sp_tkS0 hP4 hc129] at hP5 ⊢
                  obtain ⟨e5, he5⟩ : ∃ z : Except Nat sp_S, z = sp_tsS tb n e4 := ⟨_, rfl⟩
                  rw [← he5] at hP5 ⊢
                  refine k_ifb_eq C (tgt := 166) (by decide) dX6_readLoad_140 (fun hc140 => ?_) (fun hc140 => ?_)
                  · skip
                    exact k_vret C (Nat.le_of_ble_eq_true rfl) (Nat.le_of_ble_eq_true rfl) (⟨rfl, ⟨rfl, by
                        rw [rLoad_S (fun s hs => by
                          obtain ⟨s8, w1, w2⟩ := sp_bd_inv hs
                          by_cases q : decide (sp_nl s8.2 < 20) = true
                          · rw [if_pos q] at w2
                            cases w2
                            rw [w1] at hP
                            exact ⟨of_decide_eq_true q, hP.2.2.2.2.1.2.1⟩
                          · rw [if_neg q] at w2; cases w2) he1 he2 he3 he4 he5]
                        first
                        | (obtain ⟨x, hx5⟩ := sp_nok hc140
                           rw [hx5] at hP5 ⊢
                           exact hP5)
                        | (rw [hs5, ← hcr]
                           exact MP_set hPk hm hg (upd_bring hnl0 qB) (by rw [upd_ne (by omega), bring_at ⟨by omega, by omega, by omega, by omega, by omega⟩]; exact qL)), by
                        first
                        | exact F5.tr (f1_mpf hg)
                        | exact F5, G5⟩⟩) dX6_readLoad_166
                  · skip
                    obtain ⟨s5, hs5⟩ := sp_ok_iff.mp hc140
                    have hrow : ∃ s : sp_S, e = .ok s ∧ sp_nl s.2 < 20 ∧ s5.2 = s.2 := by
                      obtain ⟨a4, b4, d4⟩ := tsS_inv (he5.symm.trans hs5)
                      obtain ⟨a3, b3, d3⟩ := tl_inv (he4.symm.trans b4)
                      obtain ⟨a2, b2, d2⟩ := tnS_inv (he3.symm.trans b3)
                      obtain ⟨a1, b1, d1⟩ := tnS_inv (he2.symm.trans b2)
                      obtain ⟨a0, b0, p0, d0⟩ := md_gt_inv (he1.symm.trans b1)
                      exact ⟨a0, b0, of_decide_eq_true p0, d4.trans (d3.trans (d2.trans (d1.trans d0)))⟩
                    obtain ⟨s0, hs0, hcnt, hs2⟩ := hrow
                    have hPk := hP5
                    rw [hs5] at hPk
                    obtain ⟨q17, q9, qT, qm, qB, qL⟩ := id hPk
                    have hnl0 : sp_nl s5.2 < 20 := by rw [hs2]; exact hcnt
                    refine k_aload_n C (f := 0) (i := 0) (p := 4) rfl rfl dX6_readLoad_143 ?_
                    refine k_getR C f_X6_13 (L6_s (by assumption)) (fun _ _ _ => rfl) (L6_1 (by assumption)) dX6_readLoad_144 ?_
                    refine k_iload_n C (f := 1) (i := 1) (p := 3) rfl rfl dX6_readLoad_147 ?_
                    refine k_iload_n C (f := 2) (i := 2) (p := 2) rfl rfl dX6_readLoad_148 ?_
                    refine k_callSg C s_X6_52 h_X6_addsLoad (ct_X6_addsLoad (A6_1 hx) qm qB hnl0) rfl rfl (Nat.le_of_ble_eq_true rfl) ⟨Nat.le_of_ble_eq_true rfl, Nat.le_of_ble_eq_true rfl⟩ ⟨Nat.le_of_ble_eq_true rfl, Nat.le_of_ble_eq_true rfl⟩ ⟨rfl, rfl⟩ dX6_readLoad_149 ?_
                    intro v I6 hv
                    obtain ⟨rfl, hm, hg⟩ := hv
                    refine k_istore C (i := 4) (lv := [(4, _), (3, _), (2, _), (1, _), (0, _)]) (Nat.le_of_ble_eq_true rfl) rfl dX6_readLoad_152 ?_
                    refine k_aload_n C (f := 0) (i := 0) (p := 4) rfl rfl dX6_readLoad_154 ?_
                    refine k_getR C f_X6_13 (L6_s (by assumption)) (fun _ _ _ => rfl) (L6_1 (by assumption)) dX6_readLoad_155 ?_
                    refine k_iload C (i := 4) (p := 0) rfl dX6_readLoad_158 ?_
                    refine k_iconst C ic_2 dX6_readLoad_160 ?_
                    refine k_callSp C s_X6_56 h_X6_loadAt (ct_X6_loadAt ) rfl rfl (Nat.le_of_ble_eq_true rfl) ⟨Nat.le_of_ble_eq_true rfl, Nat.le_of_ble_eq_true rfl⟩ ⟨Nat.le_of_ble_eq_true rfl, Nat.le_of_ble_eq_true rfl⟩ ⟨rfl, rfl⟩ dX6_readLoad_161 ?_
                    refine k_iload_n C (f := 3) (i := 3) (p := 1) rfl rfl dX6_readLoad_164 ?_
                    refine k_rst C (i := 142 + 4 * sp_nl s5.2) (A6_1 hx) (by first | rfl | assumption) (by omega) (by omega) hm hg dX6_readLoad_165 (fun I9 hm hg => ?_)
                    exact k_vret C (Nat.le_of_ble_eq_true rfl) (Nat.le_of_ble_eq_true rfl) (⟨rfl, ⟨rfl, by
                        rw [rLoad_S (fun s hs => by
                          obtain ⟨s8, w1, w2⟩ := sp_bd_inv hs
                          by_cases q : decide (sp_nl s8.2 < 20) = true
                          · rw [if_pos q] at w2
                            cases w2
                            rw [w1] at hP
                            exact ⟨of_decide_eq_true q, hP.2.2.2.2.1.2.1⟩
                          · rw [if_neg q] at w2; cases w2) he1 he2 he3 he4 he5]
                        first
                        | (obtain ⟨x, hx5⟩ := sp_nok hc140
                           rw [hx5] at hP5 ⊢
                           exact hP5)
                        | (rw [hs5, ← hcr]
                           exact MP_set hPk hm hg (upd_bring hnl0 qB) (by rw [upd_ne (by omega), bring_at ⟨by omega, by omega, by omega, by omega, by omega⟩]; exact qL)), by
                        first
                        | exact F5.tr (f1_mpf hg)
                        | exact F5, G5⟩⟩) dX6_readLoad_166
                · skip
                  refine k_iconst C ic_1 dX6_readLoad_132 ?_
                  refine k_goto C (tgt := 137) (by decide) dX6_readLoad_133 ?_
                  refine k_callVj C s_X6_191 h_X6_takes (L6_s (by assumption)) rfl (ct_X6_takes hx (F4.txt ht) hP4) rfl rfl (Nat.le_of_ble_eq_true rfl) ⟨Nat.le_of_ble_eq_true rfl, Nat.le_of_ble_eq_true rfl⟩ ⟨Nat.le_of_ble_eq_true rfl, Nat.le_of_ble_eq_true rfl⟩ ⟨rfl, rfl⟩ dX6_readLoad_137 ?_
                  intro v I5 J5 hv
                  obtain ⟨rfl, hP5, F5, G5⟩ := hv
                  have F5 := F4.tr F5
                  have G5 := G4.tr G5
                  rw [show sp_tk tb n _ e4 = sp_tsS tb n e4 from by first | exact sp_tkS1 hP4 hc129 | exact sp_tkS0 hP4 hc129] at hP5 ⊢
                  obtain ⟨e5, he5⟩ : ∃ z : Except Nat sp_S, z = sp_tsS tb n e4 := ⟨_, rfl⟩
                  rw [← he5] at hP5 ⊢
                  refine k_ifb_eq C (tgt := 166) (by decide) dX6_readLoad_140 (fun hc140 => ?_) (fun hc140 => ?_)
                  · skip
                    exact k_vret C (Nat.le_of_ble_eq_true rfl) (Nat.le_of_ble_eq_true rfl) (⟨rfl, ⟨rfl, by
                        rw [rLoad_S (fun s hs => by
                          obtain ⟨s8, w1, w2⟩ := sp_bd_inv hs
                          by_cases q : decide (sp_nl s8.2 < 20) = true
                          · rw [if_pos q] at w2
                            cases w2
                            rw [w1] at hP
                            exact ⟨of_decide_eq_true q, hP.2.2.2.2.1.2.1⟩
                          · rw [if_neg q] at w2; cases w2) he1 he2 he3 he4 he5]
                        first
                        | (obtain ⟨x, hx5⟩ := sp_nok hc140
                           rw [hx5] at hP5 ⊢
                           exact hP5)
                        | (rw [hs5, ← hcr]
                           exact MP_set hPk hm hg (upd_bring hnl0 qB) (by rw [upd_ne (by omega), bring_at ⟨by omega, by omega, by omega, by omega, by omega⟩]; exact qL)), by
                        first
                        | exact F5.tr (f1_mpf hg)
                        | exact F5, G5⟩⟩) dX6_readLoad_166
                  · skip
                    obtain ⟨s5, hs5⟩ := sp_ok_iff.mp hc140
                    have hrow : ∃ s : sp_S, e = .ok s ∧ sp_nl s.2 < 20 ∧ s5.2 = s.2 := by
                      obtain ⟨a4, b4, d4⟩ := tsS_inv (he5.symm.trans hs5)
                      obtain ⟨a3, b3, d3⟩ := tl_inv (he4.symm.trans b4)
                      obtain ⟨a2, b2, d2⟩ := tnS_inv (he3.symm.trans b3)
                      obtain ⟨a1, b1, d1⟩ := tnS_inv (he2.symm.trans b2)
                      obtain ⟨a0, b0, p0, d0⟩ := md_gt_inv (he1.symm.trans b1)
                      exact ⟨a0, b0, of_decide_eq_true p0, d4.trans (d3.trans (d2.trans (d1.trans d0)))⟩
                    obtain ⟨s0, hs0, hcnt, hs2⟩ := hrow
                    have hPk := hP5
                    rw [hs5] at hPk
                    obtain ⟨q17, q9, qT, qm, qB, qL⟩ := id hPk
                    have hnl0 : sp_nl s5.2 < 20 := by rw [hs2]; exact hcnt
                    refine k_aload_n C (f := 0) (i := 0) (p := 4) rfl rfl dX6_readLoad_143 ?_
                    refine k_getR C f_X6_13 (L6_s (by assumption)) (fun _ _ _ => rfl) (L6_1 (by assumption)) dX6_readLoad_144 ?_
                    refine k_iload_n C (f := 1) (i := 1) (p := 3) rfl rfl dX6_readLoad_147 ?_
                    refine k_iload_n C (f := 2) (i := 2) (p := 2) rfl rfl dX6_readLoad_148 ?_
                    refine k_callSg C s_X6_52 h_X6_addsLoad (ct_X6_addsLoad (A6_1 hx) qm qB hnl0) rfl rfl (Nat.le_of_ble_eq_true rfl) ⟨Nat.le_of_ble_eq_true rfl, Nat.le_of_ble_eq_true rfl⟩ ⟨Nat.le_of_ble_eq_true rfl, Nat.le_of_ble_eq_true rfl⟩ ⟨rfl, rfl⟩ dX6_readLoad_149 ?_
                    intro v I6 hv
                    obtain ⟨rfl, hm, hg⟩ := hv
                    refine k_istore C (i := 4) (lv := [(4, _), (3, _), (2, _), (1, _), (0, _)]) (Nat.le_of_ble_eq_true rfl) rfl dX6_readLoad_152 ?_
                    refine k_aload_n C (f := 0) (i := 0) (p := 4) rfl rfl dX6_readLoad_154 ?_
                    refine k_getR C f_X6_13 (L6_s (by assumption)) (fun _ _ _ => rfl) (L6_1 (by assumption)) dX6_readLoad_155 ?_
                    refine k_iload C (i := 4) (p := 0) rfl dX6_readLoad_158 ?_
                    refine k_iconst C ic_2 dX6_readLoad_160 ?_
                    refine k_callSp C s_X6_56 h_X6_loadAt (ct_X6_loadAt ) rfl rfl (Nat.le_of_ble_eq_true rfl) ⟨Nat.le_of_ble_eq_true rfl, Nat.le_of_ble_eq_true rfl⟩ ⟨Nat.le_of_ble_eq_true rfl, Nat.le_of_ble_eq_true rfl⟩ ⟨rfl, rfl⟩ dX6_readLoad_161 ?_
                    refine k_iload_n C (f := 3) (i := 3) (p := 1) rfl rfl dX6_readLoad_164 ?_
                    refine k_rst C (i := 142 + 4 * sp_nl s5.2) (A6_1 hx) (by first | rfl | assumption) (by omega) (by omega) hm hg dX6_readLoad_165 (fun I9 hm hg => ?_)
                    exact k_vret C (Nat.le_of_ble_eq_true rfl) (Nat.le_of_ble_eq_true rfl) (⟨rfl, ⟨rfl, by
                        rw [rLoad_S (fun s hs => by
                          obtain ⟨s8, w1, w2⟩ := sp_bd_inv hs
                          by_cases q : decide (sp_nl s8.2 < 20) = true
                          · rw [if_pos q] at w2
                            cases w2
                            rw [w1] at hP
                            exact ⟨of_decide_eq_true q, hP.2.2.2.2.1.2.1⟩
                          · rw [if_neg q] at w2; cases w2) he1 he2 he3 he4 he5]
                        first
                        | (obtain ⟨x, hx5⟩ := sp_nok hc140
                           rw [hx5] at hP5 ⊢
                           exact hP5)
                        | (rw [hs5, ← hcr]
                           exact MP_set hPk hm hg (upd_bring hnl0 qB) (by rw [upd_ne (by omega), bring_at ⟨by omega, by omega, by omega, by omega, by omega⟩]; exact qL)), by
                        first
                        | exact F5.tr (f1_mpf hg)
                        | exact F5, G5⟩⟩) dX6_readLoad_166
              · skip
                refine k_iconst C ic_1 dX6_readLoad_109 ?_
                refine k_goto C (tgt := 114) (by decide) dX6_readLoad_110 ?_
                refine k_istore C (i := 4) (lv := [(4, _), (3, _), (2, _), (1, _), (0, _)]) (Nat.le_of_ble_eq_true rfl) rfl dX6_readLoad_114 ?_
                refine k_aload_n C (f := 0) (i := 0) (p := 4) rfl rfl dX6_readLoad_116 ?_
                refine k_iload C (i := 4) (p := 0) rfl dX6_readLoad_117 ?_
                refine k_callVj C s_X6_191 h_X6_takes (L6_s (by assumption)) rfl (ct_X6_takes hx (F7.txt ht) hP7) rfl rfl (Nat.le_of_ble_eq_true rfl) ⟨Nat.le_of_ble_eq_true rfl, Nat.le_of_ble_eq_true rfl⟩ ⟨Nat.le_of_ble_eq_true rfl, Nat.le_of_ble_eq_true rfl⟩ ⟨rfl, rfl⟩ dX6_readLoad_119 ?_
                intro v I4 J4 hv
                obtain ⟨rfl, hP4, F4, G4⟩ := hv
                have F4 := F7.tr F4
                have G4 := G7.tr G4
                have hg4 : ∃ z : Except Nat sp_S, MP I4 J4 y tb n z ∧ z = md_tl tb n (sp_tz tb n 1 99 e1) e3 := ⟨_, hP4, by
                  rw [hs3]
                  show _ = (if sp_isw tb s3.1 6 = true then _ else _)
                  rw [if_pos hon]
                  first
                  | (rw [sp_tk1]; exact (if_pos ⟨(nI_eq (by omega) (by decide)).mp (m14.symm.trans hc71), hvn, hc106⟩).symm)
                  | (have hcc := hc106
                     rw [sp_tk0]
                     exact (if_neg (fun z => z.2.2 hcc)).symm)
                  | (have hcc : sp_nc s3.2 ≤ (sp_nx tb n s3.1).2.2.2 := by omega
                     rw [sp_tk0]
                     exact (if_neg (fun z => absurd z.2.1 (by omega))).symm)
                  | (have hcc : ¬ I7 y 14 = nI 2 := hc71
                     rw [sp_tk0]
                     exact (if_neg (fun z => hcc (m14.trans (by rw [z.1])))).symm)⟩
                clear hP4
                obtain ⟨e4, hP4, he4⟩ := hg4
                have hcr : nI (sp_nx tb n s3.1).2.2.2 = md_cr tb n e3 := by
                  rw [hs3]
                  exact (if_pos hon).symm
                refine k_pop C rfl dX6_readLoad_122 ?_
                refine k_aload_n C (f := 0) (i := 0) (p := 4) rfl rfl dX6_readLoad_123 ?_
                refine k_aload_n C (f := 0) (i := 0) (p := 4) rfl rfl dX6_readLoad_124 ?_
                refine k_getI C f_X6_164 (L6_s (by assumption)) (fun _ _ _ => rfl) (rfl) dX6_readLoad_125 ?_
                refine k_iconst C ic_3 dX6_readLoad_128 ?_
                refine k_icmp_ne C (tgt := 136) (by decide) dX6_readLoad_129 (fun hc129 => ?_) (fun hc129 => ?_)
                · skip
                  refine k_iconst C ic_0 dX6_readLoad_136 ?_
                  refine k_callVj C s_X6_191 h_X6_takes (L6_s (by assumption)) rfl (ct_X6_takes hx (F4.txt ht) hP4) rfl rfl (Nat.le_of_ble_eq_true rfl) ⟨Nat.le_of_ble_eq_true rfl, Nat.le_of_ble_eq_true rfl⟩ ⟨Nat.le_of_ble_eq_true rfl, Nat.le_of_ble_eq_true rfl⟩ ⟨rfl, rfl⟩ dX6_readLoad_137 ?_
                  intro v I5 J5 hv
                  obtain ⟨rfl, hP5, F5, G5⟩ := hv
                  have F5 := F4.tr F5
                  have G5 := G4.tr G5
                  rw [show sp_tk tb n _ e4 = sp_tsS tb n e4 from by first | exact sp_tkS1 hP4 hc129 | exact sp_tkS0 hP4 hc129] at hP5 ⊢
                  obtain ⟨e5, he5⟩ : ∃ z : Except Nat sp_S, z = sp_tsS tb n e4 := ⟨_, rfl⟩
                  rw [← he5] at hP5 ⊢
                  refine k_ifb_eq C (tgt := 166) (by decide) dX6_readLoad_140 (fun hc140 => ?_) (fun hc140 => ?_)
                  · skip
                    exact k_vret C (Nat.le_of_ble_eq_true rfl) (Nat.le_of_ble_eq_true rfl) (⟨rfl, ⟨rfl, by
                        rw [rLoad_S (fun s hs => by
                          obtain ⟨s8, w1, w2⟩ := sp_bd_inv hs
                          by_cases q : decide (sp_nl s8.2 < 20) = true
                          · rw [if_pos q] at w2
                            cases w2
                            rw [w1] at hP
                            exact ⟨of_decide_eq_true q, hP.2.2.2.2.1.2.1⟩
                          · rw [if_neg q] at w2; cases w2) he1 he2 he3 he4 he5]
                        first
                        | (obtain ⟨x, hx5⟩ := sp_nok hc140
                           rw [hx5] at hP5 ⊢
                           exact hP5)
                        | (rw [hs5, ← hcr]
                           exact MP_set hPk hm hg (upd_bring hnl0 qB) (by rw [upd_ne (by omega), bring_at ⟨by omega, by omega, by omega, by omega, by omega⟩]; exact qL)), by
                        first
                        | exact F5.tr (f1_mpf hg)
                        | exact F5, G5⟩⟩) dX6_readLoad_166
                  · skip
                    obtain ⟨s5, hs5⟩ := sp_ok_iff.mp hc140
                    have hrow : ∃ s : sp_S, e = .ok s ∧ sp_nl s.2 < 20 ∧ s5.2 = s.2 := by
                      obtain ⟨a4, b4, d4⟩ := tsS_inv (he5.symm.trans hs5)
                      obtain ⟨a3, b3, d3⟩ := tl_inv (he4.symm.trans b4)
                      obtain ⟨a2, b2, d2⟩ := tnS_inv (he3.symm.trans b3)
                      obtain ⟨a1, b1, d1⟩ := tnS_inv (he2.symm.trans b2)
                      obtain ⟨a0, b0, p0, d0⟩ := md_gt_inv (he1.symm.trans b1)
                      exact ⟨a0, b0, of_decide_eq_true p0, d4.trans (d3.trans (d2.trans (d1.trans d0)))⟩
                    obtain ⟨s0, hs0, hcnt, hs2⟩ := hrow
                    have hPk := hP5
                    rw [hs5] at hPk
                    obtain ⟨q17, q9, qT, qm, qB, qL⟩ := id hPk
                    have hnl0 : sp_nl s5.2 < 20 := by rw [hs2]; exact hcnt
                    refine k_aload_n C (f := 0) (i := 0) (p := 4) rfl rfl dX6_readLoad_143 ?_
                    refine k_getR C f_X6_13 (L6_s (by assumption)) (fun _ _ _ => rfl) (L6_1 (by assumption)) dX6_readLoad_144 ?_
                    refine k_iload_n C (f := 1) (i := 1) (p := 3) rfl rfl dX6_readLoad_147 ?_
                    refine k_iload_n C (f := 2) (i := 2) (p := 2) rfl rfl dX6_readLoad_148 ?_
                    refine k_callSg C s_X6_52 h_X6_addsLoad (ct_X6_addsLoad (A6_1 hx) qm qB hnl0) rfl rfl (Nat.le_of_ble_eq_true rfl) ⟨Nat.le_of_ble_eq_true rfl, Nat.le_of_ble_eq_true rfl⟩ ⟨Nat.le_of_ble_eq_true rfl, Nat.le_of_ble_eq_true rfl⟩ ⟨rfl, rfl⟩ dX6_readLoad_149 ?_
                    intro v I6 hv
                    obtain ⟨rfl, hm, hg⟩ := hv
                    refine k_istore C (i := 4) (lv := [(4, _), (3, _), (2, _), (1, _), (0, _)]) (Nat.le_of_ble_eq_true rfl) rfl dX6_readLoad_152 ?_
                    refine k_aload_n C (f := 0) (i := 0) (p := 4) rfl rfl dX6_readLoad_154 ?_
                    refine k_getR C f_X6_13 (L6_s (by assumption)) (fun _ _ _ => rfl) (L6_1 (by assumption)) dX6_readLoad_155 ?_
                    refine k_iload C (i := 4) (p := 0) rfl dX6_readLoad_158 ?_
                    refine k_iconst C ic_2 dX6_readLoad_160 ?_
                    refine k_callSp C s_X6_56 h_X6_loadAt (ct_X6_loadAt ) rfl rfl (Nat.le_of_ble_eq_true rfl) ⟨Nat.le_of_ble_eq_true rfl, Nat.le_of_ble_eq_true rfl⟩ ⟨Nat.le_of_ble_eq_true rfl, Nat.le_of_ble_eq_true rfl⟩ ⟨rfl, rfl⟩ dX6_readLoad_161 ?_
                    refine k_iload_n C (f := 3) (i := 3) (p := 1) rfl rfl dX6_readLoad_164 ?_
                    refine k_rst C (i := 142 + 4 * sp_nl s5.2) (A6_1 hx) (by first | rfl | assumption) (by omega) (by omega) hm hg dX6_readLoad_165 (fun I9 hm hg => ?_)
                    exact k_vret C (Nat.le_of_ble_eq_true rfl) (Nat.le_of_ble_eq_true rfl) (⟨rfl, ⟨rfl, by
                        rw [rLoad_S (fun s hs => by
                          obtain ⟨s8, w1, w2⟩ := sp_bd_inv hs
                          by_cases q : decide (sp_nl s8.2 < 20) = true
                          · rw [if_pos q] at w2
                            cases w2
                            rw [w1] at hP
                            exact ⟨of_decide_eq_true q, hP.2.2.2.2.1.2.1⟩
                          · rw [if_neg q] at w2; cases w2) he1 he2 he3 he4 he5]
                        first
                        | (obtain ⟨x, hx5⟩ := sp_nok hc140
                           rw [hx5] at hP5 ⊢
                           exact hP5)
                        | (rw [hs5, ← hcr]
                           exact MP_set hPk hm hg (upd_bring hnl0 qB) (by rw [upd_ne (by omega), bring_at ⟨by omega, by omega, by omega, by omega, by omega⟩]; exact qL)), by
                        first
                        | exact F5.tr (f1_mpf hg)
                        | exact F5, G5⟩⟩) dX6_readLoad_166
                · skip
                  refine k_iconst C ic_1 dX6_readLoad_132 ?_
                  refine k_goto C (tgt := 137) (by decide) dX6_readLoad_133 ?_
                  refine k_callVj C s_X6_191 h_X6_takes (L6_s (by assumption)) rfl (ct_X6_takes hx (F4.txt ht) hP4) rfl rfl (Nat.le_of_ble_eq_true rfl) ⟨Nat.le_of_ble_eq_true rfl, Nat.le_of_ble_eq_true rfl⟩ ⟨Nat.le_of_ble_eq_true rfl, Nat.le_of_ble_eq_true rfl⟩ ⟨rfl, rfl⟩ dX6_readLoad_137 ?_
                  intro v I5 J5 hv
                  obtain ⟨rfl, hP5, F5, G5⟩ := hv
                  have F5 := F4.tr F5
                  have G5 := G4.tr G5
                  rw [show sp_tk tb n _ e4 = sp_tsS tb n e4 from by first | exact sp_tkS1 hP4 hc129 | exact sp_tkS0 hP4 hc129] at hP5 ⊢
                  obtain ⟨e5, he5⟩ : ∃ z : Except Nat sp_S, z = sp_tsS tb n e4 := ⟨_, rfl⟩
                  rw [← he5] at hP5 ⊢
                  refine k_ifb_eq C (tgt := 166) (by decide) dX6_readLoad_140 (fun hc140 => ?_) (fun hc140 => ?_)
                  · skip
                    exact k_vret C (Nat.le_of_ble_eq_true rfl) (Nat.le_of_ble_eq_true rfl) (⟨rfl, ⟨rfl, by
                        rw [rLoad_S (fun s hs => by
                          obtain ⟨s8, w1, w2⟩ := sp_bd_inv hs
                          by_cases q : decide (sp_nl s8.2 < 20) = true
                          · rw [if_pos q] at w2
                            cases w2
                            rw [w1] at hP
                            exact ⟨of_decide_eq_true q, hP.2.2.2.2.1.2.1⟩
                          · rw [if_neg q] at w2; cases w2) he1 he2 he3 he4 he5]
                        first
                        | (obtain ⟨x, hx5⟩ := sp_nok hc140
                           rw [hx5] at hP5 ⊢
                           exact hP5)
                        | (rw [hs5, ← hcr]
                           exact MP_set hPk hm hg (upd_bring hnl0 qB) (by rw [upd_ne (by omega), bring_at ⟨by omega, by omega, by omega, by omega, by omega⟩]; exact qL)), by
                        first
                        | exact F5.tr (f1_mpf hg)
                        | exact F5, G5⟩⟩) dX6_readLoad_166
                  · skip
                    obtain ⟨s5, hs5⟩ := sp_ok_iff.mp hc140
                    have hrow : ∃ s : sp_S, e = .ok s ∧ sp_nl s.2 < 20 ∧ s5.2 = s.2 := by
                      obtain ⟨a4, b4, d4⟩ := tsS_inv (he5.symm.trans hs5)
                      obtain ⟨a3, b3, d3⟩ := tl_inv (he4.symm.trans b4)
                      obtain ⟨a2, b2, d2⟩ := tnS_inv (he3.symm.trans b3)
                      obtain ⟨a1, b1, d1⟩ := tnS_inv (he2.symm.trans b2)
                      obtain ⟨a0, b0, p0, d0⟩ := md_gt_inv (he1.symm.trans b1)
                      exact ⟨a0, b0, of_decide_eq_true p0, d4.trans (d3.trans (d2.trans (d1.trans d0)))⟩
                    obtain ⟨s0, hs0, hcnt, hs2⟩ := hrow
                    have hPk := hP5
                    rw [hs5] at hPk
                    obtain ⟨q17, q9, qT, qm, qB, qL⟩ := id hPk
                    have hnl0 : sp_nl s5.2 < 20 := by rw [hs2]; exact hcnt
                    refine k_aload_n C (f := 0) (i := 0) (p := 4) rfl rfl dX6_readLoad_143 ?_
                    refine k_getR C f_X6_13 (L6_s (by assumption)) (fun _ _ _ => rfl) (L6_1 (by assumption)) dX6_readLoad_144 ?_
                    refine k_iload_n C (f := 1) (i := 1) (p := 3) rfl rfl dX6_readLoad_147 ?_
                    refine k_iload_n C (f := 2) (i := 2) (p := 2) rfl rfl dX6_readLoad_148 ?_
                    refine k_callSg C s_X6_52 h_X6_addsLoad (ct_X6_addsLoad (A6_1 hx) qm qB hnl0) rfl rfl (Nat.le_of_ble_eq_true rfl) ⟨Nat.le_of_ble_eq_true rfl, Nat.le_of_ble_eq_true rfl⟩ ⟨Nat.le_of_ble_eq_true rfl, Nat.le_of_ble_eq_true rfl⟩ ⟨rfl, rfl⟩ dX6_readLoad_149 ?_
                    intro v I6 hv
                    obtain ⟨rfl, hm, hg⟩ := hv
                    refine k_istore C (i := 4) (lv := [(4, _), (3, _), (2, _), (1, _), (0, _)]) (Nat.le_of_ble_eq_true rfl) rfl dX6_readLoad_152 ?_
                    refine k_aload_n C (f := 0) (i := 0) (p := 4) rfl rfl dX6_readLoad_154 ?_
                    refine k_getR C f_X6_13 (L6_s (by assumption)) (fun _ _ _ => rfl) (L6_1 (by assumption)) dX6_readLoad_155 ?_
                    refine k_iload C (i := 4) (p := 0) rfl dX6_readLoad_158 ?_
                    refine k_iconst C ic_2 dX6_readLoad_160 ?_
                    refine k_callSp C s_X6_56 h_X6_loadAt (ct_X6_loadAt ) rfl rfl (Nat.le_of_ble_eq_true rfl) ⟨Nat.le_of_ble_eq_true rfl, Nat.le_of_ble_eq_true rfl⟩ ⟨Nat.le_of_ble_eq_true rfl, Nat.le_of_ble_eq_true rfl⟩ ⟨rfl, rfl⟩ dX6_readLoad_161 ?_
                    refine k_iload_n C (f := 3) (i := 3) (p := 1) rfl rfl dX6_readLoad_164 ?_
                    refine k_rst C (i := 142 + 4 * sp_nl s5.2) (A6_1 hx) (by first | rfl | assumption) (by omega) (by omega) hm hg dX6_readLoad_165 (fun I9 hm hg => ?_)
                    exact k_vret C (Nat.le_of_ble_eq_true rfl) (Nat.le_of_ble_eq_true rfl) (⟨rfl, ⟨rfl, by
                        rw [rLoad_S (fun s hs => by
                          obtain ⟨s8, w1, w2⟩ := sp_bd_inv hs
                          by_cases q : decide (sp_nl s8.2 < 20) = true
                          · rw [if_pos q] at w2
                            cases w2
                            rw [w1] at hP
                            exact ⟨of_decide_eq_true q, hP.2.2.2.2.1.2.1⟩
                          · rw [if_neg q] at w2; cases w2) he1 he2 he3 he4 he5]
                        first
                        | (obtain ⟨x, hx5⟩ := sp_nok hc140
                           rw [hx5] at hP5 ⊢
                           exact hP5)
                        | (rw [hs5, ← hcr]
                           exact MP_set hPk hm hg (upd_bring hnl0 qB) (by rw [upd_ne (by omega), bring_at ⟨by omega, by omega, by omega, by omega, by omega⟩]; exact qL)), by
                        first
                        | exact F5.tr (f1_mpf hg)
                        | exact F5, G5⟩⟩) dX6_readLoad_166
