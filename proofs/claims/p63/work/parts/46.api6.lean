def sp_can (r : Nat → Int32) : Prop := ¬ r 0 ≤ r 1 ∧ (r 2 < nI 200 ∧ 0 < sp_living r)
def sp_go1 (r : Nat → Int32) : Nat → Int32 := if ¬ r 0 ≤ r 1 ∧ (r 2 < nI 200 ∧ 0 < sp_living r) then sp_travel r (r 4).toNatClampNeg else r
def sp_goN (r : Nat → Int32) : Nat → Nat → Int32
  | 0 => r
  | k + 1 => sp_go1 (sp_goN r k)
theorem sp_go1_t {r : Nat → Int32} (h : sp_can r) : sp_go1 r = sp_travel r (r 4).toNatClampNeg := if_pos h
theorem sp_go1_f {r : Nat → Int32} (h : ¬ sp_can r) : sp_go1 r = r := if_neg h
theorem sp_goN_fix {r : Nat → Int32} {k : Nat} (h : ¬ sp_can (sp_goN r k)) : ∀ m : Nat, sp_goN r (k + m) = sp_goN r k := by
  intro m
  induction m with
  | zero => rfl
  | succ m ih =>
    show sp_go1 (sp_goN r (k + m)) = _
    rw [ih]; exact sp_go1_f h
theorem rowok_go1 {r : Nat → Int32} (h : RowOk r) : RowOk (sp_go1 r) := by
  by_cases q : sp_can r
  · rw [sp_go1_t q]
    obtain ⟨ld, e, hl⟩ := RK_ld h
    have hn := h.2.2.2.2.1
    rw [e, nI_clamp (by omega)]
    exact rowok_travel h hl q.2.1
  · rw [sp_go1_f q]; exact h
theorem rowok_goN {r : Nat → Int32} (h : RowOk r) : ∀ k : Nat, RowOk (sp_goN r k) := by
  intro k
  induction k with
  | zero => exact h
  | succ k ih => exact rowok_go1 ih
set_option maxHeartbeats 4000000 in
set_option maxRecDepth 100000 in
theorem ct_X5_livingAfter {G : am_G} {Λ : am_L} {I : am_I} {J : am_J} {x n ct : Nat} {tb : Nat → Nat} {err : Int32} {r : Nat → Int32} {hs : Nat → Nat → Int32} {kp : Nat → Bool} {sn : Nat → Nat → Int32} {w : Nat × (Nat → Int32)} {a : Int32} (hx : RouLay Λ x) (hR : RouRel I x tb n err r ct hs kp sn w) (hok : RowOk r) : am_Ct G yX5_livingAfter cX5_livingAfter 3 (some .int) { frames := 6, cells := 1, slots := 6, locals := 111 } [.ref x, .int a] Λ I J (am_pch (some (.int (nI (sp_living (sp_goN r a.toNatClampNeg))))) (if a < 0 ∨ nI 50 < a then 1 else 0) Λ J (fun I' => RouRel I' x (tb) (n) (err) (r) (ct) (hs) (kp) (sn) (w) ∧ RFr x I I')) (am_px1 "java/lang/IllegalArgumentException" (if a < 0 ∨ nI 50 < a then 1 else 0) Λ I J) := by
  refine am_ct_of (own := RX5) rfl (by decide) (Nat.le_of_ble_eq_true rfl) (fun X C => ?_)
  change am_K G X { frames := 6, cells := 1, slots := 6, locals := 111 } 3 Λ I J 0 0 0 [(0, .ref x), (1, .int a)] []
  have hr := RR_r hR
  have hl := L5_n hx
  have hp := L5_p hx
  have hpr := CR_p hr
  have hnc := PR_c hpr
  have hnw := PR_w hpr
  have hnl := CR_l hr
  have hhl := L5_h hx
  obtain ⟨nx, hh⟩ := RR_h hR
  have h3 := RK_3 hok
  have ht := L5_t hx
  refine k_iload_n C (f := 1) (i := 1) (p := 1) rfl rfl dX5_livingAfter_0 ?_
  refine k_if_lt C (tgt := 10) (by decide) dX5_livingAfter_1 (fun hc1 => ?_) (fun hc1 => ?_)
  · skip
    exact k_throwS C tw_X5_97 (si := 19) rfl (Nat.le_of_ble_eq_true rfl) (Nat.le_of_ble_eq_true rfl) (⟨rfl, if_pos (by first | exact Or.inl hc1 | exact Or.inr (Int32.not_le.mp hc7)), rfl, rfl, rfl⟩) ⟨Nat.le_of_ble_eq_true rfl, Nat.le_of_ble_eq_true rfl⟩ ⟨Nat.le_of_ble_eq_true rfl, Nat.le_of_ble_eq_true rfl⟩ dX5_livingAfter_10 dX5_livingAfter_13 dX5_livingAfter_14 dX5_livingAfter_16 dX5_livingAfter_19
  · skip
    refine k_iload_n C (f := 1) (i := 1) (p := 1) rfl rfl dX5_livingAfter_4 ?_
    refine k_bipush C bc_50 dX5_livingAfter_5 ?_
    refine k_icmp_le C (tgt := 20) (by decide) dX5_livingAfter_7 (fun hc7 => ?_) (fun hc7 => ?_)
    · skip
      obtain ⟨m, hm, rfl⟩ := nI_of hc1
      have hm5 : m ≤ 50 := (nI_leI hm (by decide)).mp hc7
      refine k_aload_n C (f := 0) (i := 0) (p := 0) rfl rfl dX5_livingAfter_20 ?_
      refine k_getR C f_X5_55 (L5_s (by assumption)) (fun _ _ _ => rfl) (L5_3 (by assumption)) dX5_livingAfter_21 ?_
      refine k_aload_n C (f := 0) (i := 0) (p := 0) rfl rfl dX5_livingAfter_24 ?_
      refine k_getR C f_X5_49 (L5_s (by assumption)) (fun _ _ _ => rfl) (L5_2 (by assumption)) dX5_livingAfter_25 ?_
      refine k_callVg C s_X5_52 h_X0_copyFrom (L0_s ht) rfl (ct_X0_copyFrom ht hl hr hpr ⟨by omega, by omega, by omega, by omega⟩ (by rw [CR_3 hr]; exact h3)) rfl rfl (Nat.le_of_ble_eq_true rfl) ⟨Nat.le_of_ble_eq_true rfl, Nat.le_of_ble_eq_true rfl⟩ ⟨Nat.le_of_ble_eq_true rfl, Nat.le_of_ble_eq_true rfl⟩ ⟨rfl, rfl⟩ dX5_livingAfter_28 ?_
      intro v28 I0 hv
      obtain ⟨rfl, hr0, g0⟩ := hv
      refine k_iconst C ic_0 dX5_livingAfter_31 ?_
      refine k_istore_n C (f := 2) (i := 2) (lv := [(2, _), (0, _), (1, _)]) rfl (Nat.le_of_ble_eq_true rfl) rfl dX5_livingAfter_32 ?_
      have loop33 : ∀ (f : Nat) (k : Nat) (I1 : am_I), (k ≤ m) → (CarRel I1 (x + 45) (x + 46) (x + 24) (sp_goN r k)) → (∀ b : Nat, (b < x + 45 ∨ x + 56 ≤ b) → I1 b = I b) → (m - k) < f → am_K G X { frames := 6, cells := 1, slots := 6, locals := 111 } 3 Λ I1 J 0 0 33 [(0, .ref x), (1, .int (nI m)), (2, .int (nI k))] [] := by
        intro f
        induction f with
        | zero => intro k I1 hk hr1 hf1 hf; exact absurd hf (Nat.not_lt_zero _)
        | succ f ih33 =>
          intro k I1 hk hr1 hf1 hf
          have hok1 := rowok_goN hok k
          obtain ⟨ld1, hld1, hlc1⟩ := RK_ld hok1
          have hn1 := hok1.2.2.2.2.1
          refine k_iload_n C (f := 2) (i := 2) (p := 2) rfl rfl dX5_livingAfter_33 ?_
          refine k_iload_n C (f := 1) (i := 1) (p := 1) rfl rfl dX5_livingAfter_34 ?_
          first
          | refine k_icmpN_ge C (tgt := 62) (by omega) (by omega) (by decide) dX5_livingAfter_35 (fun hc35 => ?_) (fun hc35 => ?_)
          | refine k_icmp_ge C (tgt := 62) (by decide) dX5_livingAfter_35 (fun hc35 => ?_) (fun hc35 => ?_)
          · skip
            refine k_aload_n C (f := 0) (i := 0) (p := 0) rfl rfl dX5_livingAfter_62 ?_
            refine k_getR C f_X5_55 (L5_s (by assumption)) (fun _ _ _ => rfl) (L5_3 (by assumption)) dX5_livingAfter_63 ?_
            refine k_callVp C s_X5_169 h_X0_countLiving (L0_s ht) rfl (ct_X0_countLiving ht hr1) rfl rfl (Nat.le_of_ble_eq_true rfl) ⟨Nat.le_of_ble_eq_true rfl, Nat.le_of_ble_eq_true rfl⟩ ⟨Nat.le_of_ble_eq_true rfl, Nat.le_of_ble_eq_true rfl⟩ ⟨rfl, rfl⟩ dX5_livingAfter_66 ?_
            exact k_iret C (Nat.le_of_ble_eq_true rfl) (Nat.le_of_ble_eq_true rfl) (by
                have hfin : sp_goN r m = sp_goN r k := by
                  first
                  | (rw [show m = k by omega]; done)
                  | (have z := sp_goN_fix (r := r) (k := k) hc45 (m - k); rw [show k + (m - k) = m by omega] at z; exact z)
                obtain ⟨hR2, F2⟩ := RR_tri hR (fun b h1 h2 => hf1 b h1)
                exact ⟨by rw [nI_clamp (by omega), hfin], if_neg (fun z => z.elim hc1 (fun z2 => absurd hc7 (Int32.not_le.mpr z2))), rfl, rfl, hR2, F2⟩) dX5_livingAfter_69
          · skip
            refine k_aload_n C (f := 0) (i := 0) (p := 0) rfl rfl dX5_livingAfter_38 ?_
            refine k_getR C f_X5_55 (L5_s (by assumption)) (fun _ _ _ => rfl) (L5_3 (by assumption)) dX5_livingAfter_39 ?_
            refine k_callVp C s_X5_256 h_X0_canTravel (L0_s ht) rfl (ct_X0_canTravel ht hr1) rfl rfl (Nat.le_of_ble_eq_true rfl) ⟨Nat.le_of_ble_eq_true rfl, Nat.le_of_ble_eq_true rfl⟩ ⟨Nat.le_of_ble_eq_true rfl, Nat.le_of_ble_eq_true rfl⟩ ⟨rfl, rfl⟩ dX5_livingAfter_42 ?_
            refine k_ifb_eq C (tgt := 62) (by decide) dX5_livingAfter_45 (fun hc45 => ?_) (fun hc45 => ?_)
            · skip
              refine k_aload_n C (f := 0) (i := 0) (p := 0) rfl rfl dX5_livingAfter_62 ?_
              refine k_getR C f_X5_55 (L5_s (by assumption)) (fun _ _ _ => rfl) (L5_3 (by assumption)) dX5_livingAfter_63 ?_
              refine k_callVp C s_X5_169 h_X0_countLiving (L0_s ht) rfl (ct_X0_countLiving ht hr1) rfl rfl (Nat.le_of_ble_eq_true rfl) ⟨Nat.le_of_ble_eq_true rfl, Nat.le_of_ble_eq_true rfl⟩ ⟨Nat.le_of_ble_eq_true rfl, Nat.le_of_ble_eq_true rfl⟩ ⟨rfl, rfl⟩ dX5_livingAfter_66 ?_
              exact k_iret C (Nat.le_of_ble_eq_true rfl) (Nat.le_of_ble_eq_true rfl) (by
                  have hfin : sp_goN r m = sp_goN r k := by
                    first
                    | (rw [show m = k by omega]; done)
                    | (have z := sp_goN_fix (r := r) (k := k) hc45 (m - k); rw [show k + (m - k) = m by omega] at z; exact z)
                  obtain ⟨hR2, F2⟩ := RR_tri hR (fun b h1 h2 => hf1 b h1)
                  exact ⟨by rw [nI_clamp (by omega), hfin], if_neg (fun z => z.elim hc1 (fun z2 => absurd hc7 (Int32.not_le.mpr z2))), rfl, rfl, hR2, F2⟩) dX5_livingAfter_69
            · skip
              refine k_aload_n C (f := 0) (i := 0) (p := 0) rfl rfl dX5_livingAfter_48 ?_
              refine k_getR C f_X5_55 (L5_s (by assumption)) (fun _ _ _ => rfl) (L5_3 (by assumption)) dX5_livingAfter_49 ?_
              refine k_callVg C s_X5_259 h_X0_passTravelDay (L0_s ht) rfl (ct_X0_passTravelDay ht hr1 hld1 hlc1 (RK_3 hok1) (RK_w hok1) (RK_W hok1) hc45.2.2) rfl rfl (Nat.le_of_ble_eq_true rfl) ⟨Nat.le_of_ble_eq_true rfl, Nat.le_of_ble_eq_true rfl⟩ ⟨Nat.le_of_ble_eq_true rfl, Nat.le_of_ble_eq_true rfl⟩ ⟨rfl, rfl⟩ dX5_livingAfter_52 ?_
              intro v52 I2 hv
              obtain ⟨rfl, hr2, g2⟩ := hv
              have hr3 : CarRel I2 (x + 45) (x + 46) (x + 24) (sp_goN r (k + 1)) := by
                show CarRel I2 (x + 45) (x + 46) (x + 24) (sp_go1 (sp_goN r k))
                rw [sp_go1_t hc45, hld1, nI_clamp (by omega)]
                exact hr2
              have hf2 : ∀ b : Nat, (b < x + 45 ∨ x + 56 ≤ b) → I2 b = I b := fun b hb => (g2 b (by omega) (by omega)).trans (hf1 b hb)
              refine k_pop C rfl dX5_livingAfter_55 ?_
              refine k_iinc C (i := 2) (p := 2) (lv := [(2, _), (0, _), (1, _)]) (Nat.le_of_ble_eq_true rfl) rfl (by first | exact am_inc1 _ | rfl) rfl dX5_livingAfter_56 ?_
              refine k_goto C (tgt := 33) (by decide) dX5_livingAfter_59 ?_
              refine k_sub [1, 2, 0] rfl ?_
              exact ih33 (k + 1) I2 (by omega) hr3 hf2 (by omega)
      refine k_sub [1, 2, 0] rfl ?_
      exact loop33 (m + 1) 0 I0 (Nat.zero_le _) hr0 (fun b hb => g0 b (by omega) (by omega)) (by omega)
    · skip
      exact k_throwS C tw_X5_97 (si := 19) rfl (Nat.le_of_ble_eq_true rfl) (Nat.le_of_ble_eq_true rfl) (⟨rfl, if_pos (by first | exact Or.inl hc1 | exact Or.inr (Int32.not_le.mp hc7)), rfl, rfl, rfl⟩) ⟨Nat.le_of_ble_eq_true rfl, Nat.le_of_ble_eq_true rfl⟩ ⟨Nat.le_of_ble_eq_true rfl, Nat.le_of_ble_eq_true rfl⟩ dX5_livingAfter_10 dX5_livingAfter_13 dX5_livingAfter_14 dX5_livingAfter_16 dX5_livingAfter_19
set_option maxHeartbeats 4000000 in
set_option maxRecDepth 100000 in
theorem ct_X5_daysToArrival {G : am_G} {Λ : am_L} {I : am_I} {J : am_J} {x n ct : Nat} {tb : Nat → Nat} {err : Int32} {r : Nat → Int32} {hs : Nat → Nat → Int32} {kp : Nat → Bool} {sn : Nat → Nat → Int32} {w : Nat × (Nat → Int32)}  (hx : RouLay Λ x) (hR : RouRel I x tb n err r ct hs kp sn w) (hok : RowOk r) : am_Ct G yX5_daysToArrival cX5_daysToArrival 2 (some .int) { frames := 6, cells := 1, slots := 6, locals := 111 } [.ref x] Λ I J (am_pch (some (.int (sp_goN r 200 2 - r 2))) (if sp_goN r 200 0 ≤ sp_goN r 200 1 then 0 else 1) Λ J (fun I' => RouRel I' x (tb) (n) (err) (r) (ct) (hs) (kp) (sn) (w) ∧ RFr x I I')) (fun E Λ' I' J' => E = "java/util/NoSuchElementException" ∧ (if sp_goN r 200 0 ≤ sp_goN r 200 1 then 0 else 1) = 1 ∧ Λ' = Λ ∧ J' = J ∧ RouRel I' x tb n err r ct hs kp sn w ∧ RFr x I I') := by
  refine am_ct_of (own := RX5) rfl (by decide) (Nat.le_of_ble_eq_true rfl) (fun X C => ?_)
  change am_K G X { frames := 6, cells := 1, slots := 6, locals := 111 } 2 Λ I J 0 0 0 [(0, .ref x)] []
  have hr := RR_r hR
  have hl := L5_n hx
  have hp := L5_p hx
  have hpr := CR_p hr
  have hnc := PR_c hpr
  have hnw := PR_w hpr
  have hnl := CR_l hr
  have hhl := L5_h hx
  obtain ⟨nx, hh⟩ := RR_h hR
  have h3 := RK_3 hok
  have ht := L5_t hx
  refine k_aload_n C (f := 0) (i := 0) (p := 0) rfl rfl dX5_daysToArrival_0 ?_
  refine k_getR C f_X5_55 (L5_s (by assumption)) (fun _ _ _ => rfl) (L5_3 (by assumption)) dX5_daysToArrival_1 ?_
  refine k_aload_n C (f := 0) (i := 0) (p := 0) rfl rfl dX5_daysToArrival_4 ?_
  refine k_getR C f_X5_49 (L5_s (by assumption)) (fun _ _ _ => rfl) (L5_2 (by assumption)) dX5_daysToArrival_5 ?_
  refine k_callVg C s_X5_52 h_X0_copyFrom (L0_s ht) rfl (ct_X0_copyFrom ht hl hr hpr ⟨by omega, by omega, by omega, by omega⟩ (by rw [CR_3 hr]; exact h3)) rfl rfl (Nat.le_of_ble_eq_true rfl) ⟨Nat.le_of_ble_eq_true rfl, Nat.le_of_ble_eq_true rfl⟩ ⟨Nat.le_of_ble_eq_true rfl, Nat.le_of_ble_eq_true rfl⟩ ⟨rfl, rfl⟩ dX5_daysToArrival_8 ?_
  intro v8 I0 hv
  obtain ⟨rfl, hr0, g0⟩ := hv
  refine k_iconst C ic_0 dX5_daysToArrival_11 ?_
  refine k_istore_n C (f := 1) (i := 1) (lv := [(1, _), (0, _)]) rfl (Nat.le_of_ble_eq_true rfl) rfl dX5_daysToArrival_12 ?_
  have loop13 : ∀ (f : Nat) (k : Nat) (I1 : am_I), (k ≤ 200) → (CarRel I1 (x + 45) (x + 46) (x + 24) (sp_goN r k)) → (∀ b : Nat, (b < x + 45 ∨ x + 56 ≤ b) → I1 b = I b) → (200 - k) < f → am_K G X { frames := 6, cells := 1, slots := 6, locals := 111 } 2 Λ I1 J 0 0 13 [(0, .ref x), (1, .int (nI k))] [] := by
    intro f
    induction f with
    | zero => intro k I1 hk hr1 hf1 hf; exact absurd hf (Nat.not_lt_zero _)
    | succ f ih13 =>
      intro k I1 hk hr1 hf1 hf
      have hok1 := rowok_goN hok k
      obtain ⟨ld1, hld1, hlc1⟩ := RK_ld hok1
      have hn1 := hok1.2.2.2.2.1
      refine k_iload_n C (f := 1) (i := 1) (p := 1) rfl rfl dX5_daysToArrival_13 ?_
      refine k_sipush C sc_200 dX5_daysToArrival_14 ?_
      first
      | refine k_icmpN_ge C (tgt := 44) (by omega) (by omega) (by decide) dX5_daysToArrival_17 (fun hc17 => ?_) (fun hc17 => ?_)
      | refine k_icmp_ge C (tgt := 44) (by decide) dX5_daysToArrival_17 (fun hc17 => ?_) (fun hc17 => ?_)
      · skip
        refine k_aload_n C (f := 0) (i := 0) (p := 0) rfl rfl dX5_daysToArrival_44 ?_
        refine k_getR C f_X5_55 (L5_s (by assumption)) (fun _ _ _ => rfl) (L5_3 (by assumption)) dX5_daysToArrival_45 ?_
        refine k_callVp C s_X5_119 h_X0_isAtEnd (L0_s ht) rfl (ct_X0_isAtEnd ht hr1) rfl rfl (Nat.le_of_ble_eq_true rfl) ⟨Nat.le_of_ble_eq_true rfl, Nat.le_of_ble_eq_true rfl⟩ ⟨Nat.le_of_ble_eq_true rfl, Nat.le_of_ble_eq_true rfl⟩ ⟨rfl, rfl⟩ dX5_daysToArrival_48 ?_
        refine k_ifb_ne C (tgt := 65) (by decide) dX5_daysToArrival_51 (fun hc51 => ?_) (fun hc51 => ?_)
        · skip
          have hfin : sp_goN r 200 = sp_goN r k := by
            first
            | (rw [show 200 = k by omega]; done)
            | (have z := sp_goN_fix (r := r) (k := k) hc27 (200 - k); rw [show k + (200 - k) = 200 by omega] at z; exact z)
          obtain ⟨hR2, F2⟩ := RR_tri hR (fun b h1 h2 => hf1 b h1)
          have hrn : CarRel I1 (x + 34) (x + 35) (x + 24) r := RR_r hR2
          refine k_aload_n C (f := 0) (i := 0) (p := 0) rfl rfl dX5_daysToArrival_65 ?_
          refine k_getR C f_X5_55 (L5_s (by assumption)) (fun _ _ _ => rfl) (L5_3 (by assumption)) dX5_daysToArrival_66 ?_
          refine k_getI C f_X5_123 (L0_s (by assumption)) (fun _ _ _ => rfl) (CR_2 hr1) dX5_daysToArrival_69 ?_
          refine k_aload_n C (f := 0) (i := 0) (p := 0) rfl rfl dX5_daysToArrival_72 ?_
          refine k_getR C f_X5_49 (L5_s (by assumption)) (fun _ _ _ => rfl) (L5_2 (by assumption)) dX5_daysToArrival_73 ?_
          refine k_getI C f_X5_123 (L0_s (by assumption)) (fun _ _ _ => rfl) (CR_2 hrn) dX5_daysToArrival_76 ?_
          refine k_isub C dX5_daysToArrival_79 ?_
          exact k_iret C (Nat.le_of_ble_eq_true rfl) (Nat.le_of_ble_eq_true rfl) (⟨by rw [hfin], by rw [hfin]; exact if_pos hc51, rfl, rfl, hR2, F2⟩) dX5_daysToArrival_80
        · skip
          have hfin : sp_goN r 200 = sp_goN r k := by
            first
            | (rw [show 200 = k by omega]; done)
            | (have z := sp_goN_fix (r := r) (k := k) hc27 (200 - k); rw [show k + (200 - k) = 200 by omega] at z; exact z)
          obtain ⟨hR2, F2⟩ := RR_tri hR (fun b h1 h2 => hf1 b h1)
          have hrn : CarRel I1 (x + 34) (x + 35) (x + 24) r := RR_r hR2
          exact k_throwNW C tw_X5_110 (si := 20) rfl (Nat.le_of_ble_eq_true rfl) (Nat.le_of_ble_eq_true rfl) (⟨rfl, by rw [hfin]; exact if_neg hc51, rfl, rfl, hR2, F2⟩) ⟨Nat.le_of_ble_eq_true rfl, Nat.le_of_ble_eq_true rfl⟩ ⟨Nat.le_of_ble_eq_true rfl, Nat.le_of_ble_eq_true rfl⟩ dX5_daysToArrival_54 dX5_daysToArrival_57 dX5_daysToArrival_58 dX5_daysToArrival_61 dX5_daysToArrival_64
      · skip
        refine k_aload_n C (f := 0) (i := 0) (p := 0) rfl rfl dX5_daysToArrival_20 ?_
        refine k_getR C f_X5_55 (L5_s (by assumption)) (fun _ _ _ => rfl) (L5_3 (by assumption)) dX5_daysToArrival_21 ?_
        refine k_callVp C s_X5_256 h_X0_canTravel (L0_s ht) rfl (ct_X0_canTravel ht hr1) rfl rfl (Nat.le_of_ble_eq_true rfl) ⟨Nat.le_of_ble_eq_true rfl, Nat.le_of_ble_eq_true rfl⟩ ⟨Nat.le_of_ble_eq_true rfl, Nat.le_of_ble_eq_true rfl⟩ ⟨rfl, rfl⟩ dX5_daysToArrival_24 ?_
        refine k_ifb_eq C (tgt := 44) (by decide) dX5_daysToArrival_27 (fun hc27 => ?_) (fun hc27 => ?_)
        · skip
          refine k_aload_n C (f := 0) (i := 0) (p := 0) rfl rfl dX5_daysToArrival_44 ?_
          refine k_getR C f_X5_55 (L5_s (by assumption)) (fun _ _ _ => rfl) (L5_3 (by assumption)) dX5_daysToArrival_45 ?_
          refine k_callVp C s_X5_119 h_X0_isAtEnd (L0_s ht) rfl (ct_X0_isAtEnd ht hr1) rfl rfl (Nat.le_of_ble_eq_true rfl) ⟨Nat.le_of_ble_eq_true rfl, Nat.le_of_ble_eq_true rfl⟩ ⟨Nat.le_of_ble_eq_true rfl, Nat.le_of_ble_eq_true rfl⟩ ⟨rfl, rfl⟩ dX5_daysToArrival_48 ?_
          refine k_ifb_ne C (tgt := 65) (by decide) dX5_daysToArrival_51 (fun hc51 => ?_) (fun hc51 => ?_)
          · skip
            have hfin : sp_goN r 200 = sp_goN r k := by
              first
              | (rw [show 200 = k by omega]; done)
              | (have z := sp_goN_fix (r := r) (k := k) hc27 (200 - k); rw [show k + (200 - k) = 200 by omega] at z; exact z)
            obtain ⟨hR2, F2⟩ := RR_tri hR (fun b h1 h2 => hf1 b h1)
            have hrn : CarRel I1 (x + 34) (x + 35) (x + 24) r := RR_r hR2
            refine k_aload_n C (f := 0) (i := 0) (p := 0) rfl rfl dX5_daysToArrival_65 ?_
            refine k_getR C f_X5_55 (L5_s (by assumption)) (fun _ _ _ => rfl) (L5_3 (by assumption)) dX5_daysToArrival_66 ?_
            refine k_getI C f_X5_123 (L0_s (by assumption)) (fun _ _ _ => rfl) (CR_2 hr1) dX5_daysToArrival_69 ?_
            refine k_aload_n C (f := 0) (i := 0) (p := 0) rfl rfl dX5_daysToArrival_72 ?_
            refine k_getR C f_X5_49 (L5_s (by assumption)) (fun _ _ _ => rfl) (L5_2 (by assumption)) dX5_daysToArrival_73 ?_
            refine k_getI C f_X5_123 (L0_s (by assumption)) (fun _ _ _ => rfl) (CR_2 hrn) dX5_daysToArrival_76 ?_
            refine k_isub C dX5_daysToArrival_79 ?_
            exact k_iret C (Nat.le_of_ble_eq_true rfl) (Nat.le_of_ble_eq_true rfl) (⟨by rw [hfin], by rw [hfin]; exact if_pos hc51, rfl, rfl, hR2, F2⟩) dX5_daysToArrival_80
          · skip
            have hfin : sp_goN r 200 = sp_goN r k := by
              first
              | (rw [show 200 = k by omega]; done)
              | (have z := sp_goN_fix (r := r) (k := k) hc27 (200 - k); rw [show k + (200 - k) = 200 by omega] at z; exact z)
            obtain ⟨hR2, F2⟩ := RR_tri hR (fun b h1 h2 => hf1 b h1)
            have hrn : CarRel I1 (x + 34) (x + 35) (x + 24) r := RR_r hR2
            exact k_throwNW C tw_X5_110 (si := 20) rfl (Nat.le_of_ble_eq_true rfl) (Nat.le_of_ble_eq_true rfl) (⟨rfl, by rw [hfin]; exact if_neg hc51, rfl, rfl, hR2, F2⟩) ⟨Nat.le_of_ble_eq_true rfl, Nat.le_of_ble_eq_true rfl⟩ ⟨Nat.le_of_ble_eq_true rfl, Nat.le_of_ble_eq_true rfl⟩ dX5_daysToArrival_54 dX5_daysToArrival_57 dX5_daysToArrival_58 dX5_daysToArrival_61 dX5_daysToArrival_64
        · skip
          refine k_aload_n C (f := 0) (i := 0) (p := 0) rfl rfl dX5_daysToArrival_30 ?_
          refine k_getR C f_X5_55 (L5_s (by assumption)) (fun _ _ _ => rfl) (L5_3 (by assumption)) dX5_daysToArrival_31 ?_
          refine k_callVg C s_X5_259 h_X0_passTravelDay (L0_s ht) rfl (ct_X0_passTravelDay ht hr1 hld1 hlc1 (RK_3 hok1) (RK_w hok1) (RK_W hok1) hc27.2.2) rfl rfl (Nat.le_of_ble_eq_true rfl) ⟨Nat.le_of_ble_eq_true rfl, Nat.le_of_ble_eq_true rfl⟩ ⟨Nat.le_of_ble_eq_true rfl, Nat.le_of_ble_eq_true rfl⟩ ⟨rfl, rfl⟩ dX5_daysToArrival_34 ?_
          intro v34 I2 hv
          obtain ⟨rfl, hr2, g2⟩ := hv
          have hr3 : CarRel I2 (x + 45) (x + 46) (x + 24) (sp_goN r (k + 1)) := by
            show CarRel I2 (x + 45) (x + 46) (x + 24) (sp_go1 (sp_goN r k))
            rw [sp_go1_t hc27, hld1, nI_clamp (by omega)]
            exact hr2
          have hf2 : ∀ b : Nat, (b < x + 45 ∨ x + 56 ≤ b) → I2 b = I b := fun b hb => (g2 b (by omega) (by omega)).trans (hf1 b hb)
          refine k_pop C rfl dX5_daysToArrival_37 ?_
          refine k_iinc C (i := 1) (p := 1) (lv := [(1, _), (0, _)]) (Nat.le_of_ble_eq_true rfl) rfl (by first | exact am_inc1 _ | rfl) rfl dX5_daysToArrival_38 ?_
          refine k_goto C (tgt := 13) (by decide) dX5_daysToArrival_41 ?_
          refine k_sub [1, 0] rfl ?_
          exact ih13 (k + 1) I2 (by omega) hr3 hf2 (by omega)
  refine k_sub [1, 0] rfl ?_
  exact loop13 201 0 I0 (Nat.zero_le _) hr0 (fun b hb => g0 b (by omega) (by omega)) (by omega)
