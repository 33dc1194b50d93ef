/-! ===== the model: the written text ===== -/
def MWri (I : am_I) (y : Nat) (t : Nat × (Nat → Int32)) : Prop := I y 19 = nI t.1 ∧ TxtAt I (y + 9) t
def MWf (y : Nat) (I I' : am_I) : Prop := (∀ k : Nat, k ≠ 19 → I' y k = I y k) ∧ ∀ b : Nat, b ≠ y → b ≠ y + 9 → I' b = I b
theorem MWf.rf {y : Nat} {I : am_I} : MWf y I I := ⟨fun _ _ => rfl, fun _ _ _ => rfl⟩
theorem MWf.tr {y : Nat} {I I1 I2 : am_I} (h : MWf y I I1) (h2 : MWf y I1 I2) : MWf y I I2 := ⟨fun k hk => (h2.1 k hk).trans (h.1 k hk), fun b h3 h4 => (h2.2 b h3 h4).trans (h.2 b h3 h4)⟩
theorem MWf.row {y : Nat} {I I1 : am_I} {r : Nat → Int32} (h : MWf y I I1) (hm : MRow I (y + 1) 0 r) : MRow I1 (y + 1) 0 r := MR_ne hm (h.2 _ (by omega) (by omega))
theorem MWri_rel {I I' : am_I} {y n ct : Nat} {tb : Nat → Nat} {err : Int32} {r : Nat → Int32} {hs : Nat → Nat → Int32} {kp : Nat → Bool} {sn : Nat → Nat → Int32} {w t : Nat × (Nat → Int32)} (h : ModRel I y tb n err r ct hs kp sn w) (ht : MWri I' y t) (hn : t.1 ≤ 140) (hf : MWf y I I') : ModRel I' y tb n err r ct hs kp sn t := by
  obtain ⟨b1, b2, b3, b4, b5, b6⟩ := h
  refine ⟨?_, ?_, ?_, ?_, ?_, ht.1, hn, ht.2⟩
  · unfold MTxt; rw [hf.1 8 (by decide), hf.2 (y + 7) (by omega) (by omega)]; exact b1
  · rw [hf.1 9 (by decide)]; exact b2
  · exact hf.row b3
  · unfold MRow; rw [hf.1 6 (by decide), hf.2 (y + 4) (by omega) (by omega)]; exact b4
  · unfold MRow; rw [hf.2 (y + 6) (by omega) (by omega), hf.2 (y + 5) (by omega) (by omega)]; exact b5
theorem MWf.fr {y : Nat} {I I' : am_I} (h : MWf y I I') : MFr y I I' := fun b hb => h.2 b (by omega) (by omega)
set_option maxHeartbeats 4000000 in
set_option maxRecDepth 100000 in
theorem ct_X6_writes {G : am_G} {Λ : am_L} {I : am_I} {J : am_J} {y : Nat} {t : Nat × (Nat → Int32)} {m : Nat}  (hx : ModLay Λ y) (ht : MWri I y t) (hr : t.1 < 300) : am_Ct G yX6_writes cX6_writes 2 none { frames := 0, cells := 0, slots := 0, locals := 0 } [.ref y, .int (nI m)] Λ I J (am_gen Λ J (fun v I' => v = none ∧ MWri I' y (sp_pt t m) ∧ MWf y I I')) am_never := by
  refine am_ct_of (own := RX6) rfl (by decide) (Nat.le_of_ble_eq_true rfl) (fun X C => ?_)
  change am_K G X { frames := 0, cells := 0, slots := 0, locals := 0 } 2 Λ I J 0 0 0 [(0, .ref y), (1, .int (nI m))] []
  refine k_aload_n C (f := 0) (i := 0) (p := 0) rfl rfl dX6_writes_0 ?_
  refine k_getR C f_X6_39 (L6_s (by assumption)) (fun _ _ _ => rfl) (L6_18 (by assumption)) dX6_writes_1 ?_
  refine k_aload_n C (f := 0) (i := 0) (p := 0) rfl rfl dX6_writes_4 ?_
  refine k_getI C f_X6_283 (L6_s (by assumption)) (fun _ _ _ => rfl) (ht.1) dX6_writes_5 ?_
  refine k_iload_n C (f := 1) (i := 1) (p := 1) rfl rfl dX6_writes_8 ?_
  refine k_iast C (A6_18 (by assumption)) (by first | rfl | assumption) (by omega) (by decide) dX6_writes_9 ?_
  obtain ⟨I1, hI1⟩ : ∃ z : am_I, z = am_up I (y + 9) t.1 (nI m) := ⟨_, rfl⟩
  rw [← hI1]
  refine k_aload_n C (f := 0) (i := 0) (p := 0) rfl rfl dX6_writes_10 ?_
  refine k_dup C rfl dX6_writes_11 ?_
  refine k_getI C f_X6_283 (L6_s (by assumption)) (fun _ _ _ => rfl) (Eq.trans (by rw [hI1]; exact am_up_n2 (by omega)) ht.1) dX6_writes_12 ?_
  refine k_iconst C ic_1 dX6_writes_15 ?_
  refine k_iadd C dX6_writes_16 ?_
  refine k_putI C f_X6_283 (L6_s (by assumption)) rfl rfl dX6_writes_17 ?_
  exact k_vret C (Nat.le_of_ble_eq_true rfl) (Nat.le_of_ble_eq_true rfl) (⟨rfl, rfl, ⟨rfl, ⟨by rw [am_up_eq, nI_add1]; rfl, TxtAt_pt ht.2 (fun j hj => by rw [am_up_n2 (by omega), hI1, am_up_n2 (fun e => hj e.2)]) (by rw [am_up_n2 (by omega), hI1, am_up_eq])⟩, fun k hk => by rw [am_up_n2 (fun z => hk z.2), hI1, am_up_n2 (by omega)], fun b h1 h2 => by rw [am_up_ne h1, hI1, am_up_ne h2]⟩⟩) dX6_writes_20
set_option maxHeartbeats 4000000 in
set_option maxRecDepth 100000 in
theorem ct_X6_writesNumber {G : am_G} {Λ : am_L} {I : am_I} {J : am_J} {y : Nat} {t : Nat × (Nat → Int32)} {m : Nat}  (hx : ModLay Λ y) (ht : MWri I y t) (hm : m < 100) (hr : t.1 + 2 ≤ 300) : am_Ct G yX6_writesNumber cX6_writesNumber 2 none { frames := 1, cells := 0, slots := 0, locals := 21 } [.ref y, .int (nI m)] Λ I J (am_gen Λ J (fun v I' => v = none ∧ MWri I' y (sp_pn t m) ∧ MWf y I I')) am_never := by
  refine am_ct_of (own := RX6) rfl (by decide) (Nat.le_of_ble_eq_true rfl) (fun X C => ?_)
  change am_K G X { frames := 1, cells := 0, slots := 0, locals := 21 } 2 Λ I J 0 0 0 [(0, .ref y), (1, .int (nI m))] []
  refine k_iload_n C (f := 1) (i := 1) (p := 1) rfl rfl dX6_writesNumber_0 ?_
  refine k_bipush C bc_9 dX6_writesNumber_1 ?_
  first
  | refine k_icmpN_le C (tgt := 17) (by omega) (by omega) (by decide) dX6_writesNumber_3 (fun hc3 => ?_) (fun hc3 => ?_)
  | refine k_icmp_le C (tgt := 17) (by decide) dX6_writesNumber_3 (fun hc3 => ?_) (fun hc3 => ?_)
  · skip
    refine k_aload_n C (f := 0) (i := 0) (p := 0) rfl rfl dX6_writesNumber_17 ?_
    refine k_bipush C bc_48 dX6_writesNumber_18 ?_
    refine k_iload_n C (f := 1) (i := 1) (p := 1) rfl rfl dX6_writesNumber_20 ?_
    refine k_bipush C bc_10 dX6_writesNumber_21 ?_
    refine k_irem C (by decide) dX6_writesNumber_23 ?_
    refine k_iadd C dX6_writesNumber_24 ?_
    rw [show nI 48 + (nI m - nI m / nI 10 * nI 10) = nI (48 + m % 10) by rw [pk_rem (by omega) (by omega) (by omega), nI_add]]
    refine k_callVg C s_X6_286 h_X6_writes (L6_s (by assumption)) rfl (ct_X6_writes (m := 48 + m % 10) hx (by first | exact ht14 | exact ht) (by first | exact (show (sp_pt t (48 + m / 10)).1 < 300 by rw [sp_pt_n]; omega) | omega)) rfl rfl (Nat.le_of_ble_eq_true rfl) ⟨Nat.le_of_ble_eq_true rfl, Nat.le_of_ble_eq_true rfl⟩ ⟨Nat.le_of_ble_eq_true rfl, Nat.le_of_ble_eq_true rfl⟩ ⟨rfl, rfl⟩ dX6_writesNumber_25 ?_
    intro v I25 hv
    obtain ⟨rfl, ht25, hg25⟩ := hv
    exact k_vret C (Nat.le_of_ble_eq_true rfl) (Nat.le_of_ble_eq_true rfl) (⟨rfl, rfl, ⟨rfl, by
        unfold sp_pn
        first
        | (rw [if_neg (by omega)]; exact ht25)
        | (rw [if_pos (by omega)]; exact ht25), by
        first
        | exact hg14.tr hg25
        | exact hg25⟩⟩) dX6_writesNumber_28
  · skip
    refine k_aload_n C (f := 0) (i := 0) (p := 0) rfl rfl dX6_writesNumber_6 ?_
    refine k_bipush C bc_48 dX6_writesNumber_7 ?_
    refine k_iload_n C (f := 1) (i := 1) (p := 1) rfl rfl dX6_writesNumber_9 ?_
    refine k_bipush C bc_10 dX6_writesNumber_10 ?_
    refine k_idiv C (by decide) dX6_writesNumber_12 ?_
    refine k_iadd C dX6_writesNumber_13 ?_
    rw [show nI 48 + nI m / nI 10 = nI (48 + m / 10) by rw [pk_div (by omega) (by omega) (by omega), nI_add]]
    refine k_callVg C s_X6_286 h_X6_writes (L6_s (by assumption)) rfl (ct_X6_writes (m := 48 + m / 10) hx ht (by omega)) rfl rfl (Nat.le_of_ble_eq_true rfl) ⟨Nat.le_of_ble_eq_true rfl, Nat.le_of_ble_eq_true rfl⟩ ⟨Nat.le_of_ble_eq_true rfl, Nat.le_of_ble_eq_true rfl⟩ ⟨rfl, rfl⟩ dX6_writesNumber_14 ?_
    intro v I14 hv
    obtain ⟨rfl, ht14, hg14⟩ := hv
    refine k_aload_n C (f := 0) (i := 0) (p := 0) rfl rfl dX6_writesNumber_17 ?_
    refine k_bipush C bc_48 dX6_writesNumber_18 ?_
    refine k_iload_n C (f := 1) (i := 1) (p := 1) rfl rfl dX6_writesNumber_20 ?_
    refine k_bipush C bc_10 dX6_writesNumber_21 ?_
    refine k_irem C (by decide) dX6_writesNumber_23 ?_
    refine k_iadd C dX6_writesNumber_24 ?_
    rw [show nI 48 + (nI m - nI m / nI 10 * nI 10) = nI (48 + m % 10) by rw [pk_rem (by omega) (by omega) (by omega), nI_add]]
    refine k_callVg C s_X6_286 h_X6_writes (L6_s (by assumption)) rfl (ct_X6_writes (m := 48 + m % 10) hx (by first | exact ht14 | exact ht) (by first | exact (show (sp_pt t (48 + m / 10)).1 < 300 by rw [sp_pt_n]; omega) | omega)) rfl rfl (Nat.le_of_ble_eq_true rfl) ⟨Nat.le_of_ble_eq_true rfl, Nat.le_of_ble_eq_true rfl⟩ ⟨Nat.le_of_ble_eq_true rfl, Nat.le_of_ble_eq_true rfl⟩ ⟨rfl, rfl⟩ dX6_writesNumber_25 ?_
    intro v I25 hv
    obtain ⟨rfl, ht25, hg25⟩ := hv
    exact k_vret C (Nat.le_of_ble_eq_true rfl) (Nat.le_of_ble_eq_true rfl) (⟨rfl, rfl, ⟨rfl, by
        unfold sp_pn
        first
        | (rw [if_neg (by omega)]; exact ht25)
        | (rw [if_pos (by omega)]; exact ht25), by
        first
        | exact hg14.tr hg25
        | exact hg25⟩⟩) dX6_writesNumber_28
set_option maxHeartbeats 4000000 in
set_option maxRecDepth 100000 in
theorem ct_X6_writesCamel {G : am_G} {Λ : am_L} {I : am_I} {J : am_J} {y : Nat} {t : Nat × (Nat → Int32)} {j : Nat} {r : Nat → Int32}  (hx : ModLay Λ y) (ht : MWri I y t) (hm : MRow I (y + 1) 0 r) (hok : RowOk r) (hj : j < sp_nc r) (hroom : t.1 + 8 + 3 * sp_hcnt r j (sp_nl r) ≤ 140) : am_Ct G yX6_writesCamel cX6_writesCamel 3 none { frames := 2, cells := 0, slots := 0, locals := 42 } [.ref y, .int (nI j)] Λ I J (am_gen Λ J (fun v I' => v = none ∧ MWri I' y (sp_line r j t) ∧ MWf y I I')) am_never := by
  refine am_ct_of (own := RX6) rfl (by decide) (Nat.le_of_ble_eq_true rfl) (fun X C => ?_)
  change am_K G X { frames := 2, cells := 0, slots := 0, locals := 42 } 3 Λ I J 0 0 0 [(0, .ref y), (1, .int (nI j))] []
  have hs := A6_0 hx
  have hB := hok.B
  have hD := hok.D
  have hB9 := hB
  obtain ⟨⟨h6, h7, h8, h9⟩, hnc, hnw, hns, hnl⟩ := hB9
  obtain ⟨yy, x, hy, hx3, hxy, hy9⟩ := RK_tk hok j hj
  have w1n : (sp_w1 r j t).1 ≤ t.1 + 1 := by
    unfold sp_w1
    by_cases h : r 4 = nI j
    · rw [if_pos h]; exact Nat.le_refl _
    · rw [if_neg h]; omega
  have w2n := (sp_line_n r j t).2
  refine k_aload_n C (f := 0) (i := 0) (p := 0) rfl rfl dX6_writesCamel_0 ?_
  refine k_getR C f_X6_7 (L6_s (by assumption)) (fun _ _ _ => rfl) (L6_0 (by assumption)) dX6_writesCamel_1 ?_
  refine k_iconst C ic_4 dX6_writesCamel_4 ?_
  refine k_iald C (A6_0 (by assumption)) (by first | rfl | assumption) (by omega) (by decide) (MR hm (by decide)) dX6_writesCamel_5 ?_
  refine k_iload_n C (f := 1) (i := 1) (p := 1) rfl rfl dX6_writesCamel_6 ?_
  refine k_icmp_ne C (tgt := 16) (by decide) dX6_writesCamel_7 (fun hc7 => ?_) (fun hc7 => ?_)
  · skip
    obtain ⟨I1, hI1⟩ : ∃ z : am_I, z = I := ⟨_, rfl⟩
    have ht1 : MWri I1 y (sp_w1 r j t) := by
      rw [hI1]
      unfold sp_w1
      rw [if_neg hc7]; exact ht
    have hf1 : MWf y I I1 := by
      rw [hI1]
      exact MWf.rf
    rw [← hI1]
    clear hI1
    have hm1 := hf1.row hm
    refine k_aload_n C (f := 0) (i := 0) (p := 0) rfl rfl dX6_writesCamel_16 ?_
    refine k_aload_n C (f := 0) (i := 0) (p := 0) rfl rfl dX6_writesCamel_17 ?_
    refine k_getR C f_X6_7 (L6_s (by assumption)) (fun _ _ _ => rfl) (L6_0 (by assumption)) dX6_writesCamel_18 ?_
    refine k_iload_n C (f := 1) (i := 1) (p := 1) rfl rfl dX6_writesCamel_21 ?_
    refine k_iconst C ic_3 dX6_writesCamel_22 ?_
    refine k_callSp C s_X6_71 h_X6_camelAt (ct_X6_camelAt ) rfl rfl (Nat.le_of_ble_eq_true rfl) ⟨Nat.le_of_ble_eq_true rfl, Nat.le_of_ble_eq_true rfl⟩ ⟨Nat.le_of_ble_eq_true rfl, Nat.le_of_ble_eq_true rfl⟩ ⟨rfl, rfl⟩ dX6_writesCamel_23 ?_
    refine k_iald C (A6_0 (by assumption)) (by first | rfl | assumption) (by omega) (by decide) ((MRx (i := 13 + 8 * j) hm1 (by omega) (by omega)).trans hx3) dX6_writesCamel_26 ?_
    refine k_callVg C s_X6_290 h_X6_writesNumber (L6_s (by assumption)) rfl (ct_X6_writesNumber (m := x) hx ht1 (by omega) (by omega)) rfl rfl (Nat.le_of_ble_eq_true rfl) ⟨Nat.le_of_ble_eq_true rfl, Nat.le_of_ble_eq_true rfl⟩ ⟨Nat.le_of_ble_eq_true rfl, Nat.le_of_ble_eq_true rfl⟩ ⟨rfl, rfl⟩ dX6_writesCamel_27 ?_
    intro v I2 hv
    obtain ⟨rfl, ht2, hg2⟩ := hv
    have hf2 := hf1.tr hg2
    have hm2 := hf2.row hm
    refine k_aload_n C (f := 0) (i := 0) (p := 0) rfl rfl dX6_writesCamel_30 ?_
    refine k_bipush C bc_47 dX6_writesCamel_31 ?_
    refine k_callVg C s_X6_286 h_X6_writes (L6_s (by assumption)) rfl (ct_X6_writes (m := 47) hx ht2 (by have := sp_pn_n (sp_w1 r j t) x; omega)) rfl rfl (Nat.le_of_ble_eq_true rfl) ⟨Nat.le_of_ble_eq_true rfl, Nat.le_of_ble_eq_true rfl⟩ ⟨Nat.le_of_ble_eq_true rfl, Nat.le_of_ble_eq_true rfl⟩ ⟨rfl, rfl⟩ dX6_writesCamel_33 ?_
    intro v I3 hv
    obtain ⟨rfl, ht3, hg3⟩ := hv
    have hf3 := hf2.tr hg3
    have hm3 := hf3.row hm
    refine k_aload_n C (f := 0) (i := 0) (p := 0) rfl rfl dX6_writesCamel_36 ?_
    refine k_aload_n C (f := 0) (i := 0) (p := 0) rfl rfl dX6_writesCamel_37 ?_
    refine k_getR C f_X6_7 (L6_s (by assumption)) (fun _ _ _ => rfl) (L6_0 (by assumption)) dX6_writesCamel_38 ?_
    refine k_iload_n C (f := 1) (i := 1) (p := 1) rfl rfl dX6_writesCamel_41 ?_
    refine k_iconst C ic_2 dX6_writesCamel_42 ?_
    refine k_callSp C s_X6_71 h_X6_camelAt (ct_X6_camelAt ) rfl rfl (Nat.le_of_ble_eq_true rfl) ⟨Nat.le_of_ble_eq_true rfl, Nat.le_of_ble_eq_true rfl⟩ ⟨Nat.le_of_ble_eq_true rfl, Nat.le_of_ble_eq_true rfl⟩ ⟨rfl, rfl⟩ dX6_writesCamel_43 ?_
    refine k_iald C (A6_0 (by assumption)) (by first | rfl | assumption) (by omega) (by decide) ((MRx (i := 12 + 8 * j) hm3 (by omega) (by omega)).trans hy) dX6_writesCamel_46 ?_
    refine k_callVg C s_X6_290 h_X6_writesNumber (L6_s (by assumption)) rfl (ct_X6_writesNumber (m := yy) hx ht3 (by omega) (by have := sp_pn_n (sp_w1 r j t) x; rw [sp_pt_n]; omega)) rfl rfl (Nat.le_of_ble_eq_true rfl) ⟨Nat.le_of_ble_eq_true rfl, Nat.le_of_ble_eq_true rfl⟩ ⟨Nat.le_of_ble_eq_true rfl, Nat.le_of_ble_eq_true rfl⟩ ⟨rfl, rfl⟩ dX6_writesCamel_47 ?_
    intro v I4 hv
    obtain ⟨rfl, ht4, hg4⟩ := hv
    have hf4 := hf3.tr hg4
    have hm4 := hf4.row hm
    have e2 : sp_pn (sp_pt (sp_pn (sp_w1 r j t) x) 47) yy = sp_w2 r j t := by
      unfold sp_w2
      rw [hx3, hy, nI_clamp (by omega), nI_clamp (by omega)]
    rw [e2] at ht4
    refine k_iconst C ic_0 dX6_writesCamel_50 ?_
    refine k_istore_n C (f := 2) (i := 2) (lv := [(2, _), (0, _), (1, _)]) rfl (Nat.le_of_ble_eq_true rfl) rfl dX6_writesCamel_51 ?_
    have loop52 : ∀ (f : Nat) (k : Nat) (I5 : am_I), (k ≤ sp_nl r) → (MWri I5 y (sp_wlTo r j (sp_w2 r j t) k)) → (MWf y I I5) → (sp_nl r - k) < f → am_K G X { frames := 2, cells := 0, slots := 0, locals := 42 } 3 Λ I5 J 0 0 52 [(0, .ref y), (1, .int (nI j)), (2, .int (nI k))] [] := by
      intro f
      induction f with
      | zero => intro k I5 hk ht5 hf5 hf; exact absurd hf (Nat.not_lt_zero _)
      | succ f ih52 =>
        intro k I5 hk ht5 hf5 hf
        have hm5 := hf5.row hm
        have hn5 := sp_wlTo_n r j (sp_w2 r j t) k
        have hn6 := sp_hcnt_mono r j (show k ≤ sp_nl r from hk)
        refine k_iload_n C (f := 2) (i := 2) (p := 2) rfl rfl dX6_writesCamel_52 ?_
        refine k_aload_n C (f := 0) (i := 0) (p := 0) rfl rfl dX6_writesCamel_53 ?_
        refine k_getR C f_X6_7 (L6_s (by assumption)) (fun _ _ _ => rfl) (L6_0 (by assumption)) dX6_writesCamel_54 ?_
        refine k_bipush C bc_9 dX6_writesCamel_57 ?_
        refine k_iald C (A6_0 (by assumption)) (by first | rfl | assumption) (by omega) (by decide) ((MR hm5 (by decide)).trans h9) dX6_writesCamel_59 ?_
        first
        | refine k_icmpN_ge C (tgt := 97) (by omega) (by omega) (by decide) dX6_writesCamel_60 (fun hc60 => ?_) (fun hc60 => ?_)
        | refine k_icmp_ge C (tgt := 97) (by decide) dX6_writesCamel_60 (fun hc60 => ?_) (fun hc60 => ?_)
        · skip
          refine k_aload_n C (f := 0) (i := 0) (p := 0) rfl rfl dX6_writesCamel_97 ?_
          refine k_getR C f_X6_7 (L6_s (by assumption)) (fun _ _ _ => rfl) (L6_0 (by assumption)) dX6_writesCamel_98 ?_
          refine k_iload_n C (f := 1) (i := 1) (p := 1) rfl rfl dX6_writesCamel_101 ?_
          refine k_callSp C s_X6_83 h_X6_lives (ct_X6_lives hs hm5 hB hD hj) rfl rfl (Nat.le_of_ble_eq_true rfl) ⟨Nat.le_of_ble_eq_true rfl, Nat.le_of_ble_eq_true rfl⟩ ⟨Nat.le_of_ble_eq_true rfl, Nat.le_of_ble_eq_true rfl⟩ ⟨rfl, rfl⟩ dX6_writesCamel_102 ?_
          refine k_ifb_ne C (tgt := 114) (by decide) dX6_writesCamel_105 (fun hc105 => ?_) (fun hc105 => ?_)
          · skip
            refine k_aload_n C (f := 0) (i := 0) (p := 0) rfl rfl dX6_writesCamel_114 ?_
            refine k_bipush C bc_10 dX6_writesCamel_115 ?_
            refine k_callVg C s_X6_286 h_X6_writes (L6_s (by assumption)) rfl (ct_X6_writes (m := 10) hx (by first | exact ht8 | exact ht5) (by first | (rw [sp_pt_n]; omega) | omega)) rfl rfl (Nat.le_of_ble_eq_true rfl) ⟨Nat.le_of_ble_eq_true rfl, Nat.le_of_ble_eq_true rfl⟩ ⟨Nat.le_of_ble_eq_true rfl, Nat.le_of_ble_eq_true rfl⟩ ⟨rfl, rfl⟩ dX6_writesCamel_117 ?_
            intro v I9 hv
            obtain ⟨rfl, ht9, hg9⟩ := hv
            exact k_vret C (Nat.le_of_ble_eq_true rfl) (Nat.le_of_ble_eq_true rfl) (⟨rfl, rfl, ⟨rfl, by
                unfold sp_line sp_w3
                first
                | (rw [if_pos hc105, show sp_nl r = k by omega]; exact ht9)
                | (rw [if_neg hc105, show sp_nl r = k by omega]; exact ht9), by
                first
                | exact (hf5.tr hg8).tr hg9
                | exact hf5.tr hg9⟩⟩) dX6_writesCamel_120
          · skip
            refine k_aload_n C (f := 0) (i := 0) (p := 0) rfl rfl dX6_writesCamel_108 ?_
            refine k_bipush C bc_33 dX6_writesCamel_109 ?_
            refine k_callVg C s_X6_286 h_X6_writes (L6_s (by assumption)) rfl (ct_X6_writes (m := 33) hx ht5 (by omega)) rfl rfl (Nat.le_of_ble_eq_true rfl) ⟨Nat.le_of_ble_eq_true rfl, Nat.le_of_ble_eq_true rfl⟩ ⟨Nat.le_of_ble_eq_true rfl, Nat.le_of_ble_eq_true rfl⟩ ⟨rfl, rfl⟩ dX6_writesCamel_111 ?_
            intro v I8 hv
            obtain ⟨rfl, ht8, hg8⟩ := hv
            refine k_aload_n C (f := 0) (i := 0) (p := 0) rfl rfl dX6_writesCamel_114 ?_
            refine k_bipush C bc_10 dX6_writesCamel_115 ?_
            refine k_callVg C s_X6_286 h_X6_writes (L6_s (by assumption)) rfl (ct_X6_writes (m := 10) hx (by first | exact ht8 | exact ht5) (by first | (rw [sp_pt_n]; omega) | omega)) rfl rfl (Nat.le_of_ble_eq_true rfl) ⟨Nat.le_of_ble_eq_true rfl, Nat.le_of_ble_eq_true rfl⟩ ⟨Nat.le_of_ble_eq_true rfl, Nat.le_of_ble_eq_true rfl⟩ ⟨rfl, rfl⟩ dX6_writesCamel_117 ?_
            intro v I9 hv
            obtain ⟨rfl, ht9, hg9⟩ := hv
            exact k_vret C (Nat.le_of_ble_eq_true rfl) (Nat.le_of_ble_eq_true rfl) (⟨rfl, rfl, ⟨rfl, by
                unfold sp_line sp_w3
                first
                | (rw [if_pos hc105, show sp_nl r = k by omega]; exact ht9)
                | (rw [if_neg hc105, show sp_nl r = k by omega]; exact ht9), by
                first
                | exact (hf5.tr hg8).tr hg9
                | exact hf5.tr hg9⟩⟩) dX6_writesCamel_120
        · skip
          refine k_aload_n C (f := 0) (i := 0) (p := 0) rfl rfl dX6_writesCamel_63 ?_
          refine k_getR C f_X6_7 (L6_s (by assumption)) (fun _ _ _ => rfl) (L6_0 (by assumption)) dX6_writesCamel_64 ?_
          refine k_iload_n C (f := 2) (i := 2) (p := 2) rfl rfl dX6_writesCamel_67 ?_
          refine k_iconst C ic_2 dX6_writesCamel_68 ?_
          refine k_callSp C s_X6_56 h_X6_loadAt (ct_X6_loadAt ) rfl rfl (Nat.le_of_ble_eq_true rfl) ⟨Nat.le_of_ble_eq_true rfl, Nat.le_of_ble_eq_true rfl⟩ ⟨Nat.le_of_ble_eq_true rfl, Nat.le_of_ble_eq_true rfl⟩ ⟨rfl, rfl⟩ dX6_writesCamel_69 ?_
          refine k_iald C (A6_0 (by assumption)) (by first | rfl | assumption) (by omega) (by decide) (MRx (i := 142 + 4 * k) hm5 (by omega) (by omega)) dX6_writesCamel_72 ?_
          refine k_iload_n C (f := 1) (i := 1) (p := 1) rfl rfl dX6_writesCamel_73 ?_
          refine k_icmp_eq C (tgt := 80) (by decide) dX6_writesCamel_74 (fun hc74 => ?_) (fun hc74 => ?_)
          · skip
            have hn7 := sp_hcnt_mono r j (show k + 1 ≤ sp_nl r by omega)
            rw [sp_hcnt_s hc74] at hn7
            refine k_aload_n C (f := 0) (i := 0) (p := 0) rfl rfl dX6_writesCamel_80 ?_
            refine k_bipush C bc_44 dX6_writesCamel_81 ?_
            refine k_callVg C s_X6_286 h_X6_writes (L6_s (by assumption)) rfl (ct_X6_writes (m := 44) hx ht5 (by omega)) rfl rfl (Nat.le_of_ble_eq_true rfl) ⟨Nat.le_of_ble_eq_true rfl, Nat.le_of_ble_eq_true rfl⟩ ⟨Nat.le_of_ble_eq_true rfl, Nat.le_of_ble_eq_true rfl⟩ ⟨rfl, rfl⟩ dX6_writesCamel_83 ?_
            intro v I6 hv
            obtain ⟨rfl, ht6, hg6⟩ := hv
            refine k_aload_n C (f := 0) (i := 0) (p := 0) rfl rfl dX6_writesCamel_86 ?_
            refine k_iload_n C (f := 2) (i := 2) (p := 2) rfl rfl dX6_writesCamel_87 ?_
            refine k_callVg C s_X6_290 h_X6_writesNumber (L6_s (by assumption)) rfl (ct_X6_writesNumber (m := k) hx ht6 (by omega) (by rw [sp_pt_n]; omega)) rfl rfl (Nat.le_of_ble_eq_true rfl) ⟨Nat.le_of_ble_eq_true rfl, Nat.le_of_ble_eq_true rfl⟩ ⟨Nat.le_of_ble_eq_true rfl, Nat.le_of_ble_eq_true rfl⟩ ⟨rfl, rfl⟩ dX6_writesCamel_88 ?_
            intro v I7 hv
            obtain ⟨rfl, ht7, hg7⟩ := hv
            refine k_iinc C (i := 2) (p := 2) (lv := [(2, _), (0, _), (1, _)]) (Nat.le_of_ble_eq_true rfl) rfl (by first | exact am_inc1 _ | rfl) rfl dX6_writesCamel_91 ?_
            refine k_goto C (tgt := 52) (by decide) dX6_writesCamel_94 ?_
            refine k_sub [1, 2, 0] rfl ?_
            first
            | exact ih52 (k + 1) _ (by omega) (by rw [sp_wlTo_f hc74]; exact ht5) hf5 (by omega)
            | exact ih52 (k + 1) _ (by omega) (by rw [sp_wlTo_t hc74]; exact ht7) ((hf5.tr hg6).tr hg7) (by omega)
          · skip
            refine k_goto C (tgt := 91) (by decide) dX6_writesCamel_77 ?_
            refine k_iinc C (i := 2) (p := 2) (lv := [(2, _), (0, _), (1, _)]) (Nat.le_of_ble_eq_true rfl) rfl (by first | exact am_inc1 _ | rfl) rfl dX6_writesCamel_91 ?_
            refine k_goto C (tgt := 52) (by decide) dX6_writesCamel_94 ?_
            refine k_sub [1, 2, 0] rfl ?_
            first
            | exact ih52 (k + 1) _ (by omega) (by rw [sp_wlTo_f hc74]; exact ht5) hf5 (by omega)
            | exact ih52 (k + 1) _ (by omega) (by rw [sp_wlTo_t hc74]; exact ht7) ((hf5.tr hg6).tr hg7) (by omega)
    refine k_sub [1, 2, 0] rfl ?_
    exact loop52 (sp_nl r + 1) 0 I4 (Nat.zero_le _) ht4 hf4 (by omega)
  · skip
    refine k_aload_n C (f := 0) (i := 0) (p := 0) rfl rfl dX6_writesCamel_10 ?_
    refine k_bipush C bc_42 dX6_writesCamel_11 ?_
    refine k_callVg C s_X6_286 h_X6_writes (L6_s (by assumption)) rfl (ct_X6_writes (m := 42) hx ht (by omega)) rfl rfl (Nat.le_of_ble_eq_true rfl) ⟨Nat.le_of_ble_eq_true rfl, Nat.le_of_ble_eq_true rfl⟩ ⟨Nat.le_of_ble_eq_true rfl, Nat.le_of_ble_eq_true rfl⟩ ⟨rfl, rfl⟩ dX6_writesCamel_13 ?_
    intro v I13 hv
    obtain ⟨rfl, ht13, hg13⟩ := hv
    obtain ⟨I1, hI1⟩ : ∃ z : am_I, z = I13 := ⟨_, rfl⟩
    have ht1 : MWri I1 y (sp_w1 r j t) := by
      rw [hI1]
      unfold sp_w1
      rw [if_pos hc7]; exact ht13
    have hf1 : MWf y I I1 := by
      rw [hI1]
      exact hg13
    rw [← hI1]
    clear hI1
    have hm1 := hf1.row hm
    refine k_aload_n C (f := 0) (i := 0) (p := 0) rfl rfl dX6_writesCamel_16 ?_
    refine k_aload_n C (f := 0) (i := 0) (p := 0) rfl rfl dX6_writesCamel_17 ?_
    refine k_getR C f_X6_7 (L6_s (by assumption)) (fun _ _ _ => rfl) (L6_0 (by assumption)) dX6_writesCamel_18 ?_
    refine k_iload_n C (f := 1) (i := 1) (p := 1) rfl rfl dX6_writesCamel_21 ?_
    refine k_iconst C ic_3 dX6_writesCamel_22 ?_
    refine k_callSp C s_X6_71 h_X6_camelAt (ct_X6_camelAt ) rfl rfl (Nat.le_of_ble_eq_true rfl) ⟨Nat.le_of_ble_eq_true rfl, Nat.le_of_ble_eq_true rfl⟩ ⟨Nat.le_of_ble_eq_true rfl, Nat.le_of_ble_eq_true rfl⟩ ⟨rfl, rfl⟩ dX6_writesCamel_23 ?_
    refine k_iald C (A6_0 (by assumption)) (by first | rfl | assumption) (by omega) (by decide) ((MRx (i := 13 + 8 * j) hm1 (by omega) (by omega)).trans hx3) dX6_writesCamel_26 ?_
    refine k_callVg C s_X6_290 h_X6_writesNumber (L6_s (by assumption)) rfl (ct_X6_writesNumber (m := x) hx ht1 (by omega) (by omega)) rfl rfl (Nat.le_of_ble_eq_true rfl) ⟨Nat.le_of_ble_eq_true rfl, Nat.le_of_ble_eq_true rfl⟩ ⟨Nat.le_of_ble_eq_true rfl, Nat.le_of_ble_eq_true rfl⟩ ⟨rfl, rfl⟩ dX6_writesCamel_27 ?_
    intro v I2 hv
    obtain ⟨rfl, ht2, hg2⟩ := hv
    have hf2 := hf1.tr hg2
    have hm2 := hf2.row hm
    refine k_aload_n C (f := 0) (i := 0) (p := 0) rfl rfl dX6_writesCamel_30 ?_
    refine k_bipush C bc_47 dX6_writesCamel_31 ?_
    refine k_callVg C s_X6_286 h_X6_writes (L6_s (by assumption)) rfl (ct_X6_writes (m := 47) hx ht2 (by have := sp_pn_n (sp_w1 r j t) x; omega)) rfl rfl (Nat.le_of_ble_eq_true rfl) ⟨Nat.le_of_ble_eq_true rfl, Nat.le_of_ble_eq_true rfl⟩ ⟨Nat.le_of_ble_eq_true rfl, Nat.le_of_ble_eq_true rfl⟩ ⟨rfl, rfl⟩ dX6_writesCamel_33 ?_
    intro v I3 hv
    obtain ⟨rfl, ht3, hg3⟩ := hv
    have hf3 := hf2.tr hg3
    have hm3 := hf3.row hm
    refine k_aload_n C (f := 0) (i := 0) (p := 0) rfl rfl dX6_writesCamel_36 ?_
    refine k_aload_n C (f := 0) (i := 0) (p := 0) rfl rfl dX6_writesCamel_37 ?_
    refine k_getR C f_X6_7 (L6_s (by assumption)) (fun _ _ _ => rfl) (L6_0 (by assumption)) dX6_writesCamel_38 ?_
    refine k_iload_n C (f := 1) (i := 1) (p := 1) rfl rfl dX6_writesCamel_41 ?_
    refine k_iconst C ic_2 dX6_writesCamel_42 ?_
    refine k_callSp C s_X6_71 h_X6_camelAt (ct_X6_camelAt ) rfl rfl (Nat.le_of_ble_eq_true rfl) ⟨Nat.le_of_ble_eq_true rfl, Nat.le_of_ble_eq_true rfl⟩ ⟨Nat.le_of_ble_eq_true rfl, Nat.le_of_ble_eq_true rfl⟩ ⟨rfl, rfl⟩ dX6_writesCamel_43 ?_
    refine k_iald C (A6_0 (by assumption)) (by first | rfl | assumption) (by omega) (by decide) ((MRx (i := 12 + 8 * j) hm3 (by omega) (by omega)).trans hy) dX6_writesCamel_46 ?_
    refine k_callVg C s_X6_290 h_X6_writesNumber (L6_s (by assumption)) rfl (ct_X6_writesNumber (m := yy) hx ht3 (by omega) (by have := sp_pn_n (sp_w1 r j t) x; rw [sp_pt_n]; omega)) rfl rfl (Nat.le_of_ble_eq_true rfl) ⟨Nat.le_of_ble_eq_true rfl, Nat.le_of_ble_eq_true rfl⟩ ⟨Nat.le_of_ble_eq_true rfl, Nat.le_of_ble_eq_true rfl⟩ ⟨rfl, rfl⟩ dX6_writesCamel_47 ?_
    intro v I4 hv
    obtain ⟨rfl, ht4, hg4⟩ := hv
    have hf4 := hf3.tr hg4
    have hm4 := hf4.row hm
    have e2 : sp_pn (sp_pt (sp_pn (sp_w1 r j t) x) 47) yy = sp_w2 r j t := by
      unfold sp_w2
      rw [hx3, hy, nI_clamp (by omega), nI_clamp (by omega)]
    rw [e2] at ht4
    refine k_iconst C ic_0 dX6_writesCamel_50 ?_
    refine k_istore_n C (f := 2) (i := 2) (lv := [(2, _), (0, _), (1, _)]) rfl (Nat.le_of_ble_eq_true rfl) rfl dX6_writesCamel_51 ?_
    have loop52 : ∀ (f : Nat) (k : Nat) (I5 : am_I), (k ≤ sp_nl r) → (MWri I5 y (sp_wlTo r j (sp_w2 r j t) k)) → (MWf y I I5) → (sp_nl r - k) < f → am_K G X { frames := 2, cells := 0, slots := 0, locals := 42 } 3 Λ I5 J 0 0 52 [(0, .ref y), (1, .int (nI j)), (2, .int (nI k))] [] := by
      intro f
      induction f with
      | zero => intro k I5 hk ht5 hf5 hf; exact absurd hf (Nat.not_lt_zero _)
      | succ f ih52 =>
        intro k I5 hk ht5 hf5 hf
        have hm5 := hf5.row hm
        have hn5 := sp_wlTo_n r j (sp_w2 r j t) k
        have hn6 := sp_hcnt_mono r j (show k ≤ sp_nl r from hk)
        refine k_iload_n C (f := 2) (i := 2) (p := 2) rfl rfl dX6_writesCamel_52 ?_
        refine k_aload_n C (f := 0) (i := 0) (p := 0) rfl rfl dX6_writesCamel_53 ?_
        refine k_getR C f_X6_7 (L6_s (by assumption)) (fun _ _ _ => rfl) (L6_0 (by assumption)) dX6_writesCamel_54 ?_
        refine k_bipush C bc_9 dX6_writesCamel_57 ?_
        refine k_iald C (A6_0 (by assumption)) (by first | rfl | assumption) (by omega) (by decide) ((MR hm5 (by decide)).trans h9) dX6_writesCamel_59 ?_
        first
        | refine k_icmpN_ge C (tgt := 97) (by omega) (by omega) (by decide) dX6_writesCamel_60 (fun hc60 => ?_) (fun hc60 => ?_)
        | refine k_icmp_ge C (tgt := 97) (by decide) dX6_writesCamel_60 (fun hc60 => ?_) (fun hc60 => ?_)
        · skip
          refine k_aload_n C (f := 0) (i := 0) (p := 0) rfl rfl dX6_writesCamel_97 ?_
          refine k_getR C f_X6_7 (L6_s (by assumption)) (fun _ _ _ => rfl) (L6_0 (by assumption)) dX6_writesCamel_98 ?_
          refine k_iload_n C (f := 1) (i := 1) (p := 1) rfl rfl dX6_writesCamel_101 ?_
          refine k_callSp C s_X6_83 h_X6_lives (ct_X6_lives hs hm5 hB hD hj) rfl rfl (Nat.le_of_ble_eq_true rfl) ⟨Nat.le_of_ble_eq_true rfl, Nat.le_of_ble_eq_true rfl⟩ ⟨Nat.le_of_ble_eq_true rfl, Nat.le_of_ble_eq_true rfl⟩ ⟨rfl, rfl⟩ dX6_writesCamel_102 ?_
          refine k_ifb_ne C (tgt := 114) (by decide) dX6_writesCamel_105 (fun hc105 => ?_) (fun hc105 => ?_)
          · skip
            refine k_aload_n C (f := 0) (i := 0) (p := 0) rfl rfl dX6_writesCamel_114 ?_
            refine k_bipush C bc_10 dX6_writesCamel_115 ?_
            refine k_callVg C s_X6_286 h_X6_writes (L6_s (by assumption)) rfl (ct_X6_writes (m := 10) hx (by first | exact ht8 | exact ht5) (by first | (rw [sp_pt_n]; omega) | omega)) rfl rfl (Nat.le_of_ble_eq_true rfl) ⟨Nat.le_of_ble_eq_true rfl, Nat.le_of_ble_eq_true rfl⟩ ⟨Nat.le_of_ble_eq_true rfl, Nat.le_of_ble_eq_true rfl⟩ ⟨rfl, rfl⟩ dX6_writesCamel_117 ?_
            intro v I9 hv
            obtain ⟨rfl, ht9, hg9⟩ := hv
            exact k_vret C (Nat.le_of_ble_eq_true rfl) (Nat.le_of_ble_eq_true rfl) (⟨rfl, rfl, ⟨rfl, by
                unfold sp_line sp_w3
                first
                | (rw [if_pos hc105, show sp_nl r = k by omega]; exact ht9)
                | (rw [if_neg hc105, show sp_nl r = k by omega]; exact ht9), by
                first
                | exact (hf5.tr hg8).tr hg9
                | exact hf5.tr hg9⟩⟩) dX6_writesCamel_120
          · skip
            refine k_aload_n C (f := 0) (i := 0) (p := 0) rfl rfl dX6_writesCamel_108 ?_
            refine k_bipush C bc_33 dX6_writesCamel_109 ?_
            refine k_callVg C s_X6_286 h_X6_writes (L6_s (by assumption)) rfl (ct_X6_writes (m := 33) hx ht5 (by omega)) rfl rfl (Nat.le_of_ble_eq_true rfl) ⟨Nat.le_of_ble_eq_true rfl, Nat.le_of_ble_eq_true rfl⟩ ⟨Nat.le_of_ble_eq_true rfl, Nat.le_of_ble_eq_true rfl⟩ ⟨rfl, rfl⟩ dX6_writesCamel_111 ?_
            intro v I8 hv
            obtain ⟨rfl, ht8, hg8⟩ := hv
            refine k_aload_n C (f := 0) (i := 0) (p := 0) rfl rfl dX6_writesCamel_114 ?_
            refine k_bipush C bc_10 dX6_writesCamel_115 ?_
            refine k_callVg C s_X6_286 h_X6_writes (L6_s (by assumption)) rfl (ct_X6_writes (m := 10) hx (by first | exact ht8 | exact ht5) (by first | (rw [sp_pt_n]; omega) | omega)) rfl rfl (Nat.le_of_ble_eq_true rfl) ⟨Nat.le_of_ble_eq_true rfl, Nat.le_of_ble_eq_true rfl⟩ ⟨Nat.le_of_ble_eq_true rfl, Nat.le_of_ble_eq_true rfl⟩ ⟨rfl, rfl⟩ dX6_writesCamel_117 ?_
            intro v I9 hv
            obtain ⟨rfl, ht9, hg9⟩ := hv
            exact k_vret C (Nat.le_of_ble_eq_true rfl) (Nat.le_of_ble_eq_true rfl) (⟨rfl, rfl, ⟨rfl, by
                unfold sp_line sp_w3
                first
                | (rw [if_pos hc105, show sp_nl r = k by omega]; exact ht9)
                | (rw [if_neg hc105, show sp_nl r = k by omega]; exact ht9), by
                first
                | exact (hf5.tr hg8).tr hg9
                | exact hf5.tr hg9⟩⟩) dX6_writesCamel_120
        · skip
          refine k_aload_n C (f := 0) (i := 0) (p := 0) rfl rfl dX6_writesCamel_63 ?_
          refine k_getR C f_X6_7 (L6_s (by assumption)) (fun _ _ _ => rfl) (L6_0 (by assumption)) dX6_writesCamel_64 ?_
          refine k_iload_n C (f := 2) (i := 2) (p := 2) rfl rfl dX6_writesCamel_67 ?_
          refine k_iconst C ic_2 dX6_writesCamel_68 ?_
          refine k_callSp C s_X6_56 h_X6_loadAt (ct_X6_loadAt ) rfl rfl (Nat.le_of_ble_eq_true rfl) ⟨Nat.le_of_ble_eq_true rfl, Nat.le_of_ble_eq_true rfl⟩ ⟨Nat.le_of_ble_eq_true rfl, Nat.le_of_ble_eq_true rfl⟩ ⟨rfl, rfl⟩ dX6_writesCamel_69 ?_
          refine k_iald C (A6_0 (by assumption)) (by first | rfl | assumption) (by omega) (by decide) (MRx (i := 142 + 4 * k) hm5 (by omega) (by omega)) dX6_writesCamel_72 ?_
          refine k_iload_n C (f := 1) (i := 1) (p := 1) rfl rfl dX6_writesCamel_73 ?_
          refine k_icmp_eq C (tgt := 80) (by decide) dX6_writesCamel_74 (fun hc74 => ?_) (fun hc74 => ?_)
          · skip
            have hn7 := sp_hcnt_mono r j (show k + 1 ≤ sp_nl r by omega)
            rw [sp_hcnt_s hc74] at hn7
            refine k_aload_n C (f := 0) (i := 0) (p := 0) rfl rfl dX6_writesCamel_80 ?_
            refine k_bipush C bc_44 dX6_writesCamel_81 ?_
            refine k_callVg C s_X6_286 h_X6_writes (L6_s (by assumption)) rfl (ct_X6_writes (m := 44) hx ht5 (by omega)) rfl rfl (Nat.le_of_ble_eq_true rfl) ⟨Nat.le_of_ble_eq_true rfl, Nat.le_of_ble_eq_true rfl⟩ ⟨Nat.le_of_ble_eq_true rfl, Nat.le_of_ble_eq_true rfl⟩ ⟨rfl, rfl⟩ dX6_writesCamel_83 ?_
            intro v I6 hv
            obtain ⟨rfl, ht6, hg6⟩ := hv
            refine k_aload_n C (f := 0) (i := 0) (p := 0) rfl rfl dX6_writesCamel_86 ?_
            refine k_iload_n C (f := 2) (i := 2) (p := 2) rfl rfl dX6_writesCamel_87 ?_
            refine k_callVg C s_X6_290 h_X6_writesNumber (L6_s (by assumption)) rfl (ct_X6_writesNumber (m := k) hx ht6 (by omega) (by rw [sp_pt_n]; omega)) rfl rfl (Nat.le_of_ble_eq_true rfl) ⟨Nat.le_of_ble_eq_true rfl, Nat.le_of_ble_eq_true rfl⟩ ⟨Nat.le_of_ble_eq_true rfl, Nat.le_of_ble_eq_true rfl⟩ ⟨rfl, rfl⟩ dX6_writesCamel_88 ?_
            intro v I7 hv
            obtain ⟨rfl, ht7, hg7⟩ := hv
            refine k_iinc C (i := 2) (p := 2) (lv := [(2, _), (0, _), (1, _)]) (Nat.le_of_ble_eq_true rfl) rfl (by first | exact am_inc1 _ | rfl) rfl dX6_writesCamel_91 ?_
            refine k_goto C (tgt := 52) (by decide) dX6_writesCamel_94 ?_
            refine k_sub [1, 2, 0] rfl ?_
            first
            | exact ih52 (k + 1) _ (by omega) (by rw [sp_wlTo_f hc74]; exact ht5) hf5 (by omega)
            | exact ih52 (k + 1) _ (by omega) (by rw [sp_wlTo_t hc74]; exact ht7) ((hf5.tr hg6).tr hg7) (by omega)
          · skip
            refine k_goto C (tgt := 91) (by decide) dX6_writesCamel_77 ?_
            refine k_iinc C (i := 2) (p := 2) (lv := [(2, _), (0, _), (1, _)]) (Nat.le_of_ble_eq_true rfl) rfl (by first | exact am_inc1 _ | rfl) rfl dX6_writesCamel_91 ?_
            refine k_goto C (tgt := 52) (by decide) dX6_writesCamel_94 ?_
            refine k_sub [1, 2, 0] rfl ?_
            first
            | exact ih52 (k + 1) _ (by omega) (by rw [sp_wlTo_f hc74]; exact ht5) hf5 (by omega)
            | exact ih52 (k + 1) _ (by omega) (by rw [sp_wlTo_t hc74]; exact ht7) ((hf5.tr hg6).tr hg7) (by omega)
    refine k_sub [1, 2, 0] rfl ?_
    exact loop52 (sp_nl r + 1) 0 I4 (Nat.zero_le _) ht4 hf4 (by omega)
set_option maxHeartbeats 4000000 in
set_option maxRecDepth 100000 in
theorem ct_X6_writeCamels {G : am_G} {Λ : am_L} {I : am_I} {J : am_J} {y n ct : Nat} {tb : Nat → Nat} {err : Int32} {r : Nat → Int32} {hs : Nat → Nat → Int32} {kp : Nat → Bool} {sn : Nat → Nat → Int32} {w : Nat × (Nat → Int32)}  (hx : ModLay Λ y) (hR : ModRel I y tb n err r ct hs kp sn w) (hok : RowOk r) : am_Ct G yX6_writeCamels cX6_writeCamels 2 (some .int) { frames := 3, cells := 0, slots := 0, locals := 64 } [.ref y] Λ I J (am_gen Λ J (fun v I' => MCx I y (0) (some (.int (nI (sp_text r).1))) v I' (fun I1 => ModRel I1 y tb n err r ct hs kp sn w) (fun I1 => ModRel I1 y (tb) (n) (err) (r) (ct) (hs) (kp) (sn) (sp_text r)))) am_never := by
  refine am_ct_of (own := RX6) rfl (by decide) (Nat.le_of_ble_eq_true rfl) (fun X C => ?_)
  change am_K G X { frames := 3, cells := 0, slots := 0, locals := 64 } 2 Λ I J 0 0 0 [(0, .ref y)] []
  obtain ⟨h6a, h6b, h6c⟩ := MM_h hR
  have hm := MM_r hR
  have hsl := A6_0 hx
  have hB := hok.B
  have hD := hok.D
  have hB9 := hB
  obtain ⟨⟨h6, h7, h8, h9⟩, hnc, hnw, hns, hnl⟩ := hB9
  refine k_aload_n C (f := 0) (i := 0) (p := 0) rfl rfl dX6_writeCamels_0 ?_
  refine k_iconst C ic_0 dX6_writeCamels_1 ?_
  refine k_putI C f_X6_60 (L6_s (by assumption)) rfl rfl dX6_writeCamels_2 ?_
  obtain ⟨I1, hI1⟩ : ∃ z : am_I, z = am_up I y 10 (nI 0) := ⟨_, rfl⟩
  rw [← hI1]
  have hm1 : MRow I1 (y + 1) 0 r := MR_ne hm (by rw [hI1]; exact am_up_ne (by omega))
  have h10 : I1 y 10 = nI 0 := by rw [hI1, am_up_eq]
  have hR1 : ModRel I1 y tb n err r ct hs kp sn w := by rw [hI1]; exact MM_up hR (by decide)
  have F1 : MFr y I I1 := by rw [hI1]; exact MFr.rf.up ⟨Nat.le_refl _, by omega⟩
  refine k_aload_n C (f := 0) (i := 0) (p := 0) rfl rfl dX6_writeCamels_5 ?_
  refine k_iconst C ic_0 dX6_writeCamels_6 ?_
  refine k_putI C f_X6_283 (L6_s (by assumption)) rfl rfl dX6_writeCamels_7 ?_
  obtain ⟨I3, hI3⟩ : ∃ z : am_I, z = am_up I1 y 19 (nI 0) := ⟨_, rfl⟩
  rw [← hI3]
  refine k_iconst C ic_0 dX6_writeCamels_10 ?_
  refine k_istore_n C (f := 1) (i := 1) (lv := [(1, _), (0, _)]) rfl (Nat.le_of_ble_eq_true rfl) rfl dX6_writeCamels_11 ?_
  have loop12 : ∀ (f : Nat) (k : Nat) (I4 : am_I), (k ≤ sp_nc r) → (MWri I4 y (sp_textTo r k)) → (MWf y I1 I4) → (sp_nc r - k) < f → am_K G X { frames := 3, cells := 0, slots := 0, locals := 64 } 2 Λ I4 J 0 0 12 [(0, .ref y), (1, .int (nI k))] [] := by
    intro f
    induction f with
    | zero => intro k I4 hk ht4 g4 hf; exact absurd hf (Nat.not_lt_zero _)
    | succ f ih12 =>
      intro k I4 hk ht4 g4 hf
      refine k_iload_n C (f := 1) (i := 1) (p := 1) rfl rfl dX6_writeCamels_12 ?_
      refine k_aload_n C (f := 0) (i := 0) (p := 0) rfl rfl dX6_writeCamels_13 ?_
      refine k_getR C f_X6_7 (L6_s (by assumption)) (fun _ _ _ => rfl) (L6_0 (by assumption)) dX6_writeCamels_14 ?_
      refine k_bipush C bc_6 dX6_writeCamels_17 ?_
      refine k_iald C (A6_0 (by assumption)) (by first | rfl | assumption) (by omega) (by decide) ((MR (MWf.row g4 hm1) (by decide)).trans h6) dX6_writeCamels_19 ?_
      first
      | refine k_icmpN_ge C (tgt := 34) (by omega) (by omega) (by decide) dX6_writeCamels_20 (fun hc20 => ?_) (fun hc20 => ?_)
      | refine k_icmp_ge C (tgt := 34) (by decide) dX6_writeCamels_20 (fun hc20 => ?_) (fun hc20 => ?_)
      · skip
        refine k_aload_n C (f := 0) (i := 0) (p := 0) rfl rfl dX6_writeCamels_34 ?_
        refine k_getI C f_X6_283 (L6_s (by assumption)) (fun _ _ _ => rfl) (ht4.1) dX6_writeCamels_35 ?_
        exact k_iret C (Nat.le_of_ble_eq_true rfl) (Nat.le_of_ble_eq_true rfl) (⟨rfl, rfl, by
            have e : sp_text r = sp_textTo r k := by unfold sp_text; rw [show sp_nc r = k by omega]
            have z1 := sp_textTo_n r k
            have z2 := sp_hsum_le r (sp_nl r) k (by omega)
            rw [e]
            exact MCx_ok ((g4.1 10 (by decide)).trans h10) (F1.tr g4.fr) rfl rfl (MWri_rel hR1 ht4 (by omega) g4)⟩) dX6_writeCamels_38
      · skip
        refine k_aload_n C (f := 0) (i := 0) (p := 0) rfl rfl dX6_writeCamels_23 ?_
        refine k_iload_n C (f := 1) (i := 1) (p := 1) rfl rfl dX6_writeCamels_24 ?_
        refine k_callVg C s_X6_293 h_X6_writesCamel (L6_s (by assumption)) rfl (ct_X6_writesCamel hx ht4 (MWf.row g4 hm1) hok (by omega) (sp_text_room r (by omega) hnl)) rfl rfl (Nat.le_of_ble_eq_true rfl) ⟨Nat.le_of_ble_eq_true rfl, Nat.le_of_ble_eq_true rfl⟩ ⟨Nat.le_of_ble_eq_true rfl, Nat.le_of_ble_eq_true rfl⟩ ⟨rfl, rfl⟩ dX6_writeCamels_25 ?_
        intro v I5 hv
        obtain ⟨rfl, ht5, g5⟩ := hv
        refine k_iinc C (i := 1) (p := 1) (lv := [(1, _), (0, _)]) (Nat.le_of_ble_eq_true rfl) rfl (by first | exact am_inc1 _ | rfl) rfl dX6_writeCamels_28 ?_
        refine k_goto C (tgt := 12) (by decide) dX6_writeCamels_31 ?_
        refine k_sub [1, 0] rfl ?_
        exact ih12 (k + 1) I5 (by omega) ht5 (g4.tr g5) (by omega)
  refine k_sub [1, 0] rfl ?_
  exact loop12 (sp_nc r + 1) 0 I3 (Nat.zero_le _) ⟨by rw [hI3, am_up_eq]; rfl, fun j hj => absurd hj (Nat.not_lt_zero j)⟩ (by rw [hI3]; exact ⟨fun k hk => am_up_n2 (fun z => hk z.2), fun b h1 _ => am_up_ne h1⟩) (by omega)
