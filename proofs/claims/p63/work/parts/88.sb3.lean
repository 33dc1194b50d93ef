/-! ===== a string constant, or a text made before, behind a text ===== -/
/-- the bytes of a string constant -/
def CsOk (i : Nat) (w : Nat) (sx : Nat → Nat) : Prop := i < 43 ∧ am_slen.getD i 0 = w ∧ w ≤ 20 ∧ ∀ j : Nat, j < w → sx j < 128 ∧ am_ch i j = nI (sx j)
theorem Sb_ne {Λ : am_L} {I : am_I} {b v cap n : Nat} {tx : Nat → Nat} (h : SbAt Λ I b v cap n tx) : b ≠ v := fun e => by have e1 := h.1; rw [e, h.2.2.2.2.2.1.1] at e1; cases e1
theorem St_ne {Λ : am_L} {I : am_I} {s v n : Nat} {tx : Nat → Nat} (h : StAt Λ I s v n tx) : s ≠ v := fun e => by have e1 := h.1; rw [e, h.2.2.2.1.1] at e1; cases e1
theorem StAt.keep {Λ Λ2 : am_L} {I I2 : am_I} {b v s sv w : Nat} {sx : Nat → Nat} (h : StAt Λ I s sv w sx) (hk : SKp b v Λ I Λ2 I2) (h1 : s ≠ b) (h2 : s ≠ v) (h3 : sv ≠ b) (h4 : sv ≠ v) : StAt Λ2 I2 s sv w sx := by
  obtain ⟨a1, a2, a3, a4, a5⟩ := h
  obtain ⟨b1, b2⟩ := hk s (by rw [a1]; exact Nat.one_ne_zero)
  obtain ⟨c1, c2⟩ := hk sv (by rw [a4.1]; exact Nat.succ_ne_zero _)
  have e1 := (b2 h1).2 h2
  have e2 := (c2 h3).2 h4
  exact ⟨b1.trans a1, by rw [(b2 h1).1]; exact a2, by rw [e1]; exact a3, ⟨c1.trans a4.1, a4.2.1, fun j hj => by rw [e2]; exact a4.2.2 j hj⟩, fun j hj => by rw [e2]; exact a5 j hj⟩
set_option maxHeartbeats 4000000 in
set_option maxRecDepth 100000 in
theorem ct_getBytesC {G : am_G} {Λ : am_L} {I : am_I} {J : am_J} {i w d p N : Nat} {sx : Nat → Nat} (hcs : CsOk i w sx) (hd : Λ.1 d = (3, N)) (hN : N ≤ 1000) (hpw : p + w ≤ N) : am_Ct G yJ0_getBytes_840e7 cJ0_getBytes_840e7 4 none { frames := 1, cells := 0, slots := 0, locals := 60 } [.ref (G.2.2.2.2.1 i), .ref d, .int (nI p), .int (nI 0)] Λ I J (am_gen Λ J (fun w0 I' => w0 = none ∧ I' = am_cs I d i 0 p w)) am_never := by
  refine am_ct_of (own := RJ0) rfl (by decide) (Nat.le_of_ble_eq_true rfl) (fun X C => ?_)
  change am_K G X { frames := 1, cells := 0, slots := 0, locals := 60 } 4 Λ I J 0 0 0 [(0, .ref (G.2.2.2.2.1 i)), (1, .ref d), (2, .int (nI p)), (3, .int (nI 0))] []
  obtain ⟨hi, hw, hw9, hch⟩ := hcs
  refine k_aload_n C (f := 0) (i := 0) (p := 0) rfl rfl dJ0_getBytes_840e7_0 ?_
  refine k_callKp C s_J0_335 h_J0_coder_7d493 hi (ct_J0_coder_7d493 hi) rfl rfl (Nat.le_of_ble_eq_true rfl) ⟨Nat.le_of_ble_eq_true rfl, Nat.le_of_ble_eq_true rfl⟩ ⟨by show _ ≤ 0; (try dsimp only); omega, by show _ ≤ 0; (try dsimp only); omega⟩ ⟨rfl, rfl⟩ dJ0_getBytes_840e7_1 ?_
  refine k_iload_n C (f := 3) (i := 3) (p := 3) rfl rfl dJ0_getBytes_840e7_4 ?_
  first
  | refine k_icmpN_ne C (tgt := 28) (by omega) (by omega) (by decide) dJ0_getBytes_840e7_5 (fun hc5 => ?_) (fun hc5 => ?_)
  | refine k_icmp_ne C (tgt := 28) (by decide) dJ0_getBytes_840e7_5 (fun hc5 => ?_) (fun hc5 => ?_)
  · skip
    exact absurd rfl hc5
  · skip
    refine k_aload_n C (f := 0) (i := 0) (p := 0) rfl rfl dJ0_getBytes_840e7_8 ?_
    refine k_sval C (hi) f_J0_9 dJ0_getBytes_840e7_9 ?_
    refine k_iconst C ic_0 dJ0_getBytes_840e7_12 ?_
    refine k_aload_n C (f := 1) (i := 1) (p := 1) rfl rfl dJ0_getBytes_840e7_13 ?_
    refine k_iload_n C (f := 2) (i := 2) (p := 2) rfl rfl dJ0_getBytes_840e7_14 ?_
    refine k_iload_n C (f := 3) (i := 3) (p := 3) rfl rfl dJ0_getBytes_840e7_15 ?_
    refine k_ishl C dJ0_getBytes_840e7_16 ?_
    rw [shl0n]
    refine k_aload_n C (f := 0) (i := 0) (p := 0) rfl rfl dJ0_getBytes_840e7_17 ?_
    refine k_sval C (hi) f_J0_9 dJ0_getBytes_840e7_18 ?_
    refine k_slen C (hi) dJ0_getBytes_840e7_21 ?_
    rw [hw]
    refine k_copyS C (sp := 0) (dp := p) (m := w) hi hd ⟨by omega, by omega, by omega⟩ (by rw [hw]; omega) (by omega) (fun j hj => by rw [Nat.zero_add, (hch j hj).2]; exact (fit_nI _ (hch j hj).1).1) m_J0_212 ⟨Nat.le_of_ble_eq_true rfl, Nat.le_of_ble_eq_true rfl⟩ dJ0_getBytes_840e7_22 ?_
    refine k_goto C (tgt := 43) (by decide) dJ0_getBytes_840e7_25 ?_
    exact k_vret C (by show _ ≤ 0; (try dsimp only); omega) (by show _ ≤ 0; (try dsimp only); omega) (⟨rfl, rfl, rfl, rfl⟩) dJ0_getBytes_840e7_43
set_option maxHeartbeats 4000000 in
set_option maxRecDepth 100000 in
theorem ct_inflC {G : am_G} {Λ : am_L} {I : am_I} {J : am_J} {b v cap n : Nat} {tx : Nat → Nat} {i w : Nat} {sx : Nat → Nat} (hsb : SbAt Λ I b v cap n tx) (hcs : CsOk i w sx) : am_Ct G yJ5_inflateIfNeededFor_a7421 cJ5_inflateIfNeededFor_a7421 2 none { frames := 1, cells := 0, slots := 0, locals := 60 } [.ref b, .ref (G.2.2.2.2.1 i)] Λ I J (am_gen Λ J (fun w0 I' => w0 = none ∧ I' = I)) am_never := by
  refine am_ct_of (own := RJ5) rfl (by decide) (Nat.le_of_ble_eq_true rfl) (fun X C => ?_)
  change am_K G X { frames := 1, cells := 0, slots := 0, locals := 60 } 2 Λ I J 0 0 0 [(0, .ref b), (1, .ref (G.2.2.2.2.1 i))] []
  obtain ⟨hi, hw, hw9, hch⟩ := hcs
  refine k_scmp C f_J5_18 dJ5_inflateIfNeededFor_a7421_0 ?_
  first
  | refine k_ifb_eq C (tgt := 21) (by decide) dJ5_inflateIfNeededFor_a7421_3 (fun hc3 => ?_) (fun hc3 => ?_)
  | refine k_if_eq C (tgt := 21) (by decide) dJ5_inflateIfNeededFor_a7421_3 (fun hc3 => ?_) (fun hc3 => ?_)
  · skip
    first
    | exact absurd hc3 (by decide)
    | exact absurd (by decide) hc3
  · skip
    refine k_aload_n C (f := 0) (i := 0) (p := 0) rfl rfl dJ5_inflateIfNeededFor_a7421_6 ?_
    refine k_getI C f_J5_22 hsb.1 (fun _ _ _ => rfl) hsb.2.2.1 dJ5_inflateIfNeededFor_a7421_7 ?_
    refine k_aload_n C (f := 1) (i := 1) (p := 1) rfl rfl dJ5_inflateIfNeededFor_a7421_10 ?_
    refine k_callKp C s_J5_40 h_J0_coder_7d493 hi (ct_J0_coder_7d493 hi) rfl rfl (Nat.le_of_ble_eq_true rfl) ⟨Nat.le_of_ble_eq_true rfl, Nat.le_of_ble_eq_true rfl⟩ ⟨by show _ ≤ 0; (try dsimp only); omega, by show _ ≤ 0; (try dsimp only); omega⟩ ⟨rfl, rfl⟩ dJ5_inflateIfNeededFor_a7421_11 ?_
    first
    | refine k_icmpN_eq C (tgt := 21) (by omega) (by omega) (by decide) dJ5_inflateIfNeededFor_a7421_14 (fun hc14 => ?_) (fun hc14 => ?_)
    | refine k_icmp_eq C (tgt := 21) (by decide) dJ5_inflateIfNeededFor_a7421_14 (fun hc14 => ?_) (fun hc14 => ?_)
    · skip
      exact k_vret C (by show _ ≤ 0; (try dsimp only); omega) (by show _ ≤ 0; (try dsimp only); omega) (⟨rfl, rfl, rfl, rfl⟩) dJ5_inflateIfNeededFor_a7421_21
    · skip
      exact absurd rfl hc14
set_option maxHeartbeats 4000000 in
set_option maxRecDepth 100000 in
theorem ct_putC {G : am_G} {Λ : am_L} {I : am_I} {J : am_J} {b v cap n : Nat} {tx : Nat → Nat} {i w p : Nat} {sx : Nat → Nat} (hsb : SbAt Λ I b v cap n tx) (hcs : CsOk i w sx) (hpw : p + w ≤ cap) : am_Ct G yJ5_putStringAt_47b60 cJ5_putStringAt_47b60 3 none { frames := 2, cells := 0, slots := 0, locals := 130 } [.ref b, .int (nI p), .ref (G.2.2.2.2.1 i)] Λ I J (am_gen Λ J (fun w0 I' => w0 = none ∧ I' = am_cs I v i 0 p w)) am_never := by
  refine am_ct_of (own := RJ5) rfl (by decide) (Nat.le_of_ble_eq_true rfl) (fun X C => ?_)
  change am_K G X { frames := 2, cells := 0, slots := 0, locals := 130 } 3 Λ I J 0 0 0 [(0, .ref b), (1, .int (nI p)), (2, .ref (G.2.2.2.2.1 i))] []
  refine k_aload_n C (f := 0) (i := 0) (p := 0) rfl rfl dJ5_putStringAt_47b60_0 ?_
  refine k_aload_n C (f := 2) (i := 2) (p := 2) rfl rfl dJ5_putStringAt_47b60_1 ?_
  refine k_callUg C s_J5_397 h_J5_inflateIfNeededFor_a7421 (hsb.1) rfl (ct_inflC hsb hcs) rfl rfl (Nat.le_of_ble_eq_true rfl) ⟨Nat.le_of_ble_eq_true rfl, Nat.le_of_ble_eq_true rfl⟩ ⟨rfl, rfl⟩ ⟨by show _ ≤ 0; (try dsimp only); omega, by show _ ≤ 0; (try dsimp only); omega⟩ dJ5_putStringAt_47b60_2 ?_
  intro w1 I1 hv1
  obtain ⟨rfl, e1⟩ := hv1
  subst e1
  show am_K G X _ _ _ _ _ _ _ _ _ ([])
  refine k_aload_n C (f := 2) (i := 2) (p := 2) rfl rfl dJ5_putStringAt_47b60_5 ?_
  refine k_aload_n C (f := 0) (i := 0) (p := 0) rfl rfl dJ5_putStringAt_47b60_6 ?_
  refine k_getR C f_J5_15 hsb.1 (fun _ _ _ => rfl) hsb.2.1 dJ5_putStringAt_47b60_7 ?_
  refine k_iload_n C (f := 1) (i := 1) (p := 1) rfl rfl dJ5_putStringAt_47b60_10 ?_
  refine k_aload_n C (f := 0) (i := 0) (p := 0) rfl rfl dJ5_putStringAt_47b60_11 ?_
  refine k_getI C f_J5_22 hsb.1 (fun _ _ _ => rfl) hsb.2.2.1 dJ5_putStringAt_47b60_12 ?_
  refine k_callKg C s_J5_399 h_J0_getBytes_840e7 hcs.1 (ct_getBytesC hcs hsb.2.2.2.2.2.1.1 hsb.2.2.2.2.2.1.2.1 hpw) rfl rfl (Nat.le_of_ble_eq_true rfl) ⟨Nat.le_of_ble_eq_true rfl, Nat.le_of_ble_eq_true rfl⟩ ⟨by show _ ≤ 0; (try dsimp only); omega, by show _ ≤ 0; (try dsimp only); omega⟩ ⟨rfl, rfl⟩ dJ5_putStringAt_47b60_15 ?_
  intro w1 I1 hv1
  obtain ⟨rfl, e1⟩ := hv1
  show am_K G X _ _ _ _ _ _ _ _ _ ([])
  exact k_vret C (by show _ ≤ 0; (try dsimp only); omega) (by show _ ≤ 0; (try dsimp only); omega) (⟨rfl, rfl, rfl, e1⟩) dJ5_putStringAt_47b60_18
set_option maxHeartbeats 4000000 in
set_option maxRecDepth 100000 in
theorem ct_appC {G : am_G} {Λ : am_L} {I : am_I} {J : am_J} {b v cap n : Nat} {tx : Nat → Nat} {i w : Nat} {sx : Nat → Nat} (hsb : SbAt Λ I b v cap n tx) (hcs : CsOk i w sx) (hn9 : n + w ≤ 300) (hc7 : cap ≤ 700) : am_Ct G yJ5_append_cf1ce cJ5_append_cf1ce 3 (some (.object "java/lang/AbstractStringBuilder")) { frames := 4, cells := 1, slots := 700, locals := 260 } [.ref b, .ref (G.2.2.2.2.1 i)] Λ I J (am_ap b v (n + w) (sb_cat tx n sx) Λ I) am_never := by
  refine am_ct_of (own := RJ5) rfl (by decide) (Nat.le_of_ble_eq_true rfl) (fun X C => ?_)
  change am_K G X { frames := 4, cells := 1, slots := 700, locals := 260 } 3 Λ I J 0 0 0 [(0, .ref b), (1, .ref (G.2.2.2.2.1 i))] []
  obtain ⟨hi, hw, hw9, hch⟩ := hcs
  refine k_aload_n C (f := 1) (i := 1) (p := 1) rfl rfl dJ5_append_cf1ce_0 ?_
  refine k_ifnn C (tgt := 9) (by decide) dJ5_append_cf1ce_1 ?_
  refine k_aload_n C (f := 1) (i := 1) (p := 1) rfl rfl dJ5_append_cf1ce_9 ?_
  refine k_callKp C s_J5_32 h_J0_length_8abf5 hi (ct_J0_length_8abf5 hi) rfl rfl (Nat.le_of_ble_eq_true rfl) ⟨Nat.le_of_ble_eq_true rfl, Nat.le_of_ble_eq_true rfl⟩ ⟨by show _ ≤ 1; (try dsimp only); omega, by show _ ≤ 700; (try dsimp only); omega⟩ ⟨rfl, rfl⟩ dJ5_append_cf1ce_10 ?_
  rw [hw]
  refine k_istore_n C (f := 2) (i := 2) (lv := [(2, _), (0, _), (1, _)]) rfl (Nat.le_of_ble_eq_true rfl) rfl dJ5_append_cf1ce_13 ?_
  refine k_aload_n C (f := 0) (i := 0) (p := 1) rfl rfl dJ5_append_cf1ce_14 ?_
  refine k_aload_n C (f := 0) (i := 0) (p := 1) rfl rfl dJ5_append_cf1ce_15 ?_
  refine k_getI C f_J5_79 hsb.1 (fun _ _ _ => rfl) (hsb.2.2.2.1) dJ5_append_cf1ce_16 ?_
  refine k_iload_n C (f := 2) (i := 2) (p := 0) rfl rfl dJ5_append_cf1ce_19 ?_
  refine k_iadd C dJ5_append_cf1ce_20 ?_
  rw [nI_add]
  refine k_callUl C s_J5_100 h_J5_ensureCapacityInternal_d00df (hsb.1) rfl (ct_J5_ensureCapacityInternal_d00df (m := n + w) hsb (by omega) hc7) rfl rfl (Nat.le_of_ble_eq_true rfl) ⟨Nat.le_of_ble_eq_true rfl, Nat.le_of_ble_eq_true rfl⟩ ⟨rfl, rfl⟩ ⟨by show _ ≤ 1; (try dsimp only); omega, by show _ ≤ 700; (try dsimp only); omega⟩ dJ5_append_cf1ce_21 ?_
  intro w0 Λ2 I2 J2 hv
  obtain ⟨rfl, hsk, hib, v2, cap2, hv2, hc2, hm2, hsb2⟩ := hv
  show am_K G X _ _ _ _ _ _ _ _ _ ([])
  refine k_aload_n C (f := 0) (i := 0) (p := 1) rfl rfl dJ5_append_cf1ce_24 ?_
  refine k_aload_n C (f := 0) (i := 0) (p := 1) rfl rfl dJ5_append_cf1ce_25 ?_
  refine k_getI C f_J5_79 hsb2.1 (fun _ _ _ => rfl) (hsb2.2.2.2.1) dJ5_append_cf1ce_26 ?_
  refine k_aload_n C (f := 1) (i := 1) (p := 2) rfl rfl dJ5_append_cf1ce_29 ?_
  refine k_callUg C s_J5_208 h_J5_putStringAt_47b60 (hsb2.1) rfl (ct_putC hsb2 ⟨hi, hw, hw9, hch⟩ hm2) rfl rfl (Nat.le_of_ble_eq_true rfl) ⟨Nat.le_of_ble_eq_true rfl, Nat.le_of_ble_eq_true rfl⟩ ⟨rfl, rfl⟩ ⟨by show _ ≤ 1; (try dsimp only); omega, by show _ ≤ 700; (try dsimp only); omega⟩ dJ5_append_cf1ce_30 ?_
  intro w1 I3 hv1
  obtain ⟨rfl, e1⟩ := hv1
  subst e1
  show am_K G X _ _ _ _ _ _ _ _ _ ([])
  refine k_aload_n C (f := 0) (i := 0) (p := 1) rfl rfl dJ5_append_cf1ce_33 ?_
  refine k_dup C rfl dJ5_append_cf1ce_34 ?_
  refine k_getI C f_J5_79 hsb2.1 (fun _ _ _ => rfl) ((congrFun (am_cs_ne (Sb_ne hsb2)) 3).trans hsb2.2.2.2.1) dJ5_append_cf1ce_35 ?_
  refine k_iload_n C (f := 2) (i := 2) (p := 0) rfl rfl dJ5_append_cf1ce_38 ?_
  refine k_iadd C dJ5_append_cf1ce_39 ?_
  rw [nI_add]
  refine k_putI C f_J5_79 hsb2.1 rfl rfl dJ5_append_cf1ce_40 ?_
  refine k_aload_n C (f := 0) (i := 0) (p := 1) rfl rfl dJ5_append_cf1ce_43 ?_
  exact k_aret C (by first | exact Or.inl ⟨_, rfl⟩ | exact Or.inr ⟨_, rfl⟩) (by show _ ≤ 1; (try dsimp only); omega) (by show _ ≤ 700; (try dsimp only); omega) (ap_end (w := w) (sx := sx) hsk hv2 hc2 hsb2 hm2 (fun a h1 h2 => (am_up_ne h1).trans (am_cs_ne h2)) (funext fun j => by
    have e := congrFun (am_cs_ne (I := I2) (i := i) (sp := 0) (dp := n) (n := w) (Sb_ne hsb2)) j
    simp [am_up, e]) (fun j hj => by rw [am_up_ne (Sb_ne hsb2).symm, am_cs_eq, pk_cpy_out (by omega)]) (fun q hq => ⟨(hch q hq).1, by rw [am_up_ne (Sb_ne hsb2).symm, am_cs_eq, pk_cpy_in (by omega) (by omega), show 0 + (n + q - n) = q by omega]; exact (hch q hq).2⟩)) dJ5_append_cf1ce_44
set_option maxHeartbeats 4000000 in
set_option maxRecDepth 100000 in
theorem ct_appCs {G : am_G} {Λ : am_L} {I : am_I} {J : am_J} {b v cap n : Nat} {tx : Nat → Nat} {i w : Nat} {sx : Nat → Nat} (hsb : SbAt Λ I b v cap n tx) (hcs : CsOk i w sx) (hn9 : n + w ≤ 300) (hc7 : cap ≤ 700) : am_Ct G yJ4_append_15ec4 cJ4_append_15ec4 2 (some (.object "java/lang/StringBuilder")) { frames := 5, cells := 1, slots := 700, locals := 340 } [.ref b, .ref (G.2.2.2.2.1 i)] Λ I J (am_ap b v (n + w) (sb_cat tx n sx) Λ I) am_never := by
  refine am_ct_of (own := RJ4) rfl (by decide) (Nat.le_of_ble_eq_true rfl) (fun X C => ?_)
  change am_K G X { frames := 5, cells := 1, slots := 700, locals := 340 } 2 Λ I J 0 0 0 [(0, .ref b), (1, .ref (G.2.2.2.2.1 i))] []
  refine k_aload_n C (f := 0) (i := 0) (p := 0) rfl rfl dJ4_append_15ec4_0 ?_
  refine k_aload_n C (f := 1) (i := 1) (p := 1) rfl rfl dJ4_append_15ec4_1 ?_
  refine k_callPl C s_J4_29 h_J5_append_cf1ce (hsb.1) rfl (by decide) (ct_appC hsb hcs hn9 hc7) rfl rfl (Nat.le_of_ble_eq_true rfl) ⟨Nat.le_of_ble_eq_true rfl, Nat.le_of_ble_eq_true rfl⟩ ⟨rfl, rfl⟩ ⟨by show _ ≤ 1; (try dsimp only); omega, by show _ ≤ 700; (try dsimp only); omega⟩ dJ4_append_15ec4_2 ?_
  intro w0 Λ2 I2 J2 hv
  obtain ⟨rfl, hv⟩ := hv
  show am_K G X _ _ _ _ _ _ _ _ _ (.ref b :: [])
  refine k_pop C rfl dJ4_append_15ec4_5 ?_
  refine k_aload_n C (f := 0) (i := 0) (p := 0) rfl rfl dJ4_append_15ec4_6 ?_
  exact k_aret C (by first | exact Or.inl ⟨_, rfl⟩ | exact Or.inr ⟨_, rfl⟩) (by show _ ≤ 1; (try dsimp only); omega) (by show _ ≤ 700; (try dsimp only); omega) (⟨rfl, hv⟩) dJ4_append_15ec4_7
set_option maxHeartbeats 4000000 in
set_option maxRecDepth 100000 in
theorem ct_appCb {G : am_G} {Λ : am_L} {I : am_I} {J : am_J} {b v cap n : Nat} {tx : Nat → Nat} {i w : Nat} {sx : Nat → Nat} (hsb : SbAt Λ I b v cap n tx) (hcs : CsOk i w sx) (hn9 : n + w ≤ 300) (hc7 : cap ≤ 700) : am_Ct G yJ4_append_cf1ce cJ4_append_cf1ce 2 (some (.object "java/lang/AbstractStringBuilder")) { frames := 6, cells := 1, slots := 700, locals := 420 } [.ref b, .ref (G.2.2.2.2.1 i)] Λ I J (am_ap b v (n + w) (sb_cat tx n sx) Λ I) am_never := by
  refine am_ct_of (own := RJ4) rfl (by decide) (Nat.le_of_ble_eq_true rfl) (fun X C => ?_)
  change am_K G X { frames := 6, cells := 1, slots := 700, locals := 420 } 2 Λ I J 0 0 0 [(0, .ref b), (1, .ref (G.2.2.2.2.1 i))] []
  refine k_aload_n C (f := 0) (i := 0) (p := 0) rfl rfl dJ4_append_cf1ce_0 ?_
  refine k_aload_n C (f := 1) (i := 1) (p := 1) rfl rfl dJ4_append_cf1ce_1 ?_
  refine k_callVl C s_J4_23 h_J4_append_15ec4 (hsb.1) rfl (ct_appCs hsb hcs hn9 hc7) rfl rfl (Nat.le_of_ble_eq_true rfl) ⟨Nat.le_of_ble_eq_true rfl, Nat.le_of_ble_eq_true rfl⟩ ⟨rfl, rfl⟩ ⟨by show _ ≤ 1; (try dsimp only); omega, by show _ ≤ 700; (try dsimp only); omega⟩ dJ4_append_cf1ce_2 ?_
  intro w0 Λ2 I2 J2 hv
  obtain ⟨rfl, hv⟩ := hv
  show am_K G X _ _ _ _ _ _ _ _ _ (.ref b :: [])
  exact k_aret C (by first | exact Or.inl ⟨_, rfl⟩ | exact Or.inr ⟨_, rfl⟩) (by show _ ≤ 1; (try dsimp only); omega) (by show _ ≤ 700; (try dsimp only); omega) (⟨rfl, hv⟩) dJ4_append_cf1ce_5
set_option maxHeartbeats 4000000 in
set_option maxRecDepth 100000 in
theorem ct_coderD {G : am_G} {Λ : am_L} {I : am_I} {J : am_J} {s sv w : Nat} {sx : Nat → Nat} (hst : StAt Λ I s sv w sx) : am_Ct G yJ0_coder_7d493 cJ0_coder_7d493 1 (some .byte) { frames := 0, cells := 0, slots := 0, locals := 0 } [.ref s] Λ I J (am_pure (.int (nI 0)) Λ I J) am_never := by
  refine am_ct_of (own := RJ0) rfl (by decide) (Nat.le_of_ble_eq_true rfl) (fun X C => ?_)
  change am_K G X { frames := 0, cells := 0, slots := 0, locals := 0 } 1 Λ I J 0 0 0 [(0, .ref s)] []
  refine k_scmp C f_J0_38 dJ0_coder_7d493_0 ?_
  first
  | refine k_ifb_eq C (tgt := 13) (by decide) dJ0_coder_7d493_3 (fun hc3 => ?_) (fun hc3 => ?_)
  | refine k_if_eq C (tgt := 13) (by decide) dJ0_coder_7d493_3 (fun hc3 => ?_) (fun hc3 => ?_)
  · skip
    first
    | exact absurd hc3 (by decide)
    | exact absurd (by decide) hc3
  · skip
    refine k_aload_n C (f := 0) (i := 0) (p := 0) rfl rfl dJ0_coder_7d493_6 ?_
    refine k_getI C fd_J0_15 hst.1 (fun _ _ _ => rfl) hst.2.2.1 dJ0_coder_7d493_7 ?_
    refine k_goto C (tgt := 14) (by decide) dJ0_coder_7d493_10 ?_
    exact k_zret C (rfl) (by show _ ≤ 0; (try dsimp only); omega) (by show _ ≤ 0; (try dsimp only); omega) (⟨rfl, rfl, rfl, rfl⟩) dJ0_coder_7d493_14
set_option maxHeartbeats 4000000 in
set_option maxRecDepth 100000 in
theorem ct_lengthD {G : am_G} {Λ : am_L} {I : am_I} {J : am_J} {s sv w : Nat} {sx : Nat → Nat} (hst : StAt Λ I s sv w sx) : am_Ct G yJ0_length_8abf5 cJ0_length_8abf5 1 (some .int) { frames := 1, cells := 0, slots := 0, locals := 40 } [.ref s] Λ I J (am_pure (.int (nI w)) Λ I J) am_never := by
  refine am_ct_of (own := RJ0) rfl (by decide) (Nat.le_of_ble_eq_true rfl) (fun X C => ?_)
  change am_K G X { frames := 1, cells := 0, slots := 0, locals := 40 } 1 Λ I J 0 0 0 [(0, .ref s)] []
  refine k_aload_n C (f := 0) (i := 0) (p := 0) rfl rfl dJ0_length_8abf5_0 ?_
  refine k_getR C fd_J0_9 hst.1 (fun _ _ _ => rfl) hst.2.1 dJ0_length_8abf5_1 ?_
  refine k_lenB C (hst.2.2.2.1.1) dJ0_length_8abf5_4 ?_
  refine k_aload_n C (f := 0) (i := 0) (p := 0) rfl rfl dJ0_length_8abf5_5 ?_
  refine k_callVq C s_J0_335 h_J0_coder_7d493 (hst.1) rfl (ct_coderD hst) rfl rfl (Nat.le_of_ble_eq_true rfl) ⟨Nat.le_of_ble_eq_true rfl, Nat.le_of_ble_eq_true rfl⟩ ⟨rfl, rfl⟩ ⟨by show _ ≤ 0; (try dsimp only); omega, by show _ ≤ 0; (try dsimp only); omega⟩ dJ0_length_8abf5_6 ?_
  refine k_ishr C dJ0_length_8abf5_9 ?_
  rw [shr0n]
  exact k_iret C (by show _ ≤ 0; (try dsimp only); omega) (by show _ ≤ 0; (try dsimp only); omega) (⟨rfl, rfl, rfl, rfl⟩) dJ0_length_8abf5_10
set_option maxHeartbeats 4000000 in
set_option maxRecDepth 100000 in
theorem ct_getBytesD {G : am_G} {Λ : am_L} {I : am_I} {J : am_J} {s sv w d p N : Nat} {sx : Nat → Nat} (hst : StAt Λ I s sv w sx) (hd : Λ.1 d = (3, N)) (hN : N ≤ 1000) (hpw : p + w ≤ N) : am_Ct G yJ0_getBytes_840e7 cJ0_getBytes_840e7 4 none { frames := 1, cells := 0, slots := 0, locals := 60 } [.ref s, .ref d, .int (nI p), .int (nI 0)] Λ I J (am_gen Λ J (fun w0 I' => w0 = none ∧ I' = am_cx I d sv 0 p w)) am_never := by
  refine am_ct_of (own := RJ0) rfl (by decide) (Nat.le_of_ble_eq_true rfl) (fun X C => ?_)
  change am_K G X { frames := 1, cells := 0, slots := 0, locals := 60 } 4 Λ I J 0 0 0 [(0, .ref s), (1, .ref d), (2, .int (nI p)), (3, .int (nI 0))] []
  refine k_aload_n C (f := 0) (i := 0) (p := 0) rfl rfl dJ0_getBytes_840e7_0 ?_
  refine k_callVq C s_J0_335 h_J0_coder_7d493 (hst.1) rfl (ct_coderD hst) rfl rfl (Nat.le_of_ble_eq_true rfl) ⟨Nat.le_of_ble_eq_true rfl, Nat.le_of_ble_eq_true rfl⟩ ⟨rfl, rfl⟩ ⟨by show _ ≤ 0; (try dsimp only); omega, by show _ ≤ 0; (try dsimp only); omega⟩ dJ0_getBytes_840e7_1 ?_
  refine k_iload_n C (f := 3) (i := 3) (p := 3) rfl rfl dJ0_getBytes_840e7_4 ?_
  first
  | refine k_icmpN_ne C (tgt := 28) (by omega) (by omega) (by decide) dJ0_getBytes_840e7_5 (fun hc5 => ?_) (fun hc5 => ?_)
  | refine k_icmp_ne C (tgt := 28) (by decide) dJ0_getBytes_840e7_5 (fun hc5 => ?_) (fun hc5 => ?_)
  · skip
    first
    | omega
    | exact absurd hc5 (nI_ge (by omega) (by omega))
    | exact absurd hc5 (by decide)
    | exact absurd hc5 (nI_pos (by omega))
    | exact absurd (nI_pos' (by omega)) hc5
    | exact absurd rfl hc5
    | exact absurd hc5 (nI_ne0 (by omega) (by omega))
    | exact hc5 rfl
    | contradiction
    | exact absurd hc5 (nI_n101 (by omega))
    | exact absurd hc5.symm (nI_n101 (by omega))
    | (simp_all; done)
  · skip
    refine k_aload_n C (f := 0) (i := 0) (p := 0) rfl rfl dJ0_getBytes_840e7_8 ?_
    refine k_getR C fd_J0_9 hst.1 (fun _ _ _ => rfl) hst.2.1 dJ0_getBytes_840e7_9 ?_
    refine k_iconst C ic_0 dJ0_getBytes_840e7_12 ?_
    refine k_aload_n C (f := 1) (i := 1) (p := 1) rfl rfl dJ0_getBytes_840e7_13 ?_
    refine k_iload_n C (f := 2) (i := 2) (p := 2) rfl rfl dJ0_getBytes_840e7_14 ?_
    refine k_iload_n C (f := 3) (i := 3) (p := 3) rfl rfl dJ0_getBytes_840e7_15 ?_
    refine k_ishl C dJ0_getBytes_840e7_16 ?_
    rw [shl0n]
    refine k_aload_n C (f := 0) (i := 0) (p := 0) rfl rfl dJ0_getBytes_840e7_17 ?_
    refine k_getR C fd_J0_9 hst.1 (fun _ _ _ => rfl) hst.2.1 dJ0_getBytes_840e7_18 ?_
    refine k_lenB C (hst.2.2.2.1.1) dJ0_getBytes_840e7_21 ?_
    refine k_copyB C (sp := 0) (dp := p) (m := w) hst.2.2.2.1.1 hd ⟨by omega, by omega, by omega⟩ (by omega) (by omega) (fun j hj => by rw [Nat.zero_add]; exact BA_fit hst.2.2.2.1 hj) m_J0_212 ⟨Nat.le_of_ble_eq_true rfl, Nat.le_of_ble_eq_true rfl⟩ dJ0_getBytes_840e7_22 ?_
    refine k_goto C (tgt := 43) (by decide) dJ0_getBytes_840e7_25 ?_
    exact k_vret C (by show _ ≤ 0; (try dsimp only); omega) (by show _ ≤ 0; (try dsimp only); omega) (⟨rfl, rfl, rfl, rfl⟩) dJ0_getBytes_840e7_43
set_option maxHeartbeats 4000000 in
set_option maxRecDepth 100000 in
theorem ct_inflD {G : am_G} {Λ : am_L} {I : am_I} {J : am_J} {b v cap n : Nat} {tx : Nat → Nat} {s sv w : Nat} {sx : Nat → Nat} (hsb : SbAt Λ I b v cap n tx) (hst : StAt Λ I s sv w sx) : am_Ct G yJ5_inflateIfNeededFor_a7421 cJ5_inflateIfNeededFor_a7421 2 none { frames := 1, cells := 0, slots := 0, locals := 60 } [.ref b, .ref s] Λ I J (am_gen Λ J (fun w0 I' => w0 = none ∧ I' = I)) am_never := by
  refine am_ct_of (own := RJ5) rfl (by decide) (Nat.le_of_ble_eq_true rfl) (fun X C => ?_)
  change am_K G X { frames := 1, cells := 0, slots := 0, locals := 60 } 2 Λ I J 0 0 0 [(0, .ref b), (1, .ref s)] []
  refine k_scmp C f_J5_18 dJ5_inflateIfNeededFor_a7421_0 ?_
  first
  | refine k_ifb_eq C (tgt := 21) (by decide) dJ5_inflateIfNeededFor_a7421_3 (fun hc3 => ?_) (fun hc3 => ?_)
  | refine k_if_eq C (tgt := 21) (by decide) dJ5_inflateIfNeededFor_a7421_3 (fun hc3 => ?_) (fun hc3 => ?_)
  · skip
    first
    | exact absurd hc3 (by decide)
    | exact absurd (by decide) hc3
  · skip
    refine k_aload_n C (f := 0) (i := 0) (p := 0) rfl rfl dJ5_inflateIfNeededFor_a7421_6 ?_
    refine k_getI C f_J5_22 hsb.1 (fun _ _ _ => rfl) hsb.2.2.1 dJ5_inflateIfNeededFor_a7421_7 ?_
    refine k_aload_n C (f := 1) (i := 1) (p := 1) rfl rfl dJ5_inflateIfNeededFor_a7421_10 ?_
    refine k_callVq C s_J5_40 h_J0_coder_7d493 (hst.1) rfl (ct_coderD hst) rfl rfl (Nat.le_of_ble_eq_true rfl) ⟨Nat.le_of_ble_eq_true rfl, Nat.le_of_ble_eq_true rfl⟩ ⟨rfl, rfl⟩ ⟨by show _ ≤ 0; (try dsimp only); omega, by show _ ≤ 0; (try dsimp only); omega⟩ dJ5_inflateIfNeededFor_a7421_11 ?_
    first
    | refine k_icmpN_eq C (tgt := 21) (by omega) (by omega) (by decide) dJ5_inflateIfNeededFor_a7421_14 (fun hc14 => ?_) (fun hc14 => ?_)
    | refine k_icmp_eq C (tgt := 21) (by decide) dJ5_inflateIfNeededFor_a7421_14 (fun hc14 => ?_) (fun hc14 => ?_)
    · skip
      exact k_vret C (by show _ ≤ 0; (try dsimp only); omega) (by show _ ≤ 0; (try dsimp only); omega) (⟨rfl, rfl, rfl, rfl⟩) dJ5_inflateIfNeededFor_a7421_21
    · skip
      first
      | omega
      | exact absurd hc14 (nI_ge (by omega) (by omega))
      | exact absurd hc14 (by decide)
      | exact absurd hc14 (nI_pos (by omega))
      | exact absurd (nI_pos' (by omega)) hc14
      | exact absurd rfl hc14
      | exact absurd hc14 (nI_ne0 (by omega) (by omega))
      | exact hc14 rfl
      | contradiction
      | exact absurd hc14 (nI_n101 (by omega))
      | exact absurd hc14.symm (nI_n101 (by omega))
      | (simp_all; done)
set_option maxHeartbeats 4000000 in
set_option maxRecDepth 100000 in
theorem ct_putD {G : am_G} {Λ : am_L} {I : am_I} {J : am_J} {b v cap n : Nat} {tx : Nat → Nat} {s sv w p : Nat} {sx : Nat → Nat} (hsb : SbAt Λ I b v cap n tx) (hst : StAt Λ I s sv w sx) (hpw : p + w ≤ cap) : am_Ct G yJ5_putStringAt_47b60 cJ5_putStringAt_47b60 3 none { frames := 2, cells := 0, slots := 0, locals := 130 } [.ref b, .int (nI p), .ref s] Λ I J (am_gen Λ J (fun w0 I' => w0 = none ∧ I' = am_cx I v sv 0 p w)) am_never := by
  refine am_ct_of (own := RJ5) rfl (by decide) (Nat.le_of_ble_eq_true rfl) (fun X C => ?_)
  change am_K G X { frames := 2, cells := 0, slots := 0, locals := 130 } 3 Λ I J 0 0 0 [(0, .ref b), (1, .int (nI p)), (2, .ref s)] []
  refine k_aload_n C (f := 0) (i := 0) (p := 0) rfl rfl dJ5_putStringAt_47b60_0 ?_
  refine k_aload_n C (f := 2) (i := 2) (p := 2) rfl rfl dJ5_putStringAt_47b60_1 ?_
  refine k_callUg C s_J5_397 h_J5_inflateIfNeededFor_a7421 (hsb.1) rfl (ct_inflD hsb hst) rfl rfl (Nat.le_of_ble_eq_true rfl) ⟨Nat.le_of_ble_eq_true rfl, Nat.le_of_ble_eq_true rfl⟩ ⟨rfl, rfl⟩ ⟨by show _ ≤ 0; (try dsimp only); omega, by show _ ≤ 0; (try dsimp only); omega⟩ dJ5_putStringAt_47b60_2 ?_
  intro w1 I1 hv1
  obtain ⟨rfl, e1⟩ := hv1
  subst e1
  show am_K G X _ _ _ _ _ _ _ _ _ ([])
  refine k_aload_n C (f := 2) (i := 2) (p := 2) rfl rfl dJ5_putStringAt_47b60_5 ?_
  refine k_aload_n C (f := 0) (i := 0) (p := 0) rfl rfl dJ5_putStringAt_47b60_6 ?_
  refine k_getR C f_J5_15 hsb.1 (fun _ _ _ => rfl) hsb.2.1 dJ5_putStringAt_47b60_7 ?_
  refine k_iload_n C (f := 1) (i := 1) (p := 1) rfl rfl dJ5_putStringAt_47b60_10 ?_
  refine k_aload_n C (f := 0) (i := 0) (p := 0) rfl rfl dJ5_putStringAt_47b60_11 ?_
  refine k_getI C f_J5_22 hsb.1 (fun _ _ _ => rfl) hsb.2.2.1 dJ5_putStringAt_47b60_12 ?_
  refine k_callVgq C s_J5_399 h_J0_getBytes_840e7 (hst.1) rfl (ct_getBytesD hst hsb.2.2.2.2.2.1.1 hsb.2.2.2.2.2.1.2.1 hpw) rfl rfl (Nat.le_of_ble_eq_true rfl) ⟨Nat.le_of_ble_eq_true rfl, Nat.le_of_ble_eq_true rfl⟩ ⟨rfl, rfl⟩ ⟨by show _ ≤ 0; (try dsimp only); omega, by show _ ≤ 0; (try dsimp only); omega⟩ dJ5_putStringAt_47b60_15 ?_
  intro w1 I1 hv1
  obtain ⟨rfl, e1⟩ := hv1
  show am_K G X _ _ _ _ _ _ _ _ _ ([])
  exact k_vret C (by show _ ≤ 0; (try dsimp only); omega) (by show _ ≤ 0; (try dsimp only); omega) (⟨rfl, rfl, rfl, e1⟩) dJ5_putStringAt_47b60_18
set_option maxHeartbeats 4000000 in
set_option maxRecDepth 100000 in
theorem ct_appD {G : am_G} {Λ : am_L} {I : am_I} {J : am_J} {b v cap n : Nat} {tx : Nat → Nat} {s sv w : Nat} {sx : Nat → Nat} (hsb : SbAt Λ I b v cap n tx) (hst : StAt Λ I s sv w sx) (hne : sv ≠ v) (hsx : ∀ j : Nat, j < w → sx j < 128) (hn9 : n + w ≤ 300) (hc7 : cap ≤ 700) : am_Ct G yJ5_append_cf1ce cJ5_append_cf1ce 3 (some (.object "java/lang/AbstractStringBuilder")) { frames := 4, cells := 1, slots := 700, locals := 260 } [.ref b, .ref s] Λ I J (am_ap b v (n + w) (sb_cat tx n sx) Λ I) am_never := by
  refine am_ct_of (own := RJ5) rfl (by decide) (Nat.le_of_ble_eq_true rfl) (fun X C => ?_)
  change am_K G X { frames := 4, cells := 1, slots := 700, locals := 260 } 3 Λ I J 0 0 0 [(0, .ref b), (1, .ref s)] []
  refine k_aload_n C (f := 1) (i := 1) (p := 1) rfl rfl dJ5_append_cf1ce_0 ?_
  refine k_ifnn C (tgt := 9) (by decide) dJ5_append_cf1ce_1 ?_
  refine k_aload_n C (f := 1) (i := 1) (p := 1) rfl rfl dJ5_append_cf1ce_9 ?_
  refine k_callVq C s_J5_32 h_J0_length_8abf5 (hst.1) rfl (ct_lengthD hst) rfl rfl (Nat.le_of_ble_eq_true rfl) ⟨Nat.le_of_ble_eq_true rfl, Nat.le_of_ble_eq_true rfl⟩ ⟨rfl, rfl⟩ ⟨by show _ ≤ 1; (try dsimp only); omega, by show _ ≤ 700; (try dsimp only); omega⟩ dJ5_append_cf1ce_10 ?_
  refine k_istore_n C (f := 2) (i := 2) (lv := [(2, _), (0, _), (1, _)]) rfl (Nat.le_of_ble_eq_true rfl) rfl dJ5_append_cf1ce_13 ?_
  refine k_aload_n C (f := 0) (i := 0) (p := 1) rfl rfl dJ5_append_cf1ce_14 ?_
  refine k_aload_n C (f := 0) (i := 0) (p := 1) rfl rfl dJ5_append_cf1ce_15 ?_
  refine k_getI C f_J5_79 hsb.1 (fun _ _ _ => rfl) (hsb.2.2.2.1) dJ5_append_cf1ce_16 ?_
  refine k_iload_n C (f := 2) (i := 2) (p := 0) rfl rfl dJ5_append_cf1ce_19 ?_
  refine k_iadd C dJ5_append_cf1ce_20 ?_
  rw [nI_add]
  refine k_callUl C s_J5_100 h_J5_ensureCapacityInternal_d00df (hsb.1) rfl (ct_J5_ensureCapacityInternal_d00df (m := n + w) hsb (by omega) hc7) rfl rfl (Nat.le_of_ble_eq_true rfl) ⟨Nat.le_of_ble_eq_true rfl, Nat.le_of_ble_eq_true rfl⟩ ⟨rfl, rfl⟩ ⟨by show _ ≤ 1; (try dsimp only); omega, by show _ ≤ 700; (try dsimp only); omega⟩ dJ5_append_cf1ce_21 ?_
  intro w0 Λ2 I2 J2 hv
  obtain ⟨rfl, hsk, hib, v2, cap2, hv2, hc2, hm2, hsb2⟩ := hv
  show am_K G X _ _ _ _ _ _ _ _ _ ([])
  have hst2 : StAt Λ2 I2 s sv w sx := hst.keep hsk (fun e => by have e1 := hst.1; rw [e, hsb.1] at e1; cases e1) (fun e => by have e1 := hst.1; rw [e, hsb.2.2.2.2.2.1.1] at e1; cases e1) (fun e => by have e1 := hst.2.2.2.1.1; rw [e, hsb.1] at e1; cases e1) hne
  refine k_aload_n C (f := 0) (i := 0) (p := 1) rfl rfl dJ5_append_cf1ce_24 ?_
  refine k_aload_n C (f := 0) (i := 0) (p := 1) rfl rfl dJ5_append_cf1ce_25 ?_
  refine k_getI C f_J5_79 hsb2.1 (fun _ _ _ => rfl) (hsb2.2.2.2.1) dJ5_append_cf1ce_26 ?_
  refine k_aload_n C (f := 1) (i := 1) (p := 2) rfl rfl dJ5_append_cf1ce_29 ?_
  refine k_callUg C s_J5_208 h_J5_putStringAt_47b60 (hsb2.1) rfl (ct_putD hsb2 hst2 hm2) rfl rfl (Nat.le_of_ble_eq_true rfl) ⟨Nat.le_of_ble_eq_true rfl, Nat.le_of_ble_eq_true rfl⟩ ⟨rfl, rfl⟩ ⟨by show _ ≤ 1; (try dsimp only); omega, by show _ ≤ 700; (try dsimp only); omega⟩ dJ5_append_cf1ce_30 ?_
  intro w1 I3 hv1
  obtain ⟨rfl, e1⟩ := hv1
  subst e1
  show am_K G X _ _ _ _ _ _ _ _ _ ([])
  refine k_aload_n C (f := 0) (i := 0) (p := 1) rfl rfl dJ5_append_cf1ce_33 ?_
  refine k_dup C rfl dJ5_append_cf1ce_34 ?_
  refine k_getI C f_J5_79 hsb2.1 (fun _ _ _ => rfl) ((congrFun (am_cx_ne (Sb_ne hsb2)) 3).trans hsb2.2.2.2.1) dJ5_append_cf1ce_35 ?_
  refine k_iload_n C (f := 2) (i := 2) (p := 0) rfl rfl dJ5_append_cf1ce_38 ?_
  refine k_iadd C dJ5_append_cf1ce_39 ?_
  rw [nI_add]
  refine k_putI C f_J5_79 hsb2.1 rfl rfl dJ5_append_cf1ce_40 ?_
  refine k_aload_n C (f := 0) (i := 0) (p := 1) rfl rfl dJ5_append_cf1ce_43 ?_
  exact k_aret C (by first | exact Or.inl ⟨_, rfl⟩ | exact Or.inr ⟨_, rfl⟩) (by show _ ≤ 1; (try dsimp only); omega) (by show _ ≤ 700; (try dsimp only); omega) (ap_end (w := w) (sx := sx) hsk hv2 hc2 hsb2 hm2 (fun a h1 h2 => (am_up_ne h1).trans (am_cx_ne h2)) (funext fun j => by
    have e := congrFun (am_cx_ne (I := I2) (a0 := sv) (sp := 0) (dp := n) (n := w) (Sb_ne hsb2)) j
    simp [am_up, e]) (fun j hj => by rw [am_up_ne (Sb_ne hsb2).symm, am_cx_eq, pk_cpy_out (by omega)]) (fun q hq => ⟨hsx q hq, by rw [am_up_ne (Sb_ne hsb2).symm, am_cx_eq, pk_cpy_in (by omega) (by omega), show 0 + (n + q - n) = q by omega]; exact hst2.2.2.2.2 q hq⟩)) dJ5_append_cf1ce_44
set_option maxHeartbeats 4000000 in
set_option maxRecDepth 100000 in
theorem ct_appDs {G : am_G} {Λ : am_L} {I : am_I} {J : am_J} {b v cap n : Nat} {tx : Nat → Nat} {s sv w : Nat} {sx : Nat → Nat} (hsb : SbAt Λ I b v cap n tx) (hst : StAt Λ I s sv w sx) (hne : sv ≠ v) (hsx : ∀ j : Nat, j < w → sx j < 128) (hn9 : n + w ≤ 300) (hc7 : cap ≤ 700) : am_Ct G yJ4_append_15ec4 cJ4_append_15ec4 2 (some (.object "java/lang/StringBuilder")) { frames := 5, cells := 1, slots := 700, locals := 340 } [.ref b, .ref s] Λ I J (am_ap b v (n + w) (sb_cat tx n sx) Λ I) am_never := by
  refine am_ct_of (own := RJ4) rfl (by decide) (Nat.le_of_ble_eq_true rfl) (fun X C => ?_)
  change am_K G X { frames := 5, cells := 1, slots := 700, locals := 340 } 2 Λ I J 0 0 0 [(0, .ref b), (1, .ref s)] []
  refine k_aload_n C (f := 0) (i := 0) (p := 0) rfl rfl dJ4_append_15ec4_0 ?_
  refine k_aload_n C (f := 1) (i := 1) (p := 1) rfl rfl dJ4_append_15ec4_1 ?_
  refine k_callPl C s_J4_29 h_J5_append_cf1ce (hsb.1) rfl (by decide) (ct_appD hsb hst hne hsx hn9 hc7) rfl rfl (Nat.le_of_ble_eq_true rfl) ⟨Nat.le_of_ble_eq_true rfl, Nat.le_of_ble_eq_true rfl⟩ ⟨rfl, rfl⟩ ⟨by show _ ≤ 1; (try dsimp only); omega, by show _ ≤ 700; (try dsimp only); omega⟩ dJ4_append_15ec4_2 ?_
  intro w0 Λ2 I2 J2 hv
  obtain ⟨rfl, hv⟩ := hv
  show am_K G X _ _ _ _ _ _ _ _ _ (.ref b :: [])
  refine k_pop C rfl dJ4_append_15ec4_5 ?_
  refine k_aload_n C (f := 0) (i := 0) (p := 0) rfl rfl dJ4_append_15ec4_6 ?_
  exact k_aret C (by first | exact Or.inl ⟨_, rfl⟩ | exact Or.inr ⟨_, rfl⟩) (by show _ ≤ 1; (try dsimp only); omega) (by show _ ≤ 700; (try dsimp only); omega) (⟨rfl, hv⟩) dJ4_append_15ec4_7
