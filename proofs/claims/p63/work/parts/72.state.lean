theorem bc_11 : (Int8.ofInt 11).toInt32 = nI 11 := by decide
theorem bc_12 : (Int8.ofInt 12).toInt32 = nI 12 := by decide
theorem bc_127 : (Int8.ofInt 127).toInt32 = nI 127 := by decide
theorem bc_13 : (Int8.ofInt 13).toInt32 = nI 13 := by decide
theorem bc_14 : (Int8.ofInt 14).toInt32 = nI 14 := by decide
theorem bc_15 : (Int8.ofInt 15).toInt32 = nI 15 := by decide
theorem bc_17 : (Int8.ofInt 17).toInt32 = nI 17 := by decide
theorem bc_18 : (Int8.ofInt 18).toInt32 = nI 18 := by decide
theorem bc_19 : (Int8.ofInt 19).toInt32 = nI 19 := by decide
theorem bc_21 : (Int8.ofInt 21).toInt32 = nI 21 := by decide
theorem bc_22 : (Int8.ofInt 22).toInt32 = nI 22 := by decide
theorem bc_23 : (Int8.ofInt 23).toInt32 = nI 23 := by decide
theorem bc_26 : (Int8.ofInt 26).toInt32 = nI 26 := by decide
theorem bc_27 : (Int8.ofInt 27).toInt32 = nI 27 := by decide
theorem bc_28 : (Int8.ofInt 28).toInt32 = nI 28 := by decide
theorem bc_29 : (Int8.ofInt 29).toInt32 = nI 29 := by decide
theorem bc_30 : (Int8.ofInt 30).toInt32 = nI 30 := by decide
theorem bc_31 : (Int8.ofInt 31).toInt32 = nI 31 := by decide
theorem bc_33 : (Int8.ofInt 33).toInt32 = nI 33 := by decide
theorem bc_34 : (Int8.ofInt 34).toInt32 = nI 34 := by decide
theorem bc_35 : (Int8.ofInt 35).toInt32 = nI 35 := by decide
theorem bc_36 : (Int8.ofInt 36).toInt32 = nI 36 := by decide
theorem bc_37 : (Int8.ofInt 37).toInt32 = nI 37 := by decide
theorem bc_38 : (Int8.ofInt 38).toInt32 = nI 38 := by decide
theorem bc_39 : (Int8.ofInt 39).toInt32 = nI 39 := by decide
theorem bc_40 : (Int8.ofInt 40).toInt32 = nI 40 := by decide
theorem bc_41 : (Int8.ofInt 41).toInt32 = nI 41 := by decide
theorem bc_51 : (Int8.ofInt 51).toInt32 = nI 51 := by decide
theorem bc_63 : (Int8.ofInt 63).toInt32 = nI 63 := by decide
theorem sc_12345 : (Int16.ofInt 12345).toInt32 = nI 12345 := by decide
/-! ===== the law: the caravan as one number; the distance of a day ===== -/
def hv20 (r : Nat → Int32) (k : Nat) : Nat → Int32
  | 0 => am_b (¬ r (16 + 8 * k) < nI 3)
  | 1 => r (10 + 8 * k)
  | 2 => r (12 + 8 * k)
  | 3 => r (13 + 8 * k)
  | 4 => r (14 + 8 * k)
  | 5 => r (15 + 8 * k)
  | 6 => r (16 + 8 * k)
  | 7 => sp_car r k
  | 8 => sp_free r k
  | _ => sp_speed r k
def hv32 (r : Nat → Int32) (k : Nat) : Nat → Int32
  | 0 => r (140 + 4 * k)
  | 1 => r (141 + 4 * k)
  | 2 => am_b (¬ r (142 + 4 * k) = -1)
  | 3 => if r (142 + 4 * k) = -1 then (-101) else r (142 + 4 * k)
  | _ => if r (142 + 4 * k) = -1 then r (143 + 4 * k) else r 1
def hmix (h : Int64) (v : Int32) : Int64 := h * 1009 + v.toInt64
def hcq (r : Nat → Int32) (k : Nat) (h : Int64) : Nat → Int64
  | 0 => h
  | q + 1 => hmix (hcq r k h q) (hv20 r k q)
def hcm (r : Nat → Int32) (h : Int64) : Nat → Int64
  | 0 => h
  | k + 1 => hcq r k (hcm r h k) 10
def hwl (r : Nat → Int32) (h : Int64) : Nat → Int64
  | 0 => h
  | k + 1 => hmix (hwl r h k) (r (93 + 4 * k))
def hlq (r : Nat → Int32) (k : Nat) (h : Int64) : Nat → Int64
  | 0 => h
  | q + 1 => hmix (hlq r k h q) (hv32 r k q)
def hlo (r : Nat → Int32) (h : Int64) : Nat → Int64
  | 0 => h
  | k + 1 => hlq r k (hlo r h k) 5
def hst (r : Nat → Int32) : Int64 := hmix ((7 * (r 1).toInt64 + (r 2).toInt64) * 31 + (r 4).toInt64 + (if r 3 = nI 1 then nI 16 else nI 0).toInt64) (r 5)
def hash (r : Nat → Int32) : Int64 := hlo r (hwl r (hcm r (hst r) (sp_nc r)) (sp_nw r)) (sp_nl r)
theorem ct_k20s {G : am_G} {Λ : am_L} {I : am_I} {J : am_J} {x j q : Nat} {r : Nat → Int32} {a v : Int32} (ha : a = nI (20 + q)) (hx : RouLay Λ x) (hr : CarRel I (x + 34) (x + 35) (x + 24) r) (hj : j < sp_nc r) (hq : q < 10) (hv : hv20 r j q = v) : am_Ct G yL_call__ cL_call__ 3 (some .int) { frames := 11, cells := 6, slots := 36, locals := 260 } [.ref x, .int a, .int (nI j)] Λ I J (am_pure (.int v) Λ I J) am_never := by
  subst ha
  match q, hq with
  | 0, _ => exact ct_k20 hx hr hj hv
  | 1, _ => exact ct_k21 hx hr hj hv
  | 2, _ => exact ct_k22 hx hr hj hv
  | 3, _ => exact ct_k23 hx hr hj hv
  | 4, _ => exact ct_k24 hx hr hj hv
  | 5, _ => exact ct_k25 hx hr hj hv
  | 6, _ => exact ct_k26 hx hr hj hv
  | 7, _ => exact ct_k27 hx hr hj hv
  | 8, _ => exact ct_k28 hx hr hj hv
  | 9, _ => exact ct_k29 hx hr hj hv
theorem ct_k35 {G : am_G} {Λ : am_L} {I : am_I} {J : am_J} {x j : Nat} {r : Nat → Int32} {v : Int32} (hx : RouLay Λ x) (hr : CarRel I (x + 34) (x + 35) (x + 24) r) (hj : j < sp_nl r) (hv : (if r (142 + 4 * j) = -1 then (-101) else r (142 + 4 * j)) = v) : am_Ct G yL_call__ cL_call__ 3 (some .int) { frames := 11, cells := 6, slots := 36, locals := 260 } [.ref x, .int (nI 35), .int (nI j)] Λ I J (am_pure (.int v) Λ I J) am_never := ct_q35 hx hr (by
  have hb := CR_l hr
  rw [cdI_k hj (by omega), nI_clamp (by omega), ← hv, if_pos rfl]
  by_cases e : r (142 + 4 * j) = -1
  · rw [if_pos e, if_pos e]; rfl
  · rw [if_neg e, if_neg e]; rfl)
theorem ct_k32s {G : am_G} {Λ : am_L} {I : am_I} {J : am_J} {x j q : Nat} {r : Nat → Int32} {a v : Int32} (ha : a = nI (32 + q)) (hx : RouLay Λ x) (hr : CarRel I (x + 34) (x + 35) (x + 24) r) (hj : j < sp_nl r) (hq : q < 5) (hv : hv32 r j q = v) : am_Ct G yL_call__ cL_call__ 3 (some .int) { frames := 11, cells := 6, slots := 36, locals := 260 } [.ref x, .int a, .int (nI j)] Λ I J (am_pure (.int v) Λ I J) am_never := by
  subst ha
  match q, hq with
  | 0, _ => exact ct_k32 hx hr hj hv
  | 1, _ => exact ct_k33 hx hr hj hv
  | 2, _ => exact ct_k34 hx hr hj hv
  | 3, _ => exact ct_k35 hx hr hj hv
  | 4, _ => exact ct_k36 hx hr hj hv
set_option maxHeartbeats 4000000 in
set_option maxRecDepth 100000 in
theorem ct_L_state {G : am_G} {Λ : am_L} {I : am_I} {J : am_J} {x : Nat} {r : Nat → Int32} (hx : RouLay Λ x) (hr : CarRel I (x + 34) (x + 35) (x + 24) r) (h3 : r 3 = 0 ∨ r 3 = 1) : am_Ct G yL_state cL_state 5 (some .long) { frames := 12, cells := 1300, slots := 7800, locals := 300 } [.ref x] Λ I J (am_pure (.long (hash r)) Λ I J) am_never := by
  refine am_ct_of (own := RL) rfl (by decide) (Nat.le_of_ble_eq_true rfl) (fun X C => ?_)
  change am_K G X { frames := 12, cells := 1300, slots := 7800, locals := 300 } 5 Λ I J 0 0 0 [(0, .ref x)] []
  have hb1 := PR_c (CR_p hr)
  have hb2 := PR_w (CR_p hr)
  have hb3 := CR_l hr
  refine k_ldc2 C l_L_200 dL_state_0 ?_
  refine k_aload_n C (f := 0) (i := 0) (p := 0) rfl rfl dL_state_3 ?_
  refine k_callVp C s_L_202 h_X5_kilometre (L5_s (by assumption)) rfl (ct_X5_kilometre (by first | assumption | omega) (by first | assumption | omega)) rfl rfl (Nat.le_of_ble_eq_true rfl) ⟨Nat.le_of_ble_eq_true rfl, Nat.le_of_ble_eq_true rfl⟩ ⟨by show _ ≤ 1300; (try dsimp only); omega, by show _ ≤ 7800; (try dsimp only); omega⟩ ⟨rfl, rfl⟩ dL_state_4 ?_
  refine k_i2l C (rfl) dL_state_7 ?_
  refine k_lmul C dL_state_8 ?_
  refine k_aload_n C (f := 0) (i := 0) (p := 0) rfl rfl dL_state_9 ?_
  refine k_callVp C s_L_205 h_X5_day (L5_s (by assumption)) rfl (ct_X5_day (by first | assumption | omega) (by first | assumption | omega)) rfl rfl (Nat.le_of_ble_eq_true rfl) ⟨Nat.le_of_ble_eq_true rfl, Nat.le_of_ble_eq_true rfl⟩ ⟨by show _ ≤ 1300; (try dsimp only); omega, by show _ ≤ 7800; (try dsimp only); omega⟩ ⟨rfl, rfl⟩ dL_state_10 ?_
  refine k_i2l C (rfl) dL_state_13 ?_
  refine k_ladd C dL_state_14 ?_
  refine k_lstore_n C (f := 1) (i := 1) (lv := [(1, _), (0, _)]) rfl (Nat.le_of_ble_eq_true rfl) rfl dL_state_15 ?_
  refine k_lload_n C (f := 1) (i := 1) (p := 0) rfl rfl dL_state_16 ?_
  refine k_ldc2 C l_L_208 dL_state_17 ?_
  refine k_lmul C dL_state_20 ?_
  refine k_aload_n C (f := 0) (i := 0) (p := 1) rfl rfl dL_state_21 ?_
  refine k_callVp C s_L_210 h_X5_leader (L5_s (by assumption)) rfl (ct_X5_leader (by first | assumption | omega) (by first | assumption | omega)) rfl rfl (Nat.le_of_ble_eq_true rfl) ⟨Nat.le_of_ble_eq_true rfl, Nat.le_of_ble_eq_true rfl⟩ ⟨by show _ ≤ 1300; (try dsimp only); omega, by show _ ≤ 7800; (try dsimp only); omega⟩ ⟨rfl, rfl⟩ dL_state_22 ?_
  refine k_i2l C (rfl) dL_state_25 ?_
  refine k_ladd C dL_state_26 ?_
  refine k_aload_n C (f := 0) (i := 0) (p := 1) rfl rfl dL_state_27 ?_
  refine k_callVp C s_L_213 h_X5_isStopping (L5_s (by assumption)) rfl (ct_X5_isStopping (by first | assumption | omega) (by first | assumption | omega) (by first | assumption | omega)) rfl rfl (Nat.le_of_ble_eq_true rfl) ⟨Nat.le_of_ble_eq_true rfl, Nat.le_of_ble_eq_true rfl⟩ ⟨by show _ ≤ 1300; (try dsimp only); omega, by show _ ≤ 7800; (try dsimp only); omega⟩ ⟨rfl, rfl⟩ dL_state_28 ?_
  first
  | refine k_ifb_eq C (tgt := 39) (by decide) dL_state_31 (fun hc31 => ?_) (fun hc31 => ?_)
  | refine k_if_eq C (tgt := 39) (by decide) dL_state_31 (fun hc31 => ?_) (fun hc31 => ?_)
  · skip
    refine k_iconst C ic_0 dL_state_39 ?_
    refine k_i2l C (rfl) dL_state_40 ?_
    refine k_ladd C dL_state_41 ?_
    refine k_lstore_n C (f := 1) (i := 1) (lv := [(1, _), (0, _)]) rfl (Nat.le_of_ble_eq_true rfl) rfl dL_state_42 ?_
    refine k_lload_n C (f := 1) (i := 1) (p := 0) rfl rfl dL_state_43 ?_
    refine k_ldc2 C l_L_217 dL_state_44 ?_
    refine k_lmul C dL_state_47 ?_
    refine k_aload_n C (f := 0) (i := 0) (p := 1) rfl rfl dL_state_48 ?_
    refine k_callVp C s_L_219 h_X5_drunk (L5_s (by assumption)) rfl (ct_X5_drunk (by first | assumption | omega) (by first | assumption | omega)) rfl rfl (Nat.le_of_ble_eq_true rfl) ⟨Nat.le_of_ble_eq_true rfl, Nat.le_of_ble_eq_true rfl⟩ ⟨by show _ ≤ 1300; (try dsimp only); omega, by show _ ≤ 7800; (try dsimp only); omega⟩ ⟨rfl, rfl⟩ dL_state_49 ?_
    refine k_i2l C (rfl) dL_state_52 ?_
    refine k_ladd C dL_state_53 ?_
    refine k_lstore_n C (f := 1) (i := 1) (lv := [(1, _), (0, _)]) rfl (Nat.le_of_ble_eq_true rfl) rfl dL_state_54 ?_
    refine k_iconst C ic_0 dL_state_55 ?_
    refine k_istore_n C (f := 3) (i := 3) (lv := [(3, _), (1, _), (0, _)]) rfl (Nat.le_of_ble_eq_true rfl) rfl dL_state_56 ?_
    have loop57 : ∀ (f : Nat) (k : Nat) (L : Int64), (k ≤ sp_nc r) → (L = hcm r (hst r) k) → (sp_nc r - k) < f → am_K G X { frames := 12, cells := 1300, slots := 7800, locals := 300 } 5 Λ I J (60 * k) (360 * k) 57 [(3, .int (nI k)), (1, .long L), (0, .ref x)] [] := by
      intro f
      induction f with
      | zero => intro k L hk hL hf; exact absurd hf (Nat.not_lt_zero _)
      | succ f ih57 =>
        intro k L hk hL hf
        refine k_iload_n C (f := 3) (i := 3) (p := 0) rfl rfl dL_state_57 ?_
        refine k_aload_n C (f := 0) (i := 0) (p := 2) rfl rfl dL_state_58 ?_
        refine k_callVp C s_L_222 h_X5_camelCount (L5_s (by assumption)) rfl (ct_X5_camelCount (by first | assumption | omega) (by first | assumption | omega)) rfl rfl (Nat.le_of_ble_eq_true rfl) ⟨Nat.le_of_ble_eq_true rfl, Nat.le_of_ble_eq_true rfl⟩ ⟨by show _ ≤ 1300; (try dsimp only); omega, by show _ ≤ 7800; (try dsimp only); omega⟩ ⟨rfl, rfl⟩ dL_state_59 ?_
        first
        | refine k_icmpN_ge C (tgt := 103) (by omega) (by omega) (by decide) dL_state_62 (fun hc62 => ?_) (fun hc62 => ?_)
        | refine k_icmp_ge C (tgt := 103) (by decide) dL_state_62 (fun hc62 => ?_) (fun hc62 => ?_)
        · skip
          refine k_iconst C ic_0 dL_state_103 ?_
          refine k_istore_n C (f := 3) (i := 3) (lv := [(3, _), (1, _), (0, _)]) rfl (Nat.le_of_ble_eq_true rfl) rfl dL_state_104 ?_
          have loop105 : ∀ (f : Nat) (k : Nat) (L : Int64), (k ≤ sp_nw r) → (L = hwl r (hcm r (hst r) (sp_nc r)) k) → (sp_nw r - k) < f → am_K G X { frames := 12, cells := 1300, slots := 7800, locals := 300 } 5 Λ I J (600 + 6 * k) (3600 + 36 * k) 105 [(3, .int (nI k)), (1, .long L), (0, .ref x)] [] := by
            intro f
            induction f with
            | zero => intro k L hk hL hf; exact absurd hf (Nat.not_lt_zero _)
            | succ f ih105 =>
              intro k L hk hL hf
              refine k_iload_n C (f := 3) (i := 3) (p := 0) rfl rfl dL_state_105 ?_
              refine k_aload_n C (f := 0) (i := 0) (p := 2) rfl rfl dL_state_106 ?_
              refine k_callVp C s_L_225 h_X5_wellCount (L5_s (by assumption)) rfl (ct_X5_wellCount (by first | assumption | omega) (by first | assumption | omega)) rfl rfl (Nat.le_of_ble_eq_true rfl) ⟨Nat.le_of_ble_eq_true rfl, Nat.le_of_ble_eq_true rfl⟩ ⟨by show _ ≤ 1300; (try dsimp only); omega, by show _ ≤ 7800; (try dsimp only); omega⟩ ⟨rfl, rfl⟩ dL_state_107 ?_
              first
              | refine k_icmpN_ge C (tgt := 134) (by omega) (by omega) (by decide) dL_state_110 (fun hc110 => ?_) (fun hc110 => ?_)
              | refine k_icmp_ge C (tgt := 134) (by decide) dL_state_110 (fun hc110 => ?_) (fun hc110 => ?_)
              · skip
                refine k_iconst C ic_0 dL_state_134 ?_
                refine k_istore_n C (f := 3) (i := 3) (lv := [(3, _), (1, _), (0, _)]) rfl (Nat.le_of_ble_eq_true rfl) rfl dL_state_135 ?_
                have loop136 : ∀ (f : Nat) (k : Nat) (L : Int64), (k ≤ sp_nl r) → (L = hlo r (hwl r (hcm r (hst r) (sp_nc r)) (sp_nw r)) k) → (sp_nl r - k) < f → am_K G X { frames := 12, cells := 1300, slots := 7800, locals := 300 } 5 Λ I J (648 + 30 * k) (3888 + 180 * k) 136 [(3, .int (nI k)), (1, .long L), (0, .ref x)] [] := by
                  intro f
                  induction f with
                  | zero => intro k L hk hL hf; exact absurd hf (Nat.not_lt_zero _)
                  | succ f ih136 =>
                    intro k L hk hL hf
                    refine k_iload_n C (f := 3) (i := 3) (p := 0) rfl rfl dL_state_136 ?_
                    refine k_aload_n C (f := 0) (i := 0) (p := 2) rfl rfl dL_state_137 ?_
                    refine k_callVp C s_L_228 h_X5_loadCount (L5_s (by assumption)) rfl (ct_X5_loadCount (by first | assumption | omega) (by first | assumption | omega)) rfl rfl (Nat.le_of_ble_eq_true rfl) ⟨Nat.le_of_ble_eq_true rfl, Nat.le_of_ble_eq_true rfl⟩ ⟨by show _ ≤ 1300; (try dsimp only); omega, by show _ ≤ 7800; (try dsimp only); omega⟩ ⟨rfl, rfl⟩ dL_state_138 ?_
                    first
                    | refine k_icmpN_ge C (tgt := 182) (by omega) (by omega) (by decide) dL_state_141 (fun hc141 => ?_) (fun hc141 => ?_)
                    | refine k_icmp_ge C (tgt := 182) (by decide) dL_state_141 (fun hc141 => ?_) (fun hc141 => ?_)
                    · skip
                      refine k_lload_n C (f := 1) (i := 1) (p := 1) rfl rfl dL_state_182 ?_
                      exact k_lret C (by show _ ≤ 1300; (try dsimp only); omega) (by show _ ≤ 7800; (try dsimp only); omega) (⟨by rw [hL, show k = sp_nl r by omega]; rfl, rfl, rfl, rfl⟩) dL_state_183
                    · skip
                      refine k_bipush C bc_32 dL_state_144 ?_
                      refine k_istore C (i := 4) (lv := [(4, _), (3, _), (1, _), (0, _)]) (Nat.le_of_ble_eq_true rfl) rfl dL_state_146 ?_
                      have loop148 : ∀ (f : Nat) (q : Nat) (M : Int64), (q ≤ 5) → (M = hlq r k L q) → (5 - q) < f → am_K G X { frames := 12, cells := 1300, slots := 7800, locals := 300 } 5 Λ I J (648 + 30 * k + 6 * q) (3888 + 180 * k + 36 * q) 148 [(4, .int (nI (32 + q))), (1, .long M), (3, .int (nI k)), (0, .ref x)] [] := by
                        intro f
                        induction f with
                        | zero => intro q M hq hM hf; exact absurd hf (Nat.not_lt_zero _)
                        | succ f ih148 =>
                          intro q M hq hM hf
                          refine k_iload C (i := 4) (p := 0) rfl dL_state_148 ?_
                          refine k_bipush C bc_37 dL_state_150 ?_
                          first
                          | refine k_icmpN_ge C (tgt := 176) (by omega) (by omega) (by decide) dL_state_152 (fun hc152 => ?_) (fun hc152 => ?_)
                          | refine k_icmp_ge C (tgt := 176) (by decide) dL_state_152 (fun hc152 => ?_) (fun hc152 => ?_)
                          · skip
                            have hL2 : M = hlo r (hwl r (hcm r (hst r) (sp_nc r)) (sp_nw r)) (k + 1) := by rw [hM, show q = 5 by omega, hL]; rfl
                            refine k_iinc C (i := 3) (p := 2) (lv := [(3, _), (4, _), (1, _), (0, _)]) (Nat.le_of_ble_eq_true rfl) rfl (by first | exact am_inc1 _ | rfl) rfl dL_state_176 ?_
                            refine k_goto C (tgt := 136) (by decide) dL_state_179 ?_
                            refine k_sub [0, 2, 3] rfl ?_
                            refine k_widen ?_ ?_ (ih136 (k + 1) _ (by omega) hL2 (by omega))
                            · (try dsimp only); omega
                            · (try dsimp only); omega
                          · skip
                            refine k_lload_n C (f := 1) (i := 1) (p := 1) rfl rfl dL_state_155 ?_
                            refine k_ldc2 C l_L_217 dL_state_156 ?_
                            refine k_lmul C dL_state_159 ?_
                            refine k_aload_n C (f := 0) (i := 0) (p := 3) rfl rfl dL_state_160 ?_
                            refine k_iload C (i := 4) (p := 0) rfl dL_state_161 ?_
                            refine k_iload_n C (f := 3) (i := 3) (p := 2) rfl rfl dL_state_163 ?_
                            refine k_callSq C s_L_163 h_L_call__ (ct_k32s (q := q) rfl hx hr (by omega) (by omega) rfl) rfl rfl (Nat.le_of_ble_eq_true rfl) ⟨Nat.le_of_ble_eq_true rfl, Nat.le_of_ble_eq_true rfl⟩ ⟨rfl, rfl⟩ ⟨by show _ ≤ 1300; (try dsimp only); omega, by show _ ≤ 7800; (try dsimp only); omega⟩ dL_state_164 ?_
                            refine k_i2l C (rfl) dL_state_167 ?_
                            refine k_ladd C dL_state_168 ?_
                            refine k_lstore_n C (f := 1) (i := 1) (lv := [(1, _), (4, _), (3, _), (0, _)]) rfl (Nat.le_of_ble_eq_true rfl) rfl dL_state_169 ?_
                            refine k_iinc C (i := 4) (p := 1) (lv := [(4, _), (1, _), (3, _), (0, _)]) (Nat.le_of_ble_eq_true rfl) rfl (by first | exact am_inc1 _ | rfl) rfl dL_state_170 ?_
                            refine k_goto C (tgt := 148) (by decide) dL_state_173 ?_
                            refine k_sub [0, 1, 2, 3] rfl ?_
                            refine k_widen ?_ ?_ (ih148 (q + 1) _ (by omega) (by rw [hM]; rfl) (by omega))
                            · (try dsimp only); omega
                            · (try dsimp only); omega
                      refine k_sub [0, 2, 1, 3] rfl ?_
                      refine k_widen ?_ ?_ (loop148 6 0 _ (Nat.zero_le _) rfl (by omega))
                      · (try dsimp only); omega
                      · (try dsimp only); omega
                refine k_sub [0, 1, 2] rfl ?_
                refine k_widen ?_ ?_ (loop136 (sp_nl r + 1) 0 _ (Nat.zero_le _) (by rw [hL, show k = sp_nw r by omega]; rfl) (by omega))
                · (try dsimp only); omega
                · (try dsimp only); omega
              · skip
                refine k_lload_n C (f := 1) (i := 1) (p := 1) rfl rfl dL_state_113 ?_
                refine k_ldc2 C l_L_217 dL_state_114 ?_
                refine k_lmul C dL_state_117 ?_
                refine k_aload_n C (f := 0) (i := 0) (p := 2) rfl rfl dL_state_118 ?_
                refine k_bipush C bc_17 dL_state_119 ?_
                refine k_iload_n C (f := 3) (i := 3) (p := 0) rfl rfl dL_state_121 ?_
                refine k_callSq C s_L_163 h_L_call__ (ct_k17 hx hr (by omega) rfl) rfl rfl (Nat.le_of_ble_eq_true rfl) ⟨Nat.le_of_ble_eq_true rfl, Nat.le_of_ble_eq_true rfl⟩ ⟨rfl, rfl⟩ ⟨by show _ ≤ 1300; (try dsimp only); omega, by show _ ≤ 7800; (try dsimp only); omega⟩ dL_state_122 ?_
                refine k_i2l C (rfl) dL_state_125 ?_
                refine k_ladd C dL_state_126 ?_
                refine k_lstore_n C (f := 1) (i := 1) (lv := [(1, _), (3, _), (0, _)]) rfl (Nat.le_of_ble_eq_true rfl) rfl dL_state_127 ?_
                refine k_iinc C (i := 3) (p := 1) (lv := [(3, _), (1, _), (0, _)]) (Nat.le_of_ble_eq_true rfl) rfl (by first | exact am_inc1 _ | rfl) rfl dL_state_128 ?_
                refine k_goto C (tgt := 105) (by decide) dL_state_131 ?_
                refine k_sub [0, 1, 2] rfl ?_
                refine k_widen ?_ ?_ (ih105 (k + 1) _ (by omega) (by rw [hL]; rfl) (by omega))
                · (try dsimp only); omega
                · (try dsimp only); omega
          refine k_sub [0, 1, 2] rfl ?_
          refine k_widen ?_ ?_ (loop105 (sp_nw r + 1) 0 _ (Nat.zero_le _) (by rw [hL, show k = sp_nc r by omega]; rfl) (by omega))
          · (try dsimp only); omega
          · (try dsimp only); omega
        · skip
          refine k_bipush C bc_20 dL_state_65 ?_
          refine k_istore C (i := 4) (lv := [(4, _), (3, _), (1, _), (0, _)]) (Nat.le_of_ble_eq_true rfl) rfl dL_state_67 ?_
          have loop69 : ∀ (f : Nat) (q : Nat) (M : Int64), (q ≤ 10) → (M = hcq r k L q) → (10 - q) < f → am_K G X { frames := 12, cells := 1300, slots := 7800, locals := 300 } 5 Λ I J (60 * k + 6 * q) (360 * k + 36 * q) 69 [(4, .int (nI (20 + q))), (1, .long M), (3, .int (nI k)), (0, .ref x)] [] := by
            intro f
            induction f with
            | zero => intro q M hq hM hf; exact absurd hf (Nat.not_lt_zero _)
            | succ f ih69 =>
              intro q M hq hM hf
              refine k_iload C (i := 4) (p := 0) rfl dL_state_69 ?_
              refine k_bipush C bc_30 dL_state_71 ?_
              first
              | refine k_icmpN_ge C (tgt := 97) (by omega) (by omega) (by decide) dL_state_73 (fun hc73 => ?_) (fun hc73 => ?_)
              | refine k_icmp_ge C (tgt := 97) (by decide) dL_state_73 (fun hc73 => ?_) (fun hc73 => ?_)
              · skip
                have hL2 : M = hcm r (hst r) (k + 1) := by rw [hM, show q = 10 by omega, hL]; rfl
                refine k_iinc C (i := 3) (p := 2) (lv := [(3, _), (4, _), (1, _), (0, _)]) (Nat.le_of_ble_eq_true rfl) rfl (by first | exact am_inc1 _ | rfl) rfl dL_state_97 ?_
                refine k_goto C (tgt := 57) (by decide) dL_state_100 ?_
                refine k_sub [0, 2, 3] rfl ?_
                refine k_widen ?_ ?_ (ih57 (k + 1) _ (by omega) hL2 (by omega))
                · (try dsimp only); omega
                · (try dsimp only); omega
              · skip
                refine k_lload_n C (f := 1) (i := 1) (p := 1) rfl rfl dL_state_76 ?_
                refine k_ldc2 C l_L_217 dL_state_77 ?_
                refine k_lmul C dL_state_80 ?_
                refine k_aload_n C (f := 0) (i := 0) (p := 3) rfl rfl dL_state_81 ?_
                refine k_iload C (i := 4) (p := 0) rfl dL_state_82 ?_
                refine k_iload_n C (f := 3) (i := 3) (p := 2) rfl rfl dL_state_84 ?_
                refine k_callSq C s_L_163 h_L_call__ (ct_k20s (q := q) rfl hx hr (by omega) (by omega) rfl) rfl rfl (Nat.le_of_ble_eq_true rfl) ⟨Nat.le_of_ble_eq_true rfl, Nat.le_of_ble_eq_true rfl⟩ ⟨rfl, rfl⟩ ⟨by show _ ≤ 1300; (try dsimp only); omega, by show _ ≤ 7800; (try dsimp only); omega⟩ dL_state_85 ?_
                refine k_i2l C (rfl) dL_state_88 ?_
                refine k_ladd C dL_state_89 ?_
                refine k_lstore_n C (f := 1) (i := 1) (lv := [(1, _), (4, _), (3, _), (0, _)]) rfl (Nat.le_of_ble_eq_true rfl) rfl dL_state_90 ?_
                refine k_iinc C (i := 4) (p := 1) (lv := [(4, _), (1, _), (3, _), (0, _)]) (Nat.le_of_ble_eq_true rfl) rfl (by first | exact am_inc1 _ | rfl) rfl dL_state_91 ?_
                refine k_goto C (tgt := 69) (by decide) dL_state_94 ?_
                refine k_sub [0, 1, 2, 3] rfl ?_
                refine k_widen ?_ ?_ (ih69 (q + 1) _ (by omega) (by rw [hM]; rfl) (by omega))
                · (try dsimp only); omega
                · (try dsimp only); omega
          refine k_sub [0, 2, 1, 3] rfl ?_
          refine k_widen ?_ ?_ (loop69 11 0 _ (Nat.zero_le _) rfl (by omega))
          · (try dsimp only); omega
          · (try dsimp only); omega
    refine k_sub [0, 1, 2] rfl ?_
    refine k_widen ?_ ?_ (loop57 (sp_nc r + 1) 0 _ (Nat.zero_le _) (by show _ = hst r; unfold hst hmix; first | (rw [if_pos hc31]) | (rw [if_neg hc31])) (by omega))
    · (try dsimp only); omega
    · (try dsimp only); omega
  · skip
    refine k_bipush C bc_16 dL_state_34 ?_
    refine k_goto C (tgt := 40) (by decide) dL_state_36 ?_
    refine k_i2l C (rfl) dL_state_40 ?_
    refine k_ladd C dL_state_41 ?_
    refine k_lstore_n C (f := 1) (i := 1) (lv := [(1, _), (0, _)]) rfl (Nat.le_of_ble_eq_true rfl) rfl dL_state_42 ?_
    refine k_lload_n C (f := 1) (i := 1) (p := 0) rfl rfl dL_state_43 ?_
    refine k_ldc2 C l_L_217 dL_state_44 ?_
    refine k_lmul C dL_state_47 ?_
    refine k_aload_n C (f := 0) (i := 0) (p := 1) rfl rfl dL_state_48 ?_
    refine k_callVp C s_L_219 h_X5_drunk (L5_s (by assumption)) rfl (ct_X5_drunk (by first | assumption | omega) (by first | assumption | omega)) rfl rfl (Nat.le_of_ble_eq_true rfl) ⟨Nat.le_of_ble_eq_true rfl, Nat.le_of_ble_eq_true rfl⟩ ⟨by show _ ≤ 1300; (try dsimp only); omega, by show _ ≤ 7800; (try dsimp only); omega⟩ ⟨rfl, rfl⟩ dL_state_49 ?_
    refine k_i2l C (rfl) dL_state_52 ?_
    refine k_ladd C dL_state_53 ?_
    refine k_lstore_n C (f := 1) (i := 1) (lv := [(1, _), (0, _)]) rfl (Nat.le_of_ble_eq_true rfl) rfl dL_state_54 ?_
    refine k_iconst C ic_0 dL_state_55 ?_
    refine k_istore_n C (f := 3) (i := 3) (lv := [(3, _), (1, _), (0, _)]) rfl (Nat.le_of_ble_eq_true rfl) rfl dL_state_56 ?_
    have loop57 : ∀ (f : Nat) (k : Nat) (L : Int64), (k ≤ sp_nc r) → (L = hcm r (hst r) k) → (sp_nc r - k) < f → am_K G X { frames := 12, cells := 1300, slots := 7800, locals := 300 } 5 Λ I J (60 * k) (360 * k) 57 [(3, .int (nI k)), (1, .long L), (0, .ref x)] [] := by
      intro f
      induction f with
      | zero => intro k L hk hL hf; exact absurd hf (Nat.not_lt_zero _)
      | succ f ih57 =>
        intro k L hk hL hf
        refine k_iload_n C (f := 3) (i := 3) (p := 0) rfl rfl dL_state_57 ?_
        refine k_aload_n C (f := 0) (i := 0) (p := 2) rfl rfl dL_state_58 ?_
        refine k_callVp C s_L_222 h_X5_camelCount (L5_s (by assumption)) rfl (ct_X5_camelCount (by first | assumption | omega) (by first | assumption | omega)) rfl rfl (Nat.le_of_ble_eq_true rfl) ⟨Nat.le_of_ble_eq_true rfl, Nat.le_of_ble_eq_true rfl⟩ ⟨by show _ ≤ 1300; (try dsimp only); omega, by show _ ≤ 7800; (try dsimp only); omega⟩ ⟨rfl, rfl⟩ dL_state_59 ?_
        first
        | refine k_icmpN_ge C (tgt := 103) (by omega) (by omega) (by decide) dL_state_62 (fun hc62 => ?_) (fun hc62 => ?_)
        | refine k_icmp_ge C (tgt := 103) (by decide) dL_state_62 (fun hc62 => ?_) (fun hc62 => ?_)
        · skip
          refine k_iconst C ic_0 dL_state_103 ?_
          refine k_istore_n C (f := 3) (i := 3) (lv := [(3, _), (1, _), (0, _)]) rfl (Nat.le_of_ble_eq_true rfl) rfl dL_state_104 ?_
          have loop105 : ∀ (f : Nat) (k : Nat) (L : Int64), (k ≤ sp_nw r) → (L = hwl r (hcm r (hst r) (sp_nc r)) k) → (sp_nw r - k) < f → am_K G X { frames := 12, cells := 1300, slots := 7800, locals := 300 } 5 Λ I J (600 + 6 * k) (3600 + 36 * k) 105 [(3, .int (nI k)), (1, .long L), (0, .ref x)] [] := by
            intro f
            induction f with
            | zero => intro k L hk hL hf; exact absurd hf (Nat.not_lt_zero _)
            | succ f ih105 =>
              intro k L hk hL hf
              refine k_iload_n C (f := 3) (i := 3) (p := 0) rfl rfl dL_state_105 ?_
              refine k_aload_n C (f := 0) (i := 0) (p := 2) rfl rfl dL_state_106 ?_
              refine k_callVp C s_L_225 h_X5_wellCount (L5_s (by assumption)) rfl (ct_X5_wellCount (by first | assumption | omega) (by first | assumption | omega)) rfl rfl (Nat.le_of_ble_eq_true rfl) ⟨Nat.le_of_ble_eq_true rfl, Nat.le_of_ble_eq_true rfl⟩ ⟨by show _ ≤ 1300; (try dsimp only); omega, by show _ ≤ 7800; (try dsimp only); omega⟩ ⟨rfl, rfl⟩ dL_state_107 ?_
              first
              | refine k_icmpN_ge C (tgt := 134) (by omega) (by omega) (by decide) dL_state_110 (fun hc110 => ?_) (fun hc110 => ?_)
              | refine k_icmp_ge C (tgt := 134) (by decide) dL_state_110 (fun hc110 => ?_) (fun hc110 => ?_)
              · skip
                refine k_iconst C ic_0 dL_state_134 ?_
                refine k_istore_n C (f := 3) (i := 3) (lv := [(3, _), (1, _), (0, _)]) rfl (Nat.le_of_ble_eq_true rfl) rfl dL_state_135 ?_
                have loop136 : ∀ (f : Nat) (k : Nat) (L : Int64), (k ≤ sp_nl r) → (L = hlo r (hwl r (hcm r (hst r) (sp_nc r)) (sp_nw r)) k) → (sp_nl r - k) < f → am_K G X { frames := 12, cells := 1300, slots := 7800, locals := 300 } 5 Λ I J (648 + 30 * k) (3888 + 180 * k) 136 [(3, .int (nI k)), (1, .long L), (0, .ref x)] [] := by
                  intro f
                  induction f with
                  | zero => intro k L hk hL hf; exact absurd hf (Nat.not_lt_zero _)
                  | succ f ih136 =>
                    intro k L hk hL hf
                    refine k_iload_n C (f := 3) (i := 3) (p := 0) rfl rfl dL_state_136 ?_
                    refine k_aload_n C (f := 0) (i := 0) (p := 2) rfl rfl dL_state_137 ?_
                    refine k_callVp C s_L_228 h_X5_loadCount (L5_s (by assumption)) rfl (ct_X5_loadCount (by first | assumption | omega) (by first | assumption | omega)) rfl rfl (Nat.le_of_ble_eq_true rfl) ⟨Nat.le_of_ble_eq_true rfl, Nat.le_of_ble_eq_true rfl⟩ ⟨by show _ ≤ 1300; (try dsimp only); omega, by show _ ≤ 7800; (try dsimp only); omega⟩ ⟨rfl, rfl⟩ dL_state_138 ?_
                    first
                    | refine k_icmpN_ge C (tgt := 182) (by omega) (by omega) (by decide) dL_state_141 (fun hc141 => ?_) (fun hc141 => ?_)
                    | refine k_icmp_ge C (tgt := 182) (by decide) dL_state_141 (fun hc141 => ?_) (fun hc141 => ?_)
                    · skip
                      refine k_lload_n C (f := 1) (i := 1) (p := 1) rfl rfl dL_state_182 ?_
                      exact k_lret C (by show _ ≤ 1300; (try dsimp only); omega) (by show _ ≤ 7800; (try dsimp only); omega) (⟨by rw [hL, show k = sp_nl r by omega]; rfl, rfl, rfl, rfl⟩) dL_state_183
                    · skip
                      refine k_bipush C bc_32 dL_state_144 ?_
                      refine k_istore C (i := 4) (lv := [(4, _), (3, _), (1, _), (0, _)]) (Nat.le_of_ble_eq_true rfl) rfl dL_state_146 ?_
                      have loop148 : ∀ (f : Nat) (q : Nat) (M : Int64), (q ≤ 5) → (M = hlq r k L q) → (5 - q) < f → am_K G X { frames := 12, cells := 1300, slots := 7800, locals := 300 } 5 Λ I J (648 + 30 * k + 6 * q) (3888 + 180 * k + 36 * q) 148 [(4, .int (nI (32 + q))), (1, .long M), (3, .int (nI k)), (0, .ref x)] [] := by
                        intro f
                        induction f with
                        | zero => intro q M hq hM hf; exact absurd hf (Nat.not_lt_zero _)
                        | succ f ih148 =>
                          intro q M hq hM hf
                          refine k_iload C (i := 4) (p := 0) rfl dL_state_148 ?_
                          refine k_bipush C bc_37 dL_state_150 ?_
                          first
                          | refine k_icmpN_ge C (tgt := 176) (by omega) (by omega) (by decide) dL_state_152 (fun hc152 => ?_) (fun hc152 => ?_)
                          | refine k_icmp_ge C (tgt := 176) (by decide) dL_state_152 (fun hc152 => ?_) (fun hc152 => ?_)
                          · skip
                            have hL2 : M = hlo r (hwl r (hcm r (hst r) (sp_nc r)) (sp_nw r)) (k + 1) := by rw [hM, show q = 5 by omega, hL]; rfl
                            refine k_iinc C (i := 3) (p := 2) (lv := [(3, _), (4, _), (1, _), (0, _)]) (Nat.le_of_ble_eq_true rfl) rfl (by first | exact am_inc1 _ | rfl) rfl dL_state_176 ?_
                            refine k_goto C (tgt := 136) (by decide) dL_state_179 ?_
                            refine k_sub [0, 2, 3] rfl ?_
                            refine k_widen ?_ ?_ (ih136 (k + 1) _ (by omega) hL2 (by omega))
                            · (try dsimp only); omega
                            · (try dsimp only); omega
                          · skip
                            refine k_lload_n C (f := 1) (i := 1) (p := 1) rfl rfl dL_state_155 ?_
                            refine k_ldc2 C l_L_217 dL_state_156 ?_
                            refine k_lmul C dL_state_159 ?_
                            refine k_aload_n C (f := 0) (i := 0) (p := 3) rfl rfl dL_state_160 ?_
                            refine k_iload C (i := 4) (p := 0) rfl dL_state_161 ?_
                            refine k_iload_n C (f := 3) (i := 3) (p := 2) rfl rfl dL_state_163 ?_
                            refine k_callSq C s_L_163 h_L_call__ (ct_k32s (q := q) rfl hx hr (by omega) (by omega) rfl) rfl rfl (Nat.le_of_ble_eq_true rfl) ⟨Nat.le_of_ble_eq_true rfl, Nat.le_of_ble_eq_true rfl⟩ ⟨rfl, rfl⟩ ⟨by show _ ≤ 1300; (try dsimp only); omega, by show _ ≤ 7800; (try dsimp only); omega⟩ dL_state_164 ?_
                            refine k_i2l C (rfl) dL_state_167 ?_
                            refine k_ladd C dL_state_168 ?_
                            refine k_lstore_n C (f := 1) (i := 1) (lv := [(1, _), (4, _), (3, _), (0, _)]) rfl (Nat.le_of_ble_eq_true rfl) rfl dL_state_169 ?_
                            refine k_iinc C (i := 4) (p := 1) (lv := [(4, _), (1, _), (3, _), (0, _)]) (Nat.le_of_ble_eq_true rfl) rfl (by first | exact am_inc1 _ | rfl) rfl dL_state_170 ?_
                            refine k_goto C (tgt := 148) (by decide) dL_state_173 ?_
                            refine k_sub [0, 1, 2, 3] rfl ?_
                            refine k_widen ?_ ?_ (ih148 (q + 1) _ (by omega) (by rw [hM]; rfl) (by omega))
                            · (try dsimp only); omega
                            · (try dsimp only); omega
                      refine k_sub [0, 2, 1, 3] rfl ?_
                      refine k_widen ?_ ?_ (loop148 6 0 _ (Nat.zero_le _) rfl (by omega))
                      · (try dsimp only); omega
                      · (try dsimp only); omega
                refine k_sub [0, 1, 2] rfl ?_
                refine k_widen ?_ ?_ (loop136 (sp_nl r + 1) 0 _ (Nat.zero_le _) (by rw [hL, show k = sp_nw r by omega]; rfl) (by omega))
                · (try dsimp only); omega
                · (try dsimp only); omega
              · skip
                refine k_lload_n C (f := 1) (i := 1) (p := 1) rfl rfl dL_state_113 ?_
                refine k_ldc2 C l_L_217 dL_state_114 ?_
                refine k_lmul C dL_state_117 ?_
                refine k_aload_n C (f := 0) (i := 0) (p := 2) rfl rfl dL_state_118 ?_
                refine k_bipush C bc_17 dL_state_119 ?_
                refine k_iload_n C (f := 3) (i := 3) (p := 0) rfl rfl dL_state_121 ?_
                refine k_callSq C s_L_163 h_L_call__ (ct_k17 hx hr (by omega) rfl) rfl rfl (Nat.le_of_ble_eq_true rfl) ⟨Nat.le_of_ble_eq_true rfl, Nat.le_of_ble_eq_true rfl⟩ ⟨rfl, rfl⟩ ⟨by show _ ≤ 1300; (try dsimp only); omega, by show _ ≤ 7800; (try dsimp only); omega⟩ dL_state_122 ?_
                refine k_i2l C (rfl) dL_state_125 ?_
                refine k_ladd C dL_state_126 ?_
                refine k_lstore_n C (f := 1) (i := 1) (lv := [(1, _), (3, _), (0, _)]) rfl (Nat.le_of_ble_eq_true rfl) rfl dL_state_127 ?_
                refine k_iinc C (i := 3) (p := 1) (lv := [(3, _), (1, _), (0, _)]) (Nat.le_of_ble_eq_true rfl) rfl (by first | exact am_inc1 _ | rfl) rfl dL_state_128 ?_
                refine k_goto C (tgt := 105) (by decide) dL_state_131 ?_
                refine k_sub [0, 1, 2] rfl ?_
                refine k_widen ?_ ?_ (ih105 (k + 1) _ (by omega) (by rw [hL]; rfl) (by omega))
                · (try dsimp only); omega
                · (try dsimp only); omega
          refine k_sub [0, 1, 2] rfl ?_
          refine k_widen ?_ ?_ (loop105 (sp_nw r + 1) 0 _ (Nat.zero_le _) (by rw [hL, show k = sp_nc r by omega]; rfl) (by omega))
          · (try dsimp only); omega
          · (try dsimp only); omega
        · skip
          refine k_bipush C bc_20 dL_state_65 ?_
          refine k_istore C (i := 4) (lv := [(4, _), (3, _), (1, _), (0, _)]) (Nat.le_of_ble_eq_true rfl) rfl dL_state_67 ?_
          have loop69 : ∀ (f : Nat) (q : Nat) (M : Int64), (q ≤ 10) → (M = hcq r k L q) → (10 - q) < f → am_K G X { frames := 12, cells := 1300, slots := 7800, locals := 300 } 5 Λ I J (60 * k + 6 * q) (360 * k + 36 * q) 69 [(4, .int (nI (20 + q))), (1, .long M), (3, .int (nI k)), (0, .ref x)] [] := by
            intro f
            induction f with
            | zero => intro q M hq hM hf; exact absurd hf (Nat.not_lt_zero _)
            | succ f ih69 =>
              intro q M hq hM hf
              refine k_iload C (i := 4) (p := 0) rfl dL_state_69 ?_
              refine k_bipush C bc_30 dL_state_71 ?_
              first
              | refine k_icmpN_ge C (tgt := 97) (by omega) (by omega) (by decide) dL_state_73 (fun hc73 => ?_) (fun hc73 => ?_)
              | refine k_icmp_ge C (tgt := 97) (by decide) dL_state_73 (fun hc73 => ?_) (fun hc73 => ?_)
              · skip
                have hL2 : M = hcm r (hst r) (k + 1) := by rw [hM, show q = 10 by omega, hL]; rfl
                refine k_iinc C (i := 3) (p := 2) (lv := [(3, _), (4, _), (1, _), (0, _)]) (Nat.le_of_ble_eq_true rfl) rfl (by first | exact am_inc1 _ | rfl) rfl dL_state_97 ?_
                refine k_goto C (tgt := 57) (by decide) dL_state_100 ?_
                refine k_sub [0, 2, 3] rfl ?_
                refine k_widen ?_ ?_ (ih57 (k + 1) _ (by omega) hL2 (by omega))
                · (try dsimp only); omega
                · (try dsimp only); omega
              · skip
                refine k_lload_n C (f := 1) (i := 1) (p := 1) rfl rfl dL_state_76 ?_
                refine k_ldc2 C l_L_217 dL_state_77 ?_
                refine k_lmul C dL_state_80 ?_
                refine k_aload_n C (f := 0) (i := 0) (p := 3) rfl rfl dL_state_81 ?_
                refine k_iload C (i := 4) (p := 0) rfl dL_state_82 ?_
                refine k_iload_n C (f := 3) (i := 3) (p := 2) rfl rfl dL_state_84 ?_
                refine k_callSq C s_L_163 h_L_call__ (ct_k20s (q := q) rfl hx hr (by omega) (by omega) rfl) rfl rfl (Nat.le_of_ble_eq_true rfl) ⟨Nat.le_of_ble_eq_true rfl, Nat.le_of_ble_eq_true rfl⟩ ⟨rfl, rfl⟩ ⟨by show _ ≤ 1300; (try dsimp only); omega, by show _ ≤ 7800; (try dsimp only); omega⟩ dL_state_85 ?_
                refine k_i2l C (rfl) dL_state_88 ?_
                refine k_ladd C dL_state_89 ?_
                refine k_lstore_n C (f := 1) (i := 1) (lv := [(1, _), (4, _), (3, _), (0, _)]) rfl (Nat.le_of_ble_eq_true rfl) rfl dL_state_90 ?_
                refine k_iinc C (i := 4) (p := 1) (lv := [(4, _), (1, _), (3, _), (0, _)]) (Nat.le_of_ble_eq_true rfl) rfl (by first | exact am_inc1 _ | rfl) rfl dL_state_91 ?_
                refine k_goto C (tgt := 69) (by decide) dL_state_94 ?_
                refine k_sub [0, 1, 2, 3] rfl ?_
                refine k_widen ?_ ?_ (ih69 (q + 1) _ (by omega) (by rw [hM]; rfl) (by omega))
                · (try dsimp only); omega
                · (try dsimp only); omega
          refine k_sub [0, 2, 1, 3] rfl ?_
          refine k_widen ?_ ?_ (loop69 11 0 _ (Nat.zero_le _) rfl (by omega))
          · (try dsimp only); omega
          · (try dsimp only); omega
    refine k_sub [0, 1, 2] rfl ?_
    refine k_widen ?_ ?_ (loop57 (sp_nc r + 1) 0 _ (Nat.zero_le _) (by show _ = hst r; unfold hst hmix; first | (rw [if_pos hc31]) | (rw [if_neg hc31])) (by omega))
    · (try dsimp only); omega
    · (try dsimp only); omega
