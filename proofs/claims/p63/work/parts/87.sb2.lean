/-! ===== numbers and constants behind a text ===== -/
def dg3 (v : Nat) : Nat := if v < 10 then 1 else if v < 100 then 2 else 3
def dx3 (v : Nat) : Nat → Nat := fun i => if v < 10 then 48 + v else if v < 100 then (if i = 0 then 48 + v / 10 else 48 + v % 10) else (if i = 0 then 48 + v / 100 else if i = 1 then 48 + v % 100 / 10 else 48 + v % 10)
theorem dg3_of {v i p : Nat} (h : (i = 1 ∧ p = 10) ∨ (i = 2 ∧ p = 100 ∧ 10 ≤ v) ∨ (i = 3 ∧ p = 1000 ∧ 100 ≤ v)) (hp : ¬ p ≤ v) : nI i = nI (dg3 v) := by
  congr 1
  unfold dg3
  split
  · omega
  · split <;> omega
theorem dg3_le (v : Nat) : 1 ≤ dg3 v ∧ dg3 v ≤ 3 := by
  unfold dg3
  split
  · omega
  · split <;> omega
theorem dx3_lt {v : Nat} (h : v < 1000) (i : Nat) : dx3 v i < 128 := by
  unfold dx3
  split
  · omega
  · split
    · split <;> omega
    · split
      · omega
      · split <;> omega
theorem incm1 {p : Nat} (h : 0 < p) : nI p + Int32.ofInt (-1) = nI (p - 1) := by rw [ic_m1]; exact sb_m1 h
theorem mulneg {a b : Nat} : nI a * -nI b = -nI (a * b) := by rw [Int32.mul_neg, pk_mul]
theorem negneg {a : Nat} : - -nI a = nI a := Int32.neg_neg
/-- the bytes of a number are put before place p -/
def GCs (I I' : am_I) (buf p v : Nat) : Prop := (∀ b : Nat, b ≠ buf → I' b = I b) ∧ (∀ j : Nat, j < p - dg3 v ∨ p ≤ j → I' buf j = I buf j) ∧ ∀ i : Nat, i < dg3 v → I' buf (p - dg3 v + i) = nI (dx3 v i)
theorem gc_1 {I : am_I} {buf p v : Nat} (h : v < 10) (hp : 1 ≤ p) : GCs I (am_up I buf (p - 1) (nI (48 + v % 10))) buf p v := by
  have e : dg3 v = 1 := if_pos h
  unfold GCs
  rw [e]
  refine ⟨fun b hb => am_up_ne hb, fun j hj => am_up_n2 (fun z => by omega), fun i hi => ?_⟩
  obtain rfl : i = 0 := by omega
  unfold dx3
  rw [if_pos h, Nat.add_zero, am_up_eq, Nat.mod_eq_of_lt h]
theorem gc_2 {I : am_I} {buf p v : Nat} (h0 : 10 ≤ v) (h : v < 100) (hp : 2 ≤ p) : GCs I (am_up (am_up I buf (p - 1) (nI (48 + v % 10))) buf (p - 1 - 1) (nI (48 + v / 10))) buf p v := by
  have e : dg3 v = 2 := by unfold dg3; rw [if_neg (by omega), if_pos h]
  unfold GCs
  rw [e]
  refine ⟨fun b hb => (am_up_ne hb).trans (am_up_ne hb), fun j hj => (am_up_n2 (fun z => by omega)).trans (am_up_n2 (fun z => by omega)), fun i hi => ?_⟩
  unfold dx3
  rw [if_neg (by omega), if_pos h]
  rcases (show i = 0 ∨ i = 1 by omega) with rfl | rfl
  · rw [if_pos rfl, Nat.add_zero, show p - 2 = p - 1 - 1 by omega, am_up_eq]
  · rw [if_neg (by omega), am_up_n2 (fun z => by omega), show p - 2 + 1 = p - 1 by omega, am_up_eq]
theorem gc_3 {I : am_I} {buf p v : Nat} (h0 : 100 ≤ v) (h : v < 1000) (hp : 3 ≤ p) : GCs I (am_up (am_up (am_up I buf (p - 1) (nI (48 + v % 100 % 10))) buf (p - 1 - 1) (nI (48 + v % 100 / 10))) buf (p - 1 - 1 - 1) (nI (48 + v / 100 % 10))) buf p v := by
  have e : dg3 v = 3 := by unfold dg3; rw [if_neg (by omega), if_neg (by omega)]
  unfold GCs
  rw [e]
  refine ⟨fun b hb => ((am_up_ne hb).trans (am_up_ne hb)).trans (am_up_ne hb), fun j hj => ((am_up_n2 (fun z => by omega)).trans (am_up_n2 (fun z => by omega))).trans (am_up_n2 (fun z => by omega)), fun i hi => ?_⟩
  unfold dx3
  rw [if_neg (by omega), if_neg (by omega)]
  rcases (show i = 0 ∨ i = 1 ∨ i = 2 by omega) with rfl | rfl | rfl
  · rw [if_pos rfl, Nat.add_zero, show p - 3 = p - 1 - 1 - 1 by omega, am_up_eq, Nat.mod_eq_of_lt (by omega)]
  · rw [if_neg (by omega), if_pos rfl, am_up_n2 (fun z => by omega), show p - 3 + 1 = p - 1 - 1 by omega, am_up_eq]
  · rw [if_neg (by omega), if_neg (by omega), am_up_n2 (fun z => by omega), am_up_n2 (fun z => by omega), show p - 3 + 2 = p - 1 by omega, am_up_eq]
    congr 2
    omega
set_option maxHeartbeats 4000000 in
set_option maxRecDepth 100000 in
theorem ct_J6_stringSize_0f7a4 {G : am_G} {Λ : am_L} {I : am_I} {J : am_J} {v : Nat} (hv : v < 1000) : am_Ct G yJ6_stringSize_0f7a4 cJ6_stringSize_0f7a4 4 (some .int) { frames := 0, cells := 0, slots := 0, locals := 0 } [.int (nI v)] Λ I J (am_pure (.int (nI (dg3 v))) Λ I J) am_never := by
  refine am_ct_of (own := RJ6) rfl (by decide) (Nat.le_of_ble_eq_true rfl) (fun X C => ?_)
  change am_K G X { frames := 0, cells := 0, slots := 0, locals := 0 } 4 Λ I J 0 0 0 [(0, .int (nI v))] []
  refine k_iconst C ic_1 dJ6_stringSize_0f7a4_0 ?_
  refine k_istore_n C (f := 1) (i := 1) (lv := [(1, _), (0, _)]) rfl (Nat.le_of_ble_eq_true rfl) rfl dJ6_stringSize_0f7a4_1 ?_
  refine k_iload_n C (f := 0) (i := 0) (p := 1) rfl rfl dJ6_stringSize_0f7a4_2 ?_
  refine k_if_lt C (tgt := 11) (by decide) dJ6_stringSize_0f7a4_3 (fun hc3 => ?_) (fun hc3 => ?_)
  · skip
    first
    | omega
    | exact absurd hc3 (nI_ge (by omega) (by omega))
    | exact absurd hc3 (by decide)
    | exact absurd hc3 (nI_pos (by omega))
    | exact absurd (nI_pos' (by omega)) hc3
    | exact absurd rfl hc3
    | exact absurd hc3 (nI_ne0 (by omega) (by omega))
    | exact hc3 rfl
    | contradiction
    | exact absurd hc3 (nI_n101 (by omega))
    | exact absurd hc3.symm (nI_n101 (by omega))
    | (simp_all; done)
  · skip
    refine k_iconst C ic_0 dJ6_stringSize_0f7a4_6 ?_
    refine k_istore_n C (f := 1) (i := 1) (lv := [(1, _), (0, _)]) rfl (Nat.le_of_ble_eq_true rfl) rfl dJ6_stringSize_0f7a4_7 ?_
    refine k_iload_n C (f := 0) (i := 0) (p := 1) rfl rfl dJ6_stringSize_0f7a4_8 ?_
    refine k_ineg C dJ6_stringSize_0f7a4_9 ?_
    refine k_istore_n C (f := 0) (i := 0) (lv := [(0, _), (1, _)]) rfl (Nat.le_of_ble_eq_true rfl) rfl dJ6_stringSize_0f7a4_10 ?_
    refine k_bipush C bc_m10 dJ6_stringSize_0f7a4_11 ?_
    rw [show (-10 : Int32) = -nI 10 from rfl]
    refine k_istore_n C (f := 2) (i := 2) (lv := [(2, _), (0, _), (1, _)]) rfl (Nat.le_of_ble_eq_true rfl) rfl dJ6_stringSize_0f7a4_13 ?_
    refine k_iconst C ic_1 dJ6_stringSize_0f7a4_14 ?_
    refine k_istore_n C (f := 3) (i := 3) (lv := [(3, _), (2, _), (0, _), (1, _)]) rfl (Nat.le_of_ble_eq_true rfl) rfl dJ6_stringSize_0f7a4_15 ?_
    have loop16 : ∀ (f : Nat) (i p : Nat), ((i = 1 ∧ p = 10) ∨ (i = 2 ∧ p = 100 ∧ 10 ≤ v) ∨ (i = 3 ∧ p = 1000 ∧ 100 ≤ v)) → (4 - i) < f → am_K G X { frames := 0, cells := 0, slots := 0, locals := 0 } 4 Λ I J (0) (0) 16 [(3, .int (nI i)), (2, .int (-nI p)), (1, .int (nI 0)), (0, .int (-nI v))] [] := by
      intro f
      induction f with
      | zero => intro i p hi hf; exact absurd hf (Nat.not_lt_zero _)
      | succ f ih16 =>
        intro i p hi hf
        refine k_iload_n C (f := 3) (i := 3) (p := 0) rfl rfl dJ6_stringSize_0f7a4_16 ?_
        refine k_bipush C bc_10 dJ6_stringSize_0f7a4_17 ?_
        first
        | refine k_icmpN_ge C (tgt := 42) (by omega) (by omega) (by decide) dJ6_stringSize_0f7a4_19 (fun hc19 => ?_) (fun hc19 => ?_)
        | refine k_icmp_ge C (tgt := 42) (by decide) dJ6_stringSize_0f7a4_19 (fun hc19 => ?_) (fun hc19 => ?_)
        · skip
          first
          | omega
          | exact absurd hc19 (nI_ge (by omega) (by omega))
          | exact absurd hc19 (by decide)
          | exact absurd hc19 (nI_pos (by omega))
          | exact absurd (nI_pos' (by omega)) hc19
          | exact absurd rfl hc19
          | exact absurd hc19 (nI_ne0 (by omega) (by omega))
          | exact hc19 rfl
          | contradiction
          | exact absurd hc19 (nI_n101 (by omega))
          | exact absurd hc19.symm (nI_n101 (by omega))
          | (simp_all; done)
        · skip
          refine k_iload_n C (f := 0) (i := 0) (p := 3) rfl rfl dJ6_stringSize_0f7a4_22 ?_
          refine k_iload_n C (f := 2) (i := 2) (p := 1) rfl rfl dJ6_stringSize_0f7a4_23 ?_
          refine k_icmp_le C (tgt := 31) (by decide) dJ6_stringSize_0f7a4_24 (fun hc24 => ?_) (fun hc24 => ?_)
          · skip
            have hpv := (sb_nle (by omega) (by omega)).mp hc24
            refine k_bipush C bc_10 dJ6_stringSize_0f7a4_31 ?_
            refine k_iload_n C (f := 2) (i := 2) (p := 1) rfl rfl dJ6_stringSize_0f7a4_33 ?_
            refine k_imul C dJ6_stringSize_0f7a4_34 ?_
            rw [mulneg]
            refine k_istore_n C (f := 2) (i := 2) (lv := [(2, _), (3, _), (1, _), (0, _)]) rfl (Nat.le_of_ble_eq_true rfl) rfl dJ6_stringSize_0f7a4_35 ?_
            refine k_iinc C (i := 3) (p := 1) (lv := [(3, _), (2, _), (1, _), (0, _)]) (Nat.le_of_ble_eq_true rfl) rfl (by first | exact am_inc1 _ | rfl) rfl dJ6_stringSize_0f7a4_36 ?_
            refine k_goto C (tgt := 16) (by decide) dJ6_stringSize_0f7a4_39 ?_
            refine k_sub [0, 1, 2, 3] rfl ?_
            exact ih16 (i + 1) (10 * p) (by omega) (by omega)
          · skip
            have hpv : ¬ p ≤ v := fun z => hc24 ((sb_nle (by omega) (by omega)).mpr z)
            refine k_iload_n C (f := 3) (i := 3) (p := 0) rfl rfl dJ6_stringSize_0f7a4_27 ?_
            refine k_iload_n C (f := 1) (i := 1) (p := 2) rfl rfl dJ6_stringSize_0f7a4_28 ?_
            refine k_iadd C dJ6_stringSize_0f7a4_29 ?_
            rw [nI_add, Nat.add_zero]
            exact k_iret C (by show _ ≤ 0; (try dsimp only); omega) (by show _ ≤ 0; (try dsimp only); omega) (⟨congrArg (fun z => some (Value.int z)) (dg3_of hi hpv), rfl, rfl, rfl⟩) dJ6_stringSize_0f7a4_30
    refine k_sub [0, 1, 3, 2] rfl ?_
    exact loop16 4 1 10 (Or.inl ⟨rfl, rfl⟩) (by omega)
set_option maxHeartbeats 4000000 in
set_option maxRecDepth 100000 in
theorem ct_J6_getChars_ba4f3 {G : am_G} {Λ : am_L} {I : am_I} {J : am_J} {v p buf N : Nat} (hv : v < 1000) (hb : Λ.1 buf = (3, N)) (hN : N ≤ 1000) (hp : p ≤ N) (hd : dg3 v ≤ p) : am_Ct G yJ6_getChars_ba4f3 cJ6_getChars_ba4f3 7 (some .int) { frames := 0, cells := 0, slots := 0, locals := 0 } [.int (nI v), .int (nI p), .ref buf] Λ I J (am_gen Λ J (fun w I' => (∃ z : Int32, w = some (.int z)) ∧ GCs I I' buf p v)) am_never := by
  refine am_ct_of (own := RJ6) rfl (by decide) (Nat.le_of_ble_eq_true rfl) (fun X C => ?_)
  change am_K G X { frames := 0, cells := 0, slots := 0, locals := 0 } 7 Λ I J 0 0 0 [(0, .int (nI v)), (1, .int (nI p)), (2, .ref buf)] []
  refine k_iload_n C (f := 1) (i := 1) (p := 1) rfl rfl dJ6_getChars_ba4f3_0 ?_
  refine k_istore C (i := 5) (lv := [(5, _), (0, _), (1, _), (2, _)]) (Nat.le_of_ble_eq_true rfl) rfl dJ6_getChars_ba4f3_1 ?_
  refine k_iload_n C (f := 0) (i := 0) (p := 1) rfl rfl dJ6_getChars_ba4f3_3 ?_
  refine k_if_ge C (tgt := 11) (by decide) dJ6_getChars_ba4f3_4 (fun hc4 => ?_) (fun hc4 => ?_)
  · skip
    refine k_iconst C ic_0 dJ6_getChars_ba4f3_11 ?_
    refine k_istore C (i := 6) (lv := [(6, _), (5, _), (0, _), (1, _), (2, _)]) (Nat.le_of_ble_eq_true rfl) rfl dJ6_getChars_ba4f3_12 ?_
    refine k_iload C (i := 6) (p := 0) rfl dJ6_getChars_ba4f3_14 ?_
    first
    | refine k_ifb_ne C (tgt := 22) (by decide) dJ6_getChars_ba4f3_16 (fun hc16 => ?_) (fun hc16 => ?_)
    | refine k_if_ne C (tgt := 22) (by decide) dJ6_getChars_ba4f3_16 (fun hc16 => ?_) (fun hc16 => ?_)
    · skip
      first
      | exact absurd hc16 (by decide)
      | exact absurd (by decide) hc16
    · skip
      refine k_iload_n C (f := 0) (i := 0) (p := 2) rfl rfl dJ6_getChars_ba4f3_19 ?_
      refine k_ineg C dJ6_getChars_ba4f3_20 ?_
      refine k_istore_n C (f := 0) (i := 0) (lv := [(0, _), (6, _), (5, _), (1, _), (2, _)]) rfl (Nat.le_of_ble_eq_true rfl) rfl dJ6_getChars_ba4f3_21 ?_
      have loop22 : ∀ (f : Nat) (u p2 : Nat) (S : am_I), ((u = v ∧ p2 = p ∧ S = I) ∨ (100 ≤ v ∧ u = v / 100 ∧ p2 = p - 1 - 1 ∧ 3 ≤ p ∧ S = am_up (am_up I buf (p - 1) (nI (48 + v % 100 % 10))) buf (p - 1 - 1) (nI (48 + v % 100 / 10)))) → (u) < f → am_K G X { frames := 0, cells := 0, slots := 0, locals := 0 } 7 Λ S J (0) (0) 22 [(6, .int (nI 0)), (5, .int (nI p2)), (2, .ref buf), (0, .int (-nI u))] [] := by
        intro f
        induction f with
        | zero => intro u p2 S hu hf; exact absurd hf (Nat.not_lt_zero _)
        | succ f ih22 =>
          intro u p2 S hu hf
          refine k_iload_n C (f := 0) (i := 0) (p := 3) rfl rfl dJ6_getChars_ba4f3_22 ?_
          refine k_bipush C bc_m100 dJ6_getChars_ba4f3_23 ?_
          rw [show (-100 : Int32) = -nI 100 from rfl]
          have hu9 : u < 1000 ∧ p2 ≤ N := by omega
          by_cases hbig : 100 ≤ u
          · skip
            obtain ⟨rfl, rfl, rfl⟩ : u = v ∧ p2 = p ∧ S = I := by
              rcases hu with h | ⟨h1, h2, -⟩
              · exact h
              · omega
            have hp3 : 3 ≤ p2 := by
              have : dg3 u = 3 := by unfold dg3; rw [if_neg (by omega), if_neg (by omega)]
              omega
            refine k_icmp_gt C (tgt := 72) (by decide) dJ6_getChars_ba4f3_25 (fun hc25 => ?_) (fun hc25 => ?_)
            · skip
              exact absurd ((sb_nlt (by omega) (by omega)).mp hc25) (by omega)
            · skip
              refine k_iload_n C (f := 0) (i := 0) (p := 3) rfl rfl dJ6_getChars_ba4f3_28 ?_
              refine k_bipush C bc_100 dJ6_getChars_ba4f3_29 ?_
              refine k_idiv C (by decide) dJ6_getChars_ba4f3_31 ?_
              rw [show (-nI u) / nI 100 = -nI (u / 100) from sb_ndiv (by omega)]
              refine k_istore_n C (f := 3) (i := 3) (lv := [(3, _), (6, _), (5, _), (2, _), (0, _)]) rfl (Nat.le_of_ble_eq_true rfl) rfl dJ6_getChars_ba4f3_32 ?_
              refine k_iload_n C (f := 3) (i := 3) (p := 0) rfl rfl dJ6_getChars_ba4f3_33 ?_
              refine k_bipush C bc_100 dJ6_getChars_ba4f3_34 ?_
              refine k_imul C dJ6_getChars_ba4f3_36 ?_
              refine k_iload_n C (f := 0) (i := 0) (p := 4) rfl rfl dJ6_getChars_ba4f3_37 ?_
              refine k_isub C dJ6_getChars_ba4f3_38 ?_
              rw [show (-nI (u / 100)) * nI 100 - (-nI u) = nI (u % 100) from sb_nrem (by omega)]
              refine k_istore C (i := 4) (lv := [(4, _), (3, _), (6, _), (5, _), (2, _), (0, _)]) (Nat.le_of_ble_eq_true rfl) rfl dJ6_getChars_ba4f3_39 ?_
              refine k_iload_n C (f := 3) (i := 3) (p := 1) rfl rfl dJ6_getChars_ba4f3_41 ?_
              refine k_istore_n C (f := 0) (i := 0) (lv := [(0, _), (4, _), (3, _), (6, _), (5, _), (2, _)]) rfl (Nat.le_of_ble_eq_true rfl) rfl dJ6_getChars_ba4f3_42 ?_
              refine k_aload_n C (f := 2) (i := 2) (p := 5) rfl rfl dJ6_getChars_ba4f3_43 ?_
              refine k_iinc C (i := 5) (p := 4) (lv := [(5, _), (0, _), (4, _), (3, _), (6, _), (2, _)]) (Nat.le_of_ble_eq_true rfl) rfl (incm1 (by omega)) rfl dJ6_getChars_ba4f3_44 ?_
              refine k_iload C (i := 5) (p := 0) rfl dJ6_getChars_ba4f3_47 ?_
              refine k_dig1 C f_J6_83 dJ6_getChars_ba4f3_49 (fun d1 hT1 => ?_)
              refine k_iload C (i := 4) (p := 2) rfl dJ6_getChars_ba4f3_52 ?_
              refine k_dald C hT1 rfl (by omega) rfl dJ6_getChars_ba4f3_54 ?_
              refine k_bast C hb rfl (by omega) (by omega) dJ6_getChars_ba4f3_55 ?_
              rw [(fit_nI _ (by omega)).2.2]
              refine k_aload_n C (f := 2) (i := 2) (p := 5) rfl rfl dJ6_getChars_ba4f3_56 ?_
              refine k_iinc C (i := 5) (p := 0) (lv := [(5, _), (0, _), (4, _), (3, _), (6, _), (2, _)]) (Nat.le_of_ble_eq_true rfl) rfl (incm1 (by omega)) rfl dJ6_getChars_ba4f3_57 ?_
              refine k_iload C (i := 5) (p := 0) rfl dJ6_getChars_ba4f3_60 ?_
              refine k_dig2 C f_J6_87 dJ6_getChars_ba4f3_62 (fun d2 hT2 => ?_)
              refine k_iload C (i := 4) (p := 2) rfl dJ6_getChars_ba4f3_65 ?_
              refine k_dald C hT2 rfl (by omega) rfl dJ6_getChars_ba4f3_67 ?_
              refine k_bast C hb rfl (by omega) (by omega) dJ6_getChars_ba4f3_68 ?_
              rw [(fit_nI _ (by omega)).2.2]
              have hu2 : (u / 100 = u ∧ p2 - 1 - 1 = p2 ∧ am_up (am_up S buf (p2 - 1) (nI (48 + u % 100 % 10))) buf (p2 - 1 - 1) (nI (48 + u % 100 / 10)) = S) ∨ (100 ≤ u ∧ u / 100 = u / 100 ∧ p2 - 1 - 1 = p2 - 1 - 1 ∧ 3 ≤ p2 ∧ am_up (am_up S buf (p2 - 1) (nI (48 + u % 100 % 10))) buf (p2 - 1 - 1) (nI (48 + u % 100 / 10)) = am_up (am_up S buf (p2 - 1) (nI (48 + u % 100 % 10))) buf (p2 - 1 - 1) (nI (48 + u % 100 / 10))) := Or.inr ⟨hbig, rfl, rfl, hp3, rfl⟩
              refine k_goto C (tgt := 22) (by decide) dJ6_getChars_ba4f3_69 ?_
              refine k_sub [4, 0, 5, 1] rfl ?_
              exact ih22 (u / 100) (p2 - 1 - 1) _ hu2 (by omega)
          · skip
            have hp1 : 1 ≤ p2 := by
              have := (dg3_le v).1
              rcases hu with ⟨-, h, -⟩ | ⟨-, -, h, h2, -⟩ <;> omega
            refine k_icmp_gt C (tgt := 72) (by decide) dJ6_getChars_ba4f3_25 (fun hc25 => ?_) (fun hc25 => ?_)
            · skip
              refine k_aload_n C (f := 2) (i := 2) (p := 2) rfl rfl dJ6_getChars_ba4f3_72 ?_
              refine k_iinc C (i := 5) (p := 1) (lv := [(5, _), (6, _), (2, _), (0, _)]) (Nat.le_of_ble_eq_true rfl) rfl (incm1 (by omega)) rfl dJ6_getChars_ba4f3_73 ?_
              refine k_iload C (i := 5) (p := 0) rfl dJ6_getChars_ba4f3_76 ?_
              refine k_dig1 C f_J6_83 dJ6_getChars_ba4f3_78 (fun d3 hT3 => ?_)
              refine k_iload_n C (f := 0) (i := 0) (p := 3) rfl rfl dJ6_getChars_ba4f3_81 ?_
              refine k_ineg C dJ6_getChars_ba4f3_82 ?_
              rw [negneg]
              refine k_dald C hT3 rfl (by omega) rfl dJ6_getChars_ba4f3_83 ?_
              refine k_bast C hb rfl (by omega) (by omega) dJ6_getChars_ba4f3_84 ?_
              rw [(fit_nI _ (by omega)).2.2]
              by_cases h9 : 10 ≤ u
              · skip
                have hp2 : 2 ≤ p2 := by
                  rcases hu with ⟨h1, h2, -⟩ | ⟨h1, h2, -⟩
                  · have e : dg3 v = 2 := by unfold dg3; rw [if_neg (by omega), if_pos (by omega)]
                    omega
                  · omega
                refine k_iload_n C (f := 0) (i := 0) (p := 3) rfl rfl dJ6_getChars_ba4f3_85 ?_
                refine k_bipush C bc_m9 dJ6_getChars_ba4f3_86 ?_
                rw [show (-9 : Int32) = -nI 9 from rfl]
                refine k_icmp_ge C (tgt := 104) (by decide) dJ6_getChars_ba4f3_88 (fun hc88 => ?_) (fun hc88 => ?_)
                · skip
                  exact absurd ((sb_nle (by omega) (by omega)).mp hc88) (by omega)
                · skip
                  refine k_aload_n C (f := 2) (i := 2) (p := 2) rfl rfl dJ6_getChars_ba4f3_91 ?_
                  refine k_iinc C (i := 5) (p := 0) (lv := [(5, _), (6, _), (2, _), (0, _)]) (Nat.le_of_ble_eq_true rfl) rfl (incm1 (by omega)) rfl dJ6_getChars_ba4f3_92 ?_
                  refine k_iload C (i := 5) (p := 0) rfl dJ6_getChars_ba4f3_95 ?_
                  refine k_dig2 C f_J6_87 dJ6_getChars_ba4f3_97 (fun d4 hT4 => ?_)
                  refine k_iload_n C (f := 0) (i := 0) (p := 3) rfl rfl dJ6_getChars_ba4f3_100 ?_
                  refine k_ineg C dJ6_getChars_ba4f3_101 ?_
                  rw [negneg]
                  refine k_dald C hT4 rfl (by omega) rfl dJ6_getChars_ba4f3_102 ?_
                  refine k_bast C hb rfl (by omega) (by omega) dJ6_getChars_ba4f3_103 ?_
                  rw [(fit_nI _ (by omega)).2.2]
                  refine k_iload C (i := 6) (p := 1) rfl dJ6_getChars_ba4f3_104 ?_
                  first
                  | refine k_ifb_eq C (tgt := 118) (by decide) dJ6_getChars_ba4f3_106 (fun hc106 => ?_) (fun hc106 => ?_)
                  | refine k_if_eq C (tgt := 118) (by decide) dJ6_getChars_ba4f3_106 (fun hc106 => ?_) (fun hc106 => ?_)
                  · skip
                    refine k_iload C (i := 5) (p := 0) rfl dJ6_getChars_ba4f3_118 ?_
                    exact k_iret C (by show _ ≤ 0; (try dsimp only); omega) (by show _ ≤ 0; (try dsimp only); omega) (⟨rfl, rfl, ⟨_, rfl⟩, by
                      rcases hu with ⟨rfl, rfl, rfl⟩ | ⟨h1, h2, h3, h4, h5⟩
                      · have e : dg3 u = 2 := by unfold dg3; rw [if_neg (by omega), if_pos (by omega)]
                        exact gc_2 h9 (by omega) (by omega)
                      · exact absurd h9 (by omega)⟩) dJ6_getChars_ba4f3_120
                  · skip
                    first
                    | omega
                    | exact absurd hc106 (nI_ge (by omega) (by omega))
                    | exact absurd hc106 (by decide)
                    | exact absurd hc106 (nI_pos (by omega))
                    | exact absurd (nI_pos' (by omega)) hc106
                    | exact absurd rfl hc106
                    | exact absurd hc106 (nI_ne0 (by omega) (by omega))
                    | exact hc106 rfl
                    | contradiction
                    | exact absurd hc106 (nI_n101 (by omega))
                    | exact absurd hc106.symm (nI_n101 (by omega))
                    | (simp_all; done)
              · skip
                refine k_iload_n C (f := 0) (i := 0) (p := 3) rfl rfl dJ6_getChars_ba4f3_85 ?_
                refine k_bipush C bc_m9 dJ6_getChars_ba4f3_86 ?_
                rw [show (-9 : Int32) = -nI 9 from rfl]
                refine k_icmp_ge C (tgt := 104) (by decide) dJ6_getChars_ba4f3_88 (fun hc88 => ?_) (fun hc88 => ?_)
                · skip
                  refine k_iload C (i := 6) (p := 1) rfl dJ6_getChars_ba4f3_104 ?_
                  first
                  | refine k_ifb_eq C (tgt := 118) (by decide) dJ6_getChars_ba4f3_106 (fun hc106 => ?_) (fun hc106 => ?_)
                  | refine k_if_eq C (tgt := 118) (by decide) dJ6_getChars_ba4f3_106 (fun hc106 => ?_) (fun hc106 => ?_)
                  · skip
                    refine k_iload C (i := 5) (p := 0) rfl dJ6_getChars_ba4f3_118 ?_
                    exact k_iret C (by show _ ≤ 0; (try dsimp only); omega) (by show _ ≤ 0; (try dsimp only); omega) (⟨rfl, rfl, ⟨_, rfl⟩, by
                      rcases hu with ⟨rfl, rfl, rfl⟩ | ⟨h1, h2, h3, h4, h5⟩
                      · exact gc_1 (by omega) hp1
                      · subst h2
                        subst h3
                        subst h5
                        exact gc_3 h1 hv h4⟩) dJ6_getChars_ba4f3_120
                  · skip
                    first
                    | omega
                    | exact absurd hc106 (nI_ge (by omega) (by omega))
                    | exact absurd hc106 (by decide)
                    | exact absurd hc106 (nI_pos (by omega))
                    | exact absurd (nI_pos' (by omega)) hc106
                    | exact absurd rfl hc106
                    | exact absurd hc106 (nI_ne0 (by omega) (by omega))
                    | exact hc106 rfl
                    | contradiction
                    | exact absurd hc106 (nI_n101 (by omega))
                    | exact absurd hc106.symm (nI_n101 (by omega))
                    | (simp_all; done)
                · skip
                  exact absurd ((sb_nle (by omega) (by omega)).mpr (by omega)) hc88
            · skip
              exact absurd ((sb_nlt (by omega) (by omega)).mpr (by omega)) hc25
      refine k_sub [1, 2, 4, 0] rfl ?_
      exact loop22 (v + 1) v p I (Or.inl ⟨rfl, rfl, rfl⟩) (by omega)
  · skip
    exact absurd (nI_pos' (by omega)) hc4
set_option maxHeartbeats 4000000 in
set_option maxRecDepth 100000 in
theorem ct_J5_append_c97b9 {G : am_G} {Λ : am_L} {I : am_I} {J : am_J} {b v cap n : Nat} {tx : Nat → Nat} {v0 : Nat} (hsb : SbAt Λ I b v cap n tx) (hv : v0 < 1000) (hn9 : n + 3 ≤ 300) (hc7 : cap ≤ 700) : am_Ct G yJ5_append_c97b9 cJ5_append_c97b9 4 (some (.object "java/lang/AbstractStringBuilder")) { frames := 4, cells := 1, slots := 700, locals := 260 } [.ref b, .int (nI v0)] Λ I J (am_ap b v (n + dg3 v0) (sb_cat tx n (dx3 v0)) Λ I) am_never := by
  refine am_ct_of (own := RJ5) rfl (by decide) (Nat.le_of_ble_eq_true rfl) (fun X C => ?_)
  change am_K G X { frames := 4, cells := 1, slots := 700, locals := 260 } 4 Λ I J 0 0 0 [(0, .ref b), (1, .int (nI v0))] []
  have hdg := dg3_le v0
  refine k_aload_n C (f := 0) (i := 0) (p := 0) rfl rfl dJ5_append_c97b9_0 ?_
  refine k_getI C f_J5_79 hsb.1 (fun _ _ _ => rfl) (hsb.2.2.2.1) dJ5_append_c97b9_1 ?_
  refine k_istore_n C (f := 2) (i := 2) (lv := [(2, _), (0, _), (1, _)]) rfl (Nat.le_of_ble_eq_true rfl) rfl dJ5_append_c97b9_4 ?_
  refine k_iload_n C (f := 2) (i := 2) (p := 0) rfl rfl dJ5_append_c97b9_5 ?_
  refine k_iload_n C (f := 1) (i := 1) (p := 2) rfl rfl dJ5_append_c97b9_6 ?_
  refine k_callSq C s_J5_245 h_J6_stringSize_0f7a4 (ct_J6_stringSize_0f7a4 hv) rfl rfl (Nat.le_of_ble_eq_true rfl) ⟨Nat.le_of_ble_eq_true rfl, Nat.le_of_ble_eq_true rfl⟩ ⟨rfl, rfl⟩ ⟨by show _ ≤ 1; (try dsimp only); omega, by show _ ≤ 700; (try dsimp only); omega⟩ dJ5_append_c97b9_7 ?_
  refine k_iadd C dJ5_append_c97b9_10 ?_
  rw [nI_add]
  refine k_istore_n C (f := 3) (i := 3) (lv := [(3, _), (2, _), (0, _), (1, _)]) rfl (Nat.le_of_ble_eq_true rfl) rfl dJ5_append_c97b9_11 ?_
  refine k_aload_n C (f := 0) (i := 0) (p := 2) rfl rfl dJ5_append_c97b9_12 ?_
  refine k_iload_n C (f := 3) (i := 3) (p := 0) rfl rfl dJ5_append_c97b9_13 ?_
  refine k_callUl C s_J5_100 h_J5_ensureCapacityInternal_d00df (hsb.1) rfl (ct_J5_ensureCapacityInternal_d00df (m := n + dg3 v0) hsb (by omega) hc7) rfl rfl (Nat.le_of_ble_eq_true rfl) ⟨Nat.le_of_ble_eq_true rfl, Nat.le_of_ble_eq_true rfl⟩ ⟨rfl, rfl⟩ ⟨by show _ ≤ 1; (try dsimp only); omega, by show _ ≤ 700; (try dsimp only); omega⟩ dJ5_append_c97b9_14 ?_
  intro w0 Λ2 I2 J2 hv
  obtain ⟨rfl, hsk, hib, v2, cap2, hv2, hc2, hm2, hsb2⟩ := hv
  show am_K G X _ _ _ _ _ _ _ _ _ ([])
  refine k_aload_n C (f := 0) (i := 0) (p := 2) rfl rfl dJ5_append_c97b9_17 ?_
  refine k_callUq C s_J5_83 h_J5_isLatin1_aae02 (hsb2.1) rfl (ct_J5_isLatin1_aae02 hsb2) rfl rfl (Nat.le_of_ble_eq_true rfl) ⟨Nat.le_of_ble_eq_true rfl, Nat.le_of_ble_eq_true rfl⟩ ⟨rfl, rfl⟩ ⟨by show _ ≤ 1; (try dsimp only); omega, by show _ ≤ 700; (try dsimp only); omega⟩ dJ5_append_c97b9_18 ?_
  first
  | refine k_ifb_eq C (tgt := 37) (by decide) dJ5_append_c97b9_21 (fun hc21 => ?_) (fun hc21 => ?_)
  | refine k_if_eq C (tgt := 37) (by decide) dJ5_append_c97b9_21 (fun hc21 => ?_) (fun hc21 => ?_)
  · skip
    first
    | exact absurd hc21 (by decide)
    | exact absurd (by decide) hc21
  · skip
    refine k_iload_n C (f := 1) (i := 1) (p := 3) rfl rfl dJ5_append_c97b9_24 ?_
    refine k_iload_n C (f := 3) (i := 3) (p := 0) rfl rfl dJ5_append_c97b9_25 ?_
    refine k_aload_n C (f := 0) (i := 0) (p := 2) rfl rfl dJ5_append_c97b9_26 ?_
    refine k_getR C f_J5_15 hsb2.1 (fun _ _ _ => rfl) hsb2.2.1 dJ5_append_c97b9_27 ?_
    refine k_callSgq C s_J5_248 h_J6_getChars_ba4f3 (ct_J6_getChars_ba4f3 (p := n + dg3 v0) hv hsb2.2.2.2.2.2.1.1 hsb2.2.2.2.2.2.1.2.1 hm2 (by omega)) rfl rfl (Nat.le_of_ble_eq_true rfl) ⟨Nat.le_of_ble_eq_true rfl, Nat.le_of_ble_eq_true rfl⟩ ⟨rfl, rfl⟩ ⟨by show _ ≤ 1; (try dsimp only); omega, by show _ ≤ 700; (try dsimp only); omega⟩ dJ5_append_c97b9_30 ?_
    intro w1 I3 hv3
    obtain ⟨⟨z, rfl⟩, g1, g2, g3⟩ := hv3
    show am_K G X _ _ _ _ _ _ _ _ _ (.int z :: _)
    refine k_pop C rfl dJ5_append_c97b9_33 ?_
    refine k_goto C (tgt := 48) (by decide) dJ5_append_c97b9_34 ?_
    refine k_aload_n C (f := 0) (i := 0) (p := 2) rfl rfl dJ5_append_c97b9_48 ?_
    refine k_iload_n C (f := 3) (i := 3) (p := 0) rfl rfl dJ5_append_c97b9_49 ?_
    refine k_putI C f_J5_79 hsb2.1 rfl rfl dJ5_append_c97b9_50 ?_
    refine k_aload_n C (f := 0) (i := 0) (p := 2) rfl rfl dJ5_append_c97b9_53 ?_
    exact k_aret C (by first | exact Or.inl ⟨_, rfl⟩ | exact Or.inr ⟨_, rfl⟩) (by show _ ≤ 1; (try dsimp only); omega) (by show _ ≤ 700; (try dsimp only); omega) (ap_end (w := dg3 v0) (sx := dx3 v0) hsk hv2 hc2 hsb2 hm2 (fun a h1 h2 => (am_up_ne h1).trans (g1 a h2)) (funext fun j => by
      have hbv : b ≠ v2 := fun e => by have e1 := hsb2.1; rw [e, hsb2.2.2.2.2.2.1.1] at e1; cases e1
      simp [am_up, g1 b hbv]) (fun j hj => by rw [am_up_ne (fun e => by have e1 := hsb2.2.2.2.2.2.1.1; rw [e, hsb2.1] at e1; cases e1)]; exact g2 j (by omega)) (fun i hi => ⟨dx3_lt hv i, by rw [am_up_ne (fun e => by have e1 := hsb2.2.2.2.2.2.1.1; rw [e, hsb2.1] at e1; cases e1)]; have := g3 i hi; rw [show n + dg3 v0 - dg3 v0 = n by omega] at this; exact this⟩)) dJ5_append_c97b9_54
set_option maxHeartbeats 4000000 in
set_option maxRecDepth 100000 in
theorem ct_J4_append_bf812 {G : am_G} {Λ : am_L} {I : am_I} {J : am_J} {b v cap n : Nat} {tx : Nat → Nat} {v0 : Nat} (hsb : SbAt Λ I b v cap n tx) (hv : v0 < 1000) (hn9 : n + 3 ≤ 300) (hc7 : cap ≤ 700) : am_Ct G yJ4_append_bf812 cJ4_append_bf812 2 (some (.object "java/lang/StringBuilder")) { frames := 5, cells := 1, slots := 700, locals := 340 } [.ref b, .int (nI v0)] Λ I J (am_ap b v (n + dg3 v0) (sb_cat tx n (dx3 v0)) Λ I) am_never := by
  refine am_ct_of (own := RJ4) rfl (by decide) (Nat.le_of_ble_eq_true rfl) (fun X C => ?_)
  change am_K G X { frames := 5, cells := 1, slots := 700, locals := 340 } 2 Λ I J 0 0 0 [(0, .ref b), (1, .int (nI v0))] []
  refine k_aload_n C (f := 0) (i := 0) (p := 0) rfl rfl dJ4_append_bf812_0 ?_
  refine k_iload_n C (f := 1) (i := 1) (p := 1) rfl rfl dJ4_append_bf812_1 ?_
  refine k_callPl C s_J4_53 h_J5_append_c97b9 (hsb.1) rfl (by decide) (ct_J5_append_c97b9 hsb hv hn9 hc7) rfl rfl (Nat.le_of_ble_eq_true rfl) ⟨Nat.le_of_ble_eq_true rfl, Nat.le_of_ble_eq_true rfl⟩ ⟨rfl, rfl⟩ ⟨by show _ ≤ 1; (try dsimp only); omega, by show _ ≤ 700; (try dsimp only); omega⟩ dJ4_append_bf812_2 ?_
  intro w0 Λ2 I2 J2 hv
  obtain ⟨rfl, hv⟩ := hv
  show am_K G X _ _ _ _ _ _ _ _ _ (.ref b :: [])
  refine k_pop C rfl dJ4_append_bf812_5 ?_
  refine k_aload_n C (f := 0) (i := 0) (p := 0) rfl rfl dJ4_append_bf812_6 ?_
  exact k_aret C (by first | exact Or.inl ⟨_, rfl⟩ | exact Or.inr ⟨_, rfl⟩) (by show _ ≤ 1; (try dsimp only); omega) (by show _ ≤ 700; (try dsimp only); omega) (⟨rfl, hv⟩) dJ4_append_bf812_7
