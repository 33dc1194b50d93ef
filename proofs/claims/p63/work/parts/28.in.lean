set_option maxHeartbeats 4000000 in
set_option maxRecDepth 100000 in
theorem ct_X2_stepOverWord {G : am_G} {Λ : am_L} {I : am_I} {J : am_J} {i n : Nat} {tb : Nat → Nat} {k : Nat} (hi : InLay Λ i) (hx : InTxt I i tb n) (hk : k ≤ n) (h5 : I i 5 = nI k) : am_Ct G yX2_stepOverWord cX2_stepOverWord 1 none { frames := 0, cells := 0, slots := 0, locals := 0 } [.ref i] Λ I J (am_gen Λ J (fun v I' => v = none ∧ I' i 5 = nI (sp_end sp_isA tb n k) ∧ I' i 3 = nI 1 ∧ ∀ b K : Nat, ¬ (b = i ∧ (K = 3 ∨ K = 5)) → I' b K = I b K)) am_never := by
  refine am_ct_of (own := RX2) rfl (by decide) (Nat.le_of_ble_eq_true rfl) (fun X C => ?_)
  change am_K G X { frames := 0, cells := 0, slots := 0, locals := 0 } 1 Λ I J 0 0 0 [(0, .ref i)] []
  have loop0 : ∀ (f : Nat) (e : Nat) (I1 : am_I), (e ≤ n) → (I1 i 5 = nI e) → (sp_end sp_isA tb n k = sp_end sp_isA tb n e) → (∀ b K : Nat, ¬ (b = i ∧ K = 5) → I1 b K = I b K) → (n - e) < f → am_K G X { frames := 0, cells := 0, slots := 0, locals := 0 } 1 Λ I1 J 0 0 0 [(0, .ref i)] [] := by
    intro f
    induction f with
    | zero => intro e I1 he h51 hE hg1 hf; exact absurd hf (Nat.not_lt_zero _)
    | succ f ih0 =>
      intro e I1 he h51 hE hg1 hf
      have hf1 : InFr i I I1 := fun b K hb => hg1 b K (fun z => hb (by omega))
      have hx1 := hx.fr hf1
      have hn := hx.2.1
      have e1 := hx1.1
      refine k_aload_n C (f := 0) (i := 0) (p := 0) rfl rfl dX2_stepOverWord_0 ?_
      refine k_getI C f_X2_44 (L2_s (by assumption)) (fun _ _ _ => rfl) (by first | assumption | rfl) dX2_stepOverWord_1 ?_
      refine k_aload_n C (f := 0) (i := 0) (p := 0) rfl rfl dX2_stepOverWord_4 ?_
      refine k_getI C f_X2_41 (L2_s (by assumption)) (fun _ _ _ => rfl) (by first | assumption | rfl) dX2_stepOverWord_5 ?_
      first
      | refine k_icmpN_ge C (tgt := 52) (by omega) (by omega) (by decide) dX2_stepOverWord_8 (fun hc8 => ?_) (fun hc8 => ?_)
      | refine k_icmp_ge C (tgt := 52) (by decide) dX2_stepOverWord_8 (fun hc8 => ?_) (fun hc8 => ?_)
      · skip
        refine k_aload_n C (f := 0) (i := 0) (p := 0) rfl rfl dX2_stepOverWord_52 ?_
        refine k_iconst C ic_1 dX2_stepOverWord_53 ?_
        refine k_putI C f_X2_69 (L2_s (by assumption)) rfl rfl dX2_stepOverWord_54 ?_
        exact k_vret C (Nat.le_of_ble_eq_true rfl) (Nat.le_of_ble_eq_true rfl) (⟨rfl, rfl, ⟨rfl, by rw [am_up_n2 (by omega), h51, hE, sp_end_f (fun z => by have := sp_isA_iff.mp z.2; omega)], am_up_eq, fun b K hb => by rw [am_up_n2 (by omega)]; exact hg1 b K (by omega)⟩⟩) dX2_stepOverWord_57
      · skip
        refine k_aload_n C (f := 0) (i := 0) (p := 0) rfl rfl dX2_stepOverWord_11 ?_
        refine k_getR C f_X2_9 (L2_s (by assumption)) (fun _ _ _ => rfl) (L2_0 (by assumption)) dX2_stepOverWord_12 ?_
        refine k_aload_n C (f := 0) (i := 0) (p := 0) rfl rfl dX2_stepOverWord_15 ?_
        refine k_getI C f_X2_44 (L2_s (by assumption)) (fun _ _ _ => rfl) (by first | assumption | rfl) dX2_stepOverWord_16 ?_
        refine k_bald C (A2_0 (by assumption)) (by first | rfl | assumption) (by omega) (by decide) ((hx1.2.2 e (by omega)).1) dX2_stepOverWord_19 ?_
        refine k_bipush C bc_97 dX2_stepOverWord_20 ?_
        refine k_icmp_lt C (tgt := 52) (by decide) dX2_stepOverWord_22 (fun hc22 => ?_) (fun hc22 => ?_)
        · skip
          have hb := (hx1.2.2 e (by omega)).2
          have hc := (sp_sbl hb (by decide)).mp hc22
          refine k_aload_n C (f := 0) (i := 0) (p := 0) rfl rfl dX2_stepOverWord_52 ?_
          refine k_iconst C ic_1 dX2_stepOverWord_53 ?_
          refine k_putI C f_X2_69 (L2_s (by assumption)) rfl rfl dX2_stepOverWord_54 ?_
          exact k_vret C (Nat.le_of_ble_eq_true rfl) (Nat.le_of_ble_eq_true rfl) (⟨rfl, rfl, ⟨rfl, by rw [am_up_n2 (by omega), h51, hE, sp_end_f (fun z => by have := sp_isA_iff.mp z.2; omega)], am_up_eq, fun b K hb => by rw [am_up_n2 (by omega)]; exact hg1 b K (by omega)⟩⟩) dX2_stepOverWord_57
        · skip
          have hb := (hx1.2.2 e (by omega)).2
          have hc := mt (sp_sbl hb (by decide)).mpr hc22
          refine k_aload_n C (f := 0) (i := 0) (p := 0) rfl rfl dX2_stepOverWord_25 ?_
          refine k_getR C f_X2_9 (L2_s (by assumption)) (fun _ _ _ => rfl) (L2_0 (by assumption)) dX2_stepOverWord_26 ?_
          refine k_aload_n C (f := 0) (i := 0) (p := 0) rfl rfl dX2_stepOverWord_29 ?_
          refine k_getI C f_X2_44 (L2_s (by assumption)) (fun _ _ _ => rfl) (by first | assumption | rfl) dX2_stepOverWord_30 ?_
          refine k_bald C (A2_0 (by assumption)) (by first | rfl | assumption) (by omega) (by decide) ((hx1.2.2 e (by omega)).1) dX2_stepOverWord_33 ?_
          refine k_bipush C bc_122 dX2_stepOverWord_34 ?_
          refine k_icmp_gt C (tgt := 52) (by decide) dX2_stepOverWord_36 (fun hc36 => ?_) (fun hc36 => ?_)
          · skip
            have hd := (sp_sbg hb (by decide)).mp hc36
            refine k_aload_n C (f := 0) (i := 0) (p := 0) rfl rfl dX2_stepOverWord_52 ?_
            refine k_iconst C ic_1 dX2_stepOverWord_53 ?_
            refine k_putI C f_X2_69 (L2_s (by assumption)) rfl rfl dX2_stepOverWord_54 ?_
            exact k_vret C (Nat.le_of_ble_eq_true rfl) (Nat.le_of_ble_eq_true rfl) (⟨rfl, rfl, ⟨rfl, by rw [am_up_n2 (by omega), h51, hE, sp_end_f (fun z => by have := sp_isA_iff.mp z.2; omega)], am_up_eq, fun b K hb => by rw [am_up_n2 (by omega)]; exact hg1 b K (by omega)⟩⟩) dX2_stepOverWord_57
          · skip
            have hd := mt (sp_sbg hb (by decide)).mpr hc36
            refine k_aload_n C (f := 0) (i := 0) (p := 0) rfl rfl dX2_stepOverWord_39 ?_
            refine k_dup C rfl dX2_stepOverWord_40 ?_
            refine k_getI C f_X2_44 (L2_s (by assumption)) (fun _ _ _ => rfl) (by first | assumption | rfl) dX2_stepOverWord_41 ?_
            refine k_iconst C ic_1 dX2_stepOverWord_44 ?_
            refine k_iadd C dX2_stepOverWord_45 ?_
            refine k_putI C f_X2_44 (L2_s (by assumption)) rfl rfl dX2_stepOverWord_46 ?_
            refine k_goto C (tgt := 0) (by decide) dX2_stepOverWord_49 ?_
            refine k_sub [0] rfl ?_
            exact ih0 (e + 1) _ (by omega) (by rw [am_up_eq, nI_add1]) (hE.trans (sp_end_t ⟨by omega, sp_isA_iff.mpr ⟨by omega, by omega⟩⟩)) (fun b K hb => by rw [am_up_n2 hb]; exact hg1 b K hb) (by omega)
  refine k_sub [0] rfl ?_
  exact loop0 (n + 1) k I hk h5 rfl (fun _ _ _ => rfl) (by omega)
set_option maxHeartbeats 4000000 in
set_option maxRecDepth 100000 in
theorem ct_X2_stepOverNumber {G : am_G} {Λ : am_L} {I : am_I} {J : am_J} {i n : Nat} {tb : Nat → Nat} {st : Nat} (hi : InLay Λ i) (hx : InTxt I i tb n) (hk : st ≤ n) (h4 : I i 4 = nI st) (h5 : I i 5 = nI st) : am_Ct G yX2_stepOverNumber cX2_stepOverNumber 2 none { frames := 0, cells := 0, slots := 0, locals := 0 } [.ref i] Λ I J (am_gen Λ J (fun v I' => v = none ∧ I' i 5 = nI (sp_end sp_isD tb n st) ∧ I' i 3 = nI (if sp_end sp_isD tb n st - st ≤ 3 then 2 else 4) ∧ I' i 6 = nI (sp_val tb st (min 3 (sp_end sp_isD tb n st - st))) ∧ ∀ b K : Nat, ¬ (b = i ∧ (K = 3 ∨ K = 5 ∨ K = 6)) → I' b K = I b K)) am_never := by
  refine am_ct_of (own := RX2) rfl (by decide) (Nat.le_of_ble_eq_true rfl) (fun X C => ?_)
  change am_K G X { frames := 0, cells := 0, slots := 0, locals := 0 } 2 Λ I J 0 0 0 [(0, .ref i)] []
  refine k_iconst C ic_0 dX2_stepOverNumber_0 ?_
  refine k_istore_n C (f := 1) (i := 1) (lv := [(1, _), (0, _)]) rfl (Nat.le_of_ble_eq_true rfl) rfl dX2_stepOverNumber_1 ?_
  have loop2 : ∀ (f : Nat) (e : Nat) (I1 : am_I) (su : Int32), (e ≤ n) → (st ≤ e) → (I1 i 5 = nI e) → (sp_end sp_isD tb n st = sp_end sp_isD tb n e) → (su = nI (sp_val tb st (min 3 (e - st)))) → (∀ b K : Nat, ¬ (b = i ∧ K = 5) → I1 b K = I b K) → (n - e) < f → am_K G X { frames := 0, cells := 0, slots := 0, locals := 0 } 2 Λ I1 J 0 0 2 [(0, .ref i), (1, .int su)] [] := by
    intro f
    induction f with
    | zero => intro e I1 su he hse h51 hE hsu hg1 hf; exact absurd hf (Nat.not_lt_zero _)
    | succ f ih2 =>
      intro e I1 su he hse h51 hE hsu hg1 hf
      have hf1 : InFr i I I1 := fun b K hb => hg1 b K (fun z => hb (by omega))
      have h41 : I1 i 4 = nI st := (hg1 i 4 (by omega)).trans h4
      have hx1 := hx.fr hf1
      have hn := hx.2.1
      have e1 := hx1.1
      refine k_aload_n C (f := 0) (i := 0) (p := 0) rfl rfl dX2_stepOverNumber_2 ?_
      refine k_getI C f_X2_44 (L2_s (by assumption)) (fun _ _ _ => rfl) (by first | assumption | rfl) dX2_stepOverNumber_3 ?_
      refine k_aload_n C (f := 0) (i := 0) (p := 0) rfl rfl dX2_stepOverNumber_6 ?_
      refine k_getI C f_X2_41 (L2_s (by assumption)) (fun _ _ _ => rfl) (by first | assumption | rfl) dX2_stepOverNumber_7 ?_
      first
      | refine k_icmpN_ge C (tgt := 89) (by omega) (by omega) (by decide) dX2_stepOverNumber_10 (fun hc10 => ?_) (fun hc10 => ?_)
      | refine k_icmp_ge C (tgt := 89) (by decide) dX2_stepOverNumber_10 (fun hc10 => ?_) (fun hc10 => ?_)
      · skip
        refine k_aload_n C (f := 0) (i := 0) (p := 0) rfl rfl dX2_stepOverNumber_89 ?_
        refine k_aload_n C (f := 0) (i := 0) (p := 0) rfl rfl dX2_stepOverNumber_90 ?_
        refine k_getI C f_X2_44 (L2_s (by assumption)) (fun _ _ _ => rfl) (by first | assumption | rfl) dX2_stepOverNumber_91 ?_
        refine k_aload_n C (f := 0) (i := 0) (p := 0) rfl rfl dX2_stepOverNumber_94 ?_
        refine k_getI C f_X2_72 (L2_s (by assumption)) (fun _ _ _ => rfl) (by first | assumption | rfl) dX2_stepOverNumber_95 ?_
        refine k_isub C dX2_stepOverNumber_98 ?_
        rw [pk_sub hse]
        refine k_iconst C ic_3 dX2_stepOverNumber_99 ?_
        first
        | refine k_icmpN_gt C (tgt := 107) (by omega) (by omega) (by decide) dX2_stepOverNumber_100 (fun hc100 => ?_) (fun hc100 => ?_)
        | refine k_icmp_gt C (tgt := 107) (by decide) dX2_stepOverNumber_100 (fun hc100 => ?_) (fun hc100 => ?_)
        · skip
          refine k_iconst C ic_4 dX2_stepOverNumber_107 ?_
          refine k_putI C f_X2_69 (L2_s (by assumption)) rfl rfl dX2_stepOverNumber_108 ?_
          refine k_aload_n C (f := 0) (i := 0) (p := 0) rfl rfl dX2_stepOverNumber_111 ?_
          refine k_iload_n C (f := 1) (i := 1) (p := 1) rfl rfl dX2_stepOverNumber_112 ?_
          refine k_putI C f_X2_112 (L2_s (by assumption)) rfl rfl dX2_stepOverNumber_113 ?_
          exact k_vret C (Nat.le_of_ble_eq_true rfl) (Nat.le_of_ble_eq_true rfl) (⟨rfl, rfl, by
            have hee : sp_end sp_isD tb n st = e := by rw [hE, sp_end_f (fun z => by have := sp_isD_iff.mp z.2; omega)]
            refine ⟨rfl, by rw [am_up_n2 (by omega), am_up_n2 (by omega), h51, hee], ?_, by rw [am_up_eq, hee]; exact hsu, fun b K hb => by rw [am_up_n2 (by omega), am_up_n2 (by omega)]; exact hg1 b K (by omega)⟩
            rw [am_up_n2 (by omega), am_up_eq, hee]
            first
            | rw [if_pos (by omega)]
            | rw [if_neg (by omega)]⟩) dX2_stepOverNumber_116
        · skip
          refine k_iconst C ic_2 dX2_stepOverNumber_103 ?_
          refine k_goto C (tgt := 108) (by decide) dX2_stepOverNumber_104 ?_
          refine k_putI C f_X2_69 (L2_s (by assumption)) rfl rfl dX2_stepOverNumber_108 ?_
          refine k_aload_n C (f := 0) (i := 0) (p := 0) rfl rfl dX2_stepOverNumber_111 ?_
          refine k_iload_n C (f := 1) (i := 1) (p := 1) rfl rfl dX2_stepOverNumber_112 ?_
          refine k_putI C f_X2_112 (L2_s (by assumption)) rfl rfl dX2_stepOverNumber_113 ?_
          exact k_vret C (Nat.le_of_ble_eq_true rfl) (Nat.le_of_ble_eq_true rfl) (⟨rfl, rfl, by
            have hee : sp_end sp_isD tb n st = e := by rw [hE, sp_end_f (fun z => by have := sp_isD_iff.mp z.2; omega)]
            refine ⟨rfl, by rw [am_up_n2 (by omega), am_up_n2 (by omega), h51, hee], ?_, by rw [am_up_eq, hee]; exact hsu, fun b K hb => by rw [am_up_n2 (by omega), am_up_n2 (by omega)]; exact hg1 b K (by omega)⟩
            rw [am_up_n2 (by omega), am_up_eq, hee]
            first
            | rw [if_pos (by omega)]
            | rw [if_neg (by omega)]⟩) dX2_stepOverNumber_116
      · skip
        refine k_aload_n C (f := 0) (i := 0) (p := 0) rfl rfl dX2_stepOverNumber_13 ?_
        refine k_getR C f_X2_9 (L2_s (by assumption)) (fun _ _ _ => rfl) (L2_0 (by assumption)) dX2_stepOverNumber_14 ?_
        refine k_aload_n C (f := 0) (i := 0) (p := 0) rfl rfl dX2_stepOverNumber_17 ?_
        refine k_getI C f_X2_44 (L2_s (by assumption)) (fun _ _ _ => rfl) (by first | assumption | rfl) dX2_stepOverNumber_18 ?_
        refine k_bald C (A2_0 (by assumption)) (by first | rfl | assumption) (by omega) (by decide) ((hx1.2.2 e (by omega)).1) dX2_stepOverNumber_21 ?_
        refine k_bipush C bc_48 dX2_stepOverNumber_22 ?_
        refine k_icmp_lt C (tgt := 89) (by decide) dX2_stepOverNumber_24 (fun hc24 => ?_) (fun hc24 => ?_)
        · skip
          have hb := (hx1.2.2 e (by omega)).2
          have hc := (sp_sbl hb (by decide)).mp hc24
          refine k_aload_n C (f := 0) (i := 0) (p := 0) rfl rfl dX2_stepOverNumber_89 ?_
          refine k_aload_n C (f := 0) (i := 0) (p := 0) rfl rfl dX2_stepOverNumber_90 ?_
          refine k_getI C f_X2_44 (L2_s (by assumption)) (fun _ _ _ => rfl) (by first | assumption | rfl) dX2_stepOverNumber_91 ?_
          refine k_aload_n C (f := 0) (i := 0) (p := 0) rfl rfl dX2_stepOverNumber_94 ?_
          refine k_getI C f_X2_72 (L2_s (by assumption)) (fun _ _ _ => rfl) (by first | assumption | rfl) dX2_stepOverNumber_95 ?_
          refine k_isub C dX2_stepOverNumber_98 ?_
          rw [pk_sub hse]
          refine k_iconst C ic_3 dX2_stepOverNumber_99 ?_
          first
          | refine k_icmpN_gt C (tgt := 107) (by omega) (by omega) (by decide) dX2_stepOverNumber_100 (fun hc100 => ?_) (fun hc100 => ?_)
          | refine k_icmp_gt C (tgt := 107) (by decide) dX2_stepOverNumber_100 (fun hc100 => ?_) (fun hc100 => ?_)
          · skip
            refine k_iconst C ic_4 dX2_stepOverNumber_107 ?_
            refine k_putI C f_X2_69 (L2_s (by assumption)) rfl rfl dX2_stepOverNumber_108 ?_
            refine k_aload_n C (f := 0) (i := 0) (p := 0) rfl rfl dX2_stepOverNumber_111 ?_
            refine k_iload_n C (f := 1) (i := 1) (p := 1) rfl rfl dX2_stepOverNumber_112 ?_
            refine k_putI C f_X2_112 (L2_s (by assumption)) rfl rfl dX2_stepOverNumber_113 ?_
            exact k_vret C (Nat.le_of_ble_eq_true rfl) (Nat.le_of_ble_eq_true rfl) (⟨rfl, rfl, by
              have hee : sp_end sp_isD tb n st = e := by rw [hE, sp_end_f (fun z => by have := sp_isD_iff.mp z.2; omega)]
              refine ⟨rfl, by rw [am_up_n2 (by omega), am_up_n2 (by omega), h51, hee], ?_, by rw [am_up_eq, hee]; exact hsu, fun b K hb => by rw [am_up_n2 (by omega), am_up_n2 (by omega)]; exact hg1 b K (by omega)⟩
              rw [am_up_n2 (by omega), am_up_eq, hee]
              first
              | rw [if_pos (by omega)]
              | rw [if_neg (by omega)]⟩) dX2_stepOverNumber_116
          · skip
            refine k_iconst C ic_2 dX2_stepOverNumber_103 ?_
            refine k_goto C (tgt := 108) (by decide) dX2_stepOverNumber_104 ?_
            refine k_putI C f_X2_69 (L2_s (by assumption)) rfl rfl dX2_stepOverNumber_108 ?_
            refine k_aload_n C (f := 0) (i := 0) (p := 0) rfl rfl dX2_stepOverNumber_111 ?_
            refine k_iload_n C (f := 1) (i := 1) (p := 1) rfl rfl dX2_stepOverNumber_112 ?_
            refine k_putI C f_X2_112 (L2_s (by assumption)) rfl rfl dX2_stepOverNumber_113 ?_
            exact k_vret C (Nat.le_of_ble_eq_true rfl) (Nat.le_of_ble_eq_true rfl) (⟨rfl, rfl, by
              have hee : sp_end sp_isD tb n st = e := by rw [hE, sp_end_f (fun z => by have := sp_isD_iff.mp z.2; omega)]
              refine ⟨rfl, by rw [am_up_n2 (by omega), am_up_n2 (by omega), h51, hee], ?_, by rw [am_up_eq, hee]; exact hsu, fun b K hb => by rw [am_up_n2 (by omega), am_up_n2 (by omega)]; exact hg1 b K (by omega)⟩
              rw [am_up_n2 (by omega), am_up_eq, hee]
              first
              | rw [if_pos (by omega)]
              | rw [if_neg (by omega)]⟩) dX2_stepOverNumber_116
        · skip
          have hb := (hx1.2.2 e (by omega)).2
          have hc := mt (sp_sbl hb (by decide)).mpr hc24
          refine k_aload_n C (f := 0) (i := 0) (p := 0) rfl rfl dX2_stepOverNumber_27 ?_
          refine k_getR C f_X2_9 (L2_s (by assumption)) (fun _ _ _ => rfl) (L2_0 (by assumption)) dX2_stepOverNumber_28 ?_
          refine k_aload_n C (f := 0) (i := 0) (p := 0) rfl rfl dX2_stepOverNumber_31 ?_
          refine k_getI C f_X2_44 (L2_s (by assumption)) (fun _ _ _ => rfl) (by first | assumption | rfl) dX2_stepOverNumber_32 ?_
          refine k_bald C (A2_0 (by assumption)) (by first | rfl | assumption) (by omega) (by decide) ((hx1.2.2 e (by omega)).1) dX2_stepOverNumber_35 ?_
          refine k_bipush C bc_57 dX2_stepOverNumber_36 ?_
          refine k_icmp_gt C (tgt := 89) (by decide) dX2_stepOverNumber_38 (fun hc38 => ?_) (fun hc38 => ?_)
          · skip
            have hd := (sp_sbg hb (by decide)).mp hc38
            refine k_aload_n C (f := 0) (i := 0) (p := 0) rfl rfl dX2_stepOverNumber_89 ?_
            refine k_aload_n C (f := 0) (i := 0) (p := 0) rfl rfl dX2_stepOverNumber_90 ?_
            refine k_getI C f_X2_44 (L2_s (by assumption)) (fun _ _ _ => rfl) (by first | assumption | rfl) dX2_stepOverNumber_91 ?_
            refine k_aload_n C (f := 0) (i := 0) (p := 0) rfl rfl dX2_stepOverNumber_94 ?_
            refine k_getI C f_X2_72 (L2_s (by assumption)) (fun _ _ _ => rfl) (by first | assumption | rfl) dX2_stepOverNumber_95 ?_
            refine k_isub C dX2_stepOverNumber_98 ?_
            rw [pk_sub hse]
            refine k_iconst C ic_3 dX2_stepOverNumber_99 ?_
            first
            | refine k_icmpN_gt C (tgt := 107) (by omega) (by omega) (by decide) dX2_stepOverNumber_100 (fun hc100 => ?_) (fun hc100 => ?_)
            | refine k_icmp_gt C (tgt := 107) (by decide) dX2_stepOverNumber_100 (fun hc100 => ?_) (fun hc100 => ?_)
            · skip
              refine k_iconst C ic_4 dX2_stepOverNumber_107 ?_
              refine k_putI C f_X2_69 (L2_s (by assumption)) rfl rfl dX2_stepOverNumber_108 ?_
              refine k_aload_n C (f := 0) (i := 0) (p := 0) rfl rfl dX2_stepOverNumber_111 ?_
              refine k_iload_n C (f := 1) (i := 1) (p := 1) rfl rfl dX2_stepOverNumber_112 ?_
              refine k_putI C f_X2_112 (L2_s (by assumption)) rfl rfl dX2_stepOverNumber_113 ?_
              exact k_vret C (Nat.le_of_ble_eq_true rfl) (Nat.le_of_ble_eq_true rfl) (⟨rfl, rfl, by
                have hee : sp_end sp_isD tb n st = e := by rw [hE, sp_end_f (fun z => by have := sp_isD_iff.mp z.2; omega)]
                refine ⟨rfl, by rw [am_up_n2 (by omega), am_up_n2 (by omega), h51, hee], ?_, by rw [am_up_eq, hee]; exact hsu, fun b K hb => by rw [am_up_n2 (by omega), am_up_n2 (by omega)]; exact hg1 b K (by omega)⟩
                rw [am_up_n2 (by omega), am_up_eq, hee]
                first
                | rw [if_pos (by omega)]
                | rw [if_neg (by omega)]⟩) dX2_stepOverNumber_116
            · skip
              refine k_iconst C ic_2 dX2_stepOverNumber_103 ?_
              refine k_goto C (tgt := 108) (by decide) dX2_stepOverNumber_104 ?_
              refine k_putI C f_X2_69 (L2_s (by assumption)) rfl rfl dX2_stepOverNumber_108 ?_
              refine k_aload_n C (f := 0) (i := 0) (p := 0) rfl rfl dX2_stepOverNumber_111 ?_
              refine k_iload_n C (f := 1) (i := 1) (p := 1) rfl rfl dX2_stepOverNumber_112 ?_
              refine k_putI C f_X2_112 (L2_s (by assumption)) rfl rfl dX2_stepOverNumber_113 ?_
              exact k_vret C (Nat.le_of_ble_eq_true rfl) (Nat.le_of_ble_eq_true rfl) (⟨rfl, rfl, by
                have hee : sp_end sp_isD tb n st = e := by rw [hE, sp_end_f (fun z => by have := sp_isD_iff.mp z.2; omega)]
                refine ⟨rfl, by rw [am_up_n2 (by omega), am_up_n2 (by omega), h51, hee], ?_, by rw [am_up_eq, hee]; exact hsu, fun b K hb => by rw [am_up_n2 (by omega), am_up_n2 (by omega)]; exact hg1 b K (by omega)⟩
                rw [am_up_n2 (by omega), am_up_eq, hee]
                first
                | rw [if_pos (by omega)]
                | rw [if_neg (by omega)]⟩) dX2_stepOverNumber_116
          · skip
            have hd := mt (sp_sbg hb (by decide)).mpr hc38
            refine k_aload_n C (f := 0) (i := 0) (p := 0) rfl rfl dX2_stepOverNumber_41 ?_
            refine k_getI C f_X2_44 (L2_s (by assumption)) (fun _ _ _ => rfl) (by first | assumption | rfl) dX2_stepOverNumber_42 ?_
            refine k_aload_n C (f := 0) (i := 0) (p := 0) rfl rfl dX2_stepOverNumber_45 ?_
            refine k_getI C f_X2_72 (L2_s (by assumption)) (fun _ _ _ => rfl) (by first | assumption | rfl) dX2_stepOverNumber_46 ?_
            refine k_isub C dX2_stepOverNumber_49 ?_
            refine k_iconst C ic_3 dX2_stepOverNumber_50 ?_
            rw [pk_sub hse]
            first
            | refine k_icmpN_ge C (tgt := 74) (by omega) (by omega) (by decide) dX2_stepOverNumber_51 (fun hc51 => ?_) (fun hc51 => ?_)
            | refine k_icmp_ge C (tgt := 74) (by decide) dX2_stepOverNumber_51 (fun hc51 => ?_) (fun hc51 => ?_)
            · skip
              refine k_iload_n C (f := 1) (i := 1) (p := 1) rfl rfl dX2_stepOverNumber_74 ?_
              refine k_istore_n C (f := 1) (i := 1) (lv := [(1, _), (0, _)]) rfl (Nat.le_of_ble_eq_true rfl) rfl dX2_stepOverNumber_75 ?_
              refine k_aload_n C (f := 0) (i := 0) (p := 1) rfl rfl dX2_stepOverNumber_76 ?_
              refine k_dup C rfl dX2_stepOverNumber_77 ?_
              refine k_getI C f_X2_44 (L2_s (by assumption)) (fun _ _ _ => rfl) (by first | assumption | rfl) dX2_stepOverNumber_78 ?_
              refine k_iconst C ic_1 dX2_stepOverNumber_81 ?_
              refine k_iadd C dX2_stepOverNumber_82 ?_
              refine k_putI C f_X2_44 (L2_s (by assumption)) rfl rfl dX2_stepOverNumber_83 ?_
              refine k_goto C (tgt := 2) (by decide) dX2_stepOverNumber_86 ?_
              refine k_sub [1, 0] rfl ?_
              first
              | exact ih2 (e + 1) _ _ (by omega) (by omega) (by rw [am_up_eq, nI_add1]) (hE.trans (sp_end_t ⟨by omega, sp_isD_iff.mpr ⟨by omega, by omega⟩⟩)) (by
                  rw [hsu, sp_sb_lo (by omega), pk_sub (by omega), pk_mul, nI_add, show min 3 (e + 1 - st) = (e - st) + 1 by omega, show min 3 (e - st) = e - st by omega]
                  simp only [sp_val]
                  rw [show st + (e - st) = e by omega]) (fun b K hb => by rw [am_up_n2 hb]; exact hg1 b K hb) (by omega)
              | exact ih2 (e + 1) _ _ (by omega) (by omega) (by rw [am_up_eq, nI_add1]) (hE.trans (sp_end_t ⟨by omega, sp_isD_iff.mpr ⟨by omega, by omega⟩⟩)) (by rw [hsu, show min 3 (e + 1 - st) = 3 by omega, show min 3 (e - st) = 3 by omega]) (fun b K hb => by rw [am_up_n2 hb]; exact hg1 b K hb) (by omega)
            · skip
              refine k_iload_n C (f := 1) (i := 1) (p := 1) rfl rfl dX2_stepOverNumber_54 ?_
              refine k_bipush C bc_10 dX2_stepOverNumber_55 ?_
              refine k_imul C dX2_stepOverNumber_57 ?_
              refine k_aload_n C (f := 0) (i := 0) (p := 0) rfl rfl dX2_stepOverNumber_58 ?_
              refine k_getR C f_X2_9 (L2_s (by assumption)) (fun _ _ _ => rfl) (L2_0 (by assumption)) dX2_stepOverNumber_59 ?_
              refine k_aload_n C (f := 0) (i := 0) (p := 0) rfl rfl dX2_stepOverNumber_62 ?_
              refine k_getI C f_X2_44 (L2_s (by assumption)) (fun _ _ _ => rfl) (by first | assumption | rfl) dX2_stepOverNumber_63 ?_
              refine k_bald C (A2_0 (by assumption)) (by first | rfl | assumption) (by omega) (by decide) ((hx1.2.2 e (by omega)).1) dX2_stepOverNumber_66 ?_
              refine k_bipush C bc_48 dX2_stepOverNumber_67 ?_
              refine k_isub C dX2_stepOverNumber_69 ?_
              refine k_iadd C dX2_stepOverNumber_70 ?_
              refine k_goto C (tgt := 75) (by decide) dX2_stepOverNumber_71 ?_
              refine k_istore_n C (f := 1) (i := 1) (lv := [(1, _), (0, _)]) rfl (Nat.le_of_ble_eq_true rfl) rfl dX2_stepOverNumber_75 ?_
              refine k_aload_n C (f := 0) (i := 0) (p := 1) rfl rfl dX2_stepOverNumber_76 ?_
              refine k_dup C rfl dX2_stepOverNumber_77 ?_
              refine k_getI C f_X2_44 (L2_s (by assumption)) (fun _ _ _ => rfl) (by first | assumption | rfl) dX2_stepOverNumber_78 ?_
              refine k_iconst C ic_1 dX2_stepOverNumber_81 ?_
              refine k_iadd C dX2_stepOverNumber_82 ?_
              refine k_putI C f_X2_44 (L2_s (by assumption)) rfl rfl dX2_stepOverNumber_83 ?_
              refine k_goto C (tgt := 2) (by decide) dX2_stepOverNumber_86 ?_
              refine k_sub [1, 0] rfl ?_
              first
              | exact ih2 (e + 1) _ _ (by omega) (by omega) (by rw [am_up_eq, nI_add1]) (hE.trans (sp_end_t ⟨by omega, sp_isD_iff.mpr ⟨by omega, by omega⟩⟩)) (by
                  rw [hsu, sp_sb_lo (by omega), pk_sub (by omega), pk_mul, nI_add, show min 3 (e + 1 - st) = (e - st) + 1 by omega, show min 3 (e - st) = e - st by omega]
                  simp only [sp_val]
                  rw [show st + (e - st) = e by omega]) (fun b K hb => by rw [am_up_n2 hb]; exact hg1 b K hb) (by omega)
              | exact ih2 (e + 1) _ _ (by omega) (by omega) (by rw [am_up_eq, nI_add1]) (hE.trans (sp_end_t ⟨by omega, sp_isD_iff.mpr ⟨by omega, by omega⟩⟩)) (by rw [hsu, show min 3 (e + 1 - st) = 3 by omega, show min 3 (e - st) = 3 by omega]) (fun b K hb => by rw [am_up_n2 hb]; exact hg1 b K hb) (by omega)
  refine k_sub [1, 0] rfl ?_
  exact loop2 (n + 1) st I _ hk (Nat.le_refl _) h5 rfl (by rw [Nat.sub_self]; rfl) (fun _ _ _ => rfl) (by omega)
set_option maxHeartbeats 4000000 in
set_option maxRecDepth 100000 in
theorem ct_X2_step {G : am_G} {Λ : am_L} {I : am_I} {J : am_J} {i n : Nat} {tb : Nat → Nat} {k : Nat} (hi : InLay Λ i) (hx : InTxt I i tb n) (hk : k ≤ n) (h5 : I i 5 = nI k) : am_Ct G yX2_step cX2_step 1 none { frames := 1, cells := 0, slots := 0, locals := 21 } [.ref i] Λ I J (am_gen Λ J (fun v I' => v = none ∧ InTok I' i n (sp_tok tb n k) ∧ I' i 7 = I i 7 ∧ InFr i I I')) am_never := by
  refine am_ct_of (own := RX2) rfl (by decide) (Nat.le_of_ble_eq_true rfl) (fun X C => ?_)
  change am_K G X { frames := 1, cells := 0, slots := 0, locals := 21 } 1 Λ I J 0 0 0 [(0, .ref i)] []
  refine k_aload_n C (f := 0) (i := 0) (p := 0) rfl rfl dX2_step_0 ?_
  refine k_aload_n C (f := 0) (i := 0) (p := 0) rfl rfl dX2_step_1 ?_
  refine k_getI C f_X2_44 (L2_s (by assumption)) (fun _ _ _ => rfl) (h5) dX2_step_2 ?_
  refine k_putI C f_X2_72 (L2_s (by assumption)) rfl rfl dX2_step_5 ?_
  have loop8 : ∀ (f : Nat) (s : Nat) (I1 : am_I), (s ≤ n) → (I1 i 4 = nI s) → (sp_end sp_isS tb n k = sp_end sp_isS tb n s) → (∀ b K : Nat, ¬ (b = i ∧ K = 4) → I1 b K = I b K) → (n - s) < f → am_K G X { frames := 1, cells := 0, slots := 0, locals := 21 } 1 Λ I1 J 0 0 8 [(0, .ref i)] [] := by
    intro f
    induction f with
    | zero => intro s I1 hs h41 hE hg1 hf; exact absurd hf (Nat.not_lt_zero _)
    | succ f ih8 =>
      intro s I1 hs h41 hE hg1 hf
      have hf1 : InFr i I I1 := fun b K hb => hg1 b K (fun z => hb (by omega))
      have hx1 := hx.fr hf1
      have hn := hx.2.1
      have e1 := hx1.1
      refine k_aload_n C (f := 0) (i := 0) (p := 0) rfl rfl dX2_step_8 ?_
      refine k_getI C f_X2_72 (L2_s (by assumption)) (fun _ _ _ => rfl) (h41) dX2_step_9 ?_
      refine k_aload_n C (f := 0) (i := 0) (p := 0) rfl rfl dX2_step_12 ?_
      refine k_getI C f_X2_41 (L2_s (by assumption)) (fun _ _ _ => rfl) (by first | assumption | rfl) dX2_step_13 ?_
      first
      | refine k_icmpN_ge C (tgt := 60) (by omega) (by omega) (by decide) dX2_step_16 (fun hc16 => ?_) (fun hc16 => ?_)
      | refine k_icmp_ge C (tgt := 60) (by decide) dX2_step_16 (fun hc16 => ?_) (fun hc16 => ?_)
      · skip
        refine k_aload_n C (f := 0) (i := 0) (p := 0) rfl rfl dX2_step_60 ?_
        refine k_aload_n C (f := 0) (i := 0) (p := 0) rfl rfl dX2_step_61 ?_
        refine k_getI C f_X2_72 (L2_s (by assumption)) (fun _ _ _ => rfl) (h41) dX2_step_62 ?_
        refine k_putI C f_X2_44 (L2_s (by assumption)) rfl rfl dX2_step_65 ?_
        obtain ⟨I2, hI2⟩ : ∃ z : am_I, z = am_up I1 i 5 (nI s) := ⟨_, rfl⟩
        rw [← hI2]
        have hf2 : InFr i I I2 := by rw [hI2]; exact hf1.up (by omega)
        have hx2 := hx.fr hf2
        have h42 : I2 i 4 = nI s := by rw [hI2, am_up_n2 (by omega)]; exact h41
        have h52 : I2 i 5 = nI s := by rw [hI2, am_up_eq]
        have h72 : I2 i 7 = I i 7 := by rw [hI2, am_up_n2 (by omega)]; exact hg1 i 7 (by omega)
        have hend : sp_end sp_isS tb n k = s := by rw [hE, sp_end_f (fun z => by have := sp_isS_iff.mp z.2; omega)]
        have hT := sp_tokAt_b (tb := tb) (n := n) (show s ≤ n from hs)
        clear hI2
        refine k_aload_n C (f := 0) (i := 0) (p := 0) rfl rfl dX2_step_68 ?_
        refine k_getI C f_X2_72 (L2_s (by assumption)) (fun _ _ _ => rfl) (h42) dX2_step_69 ?_
        refine k_aload_n C (f := 0) (i := 0) (p := 0) rfl rfl dX2_step_72 ?_
        refine k_getI C f_X2_41 (L2_s (by assumption)) (fun _ _ _ => rfl) (hx2.1) dX2_step_73 ?_
        first
        | refine k_icmpN_lt C (tgt := 87) (by omega) (by omega) (by decide) dX2_step_76 (fun hc76 => ?_) (fun hc76 => ?_)
        | refine k_icmp_lt C (tgt := 87) (by decide) dX2_step_76 (fun hc76 => ?_) (fun hc76 => ?_)
        · skip
          refine k_aload_n C (f := 0) (i := 0) (p := 0) rfl rfl dX2_step_87 ?_
          refine k_getR C f_X2_9 (L2_s (by assumption)) (fun _ _ _ => rfl) (L2_0 (by assumption)) dX2_step_88 ?_
          refine k_aload_n C (f := 0) (i := 0) (p := 0) rfl rfl dX2_step_91 ?_
          refine k_getI C f_X2_72 (L2_s (by assumption)) (fun _ _ _ => rfl) (h42) dX2_step_92 ?_
          refine k_bald C (A2_0 (by assumption)) (by first | rfl | assumption) (by omega) (by decide) ((hx2.2.2 s (by omega)).1) dX2_step_95 ?_
          refine k_bipush C bc_97 dX2_step_96 ?_
          refine k_icmp_lt C (tgt := 122) (by decide) dX2_step_98 (fun hc98 => ?_) (fun hc98 => ?_)
          · skip
            have hb2 := (hx2.2.2 s (by omega)).2
            have g1 := (sp_sbl hb2 (by decide)).mp hc98
            refine k_aload_n C (f := 0) (i := 0) (p := 0) rfl rfl dX2_step_122 ?_
            refine k_getR C f_X2_9 (L2_s (by assumption)) (fun _ _ _ => rfl) (L2_0 (by assumption)) dX2_step_123 ?_
            refine k_aload_n C (f := 0) (i := 0) (p := 0) rfl rfl dX2_step_126 ?_
            refine k_getI C f_X2_72 (L2_s (by assumption)) (fun _ _ _ => rfl) (h42) dX2_step_127 ?_
            refine k_bald C (A2_0 (by assumption)) (by first | rfl | assumption) (by omega) (by decide) ((hx2.2.2 s (by omega)).1) dX2_step_130 ?_
            refine k_bipush C bc_48 dX2_step_131 ?_
            refine k_icmp_lt C (tgt := 157) (by decide) dX2_step_133 (fun hc133 => ?_) (fun hc133 => ?_)
            · skip
              have g3 := (sp_sbl hb2 (by decide)).mp hc133
              refine k_aload_n C (f := 0) (i := 0) (p := 0) rfl rfl dX2_step_157 ?_
              refine k_aload_n C (f := 0) (i := 0) (p := 0) rfl rfl dX2_step_158 ?_
              refine k_getR C f_X2_9 (L2_s (by assumption)) (fun _ _ _ => rfl) (L2_0 (by assumption)) dX2_step_159 ?_
              refine k_aload_n C (f := 0) (i := 0) (p := 0) rfl rfl dX2_step_162 ?_
              refine k_getI C f_X2_72 (L2_s (by assumption)) (fun _ _ _ => rfl) (h42) dX2_step_163 ?_
              refine k_bald C (A2_0 (by assumption)) (by first | rfl | assumption) (by omega) (by decide) ((hx2.2.2 s (by omega)).1) dX2_step_166 ?_
              refine k_bipush C bc_59 dX2_step_167 ?_
              refine k_icmp_ne C (tgt := 176) (by decide) dX2_step_169 (fun hc169 => ?_) (fun hc169 => ?_)
              · skip
                have g5 := mt (sp_sbe hb2 (by decide)).mpr hc169
                refine k_iconst C ic_4 dX2_step_176 ?_
                refine k_putI C f_X2_69 (L2_s (by assumption)) rfl rfl dX2_step_177 ?_
                refine k_aload_n C (f := 0) (i := 0) (p := 0) rfl rfl dX2_step_180 ?_
                refine k_dup C rfl dX2_step_181 ?_
                refine k_getI C f_X2_44 (L2_s (by assumption)) (fun _ _ _ => rfl) (Eq.trans (am_up_n2 (by omega)) h52) dX2_step_182 ?_
                refine k_iconst C ic_1 dX2_step_185 ?_
                refine k_iadd C dX2_step_186 ?_
                refine k_putI C f_X2_44 (L2_s (by assumption)) rfl rfl dX2_step_187 ?_
                exact k_vret C (Nat.le_of_ble_eq_true rfl) (Nat.le_of_ble_eq_true rfl) (⟨rfl, rfl, by
                  refine ⟨rfl, ?_, ?_, ?_⟩
                  · unfold sp_tok
                    rw [hend]
                    first
                    | (have e := sp_tokAt_0 (tb := tb) (show n ≤ s by omega)
                       rw [e]
                       exact ⟨by rw [am_up_eq], by rw [am_up_n2 (by omega)]; exact h42, by rw [am_up_n2 (by omega)]; exact h52, (fun z => by cases z), (by show (0:Nat) ≤ 4; omega), Nat.le_refl _, hs, (by show (0:Nat) ≤ 999; omega)⟩)
                    | (have e := sp_tokAt_1 (tb := tb) (show s < n by omega) ⟨by omega, by omega⟩
                       rw [e] at hT ⊢
                       exact ⟨q3, (qf i 4 (by omega)).trans h42, q5, (fun z => by cases z), hT.1, hT.2.2.1, hT.2.2.2.1, hT.2.2.2.2⟩)
                    | (have e := sp_tokAt_2 (tb := tb) (show s < n by omega) ⟨by omega, by omega⟩
                       rw [e] at hT ⊢
                       exact ⟨q3, (qf i 4 (by omega)).trans h42, q5, (fun _ => q6), hT.1, hT.2.2.1, hT.2.2.2.1, hT.2.2.2.2⟩)
                    | (have e := sp_tokAt_3 (tb := tb) (show s < n by omega) (by omega) (by omega)
                       rw [e] at hT ⊢
                       refine ⟨?_, by rw [am_up_n2 (by omega), am_up_n2 (by omega)]; exact h42, by rw [am_up_eq, nI_add1], (fun z => ?_), hT.1, hT.2.2.1, hT.2.2.2.1, hT.2.2.2.2⟩
                       · rw [am_up_n2 (by omega), am_up_eq]
                         first
                         | (rw [if_pos g5]; done)
                         | (rw [if_neg g5]; done)
                       · have z2 : (if tb s = 59 then 3 else 4) = 2 := z
                         split at z2 <;> omega)
                  · first
                    | exact (qf i 7 (by omega)).trans h72
                    | (rw [am_up_n2 (by omega)]; exact h72)
                    | (rw [am_up_n2 (by omega), am_up_n2 (by omega)]; exact h72)
                  · first
                    | exact hf2.up (by omega)
                    | exact (hf2.up (by omega)).up (by omega)
                    | exact fun b K hb => (qf b K (by omega)).trans (hf2 b K hb)⟩) dX2_step_190
              · skip
                have g5 := (sp_sbe hb2 (by decide)).mp hc169
                refine k_iconst C ic_3 dX2_step_172 ?_
                refine k_goto C (tgt := 177) (by decide) dX2_step_173 ?_
                refine k_putI C f_X2_69 (L2_s (by assumption)) rfl rfl dX2_step_177 ?_
                refine k_aload_n C (f := 0) (i := 0) (p := 0) rfl rfl dX2_step_180 ?_
                refine k_dup C rfl dX2_step_181 ?_
                refine k_getI C f_X2_44 (L2_s (by assumption)) (fun _ _ _ => rfl) (Eq.trans (am_up_n2 (by omega)) h52) dX2_step_182 ?_
                refine k_iconst C ic_1 dX2_step_185 ?_
                refine k_iadd C dX2_step_186 ?_
                refine k_putI C f_X2_44 (L2_s (by assumption)) rfl rfl dX2_step_187 ?_
                exact k_vret C (Nat.le_of_ble_eq_true rfl) (Nat.le_of_ble_eq_true rfl) (⟨rfl, rfl, by
                  refine ⟨rfl, ?_, ?_, ?_⟩
                  · unfold sp_tok
                    rw [hend]
                    first
                    | (have e := sp_tokAt_0 (tb := tb) (show n ≤ s by omega)
                       rw [e]
                       exact ⟨by rw [am_up_eq], by rw [am_up_n2 (by omega)]; exact h42, by rw [am_up_n2 (by omega)]; exact h52, (fun z => by cases z), (by show (0:Nat) ≤ 4; omega), Nat.le_refl _, hs, (by show (0:Nat) ≤ 999; omega)⟩)
                    | (have e := sp_tokAt_1 (tb := tb) (show s < n by omega) ⟨by omega, by omega⟩
                       rw [e] at hT ⊢
                       exact ⟨q3, (qf i 4 (by omega)).trans h42, q5, (fun z => by cases z), hT.1, hT.2.2.1, hT.2.2.2.1, hT.2.2.2.2⟩)
                    | (have e := sp_tokAt_2 (tb := tb) (show s < n by omega) ⟨by omega, by omega⟩
                       rw [e] at hT ⊢
                       exact ⟨q3, (qf i 4 (by omega)).trans h42, q5, (fun _ => q6), hT.1, hT.2.2.1, hT.2.2.2.1, hT.2.2.2.2⟩)
                    | (have e := sp_tokAt_3 (tb := tb) (show s < n by omega) (by omega) (by omega)
                       rw [e] at hT ⊢
                       refine ⟨?_, by rw [am_up_n2 (by omega), am_up_n2 (by omega)]; exact h42, by rw [am_up_eq, nI_add1], (fun z => ?_), hT.1, hT.2.2.1, hT.2.2.2.1, hT.2.2.2.2⟩
                       · rw [am_up_n2 (by omega), am_up_eq]
                         first
                         | (rw [if_pos g5]; done)
                         | (rw [if_neg g5]; done)
                       · have z2 : (if tb s = 59 then 3 else 4) = 2 := z
                         split at z2 <;> omega)
                  · first
                    | exact (qf i 7 (by omega)).trans h72
                    | (rw [am_up_n2 (by omega)]; exact h72)
                    | (rw [am_up_n2 (by omega), am_up_n2 (by omega)]; exact h72)
                  · first
                    | exact hf2.up (by omega)
                    | exact (hf2.up (by omega)).up (by omega)
                    | exact fun b K hb => (qf b K (by omega)).trans (hf2 b K hb)⟩) dX2_step_190
            · skip
              have g3 := mt (sp_sbl hb2 (by decide)).mpr hc133
              refine k_aload_n C (f := 0) (i := 0) (p := 0) rfl rfl dX2_step_136 ?_
              refine k_getR C f_X2_9 (L2_s (by assumption)) (fun _ _ _ => rfl) (L2_0 (by assumption)) dX2_step_137 ?_
              refine k_aload_n C (f := 0) (i := 0) (p := 0) rfl rfl dX2_step_140 ?_
              refine k_getI C f_X2_72 (L2_s (by assumption)) (fun _ _ _ => rfl) (h42) dX2_step_141 ?_
              refine k_bald C (A2_0 (by assumption)) (by first | rfl | assumption) (by omega) (by decide) ((hx2.2.2 s (by omega)).1) dX2_step_144 ?_
              refine k_bipush C bc_57 dX2_step_145 ?_
              refine k_icmp_gt C (tgt := 157) (by decide) dX2_step_147 (fun hc147 => ?_) (fun hc147 => ?_)
              · skip
                have g4 := (sp_sbg hb2 (by decide)).mp hc147
                refine k_aload_n C (f := 0) (i := 0) (p := 0) rfl rfl dX2_step_157 ?_
                refine k_aload_n C (f := 0) (i := 0) (p := 0) rfl rfl dX2_step_158 ?_
                refine k_getR C f_X2_9 (L2_s (by assumption)) (fun _ _ _ => rfl) (L2_0 (by assumption)) dX2_step_159 ?_
                refine k_aload_n C (f := 0) (i := 0) (p := 0) rfl rfl dX2_step_162 ?_
                refine k_getI C f_X2_72 (L2_s (by assumption)) (fun _ _ _ => rfl) (h42) dX2_step_163 ?_
                refine k_bald C (A2_0 (by assumption)) (by first | rfl | assumption) (by omega) (by decide) ((hx2.2.2 s (by omega)).1) dX2_step_166 ?_
                refine k_bipush C bc_59 dX2_step_167 ?_
                refine k_icmp_ne C (tgt := 176) (by decide) dX2_step_169 (fun hc169 => ?_) (fun hc169 => ?_)
                · skip
                  have g5 := mt (sp_sbe hb2 (by decide)).mpr hc169
                  refine k_iconst C ic_4 dX2_step_176 ?_
                  refine k_putI C f_X2_69 (L2_s (by assumption)) rfl rfl dX2_step_177 ?_
                  refine k_aload_n C (f := 0) (i := 0) (p := 0) rfl rfl dX2_step_180 ?_
                  refine k_dup C rfl dX2_step_181 ?_
                  refine k_getI C f_X2_44 (L2_s (by assumption)) (fun _ _ _ => rfl) (Eq.trans (am_up_n2 (by omega)) h52) dX2_step_182 ?_
                  refine k_iconst C ic_1 dX2_step_185 ?_
                  refine k_iadd C dX2_step_186 ?_
                  refine k_putI C f_X2_44 (L2_s (by assumption)) rfl rfl dX2_step_187 ?_
                  exact k_vret C (Nat.le_of_ble_eq_true rfl) (Nat.le_of_ble_eq_true rfl) (⟨rfl, rfl, by
                    refine ⟨rfl, ?_, ?_, ?_⟩
                    · unfold sp_tok
                      rw [hend]
                      first
                      | (have e := sp_tokAt_0 (tb := tb) (show n ≤ s by omega)
                         rw [e]
                         exact ⟨by rw [am_up_eq], by rw [am_up_n2 (by omega)]; exact h42, by rw [am_up_n2 (by omega)]; exact h52, (fun z => by cases z), (by show (0:Nat) ≤ 4; omega), Nat.le_refl _, hs, (by show (0:Nat) ≤ 999; omega)⟩)
                      | (have e := sp_tokAt_1 (tb := tb) (show s < n by omega) ⟨by omega, by omega⟩
                         rw [e] at hT ⊢
                         exact ⟨q3, (qf i 4 (by omega)).trans h42, q5, (fun z => by cases z), hT.1, hT.2.2.1, hT.2.2.2.1, hT.2.2.2.2⟩)
                      | (have e := sp_tokAt_2 (tb := tb) (show s < n by omega) ⟨by omega, by omega⟩
                         rw [e] at hT ⊢
                         exact ⟨q3, (qf i 4 (by omega)).trans h42, q5, (fun _ => q6), hT.1, hT.2.2.1, hT.2.2.2.1, hT.2.2.2.2⟩)
                      | (have e := sp_tokAt_3 (tb := tb) (show s < n by omega) (by omega) (by omega)
                         rw [e] at hT ⊢
                         refine ⟨?_, by rw [am_up_n2 (by omega), am_up_n2 (by omega)]; exact h42, by rw [am_up_eq, nI_add1], (fun z => ?_), hT.1, hT.2.2.1, hT.2.2.2.1, hT.2.2.2.2⟩
                         · rw [am_up_n2 (by omega), am_up_eq]
                           first
                           | (rw [if_pos g5]; done)
                           | (rw [if_neg g5]; done)
                         · have z2 : (if tb s = 59 then 3 else 4) = 2 := z
                           split at z2 <;> omega)
                    · first
                      | exact (qf i 7 (by omega)).trans h72
                      | (rw [am_up_n2 (by omega)]; exact h72)
                      | (rw [am_up_n2 (by omega), am_up_n2 (by omega)]; exact h72)
                    · first
                      | exact hf2.up (by omega)
                      | exact (hf2.up (by omega)).up (by omega)
                      | exact fun b K hb => (qf b K (by omega)).trans (hf2 b K hb)⟩) dX2_step_190
                · skip
                  have g5 := (sp_sbe hb2 (by decide)).mp hc169
                  refine k_iconst C ic_3 dX2_step_172 ?_
                  refine k_goto C (tgt := 177) (by decide) dX2_step_173 ?_
                  refine k_putI C f_X2_69 (L2_s (by assumption)) rfl rfl dX2_step_177 ?_
                  refine k_aload_n C (f := 0) (i := 0) (p := 0) rfl rfl dX2_step_180 ?_
                  refine k_dup C rfl dX2_step_181 ?_
                  refine k_getI C f_X2_44 (L2_s (by assumption)) (fun _ _ _ => rfl) (Eq.trans (am_up_n2 (by omega)) h52) dX2_step_182 ?_
                  refine k_iconst C ic_1 dX2_step_185 ?_
                  refine k_iadd C dX2_step_186 ?_
                  refine k_putI C f_X2_44 (L2_s (by assumption)) rfl rfl dX2_step_187 ?_
                  exact k_vret C (Nat.le_of_ble_eq_true rfl) (Nat.le_of_ble_eq_true rfl) (⟨rfl, rfl, by
                    refine ⟨rfl, ?_, ?_, ?_⟩
                    · unfold sp_tok
                      rw [hend]
                      first
                      | (have e := sp_tokAt_0 (tb := tb) (show n ≤ s by omega)
                         rw [e]
                         exact ⟨by rw [am_up_eq], by rw [am_up_n2 (by omega)]; exact h42, by rw [am_up_n2 (by omega)]; exact h52, (fun z => by cases z), (by show (0:Nat) ≤ 4; omega), Nat.le_refl _, hs, (by show (0:Nat) ≤ 999; omega)⟩)
                      | (have e := sp_tokAt_1 (tb := tb) (show s < n by omega) ⟨by omega, by omega⟩
                         rw [e] at hT ⊢
                         exact ⟨q3, (qf i 4 (by omega)).trans h42, q5, (fun z => by cases z), hT.1, hT.2.2.1, hT.2.2.2.1, hT.2.2.2.2⟩)
                      | (have e := sp_tokAt_2 (tb := tb) (show s < n by omega) ⟨by omega, by omega⟩
                         rw [e] at hT ⊢
                         exact ⟨q3, (qf i 4 (by omega)).trans h42, q5, (fun _ => q6), hT.1, hT.2.2.1, hT.2.2.2.1, hT.2.2.2.2⟩)
                      | (have e := sp_tokAt_3 (tb := tb) (show s < n by omega) (by omega) (by omega)
                         rw [e] at hT ⊢
                         refine ⟨?_, by rw [am_up_n2 (by omega), am_up_n2 (by omega)]; exact h42, by rw [am_up_eq, nI_add1], (fun z => ?_), hT.1, hT.2.2.1, hT.2.2.2.1, hT.2.2.2.2⟩
                         · rw [am_up_n2 (by omega), am_up_eq]
                           first
                           | (rw [if_pos g5]; done)
                           | (rw [if_neg g5]; done)
                         · have z2 : (if tb s = 59 then 3 else 4) = 2 := z
                           split at z2 <;> omega)
                    · first
                      | exact (qf i 7 (by omega)).trans h72
                      | (rw [am_up_n2 (by omega)]; exact h72)
                      | (rw [am_up_n2 (by omega), am_up_n2 (by omega)]; exact h72)
                    · first
                      | exact hf2.up (by omega)
                      | exact (hf2.up (by omega)).up (by omega)
                      | exact fun b K hb => (qf b K (by omega)).trans (hf2 b K hb)⟩) dX2_step_190
              · skip
                have g4 := mt (sp_sbg hb2 (by decide)).mpr hc147
                refine k_aload_n C (f := 0) (i := 0) (p := 0) rfl rfl dX2_step_150 ?_
                refine k_callVg C s_X2_152 h_X2_stepOverNumber (L2_s hi) rfl (ct_X2_stepOverNumber (st := s) hi hx2 hs h42 h52) rfl rfl (Nat.le_of_ble_eq_true rfl) ⟨Nat.le_of_ble_eq_true rfl, Nat.le_of_ble_eq_true rfl⟩ ⟨Nat.le_of_ble_eq_true rfl, Nat.le_of_ble_eq_true rfl⟩ ⟨rfl, rfl⟩ dX2_step_151 ?_
                intro v I3 hv
                obtain ⟨rfl, q5, q3, q6, qf⟩ := hv
                refine k_goto C (tgt := 190) (by decide) dX2_step_154 ?_
                exact k_vret C (Nat.le_of_ble_eq_true rfl) (Nat.le_of_ble_eq_true rfl) (⟨rfl, rfl, by
                  refine ⟨rfl, ?_, ?_, ?_⟩
                  · unfold sp_tok
                    rw [hend]
                    first
                    | (have e := sp_tokAt_0 (tb := tb) (show n ≤ s by omega)
                       rw [e]
                       exact ⟨by rw [am_up_eq], by rw [am_up_n2 (by omega)]; exact h42, by rw [am_up_n2 (by omega)]; exact h52, (fun z => by cases z), (by show (0:Nat) ≤ 4; omega), Nat.le_refl _, hs, (by show (0:Nat) ≤ 999; omega)⟩)
                    | (have e := sp_tokAt_1 (tb := tb) (show s < n by omega) ⟨by omega, by omega⟩
                       rw [e] at hT ⊢
                       exact ⟨q3, (qf i 4 (by omega)).trans h42, q5, (fun z => by cases z), hT.1, hT.2.2.1, hT.2.2.2.1, hT.2.2.2.2⟩)
                    | (have e := sp_tokAt_2 (tb := tb) (show s < n by omega) ⟨by omega, by omega⟩
                       rw [e] at hT ⊢
                       exact ⟨q3, (qf i 4 (by omega)).trans h42, q5, (fun _ => q6), hT.1, hT.2.2.1, hT.2.2.2.1, hT.2.2.2.2⟩)
                    | (have e := sp_tokAt_3 (tb := tb) (show s < n by omega) (by omega) (by omega)
                       rw [e] at hT ⊢
                       refine ⟨?_, by rw [am_up_n2 (by omega), am_up_n2 (by omega)]; exact h42, by rw [am_up_eq, nI_add1], (fun z => ?_), hT.1, hT.2.2.1, hT.2.2.2.1, hT.2.2.2.2⟩
                       · rw [am_up_n2 (by omega), am_up_eq]
                         first
                         | (rw [if_pos g5]; done)
                         | (rw [if_neg g5]; done)
                       · have z2 : (if tb s = 59 then 3 else 4) = 2 := z
                         split at z2 <;> omega)
                  · first
                    | exact (qf i 7 (by omega)).trans h72
                    | (rw [am_up_n2 (by omega)]; exact h72)
                    | (rw [am_up_n2 (by omega), am_up_n2 (by omega)]; exact h72)
                  · first
                    | exact hf2.up (by omega)
                    | exact (hf2.up (by omega)).up (by omega)
                    | exact fun b K hb => (qf b K (by omega)).trans (hf2 b K hb)⟩) dX2_step_190
          · skip
            have hb2 := (hx2.2.2 s (by omega)).2
            have g1 := mt (sp_sbl hb2 (by decide)).mpr hc98
            refine k_aload_n C (f := 0) (i := 0) (p := 0) rfl rfl dX2_step_101 ?_
            refine k_getR C f_X2_9 (L2_s (by assumption)) (fun _ _ _ => rfl) (L2_0 (by assumption)) dX2_step_102 ?_
            refine k_aload_n C (f := 0) (i := 0) (p := 0) rfl rfl dX2_step_105 ?_
            refine k_getI C f_X2_72 (L2_s (by assumption)) (fun _ _ _ => rfl) (h42) dX2_step_106 ?_
            refine k_bald C (A2_0 (by assumption)) (by first | rfl | assumption) (by omega) (by decide) ((hx2.2.2 s (by omega)).1) dX2_step_109 ?_
            refine k_bipush C bc_122 dX2_step_110 ?_
            refine k_icmp_gt C (tgt := 122) (by decide) dX2_step_112 (fun hc112 => ?_) (fun hc112 => ?_)
            · skip
              have g2 := (sp_sbg hb2 (by decide)).mp hc112
              refine k_aload_n C (f := 0) (i := 0) (p := 0) rfl rfl dX2_step_122 ?_
              refine k_getR C f_X2_9 (L2_s (by assumption)) (fun _ _ _ => rfl) (L2_0 (by assumption)) dX2_step_123 ?_
              refine k_aload_n C (f := 0) (i := 0) (p := 0) rfl rfl dX2_step_126 ?_
              refine k_getI C f_X2_72 (L2_s (by assumption)) (fun _ _ _ => rfl) (h42) dX2_step_127 ?_
              refine k_bald C (A2_0 (by assumption)) (by first | rfl | assumption) (by omega) (by decide) ((hx2.2.2 s (by omega)).1) dX2_step_130 ?_
              refine k_bipush C bc_48 dX2_step_131 ?_
              refine k_icmp_lt C (tgt := 157) (by decide) dX2_step_133 (fun hc133 => ?_) (fun hc133 => ?_)
              · skip
                have g3 := (sp_sbl hb2 (by decide)).mp hc133
                refine k_aload_n C (f := 0) (i := 0) (p := 0) rfl rfl dX2_step_157 ?_
                refine k_aload_n C (f := 0) (i := 0) (p := 0) rfl rfl dX2_step_158 ?_
                refine k_getR C f_X2_9 (L2_s (by assumption)) (fun _ _ _ => rfl) (L2_0 (by assumption)) dX2_step_159 ?_
                refine k_aload_n C (f := 0) (i := 0) (p := 0) rfl rfl dX2_step_162 ?_
                refine k_getI C f_X2_72 (L2_s (by assumption)) (fun _ _ _ => rfl) (h42) dX2_step_163 ?_
                refine k_bald C (A2_0 (by assumption)) (by first | rfl | assumption) (by omega) (by decide) ((hx2.2.2 s (by omega)).1) dX2_step_166 ?_
                refine k_bipush C bc_59 dX2_step_167 ?_
                refine k_icmp_ne C (tgt := 176) (by decide) dX2_step_169 (fun hc169 => ?_) (fun hc169 => ?_)
                · skip
                  have g5 := mt (sp_sbe hb2 (by decide)).mpr hc169
                  refine k_iconst C ic_4 dX2_step_176 ?_
                  refine k_putI C f_X2_69 (L2_s (by assumption)) rfl rfl dX2_step_177 ?_
                  refine k_aload_n C (f := 0) (i := 0) (p := 0) rfl rfl dX2_step_180 ?_
                  refine k_dup C rfl dX2_step_181 ?_
                  refine k_getI C f_X2_44 (L2_s (by assumption)) (fun _ _ _ => rfl) (Eq.trans (am_up_n2 (by omega)) h52) dX2_step_182 ?_
                  refine k_iconst C ic_1 dX2_step_185 ?_
                  refine k_iadd C dX2_step_186 ?_
                  refine k_putI C f_X2_44 (L2_s (by assumption)) rfl rfl dX2_step_187 ?_
                  exact k_vret C (Nat.le_of_ble_eq_true rfl) (Nat.le_of_ble_eq_true rfl) (⟨rfl, rfl, by
                    refine ⟨rfl, ?_, ?_, ?_⟩
                    · unfold sp_tok
                      rw [hend]
                      first
                      | (have e := sp_tokAt_0 (tb := tb) (show n ≤ s by omega)
                         rw [e]
                         exact ⟨by rw [am_up_eq], by rw [am_up_n2 (by omega)]; exact h42, by rw [am_up_n2 (by omega)]; exact h52, (fun z => by cases z), (by show (0:Nat) ≤ 4; omega), Nat.le_refl _, hs, (by show (0:Nat) ≤ 999; omega)⟩)
                      | (have e := sp_tokAt_1 (tb := tb) (show s < n by omega) ⟨by omega, by omega⟩
                         rw [e] at hT ⊢
                         exact ⟨q3, (qf i 4 (by omega)).trans h42, q5, (fun z => by cases z), hT.1, hT.2.2.1, hT.2.2.2.1, hT.2.2.2.2⟩)
                      | (have e := sp_tokAt_2 (tb := tb) (show s < n by omega) ⟨by omega, by omega⟩
                         rw [e] at hT ⊢
                         exact ⟨q3, (qf i 4 (by omega)).trans h42, q5, (fun _ => q6), hT.1, hT.2.2.1, hT.2.2.2.1, hT.2.2.2.2⟩)
                      | (have e := sp_tokAt_3 (tb := tb) (show s < n by omega) (by omega) (by omega)
                         rw [e] at hT ⊢
                         refine ⟨?_, by rw [am_up_n2 (by omega), am_up_n2 (by omega)]; exact h42, by rw [am_up_eq, nI_add1], (fun z => ?_), hT.1, hT.2.2.1, hT.2.2.2.1, hT.2.2.2.2⟩
                         · rw [am_up_n2 (by omega), am_up_eq]
                           first
                           | (rw [if_pos g5]; done)
                           | (rw [if_neg g5]; done)
                         · have z2 : (if tb s = 59 then 3 else 4) = 2 := z
                           split at z2 <;> omega)
                    · first
                      | exact (qf i 7 (by omega)).trans h72
                      | (rw [am_up_n2 (by omega)]; exact h72)
                      | (rw [am_up_n2 (by omega), am_up_n2 (by omega)]; exact h72)
                    · first
                      | exact hf2.up (by omega)
                      | exact (hf2.up (by omega)).up (by omega)
                      | exact fun b K hb => (qf b K (by omega)).trans (hf2 b K hb)⟩) dX2_step_190
                · skip
                  have g5 := (sp_sbe hb2 (by decide)).mp hc169
                  refine k_iconst C ic_3 dX2_step_172 ?_
                  refine k_goto C (tgt := 177) (by decide) dX2_step_173 ?_
                  refine k_putI C f_X2_69 (L2_s (by assumption)) rfl rfl dX2_step_177 ?_
                  refine k_aload_n C (f := 0) (i := 0) (p := 0) rfl rfl dX2_step_180 ?_
                  refine k_dup C rfl dX2_step_181 ?_
                  refine k_getI C f_X2_44 (L2_s (by assumption)) (fun _ _ _ => rfl) (Eq.trans (am_up_n2 (by omega)) h52) dX2_step_182 ?_
                  refine k_iconst C ic_1 dX2_step_185 ?_
                  refine k_iadd C dX2_step_186 ?_
                  refine k_putI C f_X2_44 (L2_s (by assumption)) rfl rfl dX2_step_187 ?_
                  exact k_vret C (Nat.le_of_ble_eq_true rfl) (Nat.le_of_ble_eq_true rfl) (⟨rfl, rfl, by
                    refine ⟨rfl, ?_, ?_, ?_⟩
                    · unfold sp_tok
                      rw [hend]
                      first
                      | (have e := sp_tokAt_0 (tb := tb) (show n ≤ s by omega)
                         rw [e]
                         exact ⟨by rw [am_up_eq], by rw [am_up_n2 (by omega)]; exact h42, by rw [am_up_n2 (by omega)]; exact h52, (fun z => by cases z), (by show (0:Nat) ≤ 4; omega), Nat.le_refl _, hs, (by show (0:Nat) ≤ 999; omega)⟩)
                      | (have e := sp_tokAt_1 (tb := tb) (show s < n by omega) ⟨by omega, by omega⟩
                         rw [e] at hT ⊢
                         exact ⟨q3, (qf i 4 (by omega)).trans h42, q5, (fun z => by cases z), hT.1, hT.2.2.1, hT.2.2.2.1, hT.2.2.2.2⟩)
                      | (have e := sp_tokAt_2 (tb := tb) (show s < n by omega) ⟨by omega, by omega⟩
                         rw [e] at hT ⊢
                         exact ⟨q3, (qf i 4 (by omega)).trans h42, q5, (fun _ => q6), hT.1, hT.2.2.1, hT.2.2.2.1, hT.2.2.2.2⟩)
                      | (have e := sp_tokAt_3 (tb := tb) (show s < n by omega) (by omega) (by omega)
                         rw [e] at hT ⊢
                         refine ⟨?_, by rw [am_up_n2 (by omega), am_up_n2 (by omega)]; exact h42, by rw [am_up_eq, nI_add1], (fun z => ?_), hT.1, hT.2.2.1, hT.2.2.2.1, hT.2.2.2.2⟩
                         · rw [am_up_n2 (by omega), am_up_eq]
                           first
                           | (rw [if_pos g5]; done)
                           | (rw [if_neg g5]; done)
                         · have z2 : (if tb s = 59 then 3 else 4) = 2 := z
                           split at z2 <;> omega)
                    · first
                      | exact (qf i 7 (by omega)).trans h72
                      | (rw [am_up_n2 (by omega)]; exact h72)
                      | (rw [am_up_n2 (by omega), am_up_n2 (by omega)]; exact h72)
                    · first
                      | exact hf2.up (by omega)
                      | exact (hf2.up (by omega)).up (by omega)
                      | exact fun b K hb => (qf b K (by omega)).trans (hf2 b K hb)⟩) dX2_step_190
              · skip
                have g3 := mt (sp_sbl hb2 (by decide)).mpr hc133
                refine k_aload_n C (f := 0) (i := 0) (p := 0) rfl rfl dX2_step_136 ?_
                refine k_getR C f_X2_9 (L2_s (by assumption)) (fun _ _ _ => rfl) (L2_0 (by assumption)) dX2_step_137 ?_
                refine k_aload_n C (f := 0) (i := 0) (p := 0) rfl rfl dX2_step_140 ?_
                refine k_getI C f_X2_72 (L2_s (by assumption)) (fun _ _ _ => rfl) (h42) dX2_step_141 ?_
                refine k_bald C (A2_0 (by assumption)) (by first | rfl | assumption) (by omega) (by decide) ((hx2.2.2 s (by omega)).1) dX2_step_144 ?_
                refine k_bipush C bc_57 dX2_step_145 ?_
                refine k_icmp_gt C (tgt := 157) (by decide) dX2_step_147 (fun hc147 => ?_) (fun hc147 => ?_)
                · skip
                  have g4 := (sp_sbg hb2 (by decide)).mp hc147
                  refine k_aload_n C (f := 0) (i := 0) (p := 0) rfl rfl dX2_step_157 ?_
                  refine k_aload_n C (f := 0) (i := 0) (p := 0) rfl rfl dX2_step_158 ?_
                  refine k_getR C f_X2_9 (L2_s (by assumption)) (fun _ _ _ => rfl) (L2_0 (by assumption)) dX2_step_159 ?_
                  refine k_aload_n C (f := 0) (i := 0) (p := 0) rfl rfl dX2_step_162 ?_
                  refine k_getI C f_X2_72 (L2_s (by assumption)) (fun _ _ _ => rfl) (h42) dX2_step_163 ?_
                  refine k_bald C (A2_0 (by assumption)) (by first | rfl | assumption) (by omega) (by decide) ((hx2.2.2 s (by omega)).1) dX2_step_166 ?_
                  refine k_bipush C bc_59 dX2_step_167 ?_
                  refine k_icmp_ne C (tgt := 176) (by decide) dX2_step_169 (fun hc169 => ?_) (fun hc169 => ?_)
                  · skip
                    have g5 := mt (sp_sbe hb2 (by decide)).mpr hc169
                    refine k_iconst C ic_4 dX2_step_176 ?_
                    refine k_putI C f_X2_69 (L2_s (by assumption)) rfl rfl dX2_step_177 ?_
                    refine k_aload_n C (f := 0) (i := 0) (p := 0) rfl rfl dX2_step_180 ?_
                    refine k_dup C rfl dX2_step_181 ?_
                    refine k_getI C f_X2_44 (L2_s (by assumption)) (fun _ _ _ => rfl) (Eq.trans (am_up_n2 (by omega)) h52) dX2_step_182 ?_
                    refine k_iconst C ic_1 dX2_step_185 ?_
                    refine k_iadd C dX2_step_186 ?_
                    refine k_putI C f_X2_44 (L2_s (by assumption)) rfl rfl dX2_step_187 ?_
                    exact k_vret C (Nat.le_of_ble_eq_true rfl) (Nat.le_of_ble_eq_true rfl) (⟨rfl, rfl, by
                      refine ⟨rfl, ?_, ?_, ?_⟩
                      · unfold sp_tok
                        rw [hend]
                        first
                        | (have e := sp_tokAt_0 (tb := tb) (show n ≤ s by omega)
                           rw [e]
                           exact ⟨by rw [am_up_eq], by rw [am_up_n2 (by omega)]; exact h42, by rw [am_up_n2 (by omega)]; exact h52, (fun z => by cases z), (by show (0:Nat) ≤ 4; omega), Nat.le_refl _, hs, (by show (0:Nat) ≤ 999; omega)⟩)
                        | (have e := sp_tokAt_1 (tb := tb) (show s < n by omega) ⟨by omega, by omega⟩
                           rw [e] at hT ⊢
                           exact ⟨q3, (qf i 4 (by omega)).trans h42, q5, (fun z => by cases z), hT.1, hT.2.2.1, hT.2.2.2.1, hT.2.2.2.2⟩)
                        | (have e := sp_tokAt_2 (tb := tb) (show s < n by omega) ⟨by omega, by omega⟩
                           rw [e] at hT ⊢
                           exact ⟨q3, (qf i 4 (by omega)).trans h42, q5, (fun _ => q6), hT.1, hT.2.2.1, hT.2.2.2.1, hT.2.2.2.2⟩)
                        | (have e := sp_tokAt_3 (tb := tb) (show s < n by omega) (by omega) (by omega)
                           rw [e] at hT ⊢
                           refine ⟨?_, by rw [am_up_n2 (by omega), am_up_n2 (by omega)]; exact h42, by rw [am_up_eq, nI_add1], (fun z => ?_), hT.1, hT.2.2.1, hT.2.2.2.1, hT.2.2.2.2⟩
                           · rw [am_up_n2 (by omega), am_up_eq]
                             first
                             | (rw [if_pos g5]; done)
                             | (rw [if_neg g5]; done)
                           · have z2 : (if tb s = 59 then 3 else 4) = 2 := z
                             split at z2 <;> omega)
                      · first
                        | exact (qf i 7 (by omega)).trans h72
                        | (rw [am_up_n2 (by omega)]; exact h72)
                        | (rw [am_up_n2 (by omega), am_up_n2 (by omega)]; exact h72)
                      · first
                        | exact hf2.up (by omega)
                        | exact (hf2.up (by omega)).up (by omega)
                        | exact fun b K hb => (qf b K (by omega)).trans (hf2 b K hb)⟩) dX2_step_190
                  · skip
                    have g5 := (sp_sbe hb2 (by decide)).mp hc169
                    refine k_iconst C ic_3 dX2_step_172 ?_
                    refine k_goto C (tgt := 177) (by decide) dX2_step_173 ?_
                    refine k_putI C f_X2_69 (L2_s (by assumption)) rfl rfl dX2_step_177 ?_
                    refine k_aload_n C (f := 0) (i := 0) (p := 0) rfl rfl dX2_step_180 ?_
                    refine k_dup C rfl dX2_step_181 ?_
                    refine k_getI C f_X2_44 (L2_s (by assumption)) (fun _ _ _ => rfl) (Eq.trans (am_up_n2 (by omega)) h52) dX2_step_182 ?_
                    refine k_iconst C ic_1 dX2_step_185 ?_
                    refine k_iadd C dX2_step_186 ?_
                    refine k_putI C f_X2_44 (L2_s (by assumption)) rfl rfl dX2_step_187 ?_
                    exact k_vret C (Nat.le_of_ble_eq_true rfl) (Nat.le_of_ble_eq_true rfl) (⟨rfl, rfl, by
                      refine ⟨rfl, ?_, ?_, ?_⟩
                      · unfold sp_tok
                        rw [hend]
                        first
                        | (have e := sp_tokAt_0 (tb := tb) (show n ≤ s by omega)
                           rw [e]
                           exact ⟨by rw [am_up_eq], by rw [am_up_n2 (by omega)]; exact h42, by rw [am_up_n2 (by omega)]; exact h52, (fun z => by cases z), (by show (0:Nat) ≤ 4; omega), Nat.le_refl _, hs, (by show (0:Nat) ≤ 999; omega)⟩)
                        | (have e := sp_tokAt_1 (tb := tb) (show s < n by omega) ⟨by omega, by omega⟩
                           rw [e] at hT ⊢
                           exact ⟨q3, (qf i 4 (by omega)).trans h42, q5, (fun z => by cases z), hT.1, hT.2.2.1, hT.2.2.2.1, hT.2.2.2.2⟩)
                        | (have e := sp_tokAt_2 (tb := tb) (show s < n by omega) ⟨by omega, by omega⟩
                           rw [e] at hT ⊢
                           exact ⟨q3, (qf i 4 (by omega)).trans h42, q5, (fun _ => q6), hT.1, hT.2.2.1, hT.2.2.2.1, hT.2.2.2.2⟩)
                        | (have e := sp_tokAt_3 (tb := tb) (show s < n by omega) (by omega) (by omega)
                           rw [e] at hT ⊢
                           refine ⟨?_, by rw [am_up_n2 (by omega), am_up_n2 (by omega)]; exact h42, by rw [am_up_eq, nI_add1], (fun z => ?_), hT.1, hT.2.2.1, hT.2.2.2.1, hT.2.2.2.2⟩
                           · rw [am_up_n2 (by omega), am_up_eq]
                             first
                             | (rw [if_pos g5]; done)
                             | (rw [if_neg g5]; done)
                           · have z2 : (if tb s = 59 then 3 else 4) = 2 := z
                             split at z2 <;> omega)
                      · first
                        | exact (qf i 7 (by omega)).trans h72
                        | (rw [am_up_n2 (by omega)]; exact h72)
                        | (rw [am_up_n2 (by omega), am_up_n2 (by omega)]; exact h72)
                      · first
                        | exact hf2.up (by omega)
                        | exact (hf2.up (by omega)).up (by omega)
                        | exact fun b K hb => (qf b K (by omega)).trans (hf2 b K hb)⟩) dX2_step_190
                · skip
                  have g4 := mt (sp_sbg hb2 (by decide)).mpr hc147
                  refine k_aload_n C (f := 0) (i := 0) (p := 0) rfl rfl dX2_step_150 ?_
                  refine k_callVg C s_X2_152 h_X2_stepOverNumber (L2_s hi) rfl (ct_X2_stepOverNumber (st := s) hi hx2 hs h42 h52) rfl rfl (Nat.le_of_ble_eq_true rfl) ⟨Nat.le_of_ble_eq_true rfl, Nat.le_of_ble_eq_true rfl⟩ ⟨Nat.le_of_ble_eq_true rfl, Nat.le_of_ble_eq_true rfl⟩ ⟨rfl, rfl⟩ dX2_step_151 ?_
                  intro v I3 hv
                  obtain ⟨rfl, q5, q3, q6, qf⟩ := hv
                  refine k_goto C (tgt := 190) (by decide) dX2_step_154 ?_
                  exact k_vret C (Nat.le_of_ble_eq_true rfl) (Nat.le_of_ble_eq_true rfl) (⟨rfl, rfl, by
                    refine ⟨rfl, ?_, ?_, ?_⟩
                    · unfold sp_tok
                      rw [hend]
                      first
                      | (have e := sp_tokAt_0 (tb := tb) (show n ≤ s by omega)
                         rw [e]
                         exact ⟨by rw [am_up_eq], by rw [am_up_n2 (by omega)]; exact h42, by rw [am_up_n2 (by omega)]; exact h52, (fun z => by cases z), (by show (0:Nat) ≤ 4; omega), Nat.le_refl _, hs, (by show (0:Nat) ≤ 999; omega)⟩)
                      | (have e := sp_tokAt_1 (tb := tb) (show s < n by omega) ⟨by omega, by omega⟩
                         rw [e] at hT ⊢
                         exact ⟨q3, (qf i 4 (by omega)).trans h42, q5, (fun z => by cases z), hT.1, hT.2.2.1, hT.2.2.2.1, hT.2.2.2.2⟩)
                      | (have e := sp_tokAt_2 (tb := tb) (show s < n by omega) ⟨by omega, by omega⟩
                         rw [e] at hT ⊢
                         exact ⟨q3, (qf i 4 (by omega)).trans h42, q5, (fun _ => q6), hT.1, hT.2.2.1, hT.2.2.2.1, hT.2.2.2.2⟩)
                      | (have e := sp_tokAt_3 (tb := tb) (show s < n by omega) (by omega) (by omega)
                         rw [e] at hT ⊢
                         refine ⟨?_, by rw [am_up_n2 (by omega), am_up_n2 (by omega)]; exact h42, by rw [am_up_eq, nI_add1], (fun z => ?_), hT.1, hT.2.2.1, hT.2.2.2.1, hT.2.2.2.2⟩
                         · rw [am_up_n2 (by omega), am_up_eq]
                           first
                           | (rw [if_pos g5]; done)
                           | (rw [if_neg g5]; done)
                         · have z2 : (if tb s = 59 then 3 else 4) = 2 := z
                           split at z2 <;> omega)
                    · first
                      | exact (qf i 7 (by omega)).trans h72
                      | (rw [am_up_n2 (by omega)]; exact h72)
                      | (rw [am_up_n2 (by omega), am_up_n2 (by omega)]; exact h72)
                    · first
                      | exact hf2.up (by omega)
                      | exact (hf2.up (by omega)).up (by omega)
                      | exact fun b K hb => (qf b K (by omega)).trans (hf2 b K hb)⟩) dX2_step_190
            · skip
              have g2 := mt (sp_sbg hb2 (by decide)).mpr hc112
              refine k_aload_n C (f := 0) (i := 0) (p := 0) rfl rfl dX2_step_115 ?_
              refine k_callVg C s_X2_149 h_X2_stepOverWord (L2_s hi) rfl (ct_X2_stepOverWord (k := s) hi hx2 hs h52) rfl rfl (Nat.le_of_ble_eq_true rfl) ⟨Nat.le_of_ble_eq_true rfl, Nat.le_of_ble_eq_true rfl⟩ ⟨Nat.le_of_ble_eq_true rfl, Nat.le_of_ble_eq_true rfl⟩ ⟨rfl, rfl⟩ dX2_step_116 ?_
              intro v I3 hv
              obtain ⟨rfl, q5, q3, qf⟩ := hv
              refine k_goto C (tgt := 190) (by decide) dX2_step_119 ?_
              exact k_vret C (Nat.le_of_ble_eq_true rfl) (Nat.le_of_ble_eq_true rfl) (⟨rfl, rfl, by
                refine ⟨rfl, ?_, ?_, ?_⟩
                · unfold sp_tok
                  rw [hend]
                  first
                  | (have e := sp_tokAt_0 (tb := tb) (show n ≤ s by omega)
                     rw [e]
                     exact ⟨by rw [am_up_eq], by rw [am_up_n2 (by omega)]; exact h42, by rw [am_up_n2 (by omega)]; exact h52, (fun z => by cases z), (by show (0:Nat) ≤ 4; omega), Nat.le_refl _, hs, (by show (0:Nat) ≤ 999; omega)⟩)
                  | (have e := sp_tokAt_1 (tb := tb) (show s < n by omega) ⟨by omega, by omega⟩
                     rw [e] at hT ⊢
                     exact ⟨q3, (qf i 4 (by omega)).trans h42, q5, (fun z => by cases z), hT.1, hT.2.2.1, hT.2.2.2.1, hT.2.2.2.2⟩)
                  | (have e := sp_tokAt_2 (tb := tb) (show s < n by omega) ⟨by omega, by omega⟩
                     rw [e] at hT ⊢
                     exact ⟨q3, (qf i 4 (by omega)).trans h42, q5, (fun _ => q6), hT.1, hT.2.2.1, hT.2.2.2.1, hT.2.2.2.2⟩)
                  | (have e := sp_tokAt_3 (tb := tb) (show s < n by omega) (by omega) (by omega)
                     rw [e] at hT ⊢
                     refine ⟨?_, by rw [am_up_n2 (by omega), am_up_n2 (by omega)]; exact h42, by rw [am_up_eq, nI_add1], (fun z => ?_), hT.1, hT.2.2.1, hT.2.2.2.1, hT.2.2.2.2⟩
                     · rw [am_up_n2 (by omega), am_up_eq]
                       first
                       | (rw [if_pos g5]; done)
                       | (rw [if_neg g5]; done)
                     · have z2 : (if tb s = 59 then 3 else 4) = 2 := z
                       split at z2 <;> omega)
                · first
                  | exact (qf i 7 (by omega)).trans h72
                  | (rw [am_up_n2 (by omega)]; exact h72)
                  | (rw [am_up_n2 (by omega), am_up_n2 (by omega)]; exact h72)
                · first
                  | exact hf2.up (by omega)
                  | exact (hf2.up (by omega)).up (by omega)
                  | exact fun b K hb => (qf b K (by omega)).trans (hf2 b K hb)⟩) dX2_step_190
        · skip
          refine k_aload_n C (f := 0) (i := 0) (p := 0) rfl rfl dX2_step_79 ?_
          refine k_iconst C ic_0 dX2_step_80 ?_
          refine k_putI C f_X2_69 (L2_s (by assumption)) rfl rfl dX2_step_81 ?_
          refine k_goto C (tgt := 190) (by decide) dX2_step_84 ?_
          exact k_vret C (Nat.le_of_ble_eq_true rfl) (Nat.le_of_ble_eq_true rfl) (⟨rfl, rfl, by
            refine ⟨rfl, ?_, ?_, ?_⟩
            · unfold sp_tok
              rw [hend]
              first
              | (have e := sp_tokAt_0 (tb := tb) (show n ≤ s by omega)
                 rw [e]
                 exact ⟨by rw [am_up_eq], by rw [am_up_n2 (by omega)]; exact h42, by rw [am_up_n2 (by omega)]; exact h52, (fun z => by cases z), (by show (0:Nat) ≤ 4; omega), Nat.le_refl _, hs, (by show (0:Nat) ≤ 999; omega)⟩)
              | (have e := sp_tokAt_1 (tb := tb) (show s < n by omega) ⟨by omega, by omega⟩
                 rw [e] at hT ⊢
                 exact ⟨q3, (qf i 4 (by omega)).trans h42, q5, (fun z => by cases z), hT.1, hT.2.2.1, hT.2.2.2.1, hT.2.2.2.2⟩)
              | (have e := sp_tokAt_2 (tb := tb) (show s < n by omega) ⟨by omega, by omega⟩
                 rw [e] at hT ⊢
                 exact ⟨q3, (qf i 4 (by omega)).trans h42, q5, (fun _ => q6), hT.1, hT.2.2.1, hT.2.2.2.1, hT.2.2.2.2⟩)
              | (have e := sp_tokAt_3 (tb := tb) (show s < n by omega) (by omega) (by omega)
                 rw [e] at hT ⊢
                 refine ⟨?_, by rw [am_up_n2 (by omega), am_up_n2 (by omega)]; exact h42, by rw [am_up_eq, nI_add1], (fun z => ?_), hT.1, hT.2.2.1, hT.2.2.2.1, hT.2.2.2.2⟩
                 · rw [am_up_n2 (by omega), am_up_eq]
                   first
                   | (rw [if_pos g5]; done)
                   | (rw [if_neg g5]; done)
                 · have z2 : (if tb s = 59 then 3 else 4) = 2 := z
                   split at z2 <;> omega)
            · first
              | exact (qf i 7 (by omega)).trans h72
              | (rw [am_up_n2 (by omega)]; exact h72)
              | (rw [am_up_n2 (by omega), am_up_n2 (by omega)]; exact h72)
            · first
              | exact hf2.up (by omega)
              | exact (hf2.up (by omega)).up (by omega)
              | exact fun b K hb => (qf b K (by omega)).trans (hf2 b K hb)⟩) dX2_step_190
      · skip
        refine k_aload_n C (f := 0) (i := 0) (p := 0) rfl rfl dX2_step_19 ?_
        refine k_getR C f_X2_9 (L2_s (by assumption)) (fun _ _ _ => rfl) (L2_0 (by assumption)) dX2_step_20 ?_
        refine k_aload_n C (f := 0) (i := 0) (p := 0) rfl rfl dX2_step_23 ?_
        refine k_getI C f_X2_72 (L2_s (by assumption)) (fun _ _ _ => rfl) (h41) dX2_step_24 ?_
        refine k_bald C (A2_0 (by assumption)) (by first | rfl | assumption) (by omega) (by decide) ((hx1.2.2 s (by omega)).1) dX2_step_27 ?_
        refine k_bipush C bc_32 dX2_step_28 ?_
        refine k_icmp_eq C (tgt := 47) (by decide) dX2_step_30 (fun hc30 => ?_) (fun hc30 => ?_)
        · skip
          have hb := (hx1.2.2 s (by omega)).2
          have hc := (sp_sbe hb (by decide)).mp hc30
          refine k_aload_n C (f := 0) (i := 0) (p := 0) rfl rfl dX2_step_47 ?_
          refine k_dup C rfl dX2_step_48 ?_
          refine k_getI C f_X2_72 (L2_s (by assumption)) (fun _ _ _ => rfl) (h41) dX2_step_49 ?_
          refine k_iconst C ic_1 dX2_step_52 ?_
          refine k_iadd C dX2_step_53 ?_
          refine k_putI C f_X2_72 (L2_s (by assumption)) rfl rfl dX2_step_54 ?_
          refine k_goto C (tgt := 8) (by decide) dX2_step_57 ?_
          refine k_sub [0] rfl ?_
          exact ih8 (s + 1) _ (by omega) (by rw [am_up_eq, nI_add1]) (hE.trans (sp_end_t ⟨by omega, sp_isS_iff.mpr (by omega)⟩)) (fun b K hb => by rw [am_up_n2 hb]; exact hg1 b K hb) (by omega)
        · skip
          have hb := (hx1.2.2 s (by omega)).2
          have hc := mt (sp_sbe hb (by decide)).mpr hc30
          refine k_aload_n C (f := 0) (i := 0) (p := 0) rfl rfl dX2_step_33 ?_
          refine k_getR C f_X2_9 (L2_s (by assumption)) (fun _ _ _ => rfl) (L2_0 (by assumption)) dX2_step_34 ?_
          refine k_aload_n C (f := 0) (i := 0) (p := 0) rfl rfl dX2_step_37 ?_
          refine k_getI C f_X2_72 (L2_s (by assumption)) (fun _ _ _ => rfl) (h41) dX2_step_38 ?_
          refine k_bald C (A2_0 (by assumption)) (by first | rfl | assumption) (by omega) (by decide) ((hx1.2.2 s (by omega)).1) dX2_step_41 ?_
          refine k_bipush C bc_10 dX2_step_42 ?_
          refine k_icmp_ne C (tgt := 60) (by decide) dX2_step_44 (fun hc44 => ?_) (fun hc44 => ?_)
          · skip
            have hd := mt (sp_sbe hb (by decide)).mpr hc44
            refine k_aload_n C (f := 0) (i := 0) (p := 0) rfl rfl dX2_step_60 ?_
            refine k_aload_n C (f := 0) (i := 0) (p := 0) rfl rfl dX2_step_61 ?_
            refine k_getI C f_X2_72 (L2_s (by assumption)) (fun _ _ _ => rfl) (h41) dX2_step_62 ?_
            refine k_putI C f_X2_44 (L2_s (by assumption)) rfl rfl dX2_step_65 ?_
            obtain ⟨I2, hI2⟩ : ∃ z : am_I, z = am_up I1 i 5 (nI s) := ⟨_, rfl⟩
            rw [← hI2]
            have hf2 : InFr i I I2 := by rw [hI2]; exact hf1.up (by omega)
            have hx2 := hx.fr hf2
            have h42 : I2 i 4 = nI s := by rw [hI2, am_up_n2 (by omega)]; exact h41
            have h52 : I2 i 5 = nI s := by rw [hI2, am_up_eq]
            have h72 : I2 i 7 = I i 7 := by rw [hI2, am_up_n2 (by omega)]; exact hg1 i 7 (by omega)
            have hend : sp_end sp_isS tb n k = s := by rw [hE, sp_end_f (fun z => by have := sp_isS_iff.mp z.2; omega)]
            have hT := sp_tokAt_b (tb := tb) (n := n) (show s ≤ n from hs)
            clear hI2
            refine k_aload_n C (f := 0) (i := 0) (p := 0) rfl rfl dX2_step_68 ?_
            refine k_getI C f_X2_72 (L2_s (by assumption)) (fun _ _ _ => rfl) (h42) dX2_step_69 ?_
            refine k_aload_n C (f := 0) (i := 0) (p := 0) rfl rfl dX2_step_72 ?_
            refine k_getI C f_X2_41 (L2_s (by assumption)) (fun _ _ _ => rfl) (hx2.1) dX2_step_73 ?_
            first
            | refine k_icmpN_lt C (tgt := 87) (by omega) (by omega) (by decide) dX2_step_76 (fun hc76 => ?_) (fun hc76 => ?_)
            | refine k_icmp_lt C (tgt := 87) (by decide) dX2_step_76 (fun hc76 => ?_) (fun hc76 => ?_)
            · skip
              refine k_aload_n C (f := 0) (i := 0) (p := 0) rfl rfl dX2_step_87 ?_
              refine k_getR C f_X2_9 (L2_s (by assumption)) (fun _ _ _ => rfl) (L2_0 (by assumption)) dX2_step_88 ?_
              refine k_aload_n C (f := 0) (i := 0) (p := 0) rfl rfl dX2_step_91 ?_
              refine k_getI C f_X2_72 (L2_s (by assumption)) (fun _ _ _ => rfl) (h42) dX2_step_92 ?_
              refine k_bald C (A2_0 (by assumption)) (by first | rfl | assumption) (by omega) (by decide) ((hx2.2.2 s (by omega)).1) dX2_step_95 ?_
              refine k_bipush C bc_97 dX2_step_96 ?_
              refine k_icmp_lt C (tgt := 122) (by decide) dX2_step_98 (fun hc98 => ?_) (fun hc98 => ?_)
              · skip
                have hb2 := (hx2.2.2 s (by omega)).2
                have g1 := (sp_sbl hb2 (by decide)).mp hc98
                refine k_aload_n C (f := 0) (i := 0) (p := 0) rfl rfl dX2_step_122 ?_
                refine k_getR C f_X2_9 (L2_s (by assumption)) (fun _ _ _ => rfl) (L2_0 (by assumption)) dX2_step_123 ?_
                refine k_aload_n C (f := 0) (i := 0) (p := 0) rfl rfl dX2_step_126 ?_
                refine k_getI C f_X2_72 (L2_s (by assumption)) (fun _ _ _ => rfl) (h42) dX2_step_127 ?_
                refine k_bald C (A2_0 (by assumption)) (by first | rfl | assumption) (by omega) (by decide) ((hx2.2.2 s (by omega)).1) dX2_step_130 ?_
                refine k_bipush C bc_48 dX2_step_131 ?_
                refine k_icmp_lt C (tgt := 157) (by decide) dX2_step_133 (fun hc133 => ?_) (fun hc133 => ?_)
                · skip
                  have g3 := (sp_sbl hb2 (by decide)).mp hc133
                  refine k_aload_n C (f := 0) (i := 0) (p := 0) rfl rfl dX2_step_157 ?_
                  refine k_aload_n C (f := 0) (i := 0) (p := 0) rfl rfl dX2_step_158 ?_
                  refine k_getR C f_X2_9 (L2_s (by assumption)) (fun _ _ _ => rfl) (L2_0 (by assumption)) dX2_step_159 ?_
                  refine k_aload_n C (f := 0) (i := 0) (p := 0) rfl rfl dX2_step_162 ?_
                  refine k_getI C f_X2_72 (L2_s (by assumption)) (fun _ _ _ => rfl) (h42) dX2_step_163 ?_
                  refine k_bald C (A2_0 (by assumption)) (by first | rfl | assumption) (by omega) (by decide) ((hx2.2.2 s (by omega)).1) dX2_step_166 ?_
                  refine k_bipush C bc_59 dX2_step_167 ?_
                  refine k_icmp_ne C (tgt := 176) (by decide) dX2_step_169 (fun hc169 => ?_) (fun hc169 => ?_)
                  · skip
                    have g5 := mt (sp_sbe hb2 (by decide)).mpr hc169
                    refine k_iconst C ic_4 dX2_step_176 ?_
                    refine k_putI C f_X2_69 (L2_s (by assumption)) rfl rfl dX2_step_177 ?_
                    refine k_aload_n C (f := 0) (i := 0) (p := 0) rfl rfl dX2_step_180 ?_
                    refine k_dup C rfl dX2_step_181 ?_
                    refine k_getI C f_X2_44 (L2_s (by assumption)) (fun _ _ _ => rfl) (Eq.trans (am_up_n2 (by omega)) h52) dX2_step_182 ?_
                    refine k_iconst C ic_1 dX2_step_185 ?_
                    refine k_iadd C dX2_step_186 ?_
                    refine k_putI C f_X2_44 (L2_s (by assumption)) rfl rfl dX2_step_187 ?_
                    exact k_vret C (Nat.le_of_ble_eq_true rfl) (Nat.le_of_ble_eq_true rfl) (⟨rfl, rfl, by
                      refine ⟨rfl, ?_, ?_, ?_⟩
                      · unfold sp_tok
                        rw [hend]
                        first
                        | (have e := sp_tokAt_0 (tb := tb) (show n ≤ s by omega)
                           rw [e]
                           exact ⟨by rw [am_up_eq], by rw [am_up_n2 (by omega)]; exact h42, by rw [am_up_n2 (by omega)]; exact h52, (fun z => by cases z), (by show (0:Nat) ≤ 4; omega), Nat.le_refl _, hs, (by show (0:Nat) ≤ 999; omega)⟩)
                        | (have e := sp_tokAt_1 (tb := tb) (show s < n by omega) ⟨by omega, by omega⟩
                           rw [e] at hT ⊢
                           exact ⟨q3, (qf i 4 (by omega)).trans h42, q5, (fun z => by cases z), hT.1, hT.2.2.1, hT.2.2.2.1, hT.2.2.2.2⟩)
                        | (have e := sp_tokAt_2 (tb := tb) (show s < n by omega) ⟨by omega, by omega⟩
                           rw [e] at hT ⊢
                           exact ⟨q3, (qf i 4 (by omega)).trans h42, q5, (fun _ => q6), hT.1, hT.2.2.1, hT.2.2.2.1, hT.2.2.2.2⟩)
                        | (have e := sp_tokAt_3 (tb := tb) (show s < n by omega) (by omega) (by omega)
                           rw [e] at hT ⊢
                           refine ⟨?_, by rw [am_up_n2 (by omega), am_up_n2 (by omega)]; exact h42, by rw [am_up_eq, nI_add1], (fun z => ?_), hT.1, hT.2.2.1, hT.2.2.2.1, hT.2.2.2.2⟩
                           · rw [am_up_n2 (by omega), am_up_eq]
                             first
                             | (rw [if_pos g5]; done)
                             | (rw [if_neg g5]; done)
                           · have z2 : (if tb s = 59 then 3 else 4) = 2 := z
                             split at z2 <;> omega)
                      · first
                        | exact (qf i 7 (by omega)).trans h72
                        | (rw [am_up_n2 (by omega)]; exact h72)
                        | (rw [am_up_n2 (by omega), am_up_n2 (by omega)]; exact h72)
                      · first
                        | exact hf2.up (by omega)
                        | exact (hf2.up (by omega)).up (by omega)
                        | exact fun b K hb => (qf b K (by omega)).trans (hf2 b K hb)⟩) dX2_step_190
                  · skip
                    have g5 := (sp_sbe hb2 (by decide)).mp hc169
                    refine k_iconst C ic_3 dX2_step_172 ?_
                    refine k_goto C (tgt := 177) (by decide) dX2_step_173 ?_
                    refine k_putI C f_X2_69 (L2_s (by assumption)) rfl rfl dX2_step_177 ?_
                    refine k_aload_n C (f := 0) (i := 0) (p := 0) rfl rfl dX2_step_180 ?_
                    refine k_dup C rfl dX2_step_181 ?_
                    refine k_getI C f_X2_44 (L2_s (by assumption)) (fun _ _ _ => rfl) (Eq.trans (am_up_n2 (by omega)) h52) dX2_step_182 ?_
                    refine k_iconst C ic_1 dX2_step_185 ?_
                    refine k_iadd C dX2_step_186 ?_
                    refine k_putI C f_X2_44 (L2_s (by assumption)) rfl rfl dX2_step_187 ?_
                    exact k_vret C (Nat.le_of_ble_eq_true rfl) (Nat.le_of_ble_eq_true rfl) (⟨rfl, rfl, by
                      refine ⟨rfl, ?_, ?_, ?_⟩
                      · unfold sp_tok
                        rw [hend]
                        first
                        | (have e := sp_tokAt_0 (tb := tb) (show n ≤ s by omega)
                           rw [e]
                           exact ⟨by rw [am_up_eq], by rw [am_up_n2 (by omega)]; exact h42, by rw [am_up_n2 (by omega)]; exact h52, (fun z => by cases z), (by show (0:Nat) ≤ 4; omega), Nat.le_refl _, hs, (by show (0:Nat) ≤ 999; omega)⟩)
                        | (have e := sp_tokAt_1 (tb := tb) (show s < n by omega) ⟨by omega, by omega⟩
                           rw [e] at hT ⊢
                           exact ⟨q3, (qf i 4 (by omega)).trans h42, q5, (fun z => by cases z), hT.1, hT.2.2.1, hT.2.2.2.1, hT.2.2.2.2⟩)
                        | (have e := sp_tokAt_2 (tb := tb) (show s < n by omega) ⟨by omega, by omega⟩
                           rw [e] at hT ⊢
                           exact ⟨q3, (qf i 4 (by omega)).trans h42, q5, (fun _ => q6), hT.1, hT.2.2.1, hT.2.2.2.1, hT.2.2.2.2⟩)
                        | (have e := sp_tokAt_3 (tb := tb) (show s < n by omega) (by omega) (by omega)
                           rw [e] at hT ⊢
                           refine ⟨?_, by rw [am_up_n2 (by omega), am_up_n2 (by omega)]; exact h42, by rw [am_up_eq, nI_add1], (fun z => ?_), hT.1, hT.2.2.1, hT.2.2.2.1, hT.2.2.2.2⟩
                           · rw [am_up_n2 (by omega), am_up_eq]
                             first
                             | (rw [if_pos g5]; done)
                             | (rw [if_neg g5]; done)
                           · have z2 : (if tb s = 59 then 3 else 4) = 2 := z
                             split at z2 <;> omega)
                      · first
                        | exact (qf i 7 (by omega)).trans h72
                        | (rw [am_up_n2 (by omega)]; exact h72)
                        | (rw [am_up_n2 (by omega), am_up_n2 (by omega)]; exact h72)
                      · first
                        | exact hf2.up (by omega)
                        | exact (hf2.up (by omega)).up (by omega)
                        | exact fun b K hb => (qf b K (by omega)).trans (hf2 b K hb)⟩) dX2_step_190
                · skip
                  have g3 := mt (sp_sbl hb2 (by decide)).mpr hc133
                  refine k_aload_n C (f := 0) (i := 0) (p := 0) rfl rfl dX2_step_136 ?_
                  refine k_getR C f_X2_9 (L2_s (by assumption)) (fun _ _ _ => rfl) (L2_0 (by assumption)) dX2_step_137 ?_
                  refine k_aload_n C (f := 0) (i := 0) (p := 0) rfl rfl dX2_step_140 ?_
                  refine k_getI C f_X2_72 (L2_s (by assumption)) (fun _ _ _ => rfl) (h42) dX2_step_141 ?_
                  refine k_bald C (A2_0 (by assumption)) (by first | rfl | assumption) (by omega) (by decide) ((hx2.2.2 s (by omega)).1) dX2_step_144 ?_
                  refine k_bipush C bc_57 dX2_step_145 ?_
                  refine k_icmp_gt C (tgt := 157) (by decide) dX2_step_147 (fun hc147 => ?_) (fun hc147 => ?_)
                  · skip
                    have g4 := (sp_sbg hb2 (by decide)).mp hc147
                    refine k_aload_n C (f := 0) (i := 0) (p := 0) rfl rfl dX2_step_157 ?_
                    refine k_aload_n C (f := 0) (i := 0) (p := 0) rfl rfl dX2_step_158 ?_
                    refine k_getR C f_X2_9 (L2_s (by assumption)) (fun _ _ _ => rfl) (L2_0 (by assumption)) dX2_step_159 ?_
                    refine k_aload_n C (f := 0) (i := 0) (p := 0) rfl rfl dX2_step_162 ?_
                    refine k_getI C f_X2_72 (L2_s (by assumption)) (fun _ _ _ => rfl) (h42) dX2_step_163 ?_
                    refine k_bald C (A2_0 (by assumption)) (by first | rfl | assumption) (by omega) (by decide) ((hx2.2.2 s (by omega)).1) dX2_step_166 ?_
                    refine k_bipush C bc_59 dX2_step_167 ?_
                    refine k_icmp_ne C (tgt := 176) (by decide) dX2_step_169 (fun hc169 => ?_) (fun hc169 => ?_)
                    · skip
                      have g5 := mt (sp_sbe hb2 (by decide)).mpr hc169
                      refine k_iconst C ic_4 dX2_step_176 ?_
                      refine k_putI C f_X2_69 (L2_s (by assumption)) rfl rfl dX2_step_177 ?_
                      refine k_aload_n C (f := 0) (i := 0) (p := 0) rfl rfl dX2_step_180 ?_
                      refine k_dup C rfl dX2_step_181 ?_
                      refine k_getI C f_X2_44 (L2_s (by assumption)) (fun _ _ _ => rfl) (Eq.trans (am_up_n2 (by omega)) h52) dX2_step_182 ?_
                      refine k_iconst C ic_1 dX2_step_185 ?_
                      refine k_iadd C dX2_step_186 ?_
                      refine k_putI C f_X2_44 (L2_s (by assumption)) rfl rfl dX2_step_187 ?_
                      exact k_vret C (Nat.le_of_ble_eq_true rfl) (Nat.le_of_ble_eq_true rfl) (⟨rfl, rfl, by
                        refine ⟨rfl, ?_, ?_, ?_⟩
                        · unfold sp_tok
                          rw [hend]
                          first
                          | (have e := sp_tokAt_0 (tb := tb) (show n ≤ s by omega)
                             rw [e]
                             exact ⟨by rw [am_up_eq], by rw [am_up_n2 (by omega)]; exact h42, by rw [am_up_n2 (by omega)]; exact h52, (fun z => by cases z), (by show (0:Nat) ≤ 4; omega), Nat.le_refl _, hs, (by show (0:Nat) ≤ 999; omega)⟩)
                          | (have e := sp_tokAt_1 (tb := tb) (show s < n by omega) ⟨by omega, by omega⟩
                             rw [e] at hT ⊢
                             exact ⟨q3, (qf i 4 (by omega)).trans h42, q5, (fun z => by cases z), hT.1, hT.2.2.1, hT.2.2.2.1, hT.2.2.2.2⟩)
                          | (have e := sp_tokAt_2 (tb := tb) (show s < n by omega) ⟨by omega, by omega⟩
                             rw [e] at hT ⊢
                             exact ⟨q3, (qf i 4 (by omega)).trans h42, q5, (fun _ => q6), hT.1, hT.2.2.1, hT.2.2.2.1, hT.2.2.2.2⟩)
                          | (have e := sp_tokAt_3 (tb := tb) (show s < n by omega) (by omega) (by omega)
                             rw [e] at hT ⊢
                             refine ⟨?_, by rw [am_up_n2 (by omega), am_up_n2 (by omega)]; exact h42, by rw [am_up_eq, nI_add1], (fun z => ?_), hT.1, hT.2.2.1, hT.2.2.2.1, hT.2.2.2.2⟩
                             · rw [am_up_n2 (by omega), am_up_eq]
                               first
                               | (rw [if_pos g5]; done)
                               | (rw [if_neg g5]; done)
                             · have z2 : (if tb s = 59 then 3 else 4) = 2 := z
                               split at z2 <;> omega)
                        · first
                          | exact (qf i 7 (by omega)).trans h72
                          | (rw [am_up_n2 (by omega)]; exact h72)
                          | (rw [am_up_n2 (by omega), am_up_n2 (by omega)]; exact h72)
                        · first
                          | exact hf2.up (by omega)
                          | exact (hf2.up (by omega)).up (by omega)
                          | exact fun b K hb => (qf b K (by omega)).trans (hf2 b K hb)⟩) dX2_step_190
                    · skip
                      have g5 := (sp_sbe hb2 (by decide)).mp hc169
                      refine k_iconst C ic_3 dX2_step_172 ?_
                      refine k_goto C (tgt := 177) (by decide) dX2_step_173 ?_
                      refine k_putI C f_X2_69 (L2_s (by assumption)) rfl rfl dX2_step_177 ?_
                      refine k_aload_n C (f := 0) (i := 0) (p := 0) rfl rfl dX2_step_180 ?_
                      refine k_dup C rfl dX2_step_181 ?_
                      refine k_getI C f_X2_44 (L2_s (by assumption)) (fun _ _ _ => rfl) (Eq.trans (am_up_n2 (by omega)) h52) dX2_step_182 ?_
                      refine k_iconst C ic_1 dX2_step_185 ?_
                      refine k_iadd C dX2_step_186 ?_
                      refine k_putI C f_X2_44 (L2_s (by assumption)) rfl rfl dX2_step_187 ?_
                      exact k_vret C (Nat.le_of_ble_eq_true rfl) (Nat.le_of_ble_eq_true rfl) (⟨rfl, rfl, by
                        refine ⟨rfl, ?_, ?_, ?_⟩
                        · unfold sp_tok
                          rw [hend]
                          first
                          | (have e := sp_tokAt_0 (tb := tb) (show n ≤ s by omega)
                             rw [e]
                             exact ⟨by rw [am_up_eq], by rw [am_up_n2 (by omega)]; exact h42, by rw [am_up_n2 (by omega)]; exact h52, (fun z => by cases z), (by show (0:Nat) ≤ 4; omega), Nat.le_refl _, hs, (by show (0:Nat) ≤ 999; omega)⟩)
                          | (have e := sp_tokAt_1 (tb := tb) (show s < n by omega) ⟨by omega, by omega⟩
                             rw [e] at hT ⊢
                             exact ⟨q3, (qf i 4 (by omega)).trans h42, q5, (fun z => by cases z), hT.1, hT.2.2.1, hT.2.2.2.1, hT.2.2.2.2⟩)
                          | (have e := sp_tokAt_2 (tb := tb) (show s < n by omega) ⟨by omega, by omega⟩
                             rw [e] at hT ⊢
                             exact ⟨q3, (qf i 4 (by omega)).trans h42, q5, (fun _ => q6), hT.1, hT.2.2.1, hT.2.2.2.1, hT.2.2.2.2⟩)
                          | (have e := sp_tokAt_3 (tb := tb) (show s < n by omega) (by omega) (by omega)
                             rw [e] at hT ⊢
                             refine ⟨?_, by rw [am_up_n2 (by omega), am_up_n2 (by omega)]; exact h42, by rw [am_up_eq, nI_add1], (fun z => ?_), hT.1, hT.2.2.1, hT.2.2.2.1, hT.2.2.2.2⟩
                             · rw [am_up_n2 (by omega), am_up_eq]
                               first
                               | (rw [if_pos g5]; done)
                               | (rw [if_neg g5]; done)
                             · have z2 : (if tb s = 59 then 3 else 4) = 2 := z
                               split at z2 <;> omega)
                        · first
                          | exact (qf i 7 (by omega)).trans h72
                          | (rw [am_up_n2 (by omega)]; exact h72)
                          | (rw [am_up_n2 (by omega), am_up_n2 (by omega)]; exact h72)
                        · first
                          | exact hf2.up (by omega)
                          | exact (hf2.up (by omega)).up (by omega)
                          | exact fun b K hb => (qf b K (by omega)).trans (hf2 b K hb)⟩) dX2_step_190
                  · skip
                    have g4 := mt (sp_sbg hb2 (by decide)).mpr hc147
                    refine k_aload_n C (f := 0) (i := 0) (p := 0) rfl rfl dX2_step_150 ?_
                    refine k_callVg C s_X2_152 h_X2_stepOverNumber (L2_s hi) rfl (ct_X2_stepOverNumber (st := s) hi hx2 hs h42 h52) rfl rfl (Nat.le_of_ble_eq_true rfl) ⟨Nat.le_of_ble_eq_true rfl, Nat.le_of_ble_eq_true rfl⟩ ⟨Nat.le_of_ble_eq_true rfl, Nat.le_of_ble_eq_true rfl⟩ ⟨rfl, rfl⟩ dX2_step_151 ?_
                    intro v I3 hv
                    obtain ⟨rfl, q5, q3, q6, qf⟩ := hv
                    refine k_goto C (tgt := 190) (by decide) dX2_step_154 ?_
                    exact k_vret C (Nat.le_of_ble_eq_true rfl) (Nat.le_of_ble_eq_true rfl) (⟨rfl, rfl, by
                      refine ⟨rfl, ?_, ?_, ?_⟩
                      · unfold sp_tok
                        rw [hend]
                        first
                        | (have e := sp_tokAt_0 (tb := tb) (show n ≤ s by omega)
                           rw [e]
                           exact ⟨by rw [am_up_eq], by rw [am_up_n2 (by omega)]; exact h42, by rw [am_up_n2 (by omega)]; exact h52, (fun z => by cases z), (by show (0:Nat) ≤ 4; omega), Nat.le_refl _, hs, (by show (0:Nat) ≤ 999; omega)⟩)
                        | (have e := sp_tokAt_1 (tb := tb) (show s < n by omega) ⟨by omega, by omega⟩
                           rw [e] at hT ⊢
                           exact ⟨q3, (qf i 4 (by omega)).trans h42, q5, (fun z => by cases z), hT.1, hT.2.2.1, hT.2.2.2.1, hT.2.2.2.2⟩)
                        | (have e := sp_tokAt_2 (tb := tb) (show s < n by omega) ⟨by omega, by omega⟩
                           rw [e] at hT ⊢
                           exact ⟨q3, (qf i 4 (by omega)).trans h42, q5, (fun _ => q6), hT.1, hT.2.2.1, hT.2.2.2.1, hT.2.2.2.2⟩)
                        | (have e := sp_tokAt_3 (tb := tb) (show s < n by omega) (by omega) (by omega)
                           rw [e] at hT ⊢
                           refine ⟨?_, by rw [am_up_n2 (by omega), am_up_n2 (by omega)]; exact h42, by rw [am_up_eq, nI_add1], (fun z => ?_), hT.1, hT.2.2.1, hT.2.2.2.1, hT.2.2.2.2⟩
                           · rw [am_up_n2 (by omega), am_up_eq]
                             first
                             | (rw [if_pos g5]; done)
                             | (rw [if_neg g5]; done)
                           · have z2 : (if tb s = 59 then 3 else 4) = 2 := z
                             split at z2 <;> omega)
                      · first
                        | exact (qf i 7 (by omega)).trans h72
                        | (rw [am_up_n2 (by omega)]; exact h72)
                        | (rw [am_up_n2 (by omega), am_up_n2 (by omega)]; exact h72)
                      · first
                        | exact hf2.up (by omega)
                        | exact (hf2.up (by omega)).up (by omega)
                        | exact fun b K hb => (qf b K (by omega)).trans (hf2 b K hb)⟩) dX2_step_190
              · skip
                have hb2 := (hx2.2.2 s (by omega)).2
                have g1 := mt (sp_sbl hb2 (by decide)).mpr hc98
                refine k_aload_n C (f := 0) (i := 0) (p := 0) rfl rfl dX2_step_101 ?_
                refine k_getR C f_X2_9 (L2_s (by assumption)) (fun _ _ _ => rfl) (L2_0 (by assumption)) dX2_step_102 ?_
                refine k_aload_n C (f := 0) (i := 0) (p := 0) rfl rfl dX2_step_105 ?_
                refine k_getI C f_X2_72 (L2_s (by assumption)) (fun _ _ _ => rfl) (h42) dX2_step_106 ?_
                refine k_bald C (A2_0 (by assumption)) (by first | rfl | assumption) (by omega) (by decide) ((hx2.2.2 s (by omega)).1) dX2_step_109 ?_
                refine k_bipush C bc_122 dX2_step_110 ?_
                refine k_icmp_gt C (tgt := 122) (by decide) dX2_step_112 (fun hc112 => ?_) (fun hc112 => ?_)
                · skip
                  have g2 := (sp_sbg hb2 (by decide)).mp hc112
                  refine k_aload_n C (f := 0) (i := 0) (p := 0) rfl rfl dX2_step_122 ?_
                  refine k_getR C f_X2_9 (L2_s (by assumption)) (fun _ _ _ => rfl) (L2_0 (by assumption)) dX2_step_123 ?_
                  refine k_aload_n C (f := 0) (i := 0) (p := 0) rfl rfl dX2_step_126 ?_
                  refine k_getI C f_X2_72 (L2_s (by assumption)) (fun _ _ _ => rfl) (h42) dX2_step_127 ?_
                  refine k_bald C (A2_0 (by assumption)) (by first | rfl | assumption) (by omega) (by decide) ((hx2.2.2 s (by omega)).1) dX2_step_130 ?_
                  refine k_bipush C bc_48 dX2_step_131 ?_
                  refine k_icmp_lt C (tgt := 157) (by decide) dX2_step_133 (fun hc133 => ?_) (fun hc133 => ?_)
                  · skip
                    have g3 := (sp_sbl hb2 (by decide)).mp hc133
                    refine k_aload_n C (f := 0) (i := 0) (p := 0) rfl rfl dX2_step_157 ?_
                    refine k_aload_n C (f := 0) (i := 0) (p := 0) rfl rfl dX2_step_158 ?_
                    refine k_getR C f_X2_9 (L2_s (by assumption)) (fun _ _ _ => rfl) (L2_0 (by assumption)) dX2_step_159 ?_
                    refine k_aload_n C (f := 0) (i := 0) (p := 0) rfl rfl dX2_step_162 ?_
                    refine k_getI C f_X2_72 (L2_s (by assumption)) (fun _ _ _ => rfl) (h42) dX2_step_163 ?_
                    refine k_bald C (A2_0 (by assumption)) (by first | rfl | assumption) (by omega) (by decide) ((hx2.2.2 s (by omega)).1) dX2_step_166 ?_
                    refine k_bipush C bc_59 dX2_step_167 ?_
                    refine k_icmp_ne C (tgt := 176) (by decide) dX2_step_169 (fun hc169 => ?_) (fun hc169 => ?_)
                    · skip
                      have g5 := mt (sp_sbe hb2 (by decide)).mpr hc169
                      refine k_iconst C ic_4 dX2_step_176 ?_
                      refine k_putI C f_X2_69 (L2_s (by assumption)) rfl rfl dX2_step_177 ?_
                      refine k_aload_n C (f := 0) (i := 0) (p := 0) rfl rfl dX2_step_180 ?_
                      refine k_dup C rfl dX2_step_181 ?_
                      refine k_getI C f_X2_44 (L2_s (by assumption)) (fun _ _ _ => rfl) (Eq.trans (am_up_n2 (by omega)) h52) dX2_step_182 ?_
                      refine k_iconst C ic_1 dX2_step_185 ?_
                      refine k_iadd C dX2_step_186 ?_
                      refine k_putI C f_X2_44 (L2_s (by assumption)) rfl rfl dX2_step_187 ?_
                      exact k_vret C (Nat.le_of_ble_eq_true rfl) (Nat.le_of_ble_eq_true rfl) (⟨rfl, rfl, by
                        refine ⟨rfl, ?_, ?_, ?_⟩
                        · unfold sp_tok
                          rw [hend]
                          first
                          | (have e := sp_tokAt_0 (tb := tb) (show n ≤ s by omega)
                             rw [e]
                             exact ⟨by rw [am_up_eq], by rw [am_up_n2 (by omega)]; exact h42, by rw [am_up_n2 (by omega)]; exact h52, (fun z => by cases z), (by show (0:Nat) ≤ 4; omega), Nat.le_refl _, hs, (by show (0:Nat) ≤ 999; omega)⟩)
                          | (have e := sp_tokAt_1 (tb := tb) (show s < n by omega) ⟨by omega, by omega⟩
                             rw [e] at hT ⊢
                             exact ⟨q3, (qf i 4 (by omega)).trans h42, q5, (fun z => by cases z), hT.1, hT.2.2.1, hT.2.2.2.1, hT.2.2.2.2⟩)
                          | (have e := sp_tokAt_2 (tb := tb) (show s < n by omega) ⟨by omega, by omega⟩
                             rw [e] at hT ⊢
                             exact ⟨q3, (qf i 4 (by omega)).trans h42, q5, (fun _ => q6), hT.1, hT.2.2.1, hT.2.2.2.1, hT.2.2.2.2⟩)
                          | (have e := sp_tokAt_3 (tb := tb) (show s < n by omega) (by omega) (by omega)
                             rw [e] at hT ⊢
                             refine ⟨?_, by rw [am_up_n2 (by omega), am_up_n2 (by omega)]; exact h42, by rw [am_up_eq, nI_add1], (fun z => ?_), hT.1, hT.2.2.1, hT.2.2.2.1, hT.2.2.2.2⟩
                             · rw [am_up_n2 (by omega), am_up_eq]
                               first
                               | (rw [if_pos g5]; done)
                               | (rw [if_neg g5]; done)
                             · have z2 : (if tb s = 59 then 3 else 4) = 2 := z
                               split at z2 <;> omega)
                        · first
                          | exact (qf i 7 (by omega)).trans h72
                          | (rw [am_up_n2 (by omega)]; exact h72)
                          | (rw [am_up_n2 (by omega), am_up_n2 (by omega)]; exact h72)
                        · first
                          | exact hf2.up (by omega)
                          | exact (hf2.up (by omega)).up (by omega)
                          | exact fun b K hb => (qf b K (by omega)).trans (hf2 b K hb)⟩) dX2_step_190
                    · skip
                      have g5 := (sp_sbe hb2 (by decide)).mp hc169
                      refine k_iconst C ic_3 dX2_step_172 ?_
                      refine k_goto C (tgt := 177) (by decide) dX2_step_173 ?_
                      refine k_putI C f_X2_69 (L2_s (by assumption)) rfl rfl dX2_step_177 ?_
                      refine k_aload_n C (f := 0) (i := 0) (p := 0) rfl rfl dX2_step_180 ?_
                      refine k_dup C rfl dX2_step_181 ?_
                      refine k_getI C f_X2_44 (L2_s (by assumption)) (fun _ _ _ => rfl) (Eq.trans (am_up_n2 (by omega)) h52) dX2_step_182 ?_
                      refine k_iconst C ic_1 dX2_step_185 ?_
                      refine k_iadd C dX2_step_186 ?_
                      refine k_putI C f_X2_44 (L2_s (by assumption)) rfl rfl dX2_step_187 ?_
                      exact k_vret C (Nat.le_of_ble_eq_true rfl) (Nat.le_of_ble_eq_true rfl) (⟨rfl, rfl, by
                        refine ⟨rfl, ?_, ?_, ?_⟩
                        · unfold sp_tok
                          rw [hend]
                          first
                          | (have e := sp_tokAt_0 (tb := tb) (show n ≤ s by omega)
                             rw [e]
                             exact ⟨by rw [am_up_eq], by rw [am_up_n2 (by omega)]; exact h42, by rw [am_up_n2 (by omega)]; exact h52, (fun z => by cases z), (by show (0:Nat) ≤ 4; omega), Nat.le_refl _, hs, (by show (0:Nat) ≤ 999; omega)⟩)
                          | (have e := sp_tokAt_1 (tb := tb) (show s < n by omega) ⟨by omega, by omega⟩
                             rw [e] at hT ⊢
                             exact ⟨q3, (qf i 4 (by omega)).trans h42, q5, (fun z => by cases z), hT.1, hT.2.2.1, hT.2.2.2.1, hT.2.2.2.2⟩)
                          | (have e := sp_tokAt_2 (tb := tb) (show s < n by omega) ⟨by omega, by omega⟩
                             rw [e] at hT ⊢
                             exact ⟨q3, (qf i 4 (by omega)).trans h42, q5, (fun _ => q6), hT.1, hT.2.2.1, hT.2.2.2.1, hT.2.2.2.2⟩)
                          | (have e := sp_tokAt_3 (tb := tb) (show s < n by omega) (by omega) (by omega)
                             rw [e] at hT ⊢
                             refine ⟨?_, by rw [am_up_n2 (by omega), am_up_n2 (by omega)]; exact h42, by rw [am_up_eq, nI_add1], (fun z => ?_), hT.1, hT.2.2.1, hT.2.2.2.1, hT.2.2.2.2⟩
                             · rw [am_up_n2 (by omega), am_up_eq]
                               first
                               | (rw [if_pos g5]; done)
                               | (rw [if_neg g5]; done)
                             · have z2 : (if tb s = 59 then 3 else 4) = 2 := z
                               split at z2 <;> omega)
                        · first
                          | exact (qf i 7 (by omega)).trans h72
                          | (rw [am_up_n2 (by omega)]; exact h72)
                          | (rw [am_up_n2 (by omega), am_up_n2 (by omega)]; exact h72)
                        · first
                          | exact hf2.up (by omega)
                          | exact (hf2.up (by omega)).up (by omega)
                          | exact fun b K hb => (qf b K (by omega)).trans (hf2 b K hb)⟩) dX2_step_190
                  · skip
                    have g3 := mt (sp_sbl hb2 (by decide)).mpr hc133
                    refine k_aload_n C (f := 0) (i := 0) (p := 0) rfl rfl dX2_step_136 ?_
                    refine k_getR C f_X2_9 (L2_s (by assumption)) (fun _ _ _ => rfl) (L2_0 (by assumption)) dX2_step_137 ?_
                    refine k_aload_n C (f := 0) (i := 0) (p := 0) rfl rfl dX2_step_140 ?_
                    refine k_getI C f_X2_72 (L2_s (by assumption)) (fun _ _ _ => rfl) (h42) dX2_step_141 ?_
                    refine k_bald C (A2_0 (by assumption)) (by first | rfl | assumption) (by omega) (by decide) ((hx2.2.2 s (by omega)).1) dX2_step_144 ?_
                    refine k_bipush C bc_57 dX2_step_145 ?_
                    refine k_icmp_gt C (tgt := 157) (by decide) dX2_step_147 (fun hc147 => ?_) (fun hc147 => ?_)
                    · skip
                      have g4 := (sp_sbg hb2 (by decide)).mp hc147
                      refine k_aload_n C (f := 0) (i := 0) (p := 0) rfl rfl dX2_step_157 ?_
                      refine k_aload_n C (f := 0) (i := 0) (p := 0) rfl rfl dX2_step_158 ?_
                      refine k_getR C f_X2_9 (L2_s (by assumption)) (fun _ _ _ => rfl) (L2_0 (by assumption)) dX2_step_159 ?_
                      refine k_aload_n C (f := 0) (i := 0) (p := 0) rfl rfl dX2_step_162 ?_
                      refine k_getI C f_X2_72 (L2_s (by assumption)) (fun _ _ _ => rfl) (h42) dX2_step_163 ?_
                      refine k_bald C (A2_0 (by assumption)) (by first | rfl | assumption) (by omega) (by decide) ((hx2.2.2 s (by omega)).1) dX2_step_166 ?_
                      refine k_bipush C bc_59 dX2_step_167 ?_
                      refine k_icmp_ne C (tgt := 176) (by decide) dX2_step_169 (fun hc169 => ?_) (fun hc169 => ?_)
                      · skip
                        have g5 := mt (sp_sbe hb2 (by decide)).mpr hc169
                        refine k_iconst C ic_4 dX2_step_176 ?_
                        refine k_putI C f_X2_69 (L2_s (by assumption)) rfl rfl dX2_step_177 ?_
                        refine k_aload_n C (f := 0) (i := 0) (p := 0) rfl rfl dX2_step_180 ?_
                        refine k_dup C rfl dX2_step_181 ?_
                        refine k_getI C f_X2_44 (L2_s (by assumption)) (fun _ _ _ => rfl) (Eq.trans (am_up_n2 (by omega)) h52) dX2_step_182 ?_
                        refine k_iconst C ic_1 dX2_step_185 ?_
                        refine k_iadd C dX2_step_186 ?_
                        refine k_putI C f_X2_44 (L2_s (by assumption)) rfl rfl dX2_step_187 ?_
                        exact k_vret C (Nat.le_of_ble_eq_true rfl) (Nat.le_of_ble_eq_true rfl) (⟨rfl, rfl, by
                          refine ⟨rfl, ?_, ?_, ?_⟩
                          · unfold sp_tok
                            rw [hend]
                            first
                            | (have e := sp_tokAt_0 (tb := tb) (show n ≤ s by omega)
                               rw [e]
                               exact ⟨by rw [am_up_eq], by rw [am_up_n2 (by omega)]; exact h42, by rw [am_up_n2 (by omega)]; exact h52, (fun z => by cases z), (by show (0:Nat) ≤ 4; omega), Nat.le_refl _, hs, (by show (0:Nat) ≤ 999; omega)⟩)
                            | (have e := sp_tokAt_1 (tb := tb) (show s < n by omega) ⟨by omega, by omega⟩
                               rw [e] at hT ⊢
                               exact ⟨q3, (qf i 4 (by omega)).trans h42, q5, (fun z => by cases z), hT.1, hT.2.2.1, hT.2.2.2.1, hT.2.2.2.2⟩)
                            | (have e := sp_tokAt_2 (tb := tb) (show s < n by omega) ⟨by omega, by omega⟩
                               rw [e] at hT ⊢
                               exact ⟨q3, (qf i 4 (by omega)).trans h42, q5, (fun _ => q6), hT.1, hT.2.2.1, hT.2.2.2.1, hT.2.2.2.2⟩)
                            | (have e := sp_tokAt_3 (tb := tb) (show s < n by omega) (by omega) (by omega)
                               rw [e] at hT ⊢
                               refine ⟨?_, by rw [am_up_n2 (by omega), am_up_n2 (by omega)]; exact h42, by rw [am_up_eq, nI_add1], (fun z => ?_), hT.1, hT.2.2.1, hT.2.2.2.1, hT.2.2.2.2⟩
                               · rw [am_up_n2 (by omega), am_up_eq]
                                 first
                                 | (rw [if_pos g5]; done)
                                 | (rw [if_neg g5]; done)
                               · have z2 : (if tb s = 59 then 3 else 4) = 2 := z
                                 split at z2 <;> omega)
                          · first
                            | exact (qf i 7 (by omega)).trans h72
                            | (rw [am_up_n2 (by omega)]; exact h72)
                            | (rw [am_up_n2 (by omega), am_up_n2 (by omega)]; exact h72)
                          · first
                            | exact hf2.up (by omega)
                            | exact (hf2.up (by omega)).up (by omega)
                            | exact fun b K hb => (qf b K (by omega)).trans (hf2 b K hb)⟩) dX2_step_190
                      · skip
                        have g5 := (sp_sbe hb2 (by decide)).mp hc169
                        refine k_iconst C ic_3 dX2_step_172 ?_
                        refine k_goto C (tgt := 177) (by decide) dX2_step_173 ?_
                        refine k_putI C f_X2_69 (L2_s (by assumption)) rfl rfl dX2_step_177 ?_
                        refine k_aload_n C (f := 0) (i := 0) (p := 0) rfl rfl dX2_step_180 ?_
                        refine k_dup C rfl dX2_step_181 ?_
                        refine k_getI C f_X2_44 (L2_s (by assumption)) (fun _ _ _ => rfl) (Eq.trans (am_up_n2 (by omega)) h52) dX2_step_182 ?_
                        refine k_iconst C ic_1 dX2_step_185 ?_
                        refine k_iadd C dX2_step_186 ?_
                        refine k_putI C f_X2_44 (L2_s (by assumption)) rfl rfl dX2_step_187 ?_
                        exact k_vret C (Nat.le_of_ble_eq_true rfl) (Nat.le_of_ble_eq_true rfl) (⟨rfl, rfl, by
                          refine ⟨rfl, ?_, ?_, ?_⟩
                          · unfold sp_tok
                            rw [hend]
                            first
                            | (have e := sp_tokAt_0 (tb := tb) (show n ≤ s by omega)
                               rw [e]
                               exact ⟨by rw [am_up_eq], by rw [am_up_n2 (by omega)]; exact h42, by rw [am_up_n2 (by omega)]; exact h52, (fun z => by cases z), (by show (0:Nat) ≤ 4; omega), Nat.le_refl _, hs, (by show (0:Nat) ≤ 999; omega)⟩)
                            | (have e := sp_tokAt_1 (tb := tb) (show s < n by omega) ⟨by omega, by omega⟩
                               rw [e] at hT ⊢
                               exact ⟨q3, (qf i 4 (by omega)).trans h42, q5, (fun z => by cases z), hT.1, hT.2.2.1, hT.2.2.2.1, hT.2.2.2.2⟩)
                            | (have e := sp_tokAt_2 (tb := tb) (show s < n by omega) ⟨by omega, by omega⟩
                               rw [e] at hT ⊢
                               exact ⟨q3, (qf i 4 (by omega)).trans h42, q5, (fun _ => q6), hT.1, hT.2.2.1, hT.2.2.2.1, hT.2.2.2.2⟩)
                            | (have e := sp_tokAt_3 (tb := tb) (show s < n by omega) (by omega) (by omega)
                               rw [e] at hT ⊢
                               refine ⟨?_, by rw [am_up_n2 (by omega), am_up_n2 (by omega)]; exact h42, by rw [am_up_eq, nI_add1], (fun z => ?_), hT.1, hT.2.2.1, hT.2.2.2.1, hT.2.2.2.2⟩
                               · rw [am_up_n2 (by omega), am_up_eq]
                                 first
                                 | (rw [if_pos g5]; done)
                                 | (rw [if_neg g5]; done)
                               · have z2 : (if tb s = 59 then 3 else 4) = 2 := z
                                 split at z2 <;> omega)
                          · first
                            | exact (qf i 7 (by omega)).trans h72
                            | (rw [am_up_n2 (by omega)]; exact h72)
                            | (rw [am_up_n2 (by omega), am_up_n2 (by omega)]; exact h72)
                          · first
                            | exact hf2.up (by omega)
                            | exact (hf2.up (by omega)).up (by omega)
                            | exact fun b K hb => (qf b K (by omega)).trans (hf2 b K hb)⟩) dX2_step_190
                    · skip
                      have g4 := mt (sp_sbg hb2 (by decide)).mpr hc147
                      refine k_aload_n C (f := 0) (i := 0) (p := 0) rfl rfl dX2_step_150 ?_
                      refine k_callVg C s_X2_152 h_X2_stepOverNumber (L2_s hi) rfl (ct_X2_stepOverNumber (st := s) hi hx2 hs h42 h52) rfl rfl (Nat.le_of_ble_eq_true rfl) ⟨Nat.le_of_ble_eq_true rfl, Nat.le_of_ble_eq_true rfl⟩ ⟨Nat.le_of_ble_eq_true rfl, Nat.le_of_ble_eq_true rfl⟩ ⟨rfl, rfl⟩ dX2_step_151 ?_
                      intro v I3 hv
                      obtain ⟨rfl, q5, q3, q6, qf⟩ := hv
                      refine k_goto C (tgt := 190) (by decide) dX2_step_154 ?_
                      exact k_vret C (Nat.le_of_ble_eq_true rfl) (Nat.le_of_ble_eq_true rfl) (⟨rfl, rfl, by
                        refine ⟨rfl, ?_, ?_, ?_⟩
                        · unfold sp_tok
                          rw [hend]
                          first
                          | (have e := sp_tokAt_0 (tb := tb) (show n ≤ s by omega)
                             rw [e]
                             exact ⟨by rw [am_up_eq], by rw [am_up_n2 (by omega)]; exact h42, by rw [am_up_n2 (by omega)]; exact h52, (fun z => by cases z), (by show (0:Nat) ≤ 4; omega), Nat.le_refl _, hs, (by show (0:Nat) ≤ 999; omega)⟩)
                          | (have e := sp_tokAt_1 (tb := tb) (show s < n by omega) ⟨by omega, by omega⟩
                             rw [e] at hT ⊢
                             exact ⟨q3, (qf i 4 (by omega)).trans h42, q5, (fun z => by cases z), hT.1, hT.2.2.1, hT.2.2.2.1, hT.2.2.2.2⟩)
                          | (have e := sp_tokAt_2 (tb := tb) (show s < n by omega) ⟨by omega, by omega⟩
                             rw [e] at hT ⊢
                             exact ⟨q3, (qf i 4 (by omega)).trans h42, q5, (fun _ => q6), hT.1, hT.2.2.1, hT.2.2.2.1, hT.2.2.2.2⟩)
                          | (have e := sp_tokAt_3 (tb := tb) (show s < n by omega) (by omega) (by omega)
                             rw [e] at hT ⊢
                             refine ⟨?_, by rw [am_up_n2 (by omega), am_up_n2 (by omega)]; exact h42, by rw [am_up_eq, nI_add1], (fun z => ?_), hT.1, hT.2.2.1, hT.2.2.2.1, hT.2.2.2.2⟩
                             · rw [am_up_n2 (by omega), am_up_eq]
                               first
                               | (rw [if_pos g5]; done)
                               | (rw [if_neg g5]; done)
                             · have z2 : (if tb s = 59 then 3 else 4) = 2 := z
                               split at z2 <;> omega)
                        · first
                          | exact (qf i 7 (by omega)).trans h72
                          | (rw [am_up_n2 (by omega)]; exact h72)
                          | (rw [am_up_n2 (by omega), am_up_n2 (by omega)]; exact h72)
                        · first
                          | exact hf2.up (by omega)
                          | exact (hf2.up (by omega)).up (by omega)
                          | exact fun b K hb => (qf b K (by omega)).trans (hf2 b K hb)⟩) dX2_step_190
                · skip
                  have g2 := mt (sp_sbg hb2 (by decide)).mpr hc112
                  refine k_aload_n C (f := 0) (i := 0) (p := 0) rfl rfl dX2_step_115 ?_
                  refine k_callVg C s_X2_149 h_X2_stepOverWord (L2_s hi) rfl (ct_X2_stepOverWord (k := s) hi hx2 hs h52) rfl rfl (Nat.le_of_ble_eq_true rfl) ⟨Nat.le_of_ble_eq_true rfl, Nat.le_of_ble_eq_true rfl⟩ ⟨Nat.le_of_ble_eq_true rfl, Nat.le_of_ble_eq_true rfl⟩ ⟨rfl, rfl⟩ dX2_step_116 ?_
                  intro v I3 hv
                  obtain ⟨rfl, q5, q3, qf⟩ := hv
                  refine k_goto C (tgt := 190) (by decide) dX2_step_119 ?_
                  exact k_vret C (Nat.le_of_ble_eq_true rfl) (Nat.le_of_ble_eq_true rfl) (⟨rfl, rfl, by
                    refine ⟨rfl, ?_, ?_, ?_⟩
                    · unfold sp_tok
                      rw [hend]
                      first
                      | (have e := sp_tokAt_0 (tb := tb) (show n ≤ s by omega)
                         rw [e]
                         exact ⟨by rw [am_up_eq], by rw [am_up_n2 (by omega)]; exact h42, by rw [am_up_n2 (by omega)]; exact h52, (fun z => by cases z), (by show (0:Nat) ≤ 4; omega), Nat.le_refl _, hs, (by show (0:Nat) ≤ 999; omega)⟩)
                      | (have e := sp_tokAt_1 (tb := tb) (show s < n by omega) ⟨by omega, by omega⟩
                         rw [e] at hT ⊢
                         exact ⟨q3, (qf i 4 (by omega)).trans h42, q5, (fun z => by cases z), hT.1, hT.2.2.1, hT.2.2.2.1, hT.2.2.2.2⟩)
                      | (have e := sp_tokAt_2 (tb := tb) (show s < n by omega) ⟨by omega, by omega⟩
                         rw [e] at hT ⊢
                         exact ⟨q3, (qf i 4 (by omega)).trans h42, q5, (fun _ => q6), hT.1, hT.2.2.1, hT.2.2.2.1, hT.2.2.2.2⟩)
                      | (have e := sp_tokAt_3 (tb := tb) (show s < n by omega) (by omega) (by omega)
                         rw [e] at hT ⊢
                         refine ⟨?_, by rw [am_up_n2 (by omega), am_up_n2 (by omega)]; exact h42, by rw [am_up_eq, nI_add1], (fun z => ?_), hT.1, hT.2.2.1, hT.2.2.2.1, hT.2.2.2.2⟩
                         · rw [am_up_n2 (by omega), am_up_eq]
                           first
                           | (rw [if_pos g5]; done)
                           | (rw [if_neg g5]; done)
                         · have z2 : (if tb s = 59 then 3 else 4) = 2 := z
                           split at z2 <;> omega)
                    · first
                      | exact (qf i 7 (by omega)).trans h72
                      | (rw [am_up_n2 (by omega)]; exact h72)
                      | (rw [am_up_n2 (by omega), am_up_n2 (by omega)]; exact h72)
                    · first
                      | exact hf2.up (by omega)
                      | exact (hf2.up (by omega)).up (by omega)
                      | exact fun b K hb => (qf b K (by omega)).trans (hf2 b K hb)⟩) dX2_step_190
            · skip
              refine k_aload_n C (f := 0) (i := 0) (p := 0) rfl rfl dX2_step_79 ?_
              refine k_iconst C ic_0 dX2_step_80 ?_
              refine k_putI C f_X2_69 (L2_s (by assumption)) rfl rfl dX2_step_81 ?_
              refine k_goto C (tgt := 190) (by decide) dX2_step_84 ?_
              exact k_vret C (Nat.le_of_ble_eq_true rfl) (Nat.le_of_ble_eq_true rfl) (⟨rfl, rfl, by
                refine ⟨rfl, ?_, ?_, ?_⟩
                · unfold sp_tok
                  rw [hend]
                  first
                  | (have e := sp_tokAt_0 (tb := tb) (show n ≤ s by omega)
                     rw [e]
                     exact ⟨by rw [am_up_eq], by rw [am_up_n2 (by omega)]; exact h42, by rw [am_up_n2 (by omega)]; exact h52, (fun z => by cases z), (by show (0:Nat) ≤ 4; omega), Nat.le_refl _, hs, (by show (0:Nat) ≤ 999; omega)⟩)
                  | (have e := sp_tokAt_1 (tb := tb) (show s < n by omega) ⟨by omega, by omega⟩
                     rw [e] at hT ⊢
                     exact ⟨q3, (qf i 4 (by omega)).trans h42, q5, (fun z => by cases z), hT.1, hT.2.2.1, hT.2.2.2.1, hT.2.2.2.2⟩)
                  | (have e := sp_tokAt_2 (tb := tb) (show s < n by omega) ⟨by omega, by omega⟩
                     rw [e] at hT ⊢
                     exact ⟨q3, (qf i 4 (by omega)).trans h42, q5, (fun _ => q6), hT.1, hT.2.2.1, hT.2.2.2.1, hT.2.2.2.2⟩)
                  | (have e := sp_tokAt_3 (tb := tb) (show s < n by omega) (by omega) (by omega)
                     rw [e] at hT ⊢
                     refine ⟨?_, by rw [am_up_n2 (by omega), am_up_n2 (by omega)]; exact h42, by rw [am_up_eq, nI_add1], (fun z => ?_), hT.1, hT.2.2.1, hT.2.2.2.1, hT.2.2.2.2⟩
                     · rw [am_up_n2 (by omega), am_up_eq]
                       first
                       | (rw [if_pos g5]; done)
                       | (rw [if_neg g5]; done)
                     · have z2 : (if tb s = 59 then 3 else 4) = 2 := z
                       split at z2 <;> omega)
                · first
                  | exact (qf i 7 (by omega)).trans h72
                  | (rw [am_up_n2 (by omega)]; exact h72)
                  | (rw [am_up_n2 (by omega), am_up_n2 (by omega)]; exact h72)
                · first
                  | exact hf2.up (by omega)
                  | exact (hf2.up (by omega)).up (by omega)
                  | exact fun b K hb => (qf b K (by omega)).trans (hf2 b K hb)⟩) dX2_step_190
          · skip
            have hd := (sp_sbe hb (by decide)).mp hc44
            refine k_aload_n C (f := 0) (i := 0) (p := 0) rfl rfl dX2_step_47 ?_
            refine k_dup C rfl dX2_step_48 ?_
            refine k_getI C f_X2_72 (L2_s (by assumption)) (fun _ _ _ => rfl) (h41) dX2_step_49 ?_
            refine k_iconst C ic_1 dX2_step_52 ?_
            refine k_iadd C dX2_step_53 ?_
            refine k_putI C f_X2_72 (L2_s (by assumption)) rfl rfl dX2_step_54 ?_
            refine k_goto C (tgt := 8) (by decide) dX2_step_57 ?_
            refine k_sub [0] rfl ?_
            exact ih8 (s + 1) _ (by omega) (by rw [am_up_eq, nI_add1]) (hE.trans (sp_end_t ⟨by omega, sp_isS_iff.mpr (by omega)⟩)) (fun b K hb => by rw [am_up_n2 hb]; exact hg1 b K hb) (by omega)
  refine k_sub [0] rfl ?_
  exact loop8 (n + 1) k _ hk am_up_eq rfl (fun b K hb => am_up_n2 hb) (by omega)
