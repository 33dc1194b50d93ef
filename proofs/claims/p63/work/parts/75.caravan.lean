/-! ===== the law: the caravan is as the document says ===== -/
theorem nI_n101 {j : Nat} (h : j < 2 ^ 31) : ¬ nI j = (-101 : Int32) := fun e => nI_pos h (by rw [e]; decide)
def nE (x : Int32) : Int32 := if x = -1 then (-101) else x
theorem nE_if {z v : Int32} (h : v = nE z) : (if (if z = -1 then 1 else 0) = 0 then z else (-101 : Int32)) = v := by
  rw [h]
  unfold nE
  by_cases e : z = -1
  · rw [if_pos e, if_pos e]; rfl
  · rw [if_neg e, if_neg e]; rfl
theorem nE_n {m : Nat} (h : m < 2 ^ 31) : nE (nI m) = nI m := if_neg (nI_m1 h)
theorem wellFrom_no {r : Nat → Int32} {x : Int32} : ∀ (m k : Nat), (∀ i : Nat, k ≤ i → i < k + m → ¬ r (90 + 4 * i) = x) → sp_wellFrom r x k m = -1 := by
  intro m
  induction m with
  | zero => intro k _; rfl
  | succ m ih =>
    intro k h
    rw [sp_wellFrom_f (h k (Nat.le_refl _) (by omega))]
    exact ih (k + 1) (fun i h1 h2 => h i (by omega) (by omega))
theorem wellFrom_yes {r : Nat → Int32} {x : Int32} {j : Nat} (hj : r (90 + 4 * j) = x) : ∀ (m k : Nat), k ≤ j → j < k + m → (∀ i : Nat, k ≤ i → i < j → ¬ r (90 + 4 * i) = x) → sp_wellFrom r x k m = nI j := by
  intro m
  induction m with
  | zero => intro k h1 h2 _; omega
  | succ m ih =>
    intro k h1 h2 h
    by_cases e : k = j
    · subst e; exact sp_wellFrom_t hj
    · rw [sp_wellFrom_f (h k (Nat.le_refl _) (by omega))]
      exact ih (k + 1) (by omega) (by omega) (fun i g1 g2 => h i (by omega) g2)
theorem wellOn_of {r : Nat → Int32} {v : Int32} (hx : LX r) (hn : sp_nw r ≤ 8) (h : (v = (-101) ∧ ∀ i : Nat, i < sp_nw r → ¬ r (90 + 4 * i) = r 1) ∨ ∃ m : Nat, m < sp_nw r ∧ v = nI m ∧ r (90 + 4 * m) = r 1) : v = nE (sp_wellOn r (r 1)) := by
  rcases h with ⟨h1, h2⟩ | ⟨m, h1, h2, h3⟩
  · rw [h1, show sp_wellOn r (r 1) = -1 from wellFrom_no _ _ (fun i _ hi => h2 i (by omega))]
    rfl
  · rw [h2, show sp_wellOn r (r 1) = nI m from wellFrom_yes h3 _ _ (Nat.zero_le _) (by omega) (fun i _ hi z => by have := LX_w hx i m (by omega) h1 (z.trans h3.symm); omega), nE_n (by omega)]
theorem dead_car {r : Nat → Int32} {k : Nat} (hx : LX r) (hk : k < sp_nc r) (hd : ¬ r (16 + 8 * k) < nI 3) : sp_car r k = nI 0 := carTo_none _ (fun q hq z => hd (LX_a hx q k hq hk z))
/-- behind a method that makes things and changes nothing -/
def am_lk (x : Nat) (Λ : am_L) (I : am_I) (P : Option Value → am_I → Prop) : am_PT := fun v Λ' I' _ => LK x Λ I Λ' I' ∧ P v I'
set_option maxHeartbeats 4000000 in
set_option maxRecDepth 100000 in
theorem ct_L_caravan {G : am_G} {Λ : am_L} {I : am_I} {J : am_J} {x n ct : Nat} {tb : Nat → Nat} {err : Int32} {r : Nat → Int32} {hs : Nat → Nat → Int32} {kp : Nat → Bool} {sn : Nat → Nat → Int32} {w : Nat × (Nat → Int32)} (hx : RouLay Λ x) (hR : RouRel I x tb n err r ct hs kp sn w) (hleg : Leg r) : am_Ct G yL_caravan cL_caravan 16 (some .boolean) { frames := 12, cells := 2600, slots := 16000, locals := 300 } [.ref x] Λ I J (am_lk x Λ I (fun v I' => v = some (.int (nI 1)) ∧ ∀ b : Nat, x ≤ b → b < x + 173 → I' b = I b)) am_never := by
  refine am_ct_of (own := RL) rfl (by decide) (Nat.le_of_ble_eq_true rfl) (fun X C => ?_)
  change am_K G X { frames := 12, cells := 2600, slots := 16000, locals := 300 } 16 Λ I J 0 0 0 [(0, .ref x)] []
  have hok := hleg.1
  obtain ⟨L, km, hL, hk, hL1, hL9, hkL, hww⟩ := RK_L hok
  obtain ⟨dy, hdy, hdy2, hLd⟩ := LX_d hleg.2
  obtain ⟨t, ht, ht9⟩ := storm_b hok (r 2)
  obtain ⟨ld, hld, hlc⟩ := RK_ld hok
  have hnc := hok.2.2.2.2.1
  have hwk := RK_w hok
  have hr := RR_r hR
  have h3 := RK_3 hok
  refine k_aload_n C (f := 0) (i := 0) (p := 0) rfl rfl dL_caravan_0 ?_
  refine k_callVp C s_L_222 h_X5_camelCount (L5_s (by assumption)) rfl (ct_X5_camelCount (by first | assumption | omega) (by first | assumption | omega)) rfl rfl (Nat.le_of_ble_eq_true rfl) ⟨Nat.le_of_ble_eq_true rfl, Nat.le_of_ble_eq_true rfl⟩ ⟨by show _ ≤ 2600; (try dsimp only); omega, by show _ ≤ 16000; (try dsimp only); omega⟩ ⟨rfl, rfl⟩ dL_caravan_1 ?_
  refine k_istore_n C (f := 1) (i := 1) (lv := [(1, _), (0, _)]) rfl (Nat.le_of_ble_eq_true rfl) rfl dL_caravan_4 ?_
  refine k_aload_n C (f := 0) (i := 0) (p := 1) rfl rfl dL_caravan_5 ?_
  refine k_callVp C s_L_228 h_X5_loadCount (L5_s (by assumption)) rfl (ct_X5_loadCount (by first | assumption | omega) (by first | assumption | omega)) rfl rfl (Nat.le_of_ble_eq_true rfl) ⟨Nat.le_of_ble_eq_true rfl, Nat.le_of_ble_eq_true rfl⟩ ⟨by show _ ≤ 2600; (try dsimp only); omega, by show _ ≤ 16000; (try dsimp only); omega⟩ ⟨rfl, rfl⟩ dL_caravan_6 ?_
  refine k_istore_n C (f := 2) (i := 2) (lv := [(2, _), (1, _), (0, _)]) rfl (Nat.le_of_ble_eq_true rfl) rfl dL_caravan_9 ?_
  refine k_aload_n C (f := 0) (i := 0) (p := 2) rfl rfl dL_caravan_10 ?_
  refine k_callVp C s_L_202 h_X5_kilometre (L5_s (by assumption)) rfl (ct_X5_kilometre (by first | assumption | omega) (by first | assumption | omega)) rfl rfl (Nat.le_of_ble_eq_true rfl) ⟨Nat.le_of_ble_eq_true rfl, Nat.le_of_ble_eq_true rfl⟩ ⟨by show _ ≤ 2600; (try dsimp only); omega, by show _ ≤ 16000; (try dsimp only); omega⟩ ⟨rfl, rfl⟩ dL_caravan_11 ?_
  rw [hk]
  refine k_istore_n C (f := 3) (i := 3) (lv := [(3, _), (2, _), (1, _), (0, _)]) rfl (Nat.le_of_ble_eq_true rfl) rfl dL_caravan_14 ?_
  refine k_bipush C bc_10 dL_caravan_15 ?_
  refine k_newA2 C am_ar_i (rfl) (Nat.le_of_ble_eq_true rfl) (Or.inl ⟨rfl, rfl⟩) ⟨by show _ ≤ 2600; (try dsimp only); omega, by show _ ≤ 16000; (try dsimp only); omega⟩ dL_caravan_17 (fun h hh17 => ?_)
  have hnw := Rou_new hx hh17
  have hlk := LK.new (x := x) (I := I) (s := (2, 10)) hh17
  have hx1 : RouLay (am_nS Λ h (2, 10)) x := hlk.lay hx
  have hsh : (am_nS Λ h (2, 10)).1 h = (2, 10) := nS_eq
  have hz0 : am_nI I h h = fun _ => 0 := nI_new
  have hol : ∀ b : Nat, b ≠ h → am_nI I h b = I b := fun b hb => nI_old hb
  generalize am_nS Λ h (2, 10) = Λ1 at hlk hx1 hsh ⊢
  generalize am_nI I h = I1 at hlk hz0 hol ⊢
  generalize am_nJ J h = J1
  have hrS : ∀ S : am_I, (∀ b : Nat, b ≠ h → S b = I b) → CarRel S (x + 34) (x + 35) (x + 24) r := fun S hS => CR_agree hr (hS _ (by omega)) (fun b _ _ => hS b (by omega)) (fun b _ _ => hS b (by omega))
  have hr1 := hrS I1 hol
  have hR1 : RouRel I1 x tb n err r ct hs kp sn w := RouRel_agree hR (fun b g1 g2 => hol b (by omega))
  refine k_astore C (i := 4) (lv := [(4, _), (3, _), (2, _), (1, _), (0, _)]) (Nat.le_of_ble_eq_true rfl) rfl dL_caravan_19 ?_
  refine k_iconst C ic_0 dL_caravan_21 ?_
  refine k_istore C (i := 5) (lv := [(5, _), (4, _), (3, _), (2, _), (1, _), (0, _)]) (Nat.le_of_ble_eq_true rfl) rfl dL_caravan_22 ?_
  refine k_iload_n C (f := 1) (i := 1) (p := 4) rfl rfl dL_caravan_24 ?_
  refine k_iconst C ic_1 dL_caravan_25 ?_
  first
  | refine k_icmpN_lt C (tgt := 153) (by omega) (by omega) (by decide) dL_caravan_26 (fun hc26 => ?_) (fun hc26 => ?_)
  | refine k_icmp_lt C (tgt := 153) (by decide) dL_caravan_26 (fun hc26 => ?_) (fun hc26 => ?_)
  · skip
    first
    | omega
    | exact absurd hc26 (by decide)
    | exact absurd hc26 (nI_pos (by omega))
    | exact absurd (nI_pos' (by omega)) hc26
    | exact absurd rfl hc26
    | exact absurd hc26 (nI_ne0 (by omega) (by omega))
    | exact hc26 rfl
    | contradiction
    | exact absurd hc26 (nI_n101 (by omega))
    | exact absurd hc26.symm (nI_n101 (by omega))
    | (simp_all; done)
  · skip
    refine k_iload_n C (f := 1) (i := 1) (p := 4) rfl rfl dL_caravan_29 ?_
    refine k_bipush C bc_10 dL_caravan_30 ?_
    first
    | refine k_icmpN_gt C (tgt := 153) (by omega) (by omega) (by decide) dL_caravan_32 (fun hc32 => ?_) (fun hc32 => ?_)
    | refine k_icmp_gt C (tgt := 153) (by decide) dL_caravan_32 (fun hc32 => ?_) (fun hc32 => ?_)
    · skip
      first
      | omega
      | exact absurd hc32 (by decide)
      | exact absurd hc32 (nI_pos (by omega))
      | exact absurd (nI_pos' (by omega)) hc32
      | exact absurd rfl hc32
      | exact absurd hc32 (nI_ne0 (by omega) (by omega))
      | exact hc32 rfl
      | contradiction
      | exact absurd hc32 (nI_n101 (by omega))
      | exact absurd hc32.symm (nI_n101 (by omega))
      | (simp_all; done)
    · skip
      refine k_iload_n C (f := 2) (i := 2) (p := 3) rfl rfl dL_caravan_35 ?_
      refine k_bipush C bc_20 dL_caravan_36 ?_
      first
      | refine k_icmpN_gt C (tgt := 153) (by omega) (by omega) (by decide) dL_caravan_38 (fun hc38 => ?_) (fun hc38 => ?_)
      | refine k_icmp_gt C (tgt := 153) (by decide) dL_caravan_38 (fun hc38 => ?_) (fun hc38 => ?_)
      · skip
        first
        | omega
        | exact absurd hc38 (by decide)
        | exact absurd hc38 (nI_pos (by omega))
        | exact absurd (nI_pos' (by omega)) hc38
        | exact absurd rfl hc38
        | exact absurd hc38 (nI_ne0 (by omega) (by omega))
        | exact hc38 rfl
        | contradiction
        | exact absurd hc38 (nI_n101 (by omega))
        | exact absurd hc38.symm (nI_n101 (by omega))
        | (simp_all; done)
      · skip
        refine k_iload_n C (f := 3) (i := 3) (p := 2) rfl rfl dL_caravan_41 ?_
        refine k_if_lt C (tgt := 153) (by decide) dL_caravan_42 (fun hc42 => ?_) (fun hc42 => ?_)
        · skip
          first
          | omega
          | exact absurd hc42 (by decide)
          | exact absurd hc42 (nI_pos (by omega))
          | exact absurd (nI_pos' (by omega)) hc42
          | exact absurd rfl hc42
          | exact absurd hc42 (nI_ne0 (by omega) (by omega))
          | exact hc42 rfl
          | contradiction
          | exact absurd hc42 (nI_n101 (by omega))
          | exact absurd hc42.symm (nI_n101 (by omega))
          | (simp_all; done)
        · skip
          refine k_iload_n C (f := 3) (i := 3) (p := 2) rfl rfl dL_caravan_45 ?_
          refine k_aload_n C (f := 0) (i := 0) (p := 5) rfl rfl dL_caravan_46 ?_
          refine k_callVp C s_L_231 h_X5_length (L5_s (by assumption)) rfl (ct_X5_length (by first | assumption | omega) (by first | assumption | omega)) rfl rfl (Nat.le_of_ble_eq_true rfl) ⟨Nat.le_of_ble_eq_true rfl, Nat.le_of_ble_eq_true rfl⟩ ⟨by show _ ≤ 2600; (try dsimp only); omega, by show _ ≤ 16000; (try dsimp only); omega⟩ ⟨rfl, rfl⟩ dL_caravan_47 ?_
          rw [hL]
          first
          | refine k_icmpN_gt C (tgt := 153) (by omega) (by omega) (by decide) dL_caravan_50 (fun hc50 => ?_) (fun hc50 => ?_)
          | refine k_icmp_gt C (tgt := 153) (by decide) dL_caravan_50 (fun hc50 => ?_) (fun hc50 => ?_)
          · skip
            first
            | omega
            | exact absurd hc50 (by decide)
            | exact absurd hc50 (nI_pos (by omega))
            | exact absurd (nI_pos' (by omega)) hc50
            | exact absurd rfl hc50
            | exact absurd hc50 (nI_ne0 (by omega) (by omega))
            | exact hc50 rfl
            | contradiction
            | exact absurd hc50 (nI_n101 (by omega))
            | exact absurd hc50.symm (nI_n101 (by omega))
            | (simp_all; done)
          · skip
            have join73 : ∀ (_ : Unit), am_K G X { frames := 12, cells := 2600, slots := 16000, locals := 300 } 16 Λ1 I1 J1 (1) (10) 73 [(5, .int (nI 0)), (4, .ref h), (3, .int (nI km)), (2, .int (nI (sp_nl r))), (1, .int (nI (sp_nc r))), (0, .ref x)] [] := by
              intro _ 
              refine k_aload_n C (f := 0) (i := 0) (p := 5) rfl rfl dL_caravan_73 ?_
              refine k_callVp C s_L_205 h_X5_day (L5_s (by assumption)) rfl (ct_X5_day (by first | assumption | omega) (by first | assumption | omega)) rfl rfl (Nat.le_of_ble_eq_true rfl) ⟨Nat.le_of_ble_eq_true rfl, Nat.le_of_ble_eq_true rfl⟩ ⟨by show _ ≤ 2600; (try dsimp only); omega, by show _ ≤ 16000; (try dsimp only); omega⟩ ⟨rfl, rfl⟩ dL_caravan_74 ?_
              rw [hdy]
              refine k_sipush C sc_200 dL_caravan_77 ?_
              first
              | refine k_icmpN_gt C (tgt := 153) (by omega) (by omega) (by decide) dL_caravan_80 (fun hc80 => ?_) (fun hc80 => ?_)
              | refine k_icmp_gt C (tgt := 153) (by decide) dL_caravan_80 (fun hc80 => ?_) (fun hc80 => ?_)
              · skip
                first
                | omega
                | exact absurd hc80 (by decide)
                | exact absurd hc80 (nI_pos (by omega))
                | exact absurd (nI_pos' (by omega)) hc80
                | exact absurd rfl hc80
                | exact absurd hc80 (nI_ne0 (by omega) (by omega))
                | exact hc80 rfl
                | contradiction
                | exact absurd hc80 (nI_n101 (by omega))
                | exact absurd hc80.symm (nI_n101 (by omega))
                | (simp_all; done)
              · skip
                refine k_aload_n C (f := 0) (i := 0) (p := 5) rfl rfl dL_caravan_83 ?_
                refine k_bipush C bc_23 dL_caravan_84 ?_
                refine k_iload_n C (f := 1) (i := 1) (p := 4) rfl rfl dL_caravan_86 ?_
                refine k_callSq C s_L_163 h_L_call__ (ct_q23 (v := (-104)) hx1 hr1 (if_neg (by rw [cdI_f (fun z => Int32.lt_irrefl z.2)]; decide))) rfl rfl (Nat.le_of_ble_eq_true rfl) ⟨Nat.le_of_ble_eq_true rfl, Nat.le_of_ble_eq_true rfl⟩ ⟨rfl, rfl⟩ ⟨by show _ ≤ 2600; (try dsimp only); omega, by show _ ≤ 16000; (try dsimp only); omega⟩ dL_caravan_87 ?_
                refine k_bipush C bc_m104 dL_caravan_90 ?_
                refine k_icmp_ne C (tgt := 153) (by decide) dL_caravan_92 (fun hc92 => ?_) (fun hc92 => ?_)
                · skip
                  first
                  | omega
                  | exact absurd hc92 (by decide)
                  | exact absurd hc92 (nI_pos (by omega))
                  | exact absurd (nI_pos' (by omega)) hc92
                  | exact absurd rfl hc92
                  | exact absurd hc92 (nI_ne0 (by omega) (by omega))
                  | exact hc92 rfl
                  | contradiction
                  | exact absurd hc92 (nI_n101 (by omega))
                  | exact absurd hc92.symm (nI_n101 (by omega))
                  | (simp_all; done)
                · skip
                  refine k_aload_n C (f := 0) (i := 0) (p := 5) rfl rfl dL_caravan_95 ?_
                  refine k_bipush C bc_32 dL_caravan_96 ?_
                  refine k_iload_n C (f := 2) (i := 2) (p := 3) rfl rfl dL_caravan_98 ?_
                  refine k_callSq C s_L_163 h_L_call__ (ct_q32 (v := (-104)) hx1 hr1 (if_neg (by rw [cdI_f (fun z => Int32.lt_irrefl z.2)]; decide))) rfl rfl (Nat.le_of_ble_eq_true rfl) ⟨Nat.le_of_ble_eq_true rfl, Nat.le_of_ble_eq_true rfl⟩ ⟨rfl, rfl⟩ ⟨by show _ ≤ 2600; (try dsimp only); omega, by show _ ≤ 16000; (try dsimp only); omega⟩ dL_caravan_99 ?_
                  refine k_bipush C bc_m104 dL_caravan_102 ?_
                  refine k_icmp_ne C (tgt := 153) (by decide) dL_caravan_104 (fun hc104 => ?_) (fun hc104 => ?_)
                  · skip
                    first
                    | omega
                    | exact absurd hc104 (by decide)
                    | exact absurd hc104 (nI_pos (by omega))
                    | exact absurd (nI_pos' (by omega)) hc104
                    | exact absurd rfl hc104
                    | exact absurd hc104 (nI_ne0 (by omega) (by omega))
                    | exact hc104 rfl
                    | contradiction
                    | exact absurd hc104 (nI_n101 (by omega))
                    | exact absurd hc104.symm (nI_n101 (by omega))
                    | (simp_all; done)
                  · skip
                    refine k_aload_n C (f := 0) (i := 0) (p := 5) rfl rfl dL_caravan_107 ?_
                    refine k_bipush C bc_17 dL_caravan_108 ?_
                    refine k_aload_n C (f := 0) (i := 0) (p := 5) rfl rfl dL_caravan_110 ?_
                    refine k_callVp C s_L_225 h_X5_wellCount (L5_s (by assumption)) rfl (ct_X5_wellCount (by first | assumption | omega) (by first | assumption | omega)) rfl rfl (Nat.le_of_ble_eq_true rfl) ⟨Nat.le_of_ble_eq_true rfl, Nat.le_of_ble_eq_true rfl⟩ ⟨by show _ ≤ 2600; (try dsimp only); omega, by show _ ≤ 16000; (try dsimp only); omega⟩ ⟨rfl, rfl⟩ dL_caravan_111 ?_
                    refine k_callSq C s_L_163 h_L_call__ (ct_q17 (v := (-104)) hx1 hr1 (if_neg (by rw [cdI_f (fun z => Int32.lt_irrefl z.2)]; decide))) rfl rfl (Nat.le_of_ble_eq_true rfl) ⟨Nat.le_of_ble_eq_true rfl, Nat.le_of_ble_eq_true rfl⟩ ⟨rfl, rfl⟩ ⟨by show _ ≤ 2600; (try dsimp only); omega, by show _ ≤ 16000; (try dsimp only); omega⟩ dL_caravan_114 ?_
                    refine k_bipush C bc_m104 dL_caravan_117 ?_
                    refine k_icmp_ne C (tgt := 153) (by decide) dL_caravan_119 (fun hc119 => ?_) (fun hc119 => ?_)
                    · skip
                      first
                      | omega
                      | exact absurd hc119 (by decide)
                      | exact absurd hc119 (nI_pos (by omega))
                      | exact absurd (nI_pos' (by omega)) hc119
                      | exact absurd rfl hc119
                      | exact absurd hc119 (nI_ne0 (by omega) (by omega))
                      | exact hc119 rfl
                      | contradiction
                      | exact absurd hc119 (nI_n101 (by omega))
                      | exact absurd hc119.symm (nI_n101 (by omega))
                      | (simp_all; done)
                    · skip
                      refine k_aload_n C (f := 0) (i := 0) (p := 5) rfl rfl dL_caravan_122 ?_
                      refine k_bipush C bc_14 dL_caravan_123 ?_
                      refine k_sipush C sc_1000 dL_caravan_125 ?_
                      refine k_callSq C s_L_163 h_L_call__ (ct_q14 (d := nI 1000) (v := (-103)) hx1 hr1 (if_neg (by rw [if_pos (Or.inr (by decide))]; decide))) rfl rfl (Nat.le_of_ble_eq_true rfl) ⟨Nat.le_of_ble_eq_true rfl, Nat.le_of_ble_eq_true rfl⟩ ⟨rfl, rfl⟩ ⟨by show _ ≤ 2600; (try dsimp only); omega, by show _ ≤ 16000; (try dsimp only); omega⟩ dL_caravan_128 ?_
                      refine k_bipush C bc_m103 dL_caravan_131 ?_
                      refine k_icmp_ne C (tgt := 153) (by decide) dL_caravan_133 (fun hc133 => ?_) (fun hc133 => ?_)
                      · skip
                        first
                        | omega
                        | exact absurd hc133 (by decide)
                        | exact absurd hc133 (nI_pos (by omega))
                        | exact absurd (nI_pos' (by omega)) hc133
                        | exact absurd rfl hc133
                        | exact absurd hc133 (nI_ne0 (by omega) (by omega))
                        | exact hc133 rfl
                        | contradiction
                        | exact absurd hc133 (nI_n101 (by omega))
                        | exact absurd hc133.symm (nI_n101 (by omega))
                        | (simp_all; done)
                      · skip
                        refine k_aload_n C (f := 0) (i := 0) (p := 5) rfl rfl dL_caravan_136 ?_
                        refine k_bipush C bc_38 dL_caravan_137 ?_
                        refine k_bipush C bc_51 dL_caravan_139 ?_
                        refine k_callSgq C s_L_163 h_L_call__ (ct_L_call__ (ct_c38 (a := nI 51) (u1 := nI 0) (u2 := nI 0) (u3 := nI 0) (u4 := nI 0) hx1 hR1 hok) (fun _ _ _ _ h => ⟨_, h.2.2.1⟩)) rfl rfl (Nat.le_of_ble_eq_true rfl) ⟨Nat.le_of_ble_eq_true rfl, Nat.le_of_ble_eq_true rfl⟩ ⟨rfl, rfl⟩ ⟨by show _ ≤ 2600; (try dsimp only); omega, by show _ ≤ 16000; (try dsimp only); omega⟩ dL_caravan_141 ?_
                        intro v38 I38 hv38
                        have e38 : (if nI 51 < 0 ∨ nI 50 < nI 51 then 1 else 0) = 1 := if_pos (Or.inr (by decide))
                        rw [e38] at hv38
                        obtain ⟨rfl, -, hv38b⟩ := hv38
                        have e38b := (hv38b (by decide)).symm
                        subst e38b
                        rw [if_neg (by decide)]
                        show am_K G X _ _ _ _ _ _ _ _ _ (.int (-103) :: _)
                        refine k_bipush C bc_m103 dL_caravan_144 ?_
                        refine k_icmp_ne C (tgt := 153) (by decide) dL_caravan_146 (fun hc146 => ?_) (fun hc146 => ?_)
                        · skip
                          first
                          | omega
                          | exact absurd hc146 (by decide)
                          | exact absurd hc146 (nI_pos (by omega))
                          | exact absurd (nI_pos' (by omega)) hc146
                          | exact absurd rfl hc146
                          | exact absurd hc146 (nI_ne0 (by omega) (by omega))
                          | exact hc146 rfl
                          | contradiction
                          | exact absurd hc146 (nI_n101 (by omega))
                          | exact absurd hc146.symm (nI_n101 (by omega))
                          | (simp_all; done)
                        · skip
                          refine k_iconst C ic_1 dL_caravan_149 ?_
                          refine k_goto C (tgt := 154) (by decide) dL_caravan_150 ?_
                          refine k_istore C (i := 6) (lv := [(6, _), (5, _), (4, _), (3, _), (2, _), (1, _), (0, _)]) (Nat.le_of_ble_eq_true rfl) rfl dL_caravan_154 ?_
                          refine k_iconst C ic_0 dL_caravan_156 ?_
                          refine k_istore C (i := 7) (lv := [(7, _), (6, _), (5, _), (4, _), (3, _), (2, _), (1, _), (0, _)]) (Nat.le_of_ble_eq_true rfl) rfl dL_caravan_157 ?_
                          have loop159 : ∀ (f : Nat) (k : Nat) (S : am_I), (k ≤ sp_nl r) → (∀ b : Nat, b ≠ h → S b = I b) → (∀ j : Nat, j < sp_nc r → S h j = sp_carTo r (nI j) k) → (sp_nl r - k) < f → am_K G X { frames := 12, cells := 2600, slots := 16000, locals := 300 } 16 Λ1 S J1 (31 + 42 * k) (190 + 252 * k) 159 [(7, .int (nI k)), (6, .int (nI 1)), (5, .int (sp_cvalTo r k)), (4, .ref h), (3, .int (nI km)), (2, .int (nI (sp_nl r))), (1, .int (nI (sp_nc r))), (0, .ref x)] [] := by
                            intro f
                            induction f with
                            | zero => intro k S hk1 hS hs1 hf; exact absurd hf (Nat.not_lt_zero _)
                            | succ f ih159 =>
                              intro k S hk1 hS hs1 hf
                              have hrS1 := hrS S hS
                              refine k_iload C (i := 7) (p := 0) rfl dL_caravan_159 ?_
                              refine k_iload_n C (f := 2) (i := 2) (p := 5) rfl rfl dL_caravan_161 ?_
                              first
                              | refine k_icmpN_ge C (tgt := 293) (by omega) (by omega) (by decide) dL_caravan_162 (fun hc162 => ?_) (fun hc162 => ?_)
                              | refine k_icmp_ge C (tgt := 293) (by decide) dL_caravan_162 (fun hc162 => ?_) (fun hc162 => ?_)
                              · skip
                                obtain rfl : k = sp_nl r := by omega
                                have hs0 : ∀ j : Nat, j < sp_nc r → S h j = sp_car r j := hs1
                                refine k_iconst C ic_0 dL_caravan_293 ?_
                                refine k_istore C (i := 7) (lv := [(7, _), (6, _), (5, _), (4, _), (3, _), (2, _), (1, _), (0, _)]) (Nat.le_of_ble_eq_true rfl) rfl dL_caravan_294 ?_
                                refine k_iconst C ic_0 dL_caravan_296 ?_
                                refine k_istore C (i := 8) (lv := [(8, _), (7, _), (6, _), (5, _), (4, _), (3, _), (2, _), (1, _), (0, _)]) (Nat.le_of_ble_eq_true rfl) rfl dL_caravan_297 ?_
                                refine k_bipush C bc_m101 dL_caravan_299 ?_
                                refine k_istore C (i := 9) (lv := [(9, _), (8, _), (7, _), (6, _), (5, _), (4, _), (3, _), (2, _), (1, _), (0, _)]) (Nat.le_of_ble_eq_true rfl) rfl dL_caravan_301 ?_
                                refine k_bipush C bc_m101 dL_caravan_303 ?_
                                refine k_istore C (i := 10) (lv := [(10, _), (9, _), (8, _), (7, _), (6, _), (5, _), (4, _), (3, _), (2, _), (1, _), (0, _)]) (Nat.le_of_ble_eq_true rfl) rfl dL_caravan_305 ?_
                                refine k_aload_n C (f := 0) (i := 0) (p := 10) rfl rfl dL_caravan_307 ?_
                                refine k_bipush C bc_14 dL_caravan_308 ?_
                                refine k_aload_n C (f := 0) (i := 0) (p := 10) rfl rfl dL_caravan_310 ?_
                                refine k_callVp C s_L_205 h_X5_day (L5_s (by assumption)) rfl (ct_X5_day (by first | assumption | omega) (by first | assumption | omega)) rfl rfl (Nat.le_of_ble_eq_true rfl) ⟨Nat.le_of_ble_eq_true rfl, Nat.le_of_ble_eq_true rfl⟩ ⟨by show _ ≤ 2600; (try dsimp only); omega, by show _ ≤ 16000; (try dsimp only); omega⟩ ⟨rfl, rfl⟩ dL_caravan_311 ?_
                                rw [hdy]
                                refine k_callSq C s_L_163 h_L_call__ (ct_q14 (d := nI dy) (v := nI t) hx1 hrS1 (by rw [if_pos (if_neg (fun z => z.elim (nI_pos (by omega)) (nI_nlt (by omega) (by omega)))), ← hdy]; exact ht)) rfl rfl (Nat.le_of_ble_eq_true rfl) ⟨Nat.le_of_ble_eq_true rfl, Nat.le_of_ble_eq_true rfl⟩ ⟨rfl, rfl⟩ ⟨by show _ ≤ 2600; (try dsimp only); omega, by show _ ≤ 16000; (try dsimp only); omega⟩ dL_caravan_314 ?_
                                refine k_istore C (i := 11) (lv := [(11, _), (10, _), (9, _), (8, _), (7, _), (6, _), (5, _), (4, _), (3, _), (2, _), (1, _), (0, _)]) (Nat.le_of_ble_eq_true rfl) rfl dL_caravan_317 ?_
                                refine k_iconst C ic_0 dL_caravan_319 ?_
                                refine k_istore C (i := 12) (lv := [(12, _), (11, _), (10, _), (9, _), (8, _), (7, _), (6, _), (5, _), (4, _), (3, _), (2, _), (1, _), (0, _)]) (Nat.le_of_ble_eq_true rfl) rfl dL_caravan_320 ?_
                                have loop322 : ∀ (f : Nat) (k : Nat) (T F : Int32), (k ≤ sp_nc r) → (T = nE (sp_thirstTo r k)) → (F = nE (sp_fastTo r k)) → (sp_nc r - k) < f → am_K G X { frames := 12, cells := 2600, slots := 16000, locals := 300 } 16 Λ1 S J1 (880 + 132 * k) (5300 + 792 * k) 322 [(12, .int (nI k)), (11, .int (nI t)), (10, .int F), (9, .int T), (8, .int (nI (sp_wsumTo r k))), (7, .int (nI (sp_livingTo r k))), (6, .int (nI 1)), (5, .int (sp_cvalTo r (sp_nl r))), (4, .ref h), (3, .int (nI km)), (2, .int (nI (sp_nl r))), (1, .int (nI (sp_nc r))), (0, .ref x)] [] := by
                                  intro f
                                  induction f with
                                  | zero => intro k T F hk1 hT hF hf; exact absurd hf (Nat.not_lt_zero _)
                                  | succ f ih322 =>
                                    intro k T F hk1 hT hF hf
                                    refine k_iload C (i := 12) (p := 0) rfl dL_caravan_322 ?_
                                    refine k_iload_n C (f := 1) (i := 1) (p := 11) rfl rfl dL_caravan_324 ?_
                                    first
                                    | refine k_icmpN_ge C (tgt := 699) (by omega) (by omega) (by decide) dL_caravan_325 (fun hc325 => ?_) (fun hc325 => ?_)
                                    | refine k_icmp_ge C (tgt := 699) (by decide) dL_caravan_325 (fun hc325 => ?_) (fun hc325 => ?_)
                                    · skip
                                      obtain rfl : k = sp_nc r := by omega
                                      refine k_bipush C bc_m101 dL_caravan_699 ?_
                                      refine k_istore C (i := 12) (lv := [(12, _), (11, _), (10, _), (9, _), (8, _), (7, _), (6, _), (5, _), (4, _), (3, _), (2, _), (1, _), (0, _)]) (Nat.le_of_ble_eq_true rfl) rfl dL_caravan_701 ?_
                                      refine k_bipush C bc_m101 dL_caravan_703 ?_
                                      refine k_istore C (i := 13) (lv := [(13, _), (12, _), (11, _), (10, _), (9, _), (8, _), (7, _), (6, _), (5, _), (4, _), (3, _), (2, _), (1, _), (0, _)]) (Nat.le_of_ble_eq_true rfl) rfl dL_caravan_705 ?_
                                      refine k_iconst C ic_0 dL_caravan_707 ?_
                                      refine k_istore C (i := 14) (lv := [(14, _), (13, _), (12, _), (11, _), (10, _), (9, _), (8, _), (7, _), (6, _), (5, _), (4, _), (3, _), (2, _), (1, _), (0, _)]) (Nat.le_of_ble_eq_true rfl) rfl dL_caravan_708 ?_
                                      have loop710 : ∀ (f : Nat) (k : Nat) (Hr Nx : Int32), (k ≤ sp_nw r) → ((Hr = (-101) ∧ ∀ i : Nat, i < k → ¬ r (90 + 4 * i) = r 1) ∨ ∃ m : Nat, m < k ∧ Hr = nI m ∧ r (90 + 4 * m) = r 1) → (Nx = nE (sp_behindTo r (r 1) k)) → (sp_nw r - k) < f → am_K G X { frames := 12, cells := 2600, slots := 16000, locals := 300 } 16 Λ1 S J1 (2200 + 36 * k) (13220 + 216 * k) 710 [(14, .int (nI k)), (13, .int Nx), (12, .int Hr), (10, .int F), (9, .int T), (8, .int (nI (sp_wsumTo r (sp_nc r)))), (7, .int (nI (sp_livingTo r (sp_nc r)))), (6, .int (nI 1)), (5, .int (sp_cvalTo r (sp_nl r))), (4, .ref h), (3, .int (nI km)), (2, .int (nI (sp_nl r))), (1, .int (nI (sp_nc r))), (0, .ref x)] [] := by
                                        intro f
                                        induction f with
                                        | zero => intro k Hr Nx hk1 hH hN hf; exact absurd hf (Nat.not_lt_zero _)
                                        | succ f ih710 =>
                                          intro k Hr Nx hk1 hH hN hf
                                          refine k_iload C (i := 14) (p := 0) rfl dL_caravan_710 ?_
                                          refine k_aload_n C (f := 0) (i := 0) (p := 13) rfl rfl dL_caravan_712 ?_
                                          refine k_callVp C s_L_225 h_X5_wellCount (L5_s (by assumption)) rfl (ct_X5_wellCount (by first | assumption | omega) (by first | assumption | omega)) rfl rfl (Nat.le_of_ble_eq_true rfl) ⟨Nat.le_of_ble_eq_true rfl, Nat.le_of_ble_eq_true rfl⟩ ⟨by show _ ≤ 2600; (try dsimp only); omega, by show _ ≤ 16000; (try dsimp only); omega⟩ ⟨rfl, rfl⟩ dL_caravan_713 ?_
                                          first
                                          | refine k_icmpN_ge C (tgt := 815) (by omega) (by omega) (by decide) dL_caravan_716 (fun hc716 => ?_) (fun hc716 => ?_)
                                          | refine k_icmp_ge C (tgt := 815) (by decide) dL_caravan_716 (fun hc716 => ?_) (fun hc716 => ?_)
                                          · skip
                                            obtain rfl : k = sp_nw r := by omega
                                            have hHq := wellOn_of hleg.2 (by omega) hH
                                            have hsl := sp_wsumTo_b hok (sp_nc r) (Nat.le_refl _)
                                            have hll := sp_livingTo_le r (sp_nc r)
                                            refine k_iload C (i := 6) (p := 7) rfl dL_caravan_815 ?_
                                            refine k_if_eq C (tgt := 948) (by decide) dL_caravan_817 (fun hc817 => ?_) (fun hc817 => ?_)
                                            · skip
                                              first
                                              | omega
                                              | exact absurd hc817 (by decide)
                                              | exact absurd hc817 (nI_pos (by omega))
                                              | exact absurd (nI_pos' (by omega)) hc817
                                              | exact absurd rfl hc817
                                              | exact absurd hc817 (nI_ne0 (by omega) (by omega))
                                              | exact hc817 rfl
                                              | contradiction
                                              | exact absurd hc817 (nI_n101 (by omega))
                                              | exact absurd hc817.symm (nI_n101 (by omega))
                                              | (simp_all; done)
                                            · skip
                                              refine k_aload_n C (f := 0) (i := 0) (p := 13) rfl rfl dL_caravan_820 ?_
                                              refine k_callVp C s_L_240 h_X5_livingCamels (L5_s (by assumption)) rfl (ct_X5_livingCamels (by first | assumption | omega) (by first | assumption | omega)) rfl rfl (Nat.le_of_ble_eq_true rfl) ⟨Nat.le_of_ble_eq_true rfl, Nat.le_of_ble_eq_true rfl⟩ ⟨by show _ ≤ 2600; (try dsimp only); omega, by show _ ≤ 16000; (try dsimp only); omega⟩ ⟨rfl, rfl⟩ dL_caravan_821 ?_
                                              rw [show sp_living r = sp_livingTo r (sp_nc r) from rfl]
                                              refine k_iload C (i := 7) (p := 6) rfl dL_caravan_824 ?_
                                              first
                                              | refine k_icmpN_ne C (tgt := 948) (by omega) (by omega) (by decide) dL_caravan_826 (fun hc826 => ?_) (fun hc826 => ?_)
                                              | refine k_icmp_ne C (tgt := 948) (by decide) dL_caravan_826 (fun hc826 => ?_) (fun hc826 => ?_)
                                              · skip
                                                first
                                                | omega
                                                | exact absurd hc826 (by decide)
                                                | exact absurd hc826 (nI_pos (by omega))
                                                | exact absurd (nI_pos' (by omega)) hc826
                                                | exact absurd rfl hc826
                                                | exact absurd hc826 (nI_ne0 (by omega) (by omega))
                                                | exact hc826 rfl
                                                | contradiction
                                                | exact absurd hc826 (nI_n101 (by omega))
                                                | exact absurd hc826.symm (nI_n101 (by omega))
                                                | (simp_all; done)
                                              · skip
                                                by_cases hl0 : sp_livingTo r (sp_nc r) = 0
                                                · skip
                                                  rw [hl0]
                                                  refine k_iload C (i := 7) (p := 6) rfl dL_caravan_829 ?_
                                                  refine k_if_eq C (tgt := 847) (by decide) dL_caravan_831 (fun hc831 => ?_) (fun hc831 => ?_)
                                                  · skip
                                                    refine k_aload_n C (f := 0) (i := 0) (p := 13) rfl rfl dL_caravan_847 ?_
                                                    refine k_bipush C bc_30 dL_caravan_848 ?_
                                                    refine k_iconst C ic_0 dL_caravan_850 ?_
                                                    refine k_callSq C s_L_163 h_L_call__ (ct_q30 (v := T) hx1 hrS1 (nE_if hT)) rfl rfl (Nat.le_of_ble_eq_true rfl) ⟨Nat.le_of_ble_eq_true rfl, Nat.le_of_ble_eq_true rfl⟩ ⟨rfl, rfl⟩ ⟨by show _ ≤ 2600; (try dsimp only); omega, by show _ ≤ 16000; (try dsimp only); omega⟩ dL_caravan_851 ?_
                                                    refine k_iload C (i := 9) (p := 4) rfl dL_caravan_854 ?_
                                                    refine k_icmp_ne C (tgt := 948) (by decide) dL_caravan_856 (fun hc856 => ?_) (fun hc856 => ?_)
                                                    · skip
                                                      first
                                                      | omega
                                                      | exact absurd hc856 (by decide)
                                                      | exact absurd hc856 (nI_pos (by omega))
                                                      | exact absurd (nI_pos' (by omega)) hc856
                                                      | exact absurd rfl hc856
                                                      | exact absurd hc856 (nI_ne0 (by omega) (by omega))
                                                      | exact hc856 rfl
                                                      | contradiction
                                                      | exact absurd hc856 (nI_n101 (by omega))
                                                      | exact absurd hc856.symm (nI_n101 (by omega))
                                                      | (simp_all; done)
                                                    · skip
                                                      refine k_aload_n C (f := 0) (i := 0) (p := 13) rfl rfl dL_caravan_859 ?_
                                                      refine k_bipush C bc_31 dL_caravan_860 ?_
                                                      refine k_iconst C ic_0 dL_caravan_862 ?_
                                                      refine k_callSq C s_L_163 h_L_call__ (ct_q31 (v := F) hx1 hrS1 (nE_if hF)) rfl rfl (Nat.le_of_ble_eq_true rfl) ⟨Nat.le_of_ble_eq_true rfl, Nat.le_of_ble_eq_true rfl⟩ ⟨rfl, rfl⟩ ⟨by show _ ≤ 2600; (try dsimp only); omega, by show _ ≤ 16000; (try dsimp only); omega⟩ dL_caravan_863 ?_
                                                      refine k_iload C (i := 10) (p := 3) rfl dL_caravan_866 ?_
                                                      refine k_icmp_ne C (tgt := 948) (by decide) dL_caravan_868 (fun hc868 => ?_) (fun hc868 => ?_)
                                                      · skip
                                                        first
                                                        | omega
                                                        | exact absurd hc868 (by decide)
                                                        | exact absurd hc868 (nI_pos (by omega))
                                                        | exact absurd (nI_pos' (by omega)) hc868
                                                        | exact absurd rfl hc868
                                                        | exact absurd hc868 (nI_ne0 (by omega) (by omega))
                                                        | exact hc868 rfl
                                                        | contradiction
                                                        | exact absurd hc868 (nI_n101 (by omega))
                                                        | exact absurd hc868.symm (nI_n101 (by omega))
                                                        | (simp_all; done)
                                                      · skip
                                                        refine k_aload_n C (f := 0) (i := 0) (p := 13) rfl rfl dL_caravan_871 ?_
                                                        refine k_bipush C bc_18 dL_caravan_872 ?_
                                                        refine k_iconst C ic_0 dL_caravan_874 ?_
                                                        refine k_callSq C s_L_163 h_L_call__ (ct_q18 (v := Hr) hx1 hrS1 (nE_if hHq)) rfl rfl (Nat.le_of_ble_eq_true rfl) ⟨Nat.le_of_ble_eq_true rfl, Nat.le_of_ble_eq_true rfl⟩ ⟨rfl, rfl⟩ ⟨by show _ ≤ 2600; (try dsimp only); omega, by show _ ≤ 16000; (try dsimp only); omega⟩ dL_caravan_875 ?_
                                                        refine k_iload C (i := 12) (p := 2) rfl dL_caravan_878 ?_
                                                        refine k_icmp_ne C (tgt := 948) (by decide) dL_caravan_880 (fun hc880 => ?_) (fun hc880 => ?_)
                                                        · skip
                                                          first
                                                          | omega
                                                          | exact absurd hc880 (by decide)
                                                          | exact absurd hc880 (nI_pos (by omega))
                                                          | exact absurd (nI_pos' (by omega)) hc880
                                                          | exact absurd rfl hc880
                                                          | exact absurd hc880 (nI_ne0 (by omega) (by omega))
                                                          | exact hc880 rfl
                                                          | contradiction
                                                          | exact absurd hc880 (nI_n101 (by omega))
                                                          | exact absurd hc880.symm (nI_n101 (by omega))
                                                          | (simp_all; done)
                                                        · skip
                                                          refine k_aload_n C (f := 0) (i := 0) (p := 13) rfl rfl dL_caravan_883 ?_
                                                          refine k_bipush C bc_19 dL_caravan_884 ?_
                                                          refine k_iconst C ic_0 dL_caravan_886 ?_
                                                          refine k_callSq C s_L_163 h_L_call__ (ct_q19 (v := Nx) hx1 hrS1 hwk (nE_if hN)) rfl rfl (Nat.le_of_ble_eq_true rfl) ⟨Nat.le_of_ble_eq_true rfl, Nat.le_of_ble_eq_true rfl⟩ ⟨rfl, rfl⟩ ⟨by show _ ≤ 2600; (try dsimp only); omega, by show _ ≤ 16000; (try dsimp only); omega⟩ dL_caravan_887 ?_
                                                          refine k_iload C (i := 13) (p := 1) rfl dL_caravan_890 ?_
                                                          refine k_icmp_ne C (tgt := 948) (by decide) dL_caravan_892 (fun hc892 => ?_) (fun hc892 => ?_)
                                                          · skip
                                                            first
                                                            | omega
                                                            | exact absurd hc892 (by decide)
                                                            | exact absurd hc892 (nI_pos (by omega))
                                                            | exact absurd (nI_pos' (by omega)) hc892
                                                            | exact absurd rfl hc892
                                                            | exact absurd hc892 (nI_ne0 (by omega) (by omega))
                                                            | exact hc892 rfl
                                                            | contradiction
                                                            | exact absurd hc892 (nI_n101 (by omega))
                                                            | exact absurd hc892.symm (nI_n101 (by omega))
                                                            | (simp_all; done)
                                                          · skip
                                                            refine k_aload_n C (f := 0) (i := 0) (p := 13) rfl rfl dL_caravan_895 ?_
                                                            refine k_callVp C s_L_243 h_X5_carriedValue (L5_s (by assumption)) rfl (ct_X5_carriedValue (by first | assumption | omega) (by first | assumption | omega)) rfl rfl (Nat.le_of_ble_eq_true rfl) ⟨Nat.le_of_ble_eq_true rfl, Nat.le_of_ble_eq_true rfl⟩ ⟨by show _ ≤ 2600; (try dsimp only); omega, by show _ ≤ 16000; (try dsimp only); omega⟩ ⟨rfl, rfl⟩ dL_caravan_896 ?_
                                                            refine k_iload C (i := 5) (p := 8) rfl dL_caravan_899 ?_
                                                            refine k_icmp_ne C (tgt := 948) (by decide) dL_caravan_901 (fun hc901 => ?_) (fun hc901 => ?_)
                                                            · skip
                                                              first
                                                              | omega
                                                              | exact absurd hc901 (by decide)
                                                              | exact absurd hc901 (nI_pos (by omega))
                                                              | exact absurd (nI_pos' (by omega)) hc901
                                                              | exact absurd rfl hc901
                                                              | exact absurd hc901 (nI_ne0 (by omega) (by omega))
                                                              | exact hc901 rfl
                                                              | contradiction
                                                              | exact absurd hc901 (nI_n101 (by omega))
                                                              | exact absurd hc901.symm (nI_n101 (by omega))
                                                              | (simp_all; done)
                                                            · skip
                                                              refine k_aload_n C (f := 0) (i := 0) (p := 13) rfl rfl dL_caravan_904 ?_
                                                              refine k_callVp C s_L_246 h_X5_meanWater (L5_s (by assumption)) rfl (ct_X5_meanWater (by first | assumption | omega) (by first | assumption | omega) (by first | assumption | omega)) rfl rfl (Nat.le_of_ble_eq_true rfl) ⟨Nat.le_of_ble_eq_true rfl, Nat.le_of_ble_eq_true rfl⟩ ⟨by show _ ≤ 2600; (try dsimp only); omega, by show _ ≤ 16000; (try dsimp only); omega⟩ ⟨rfl, rfl⟩ dL_caravan_905 ?_
                                                              rw [if_pos (show sp_living r = 0 from hl0)]
                                                              refine k_iload C (i := 7) (p := 6) rfl dL_caravan_908 ?_
                                                              refine k_if_ne C (tgt := 917) (by decide) dL_caravan_910 (fun hc910 => ?_) (fun hc910 => ?_)
                                                              · skip
                                                                first
                                                                | omega
                                                                | exact absurd hc910 (by decide)
                                                                | exact absurd hc910 (nI_pos (by omega))
                                                                | exact absurd (nI_pos' (by omega)) hc910
                                                                | exact absurd rfl hc910
                                                                | exact absurd hc910 (nI_ne0 (by omega) (by omega))
                                                                | exact hc910 rfl
                                                                | contradiction
                                                                | exact absurd hc910 (nI_n101 (by omega))
                                                                | exact absurd hc910.symm (nI_n101 (by omega))
                                                                | (simp_all; done)
                                                              · skip
                                                                refine k_dconst0 C dL_caravan_913 ?_
                                                                refine k_goto C (tgt := 924) (by decide) dL_caravan_914 ?_
                                                                refine k_dcmp C (by first | exact fp_dcmp0 | exact fp_dcmp (by omega) (by omega) (by omega)) dL_caravan_924 ?_
                                                                refine k_if_ne C (tgt := 948) (by decide) dL_caravan_925 (fun hc925 => ?_) (fun hc925 => ?_)
                                                                · skip
                                                                  first
                                                                  | omega
                                                                  | exact absurd hc925 (by decide)
                                                                  | exact absurd hc925 (nI_pos (by omega))
                                                                  | exact absurd (nI_pos' (by omega)) hc925
                                                                  | exact absurd rfl hc925
                                                                  | exact absurd hc925 (nI_ne0 (by omega) (by omega))
                                                                  | exact hc925 rfl
                                                                  | contradiction
                                                                  | exact absurd hc925 (nI_n101 (by omega))
                                                                  | exact absurd hc925.symm (nI_n101 (by omega))
                                                                  | (simp_all; done)
                                                                · skip
                                                                  refine k_aload_n C (f := 0) (i := 0) (p := 13) rfl rfl dL_caravan_928 ?_
                                                                  refine k_callVp C s_L_250 h_X5_progress (L5_s (by assumption)) rfl (ct_X5_progress hx1 hrS1 hL hk (by omega) hL9 hkL) rfl rfl (Nat.le_of_ble_eq_true rfl) ⟨Nat.le_of_ble_eq_true rfl, Nat.le_of_ble_eq_true rfl⟩ ⟨by show _ ≤ 2600; (try dsimp only); omega, by show _ ≤ 16000; (try dsimp only); omega⟩ ⟨rfl, rfl⟩ dL_caravan_929 ?_
                                                                  refine k_iload_n C (f := 3) (i := 3) (p := 10) rfl rfl dL_caravan_932 ?_
                                                                  refine k_i2f C dL_caravan_933 ?_
                                                                  refine k_aload_n C (f := 0) (i := 0) (p := 13) rfl rfl dL_caravan_934 ?_
                                                                  refine k_callVp C s_L_231 h_X5_length (L5_s (by assumption)) rfl (ct_X5_length (by first | assumption | omega) (by first | assumption | omega)) rfl rfl (Nat.le_of_ble_eq_true rfl) ⟨Nat.le_of_ble_eq_true rfl, Nat.le_of_ble_eq_true rfl⟩ ⟨by show _ ≤ 2600; (try dsimp only); omega, by show _ ≤ 16000; (try dsimp only); omega⟩ ⟨rfl, rfl⟩ dL_caravan_935 ?_
                                                                  rw [hL]
                                                                  refine k_i2f C dL_caravan_938 ?_
                                                                  refine k_fdiv C ((fp_fdiv (by omega) (by omega) (by omega)).1) dL_caravan_939 ?_
                                                                  refine k_fcmp C (fp_fcmp (by omega) (by omega) (by omega)) dL_caravan_940 ?_
                                                                  refine k_if_ne C (tgt := 948) (by decide) dL_caravan_941 (fun hc941 => ?_) (fun hc941 => ?_)
                                                                  · skip
                                                                    first
                                                                    | omega
                                                                    | exact absurd hc941 (by decide)
                                                                    | exact absurd hc941 (nI_pos (by omega))
                                                                    | exact absurd (nI_pos' (by omega)) hc941
                                                                    | exact absurd rfl hc941
                                                                    | exact absurd hc941 (nI_ne0 (by omega) (by omega))
                                                                    | exact hc941 rfl
                                                                    | contradiction
                                                                    | exact absurd hc941 (nI_n101 (by omega))
                                                                    | exact absurd hc941.symm (nI_n101 (by omega))
                                                                    | (simp_all; done)
                                                                  · skip
                                                                    refine k_iconst C ic_1 dL_caravan_944 ?_
                                                                    refine k_goto C (tgt := 949) (by decide) dL_caravan_945 ?_
                                                                    exact k_zret C (by first | rfl | exact am_bz) (by show _ ≤ 2600; (try dsimp only); omega) (by show _ ≤ 16000; (try dsimp only); omega) (⟨fun a ha => ⟨(hlk a ha).1, (hlk a ha).2.1, fun _ => hS a (by have := hh17 a ha; omega)⟩, rfl, fun b g1 g2 => hS b (by omega)⟩) dL_caravan_949
                                                  · skip
                                                    first
                                                    | omega
                                                    | exact absurd hc831 (by decide)
                                                    | exact absurd hc831 (nI_pos (by omega))
                                                    | exact absurd (nI_pos' (by omega)) hc831
                                                    | exact absurd rfl hc831
                                                    | exact absurd hc831 (nI_ne0 (by omega) (by omega))
                                                    | exact hc831 rfl
                                                    | contradiction
                                                    | exact absurd hc831 (nI_n101 (by omega))
                                                    | exact absurd hc831.symm (nI_n101 (by omega))
                                                    | (simp_all; done)
                                                · skip
                                                  obtain ⟨j, j1, j2, j3⟩ := LX_l hleg.2 (show 0 < sp_living r by unfold sp_living; omega)
                                                  obtain rfl : j = ld := nI_inj (by omega) (by omega) (j1.symm.trans hld)
                                                  refine k_iload C (i := 7) (p := 6) rfl dL_caravan_829 ?_
                                                  refine k_if_eq C (tgt := 847) (by decide) dL_caravan_831 (fun hc831 => ?_) (fun hc831 => ?_)
                                                  · skip
                                                    first
                                                    | omega
                                                    | exact absurd hc831 (by decide)
                                                    | exact absurd hc831 (nI_pos (by omega))
                                                    | exact absurd (nI_pos' (by omega)) hc831
                                                    | exact absurd rfl hc831
                                                    | exact absurd hc831 (nI_ne0 (by omega) (by omega))
                                                    | exact hc831 rfl
                                                    | contradiction
                                                    | exact absurd hc831 (nI_n101 (by omega))
                                                    | exact absurd hc831.symm (nI_n101 (by omega))
                                                    | (simp_all; done)
                                                  · skip
                                                    refine k_aload_n C (f := 0) (i := 0) (p := 13) rfl rfl dL_caravan_834 ?_
                                                    refine k_bipush C bc_20 dL_caravan_835 ?_
                                                    refine k_aload_n C (f := 0) (i := 0) (p := 13) rfl rfl dL_caravan_837 ?_
                                                    refine k_callVp C s_L_210 h_X5_leader (L5_s (by assumption)) rfl (ct_X5_leader (by first | assumption | omega) (by first | assumption | omega)) rfl rfl (Nat.le_of_ble_eq_true rfl) ⟨Nat.le_of_ble_eq_true rfl, Nat.le_of_ble_eq_true rfl⟩ ⟨by show _ ≤ 2600; (try dsimp only); omega, by show _ ≤ 16000; (try dsimp only); omega⟩ ⟨rfl, rfl⟩ dL_caravan_838 ?_
                                                    rw [hld]
                                                    refine k_callSq C s_L_163 h_L_call__ (ct_k20 hx1 hrS1 hlc (am_bf (fun z => z j3)).symm) rfl rfl (Nat.le_of_ble_eq_true rfl) ⟨Nat.le_of_ble_eq_true rfl, Nat.le_of_ble_eq_true rfl⟩ ⟨rfl, rfl⟩ ⟨by show _ ≤ 2600; (try dsimp only); omega, by show _ ≤ 16000; (try dsimp only); omega⟩ dL_caravan_841 ?_
                                                    refine k_if_ne C (tgt := 948) (by decide) dL_caravan_844 (fun hc844 => ?_) (fun hc844 => ?_)
                                                    · skip
                                                      first
                                                      | omega
                                                      | exact absurd hc844 (by decide)
                                                      | exact absurd hc844 (nI_pos (by omega))
                                                      | exact absurd (nI_pos' (by omega)) hc844
                                                      | exact absurd rfl hc844
                                                      | exact absurd hc844 (nI_ne0 (by omega) (by omega))
                                                      | exact hc844 rfl
                                                      | contradiction
                                                      | exact absurd hc844 (nI_n101 (by omega))
                                                      | exact absurd hc844.symm (nI_n101 (by omega))
                                                      | (simp_all; done)
                                                    · skip
                                                      refine k_aload_n C (f := 0) (i := 0) (p := 13) rfl rfl dL_caravan_847 ?_
                                                      refine k_bipush C bc_30 dL_caravan_848 ?_
                                                      refine k_iconst C ic_0 dL_caravan_850 ?_
                                                      refine k_callSq C s_L_163 h_L_call__ (ct_q30 (v := T) hx1 hrS1 (nE_if hT)) rfl rfl (Nat.le_of_ble_eq_true rfl) ⟨Nat.le_of_ble_eq_true rfl, Nat.le_of_ble_eq_true rfl⟩ ⟨rfl, rfl⟩ ⟨by show _ ≤ 2600; (try dsimp only); omega, by show _ ≤ 16000; (try dsimp only); omega⟩ dL_caravan_851 ?_
                                                      refine k_iload C (i := 9) (p := 4) rfl dL_caravan_854 ?_
                                                      refine k_icmp_ne C (tgt := 948) (by decide) dL_caravan_856 (fun hc856 => ?_) (fun hc856 => ?_)
                                                      · skip
                                                        first
                                                        | omega
                                                        | exact absurd hc856 (by decide)
                                                        | exact absurd hc856 (nI_pos (by omega))
                                                        | exact absurd (nI_pos' (by omega)) hc856
                                                        | exact absurd rfl hc856
                                                        | exact absurd hc856 (nI_ne0 (by omega) (by omega))
                                                        | exact hc856 rfl
                                                        | contradiction
                                                        | exact absurd hc856 (nI_n101 (by omega))
                                                        | exact absurd hc856.symm (nI_n101 (by omega))
                                                        | (simp_all; done)
                                                      · skip
                                                        refine k_aload_n C (f := 0) (i := 0) (p := 13) rfl rfl dL_caravan_859 ?_
                                                        refine k_bipush C bc_31 dL_caravan_860 ?_
                                                        refine k_iconst C ic_0 dL_caravan_862 ?_
                                                        refine k_callSq C s_L_163 h_L_call__ (ct_q31 (v := F) hx1 hrS1 (nE_if hF)) rfl rfl (Nat.le_of_ble_eq_true rfl) ⟨Nat.le_of_ble_eq_true rfl, Nat.le_of_ble_eq_true rfl⟩ ⟨rfl, rfl⟩ ⟨by show _ ≤ 2600; (try dsimp only); omega, by show _ ≤ 16000; (try dsimp only); omega⟩ dL_caravan_863 ?_
                                                        refine k_iload C (i := 10) (p := 3) rfl dL_caravan_866 ?_
                                                        refine k_icmp_ne C (tgt := 948) (by decide) dL_caravan_868 (fun hc868 => ?_) (fun hc868 => ?_)
                                                        · skip
                                                          first
                                                          | omega
                                                          | exact absurd hc868 (by decide)
                                                          | exact absurd hc868 (nI_pos (by omega))
                                                          | exact absurd (nI_pos' (by omega)) hc868
                                                          | exact absurd rfl hc868
                                                          | exact absurd hc868 (nI_ne0 (by omega) (by omega))
                                                          | exact hc868 rfl
                                                          | contradiction
                                                          | exact absurd hc868 (nI_n101 (by omega))
                                                          | exact absurd hc868.symm (nI_n101 (by omega))
                                                          | (simp_all; done)
                                                        · skip
                                                          refine k_aload_n C (f := 0) (i := 0) (p := 13) rfl rfl dL_caravan_871 ?_
                                                          refine k_bipush C bc_18 dL_caravan_872 ?_
                                                          refine k_iconst C ic_0 dL_caravan_874 ?_
                                                          refine k_callSq C s_L_163 h_L_call__ (ct_q18 (v := Hr) hx1 hrS1 (nE_if hHq)) rfl rfl (Nat.le_of_ble_eq_true rfl) ⟨Nat.le_of_ble_eq_true rfl, Nat.le_of_ble_eq_true rfl⟩ ⟨rfl, rfl⟩ ⟨by show _ ≤ 2600; (try dsimp only); omega, by show _ ≤ 16000; (try dsimp only); omega⟩ dL_caravan_875 ?_
                                                          refine k_iload C (i := 12) (p := 2) rfl dL_caravan_878 ?_
                                                          refine k_icmp_ne C (tgt := 948) (by decide) dL_caravan_880 (fun hc880 => ?_) (fun hc880 => ?_)
                                                          · skip
                                                            first
                                                            | omega
                                                            | exact absurd hc880 (by decide)
                                                            | exact absurd hc880 (nI_pos (by omega))
                                                            | exact absurd (nI_pos' (by omega)) hc880
                                                            | exact absurd rfl hc880
                                                            | exact absurd hc880 (nI_ne0 (by omega) (by omega))
                                                            | exact hc880 rfl
                                                            | contradiction
                                                            | exact absurd hc880 (nI_n101 (by omega))
                                                            | exact absurd hc880.symm (nI_n101 (by omega))
                                                            | (simp_all; done)
                                                          · skip
                                                            refine k_aload_n C (f := 0) (i := 0) (p := 13) rfl rfl dL_caravan_883 ?_
                                                            refine k_bipush C bc_19 dL_caravan_884 ?_
                                                            refine k_iconst C ic_0 dL_caravan_886 ?_
                                                            refine k_callSq C s_L_163 h_L_call__ (ct_q19 (v := Nx) hx1 hrS1 hwk (nE_if hN)) rfl rfl (Nat.le_of_ble_eq_true rfl) ⟨Nat.le_of_ble_eq_true rfl, Nat.le_of_ble_eq_true rfl⟩ ⟨rfl, rfl⟩ ⟨by show _ ≤ 2600; (try dsimp only); omega, by show _ ≤ 16000; (try dsimp only); omega⟩ dL_caravan_887 ?_
                                                            refine k_iload C (i := 13) (p := 1) rfl dL_caravan_890 ?_
                                                            refine k_icmp_ne C (tgt := 948) (by decide) dL_caravan_892 (fun hc892 => ?_) (fun hc892 => ?_)
                                                            · skip
                                                              first
                                                              | omega
                                                              | exact absurd hc892 (by decide)
                                                              | exact absurd hc892 (nI_pos (by omega))
                                                              | exact absurd (nI_pos' (by omega)) hc892
                                                              | exact absurd rfl hc892
                                                              | exact absurd hc892 (nI_ne0 (by omega) (by omega))
                                                              | exact hc892 rfl
                                                              | contradiction
                                                              | exact absurd hc892 (nI_n101 (by omega))
                                                              | exact absurd hc892.symm (nI_n101 (by omega))
                                                              | (simp_all; done)
                                                            · skip
                                                              refine k_aload_n C (f := 0) (i := 0) (p := 13) rfl rfl dL_caravan_895 ?_
                                                              refine k_callVp C s_L_243 h_X5_carriedValue (L5_s (by assumption)) rfl (ct_X5_carriedValue (by first | assumption | omega) (by first | assumption | omega)) rfl rfl (Nat.le_of_ble_eq_true rfl) ⟨Nat.le_of_ble_eq_true rfl, Nat.le_of_ble_eq_true rfl⟩ ⟨by show _ ≤ 2600; (try dsimp only); omega, by show _ ≤ 16000; (try dsimp only); omega⟩ ⟨rfl, rfl⟩ dL_caravan_896 ?_
                                                              refine k_iload C (i := 5) (p := 8) rfl dL_caravan_899 ?_
                                                              refine k_icmp_ne C (tgt := 948) (by decide) dL_caravan_901 (fun hc901 => ?_) (fun hc901 => ?_)
                                                              · skip
                                                                first
                                                                | omega
                                                                | exact absurd hc901 (by decide)
                                                                | exact absurd hc901 (nI_pos (by omega))
                                                                | exact absurd (nI_pos' (by omega)) hc901
                                                                | exact absurd rfl hc901
                                                                | exact absurd hc901 (nI_ne0 (by omega) (by omega))
                                                                | exact hc901 rfl
                                                                | contradiction
                                                                | exact absurd hc901 (nI_n101 (by omega))
                                                                | exact absurd hc901.symm (nI_n101 (by omega))
                                                                | (simp_all; done)
                                                              · skip
                                                                refine k_aload_n C (f := 0) (i := 0) (p := 13) rfl rfl dL_caravan_904 ?_
                                                                refine k_callVp C s_L_246 h_X5_meanWater (L5_s (by assumption)) rfl (ct_X5_meanWater (by first | assumption | omega) (by first | assumption | omega) (by first | assumption | omega)) rfl rfl (Nat.le_of_ble_eq_true rfl) ⟨Nat.le_of_ble_eq_true rfl, Nat.le_of_ble_eq_true rfl⟩ ⟨by show _ ≤ 2600; (try dsimp only); omega, by show _ ≤ 16000; (try dsimp only); omega⟩ ⟨rfl, rfl⟩ dL_caravan_905 ?_
                                                                rw [if_neg (show ¬ sp_living r = 0 from hl0), show sp_living r = sp_livingTo r (sp_nc r) from rfl]
                                                                refine k_iload C (i := 7) (p := 6) rfl dL_caravan_908 ?_
                                                                refine k_if_ne C (tgt := 917) (by decide) dL_caravan_910 (fun hc910 => ?_) (fun hc910 => ?_)
                                                                · skip
                                                                  refine k_iload C (i := 8) (p := 5) rfl dL_caravan_917 ?_
                                                                  refine k_i2d C dL_caravan_919 ?_
                                                                  refine k_iload C (i := 7) (p := 6) rfl dL_caravan_920 ?_
                                                                  refine k_i2d C dL_caravan_922 ?_
                                                                  refine k_ddiv C (fp_ddiv (by omega) (by omega) (by omega)) dL_caravan_923 ?_
                                                                  refine k_dcmp C (by first | exact fp_dcmp0 | exact fp_dcmp (by omega) (by omega) (by omega)) dL_caravan_924 ?_
                                                                  refine k_if_ne C (tgt := 948) (by decide) dL_caravan_925 (fun hc925 => ?_) (fun hc925 => ?_)
                                                                  · skip
                                                                    first
                                                                    | omega
                                                                    | exact absurd hc925 (by decide)
                                                                    | exact absurd hc925 (nI_pos (by omega))
                                                                    | exact absurd (nI_pos' (by omega)) hc925
                                                                    | exact absurd rfl hc925
                                                                    | exact absurd hc925 (nI_ne0 (by omega) (by omega))
                                                                    | exact hc925 rfl
                                                                    | contradiction
                                                                    | exact absurd hc925 (nI_n101 (by omega))
                                                                    | exact absurd hc925.symm (nI_n101 (by omega))
                                                                    | (simp_all; done)
                                                                  · skip
                                                                    refine k_aload_n C (f := 0) (i := 0) (p := 13) rfl rfl dL_caravan_928 ?_
                                                                    refine k_callVp C s_L_250 h_X5_progress (L5_s (by assumption)) rfl (ct_X5_progress hx1 hrS1 hL hk (by omega) hL9 hkL) rfl rfl (Nat.le_of_ble_eq_true rfl) ⟨Nat.le_of_ble_eq_true rfl, Nat.le_of_ble_eq_true rfl⟩ ⟨by show _ ≤ 2600; (try dsimp only); omega, by show _ ≤ 16000; (try dsimp only); omega⟩ ⟨rfl, rfl⟩ dL_caravan_929 ?_
                                                                    refine k_iload_n C (f := 3) (i := 3) (p := 10) rfl rfl dL_caravan_932 ?_
                                                                    refine k_i2f C dL_caravan_933 ?_
                                                                    refine k_aload_n C (f := 0) (i := 0) (p := 13) rfl rfl dL_caravan_934 ?_
                                                                    refine k_callVp C s_L_231 h_X5_length (L5_s (by assumption)) rfl (ct_X5_length (by first | assumption | omega) (by first | assumption | omega)) rfl rfl (Nat.le_of_ble_eq_true rfl) ⟨Nat.le_of_ble_eq_true rfl, Nat.le_of_ble_eq_true rfl⟩ ⟨by show _ ≤ 2600; (try dsimp only); omega, by show _ ≤ 16000; (try dsimp only); omega⟩ ⟨rfl, rfl⟩ dL_caravan_935 ?_
                                                                    rw [hL]
                                                                    refine k_i2f C dL_caravan_938 ?_
                                                                    refine k_fdiv C ((fp_fdiv (by omega) (by omega) (by omega)).1) dL_caravan_939 ?_
                                                                    refine k_fcmp C (fp_fcmp (by omega) (by omega) (by omega)) dL_caravan_940 ?_
                                                                    refine k_if_ne C (tgt := 948) (by decide) dL_caravan_941 (fun hc941 => ?_) (fun hc941 => ?_)
                                                                    · skip
                                                                      first
                                                                      | omega
                                                                      | exact absurd hc941 (by decide)
                                                                      | exact absurd hc941 (nI_pos (by omega))
                                                                      | exact absurd (nI_pos' (by omega)) hc941
                                                                      | exact absurd rfl hc941
                                                                      | exact absurd hc941 (nI_ne0 (by omega) (by omega))
                                                                      | exact hc941 rfl
                                                                      | contradiction
                                                                      | exact absurd hc941 (nI_n101 (by omega))
                                                                      | exact absurd hc941.symm (nI_n101 (by omega))
                                                                      | (simp_all; done)
                                                                    · skip
                                                                      refine k_iconst C ic_1 dL_caravan_944 ?_
                                                                      refine k_goto C (tgt := 949) (by decide) dL_caravan_945 ?_
                                                                      exact k_zret C (by first | rfl | exact am_bz) (by show _ ≤ 2600; (try dsimp only); omega) (by show _ ≤ 16000; (try dsimp only); omega) (⟨fun a ha => ⟨(hlk a ha).1, (hlk a ha).2.1, fun _ => hS a (by have := hh17 a ha; omega)⟩, rfl, fun b g1 g2 => hS b (by omega)⟩) dL_caravan_949
                                                                · skip
                                                                  first
                                                                  | omega
                                                                  | exact absurd hc910 (by decide)
                                                                  | exact absurd hc910 (nI_pos (by omega))
                                                                  | exact absurd (nI_pos' (by omega)) hc910
                                                                  | exact absurd rfl hc910
                                                                  | exact absurd hc910 (nI_ne0 (by omega) (by omega))
                                                                  | exact hc910 rfl
                                                                  | contradiction
                                                                  | exact absurd hc910 (nI_n101 (by omega))
                                                                  | exact absurd hc910.symm (nI_n101 (by omega))
                                                                  | (simp_all; done)
                                          · skip
                                            refine k_iload C (i := 6) (p := 7) rfl dL_caravan_719 ?_
                                            refine k_if_eq C (tgt := 815) (by decide) dL_caravan_721 (fun hc721 => ?_) (fun hc721 => ?_)
                                            · skip
                                              first
                                              | omega
                                              | exact absurd hc721 (by decide)
                                              | exact absurd hc721 (nI_pos (by omega))
                                              | exact absurd (nI_pos' (by omega)) hc721
                                              | exact absurd rfl hc721
                                              | exact absurd hc721 (nI_ne0 (by omega) (by omega))
                                              | exact hc721 rfl
                                              | contradiction
                                              | exact absurd hc721 (nI_n101 (by omega))
                                              | exact absurd hc721.symm (nI_n101 (by omega))
                                              | (simp_all; done)
                                            · skip
                                              have hk2 : k < sp_nw r := by omega
                                              obtain ⟨cap, lev, hcap, hcap9, hlev, hlev9, -⟩ := RK_we hok k hk2
                                              obtain ⟨pw, hpw, -, hpw9⟩ := hww k hk2
                                              refine k_aload_n C (f := 0) (i := 0) (p := 13) rfl rfl dL_caravan_724 ?_
                                              refine k_bipush C bc_15 dL_caravan_725 ?_
                                              refine k_iload C (i := 14) (p := 0) rfl dL_caravan_727 ?_
                                              refine k_callSq C s_L_163 h_L_call__ (ct_k15 hx1 hrS1 hk2 hpw) rfl rfl (Nat.le_of_ble_eq_true rfl) ⟨Nat.le_of_ble_eq_true rfl, Nat.le_of_ble_eq_true rfl⟩ ⟨rfl, rfl⟩ ⟨by show _ ≤ 2600; (try dsimp only); omega, by show _ ≤ 16000; (try dsimp only); omega⟩ dL_caravan_729 ?_
                                              refine k_istore C (i := 15) (lv := [(15, _), (14, _), (13, _), (12, _), (10, _), (9, _), (8, _), (7, _), (6, _), (5, _), (4, _), (3, _), (2, _), (1, _), (0, _)]) (Nat.le_of_ble_eq_true rfl) rfl dL_caravan_732 ?_
                                              refine k_aload_n C (f := 0) (i := 0) (p := 14) rfl rfl dL_caravan_734 ?_
                                              refine k_bipush C bc_17 dL_caravan_735 ?_
                                              refine k_iload C (i := 14) (p := 1) rfl dL_caravan_737 ?_
                                              refine k_callSq C s_L_163 h_L_call__ (ct_k17 hx1 hrS1 hk2 hlev) rfl rfl (Nat.le_of_ble_eq_true rfl) ⟨Nat.le_of_ble_eq_true rfl, Nat.le_of_ble_eq_true rfl⟩ ⟨rfl, rfl⟩ ⟨by show _ ≤ 2600; (try dsimp only); omega, by show _ ≤ 16000; (try dsimp only); omega⟩ dL_caravan_739 ?_
                                              refine k_if_lt C (tgt := 768) (by decide) dL_caravan_742 (fun hc742 => ?_) (fun hc742 => ?_)
                                              · skip
                                                first
                                                | omega
                                                | exact absurd hc742 (by decide)
                                                | exact absurd hc742 (nI_pos (by omega))
                                                | exact absurd (nI_pos' (by omega)) hc742
                                                | exact absurd rfl hc742
                                                | exact absurd hc742 (nI_ne0 (by omega) (by omega))
                                                | exact hc742 rfl
                                                | contradiction
                                                | exact absurd hc742 (nI_n101 (by omega))
                                                | exact absurd hc742.symm (nI_n101 (by omega))
                                                | (simp_all; done)
                                              · skip
                                                refine k_aload_n C (f := 0) (i := 0) (p := 14) rfl rfl dL_caravan_745 ?_
                                                refine k_bipush C bc_17 dL_caravan_746 ?_
                                                refine k_iload C (i := 14) (p := 1) rfl dL_caravan_748 ?_
                                                refine k_callSq C s_L_163 h_L_call__ (ct_k17 hx1 hrS1 hk2 hlev) rfl rfl (Nat.le_of_ble_eq_true rfl) ⟨Nat.le_of_ble_eq_true rfl, Nat.le_of_ble_eq_true rfl⟩ ⟨rfl, rfl⟩ ⟨by show _ ≤ 2600; (try dsimp only); omega, by show _ ≤ 16000; (try dsimp only); omega⟩ dL_caravan_750 ?_
                                                refine k_aload_n C (f := 0) (i := 0) (p := 14) rfl rfl dL_caravan_753 ?_
                                                refine k_bipush C bc_16 dL_caravan_754 ?_
                                                refine k_iload C (i := 14) (p := 1) rfl dL_caravan_756 ?_
                                                refine k_callSq C s_L_163 h_L_call__ (ct_k16 hx1 hrS1 hk2 hcap) rfl rfl (Nat.le_of_ble_eq_true rfl) ⟨Nat.le_of_ble_eq_true rfl, Nat.le_of_ble_eq_true rfl⟩ ⟨rfl, rfl⟩ ⟨by show _ ≤ 2600; (try dsimp only); omega, by show _ ≤ 16000; (try dsimp only); omega⟩ dL_caravan_758 ?_
                                                first
                                                | refine k_icmpN_gt C (tgt := 768) (by omega) (by omega) (by decide) dL_caravan_761 (fun hc761 => ?_) (fun hc761 => ?_)
                                                | refine k_icmp_gt C (tgt := 768) (by decide) dL_caravan_761 (fun hc761 => ?_) (fun hc761 => ?_)
                                                · skip
                                                  first
                                                  | omega
                                                  | exact absurd hc761 (by decide)
                                                  | exact absurd hc761 (nI_pos (by omega))
                                                  | exact absurd (nI_pos' (by omega)) hc761
                                                  | exact absurd rfl hc761
                                                  | exact absurd hc761 (nI_ne0 (by omega) (by omega))
                                                  | exact hc761 rfl
                                                  | contradiction
                                                  | exact absurd hc761 (nI_n101 (by omega))
                                                  | exact absurd hc761.symm (nI_n101 (by omega))
                                                  | (simp_all; done)
                                                · skip
                                                  refine k_iconst C ic_1 dL_caravan_764 ?_
                                                  refine k_goto C (tgt := 769) (by decide) dL_caravan_765 ?_
                                                  refine k_istore C (i := 6) (lv := [(6, _), (15, _), (14, _), (13, _), (12, _), (10, _), (9, _), (8, _), (7, _), (5, _), (4, _), (3, _), (2, _), (1, _), (0, _)]) (Nat.le_of_ble_eq_true rfl) rfl dL_caravan_769 ?_
                                                  refine k_iload C (i := 15) (p := 1) rfl dL_caravan_771 ?_
                                                  refine k_iload_n C (f := 3) (i := 3) (p := 11) rfl rfl dL_caravan_773 ?_
                                                  refine k_icmpN_ne C (tgt := 781) (by omega) (by omega) (by decide) dL_caravan_774 (fun hc774 => ?_) (fun hc774 => ?_)
                                                  · skip
                                                    have hHn : (Hr = (-101) ∧ ∀ i : Nat, i < k + 1 → ¬ r (90 + 4 * i) = r 1) ∨ ∃ m : Nat, m < k + 1 ∧ Hr = nI m ∧ r (90 + 4 * m) = r 1 := by
                                                      rcases hH with ⟨h1, h2⟩ | ⟨m, h1, h2, h3⟩
                                                      · refine Or.inl ⟨h1, fun i hi => ?_⟩
                                                        by_cases e : i = k
                                                        · subst e
                                                          rw [hpw, hk]
                                                          exact fun z => hc774 (nI_inj (by omega) (by omega) z)
                                                        · exact h2 i (by omega)
                                                      · exact Or.inr ⟨m, by omega, h2, h3⟩
                                                    refine k_iload C (i := 15) (p := 1) rfl dL_caravan_781 ?_
                                                    refine k_iload_n C (f := 3) (i := 3) (p := 11) rfl rfl dL_caravan_783 ?_
                                                    refine k_icmpN_le C (tgt := 809) (by omega) (by omega) (by decide) dL_caravan_784 (fun hc784 => ?_) (fun hc784 => ?_)
                                                    · skip
                                                      have hNn : Nx = nE (sp_behindTo r (r 1) (k + 1)) := by rw [sp_behindTo_f (fun z => by rw [hpw, hk] at z; have := (nI_ltI (by omega) (by omega)).mp z.1; omega)]; exact hN
                                                      refine k_iinc C (i := 14) (p := 2) (lv := [(14, _), (6, _), (15, _), (13, _), (12, _), (10, _), (9, _), (8, _), (7, _), (5, _), (4, _), (3, _), (2, _), (1, _), (0, _)]) (Nat.le_of_ble_eq_true rfl) rfl (by first | exact am_inc1 _ | rfl) rfl dL_caravan_809 ?_
                                                      refine k_goto C (tgt := 710) (by decide) dL_caravan_812 ?_
                                                      refine k_sub [0, 3, 4, 5, 6, 7, 8, 1, 9, 10, 11, 12, 13, 14] rfl ?_
                                                      refine k_widen ?_ ?_ (ih710 (k + 1) _ _ (by omega) hHn hNn (by omega))
                                                      · (try dsimp only); omega
                                                      · (try dsimp only); omega
                                                    · skip
                                                      have hlt : r 1 < r (90 + 4 * k) := by rw [hpw, hk]; exact nI_lt (by omega) (by omega)
                                                      rcases sp_behindTo_or r (r 1) k with eN | ⟨m, eN, hm9, -⟩
                                                      · skip
                                                        obtain rfl : Nx = (-101) := by rw [hN, eN]; rfl
                                                        have hNn : nI k = nE (sp_behindTo r (r 1) (k + 1)) := by rw [sp_behindTo_t ⟨hlt, Or.inl (by rw [eN]; decide)⟩, nE_n (by omega)]
                                                        refine k_iload C (i := 13) (p := 3) rfl dL_caravan_787 ?_
                                                        refine k_if_lt C (tgt := 805) (by decide) dL_caravan_789 (fun hc789 => ?_) (fun hc789 => ?_)
                                                        · skip
                                                          refine k_iload C (i := 14) (p := 2) rfl dL_caravan_805 ?_
                                                          refine k_istore C (i := 13) (lv := [(13, _), (6, _), (15, _), (14, _), (12, _), (10, _), (9, _), (8, _), (7, _), (5, _), (4, _), (3, _), (2, _), (1, _), (0, _)]) (Nat.le_of_ble_eq_true rfl) rfl dL_caravan_807 ?_
                                                          refine k_iinc C (i := 14) (p := 3) (lv := [(14, _), (13, _), (6, _), (15, _), (12, _), (10, _), (9, _), (8, _), (7, _), (5, _), (4, _), (3, _), (2, _), (1, _), (0, _)]) (Nat.le_of_ble_eq_true rfl) rfl (by first | exact am_inc1 _ | rfl) rfl dL_caravan_809 ?_
                                                          refine k_goto C (tgt := 710) (by decide) dL_caravan_812 ?_
                                                          refine k_sub [0, 1, 4, 5, 6, 7, 8, 2, 9, 10, 11, 12, 13, 14] rfl ?_
                                                          refine k_widen ?_ ?_ (ih710 (k + 1) _ _ (by omega) hHn hNn (by omega))
                                                          · (try dsimp only); omega
                                                          · (try dsimp only); omega
                                                        · skip
                                                          first
                                                          | omega
                                                          | exact absurd hc789 (by decide)
                                                          | exact absurd hc789 (nI_pos (by omega))
                                                          | exact absurd (nI_pos' (by omega)) hc789
                                                          | exact absurd rfl hc789
                                                          | exact absurd hc789 (nI_ne0 (by omega) (by omega))
                                                          | exact hc789 rfl
                                                          | contradiction
                                                          | exact absurd hc789 (nI_n101 (by omega))
                                                          | exact absurd hc789.symm (nI_n101 (by omega))
                                                          | (simp_all; done)
                                                      · skip
                                                        obtain rfl : Nx = nI m := by rw [hN, eN, nE_n (by omega)]
                                                        have hm : m < sp_nw r := by omega
                                                        have em : (sp_behindTo r (r 1) k).toNatClampNeg = m := by rw [eN, nI_clamp (by omega)]
                                                        refine k_iload C (i := 13) (p := 3) rfl dL_caravan_787 ?_
                                                        refine k_if_lt C (tgt := 805) (by decide) dL_caravan_789 (fun hc789 => ?_) (fun hc789 => ?_)
                                                        · skip
                                                          first
                                                          | omega
                                                          | exact absurd hc789 (by decide)
                                                          | exact absurd hc789 (nI_pos (by omega))
                                                          | exact absurd (nI_pos' (by omega)) hc789
                                                          | exact absurd rfl hc789
                                                          | exact absurd hc789 (nI_ne0 (by omega) (by omega))
                                                          | exact hc789 rfl
                                                          | contradiction
                                                          | exact absurd hc789 (nI_n101 (by omega))
                                                          | exact absurd hc789.symm (nI_n101 (by omega))
                                                          | (simp_all; done)
                                                        · skip
                                                          refine k_iload C (i := 15) (p := 1) rfl dL_caravan_792 ?_
                                                          refine k_aload_n C (f := 0) (i := 0) (p := 14) rfl rfl dL_caravan_794 ?_
                                                          refine k_bipush C bc_15 dL_caravan_795 ?_
                                                          refine k_iload C (i := 13) (p := 3) rfl dL_caravan_797 ?_
                                                          refine k_callSq C s_L_163 h_L_call__ (ct_k15 hx1 hrS1 hm rfl) rfl rfl (Nat.le_of_ble_eq_true rfl) ⟨Nat.le_of_ble_eq_true rfl, Nat.le_of_ble_eq_true rfl⟩ ⟨rfl, rfl⟩ ⟨by show _ ≤ 2600; (try dsimp only); omega, by show _ ≤ 16000; (try dsimp only); omega⟩ dL_caravan_799 ?_
                                                          refine k_icmp_ge C (tgt := 809) (by decide) dL_caravan_802 (fun hc802 => ?_) (fun hc802 => ?_)
                                                          · skip
                                                            have hNn : nI m = nE (sp_behindTo r (r 1) (k + 1)) := by rw [sp_behindTo_f (fun z => z.2.elim (fun z2 => by rw [eN] at z2; exact nI_pos (by omega) z2) (fun z2 => by rw [em, hpw] at z2; exact Int32.not_lt.mpr hc802 z2)), eN, nE_n (by omega)]
                                                            refine k_iinc C (i := 14) (p := 2) (lv := [(14, _), (6, _), (15, _), (13, _), (12, _), (10, _), (9, _), (8, _), (7, _), (5, _), (4, _), (3, _), (2, _), (1, _), (0, _)]) (Nat.le_of_ble_eq_true rfl) rfl (by first | exact am_inc1 _ | rfl) rfl dL_caravan_809 ?_
                                                            refine k_goto C (tgt := 710) (by decide) dL_caravan_812 ?_
                                                            refine k_sub [0, 3, 4, 5, 6, 7, 8, 1, 9, 10, 11, 12, 13, 14] rfl ?_
                                                            refine k_widen ?_ ?_ (ih710 (k + 1) _ _ (by omega) hHn hNn (by omega))
                                                            · (try dsimp only); omega
                                                            · (try dsimp only); omega
                                                          · skip
                                                            have hNn : nI k = nE (sp_behindTo r (r 1) (k + 1)) := by rw [sp_behindTo_t ⟨hlt, Or.inr (by rw [em, hpw]; exact Int32.not_le.mp hc802)⟩, nE_n (by omega)]
                                                            refine k_iload C (i := 14) (p := 2) rfl dL_caravan_805 ?_
                                                            refine k_istore C (i := 13) (lv := [(13, _), (6, _), (15, _), (14, _), (12, _), (10, _), (9, _), (8, _), (7, _), (5, _), (4, _), (3, _), (2, _), (1, _), (0, _)]) (Nat.le_of_ble_eq_true rfl) rfl dL_caravan_807 ?_
                                                            refine k_iinc C (i := 14) (p := 3) (lv := [(14, _), (13, _), (6, _), (15, _), (12, _), (10, _), (9, _), (8, _), (7, _), (5, _), (4, _), (3, _), (2, _), (1, _), (0, _)]) (Nat.le_of_ble_eq_true rfl) rfl (by first | exact am_inc1 _ | rfl) rfl dL_caravan_809 ?_
                                                            refine k_goto C (tgt := 710) (by decide) dL_caravan_812 ?_
                                                            refine k_sub [0, 1, 4, 5, 6, 7, 8, 2, 9, 10, 11, 12, 13, 14] rfl ?_
                                                            refine k_widen ?_ ?_ (ih710 (k + 1) _ _ (by omega) hHn hNn (by omega))
                                                            · (try dsimp only); omega
                                                            · (try dsimp only); omega
                                                  · skip
                                                    have hHn : (nI k = (-101 : Int32) ∧ ∀ i : Nat, i < k + 1 → ¬ r (90 + 4 * i) = r 1) ∨ ∃ m : Nat, m < k + 1 ∧ nI k = nI m ∧ r (90 + 4 * m) = r 1 := Or.inr ⟨k, by omega, rfl, by rw [hpw, hk, hc774]⟩
                                                    refine k_iload C (i := 14) (p := 2) rfl dL_caravan_777 ?_
                                                    refine k_istore C (i := 12) (lv := [(12, _), (6, _), (15, _), (14, _), (13, _), (10, _), (9, _), (8, _), (7, _), (5, _), (4, _), (3, _), (2, _), (1, _), (0, _)]) (Nat.le_of_ble_eq_true rfl) rfl dL_caravan_779 ?_
                                                    refine k_iload C (i := 15) (p := 2) rfl dL_caravan_781 ?_
                                                    refine k_iload_n C (f := 3) (i := 3) (p := 11) rfl rfl dL_caravan_783 ?_
                                                    refine k_icmpN_le C (tgt := 809) (by omega) (by omega) (by decide) dL_caravan_784 (fun hc784 => ?_) (fun hc784 => ?_)
                                                    · skip
                                                      have hNn : Nx = nE (sp_behindTo r (r 1) (k + 1)) := by rw [sp_behindTo_f (fun z => by rw [hpw, hk] at z; have := (nI_ltI (by omega) (by omega)).mp z.1; omega)]; exact hN
                                                      refine k_iinc C (i := 14) (p := 3) (lv := [(14, _), (12, _), (6, _), (15, _), (13, _), (10, _), (9, _), (8, _), (7, _), (5, _), (4, _), (3, _), (2, _), (1, _), (0, _)]) (Nat.le_of_ble_eq_true rfl) rfl (by first | exact am_inc1 _ | rfl) rfl dL_caravan_809 ?_
                                                      refine k_goto C (tgt := 710) (by decide) dL_caravan_812 ?_
                                                      refine k_sub [0, 4, 1, 5, 6, 7, 8, 2, 9, 10, 11, 12, 13, 14] rfl ?_
                                                      refine k_widen ?_ ?_ (ih710 (k + 1) _ _ (by omega) hHn hNn (by omega))
                                                      · (try dsimp only); omega
                                                      · (try dsimp only); omega
                                                    · skip
                                                      have hlt : r 1 < r (90 + 4 * k) := by rw [hpw, hk]; exact nI_lt (by omega) (by omega)
                                                      rcases sp_behindTo_or r (r 1) k with eN | ⟨m, eN, hm9, -⟩
                                                      · skip
                                                        obtain rfl : Nx = (-101) := by rw [hN, eN]; rfl
                                                        have hNn : nI k = nE (sp_behindTo r (r 1) (k + 1)) := by rw [sp_behindTo_t ⟨hlt, Or.inl (by rw [eN]; decide)⟩, nE_n (by omega)]
                                                        refine k_iload C (i := 13) (p := 4) rfl dL_caravan_787 ?_
                                                        refine k_if_lt C (tgt := 805) (by decide) dL_caravan_789 (fun hc789 => ?_) (fun hc789 => ?_)
                                                        · skip
                                                          refine k_iload C (i := 14) (p := 3) rfl dL_caravan_805 ?_
                                                          refine k_istore C (i := 13) (lv := [(13, _), (12, _), (6, _), (15, _), (14, _), (10, _), (9, _), (8, _), (7, _), (5, _), (4, _), (3, _), (2, _), (1, _), (0, _)]) (Nat.le_of_ble_eq_true rfl) rfl dL_caravan_807 ?_
                                                          refine k_iinc C (i := 14) (p := 4) (lv := [(14, _), (13, _), (12, _), (6, _), (15, _), (10, _), (9, _), (8, _), (7, _), (5, _), (4, _), (3, _), (2, _), (1, _), (0, _)]) (Nat.le_of_ble_eq_true rfl) rfl (by first | exact am_inc1 _ | rfl) rfl dL_caravan_809 ?_
                                                          refine k_goto C (tgt := 710) (by decide) dL_caravan_812 ?_
                                                          refine k_sub [0, 1, 2, 5, 6, 7, 8, 3, 9, 10, 11, 12, 13, 14] rfl ?_
                                                          refine k_widen ?_ ?_ (ih710 (k + 1) _ _ (by omega) hHn hNn (by omega))
                                                          · (try dsimp only); omega
                                                          · (try dsimp only); omega
                                                        · skip
                                                          first
                                                          | omega
                                                          | exact absurd hc789 (by decide)
                                                          | exact absurd hc789 (nI_pos (by omega))
                                                          | exact absurd (nI_pos' (by omega)) hc789
                                                          | exact absurd rfl hc789
                                                          | exact absurd hc789 (nI_ne0 (by omega) (by omega))
                                                          | exact hc789 rfl
                                                          | contradiction
                                                          | exact absurd hc789 (nI_n101 (by omega))
                                                          | exact absurd hc789.symm (nI_n101 (by omega))
                                                          | (simp_all; done)
                                                      · skip
                                                        obtain rfl : Nx = nI m := by rw [hN, eN, nE_n (by omega)]
                                                        have hm : m < sp_nw r := by omega
                                                        have em : (sp_behindTo r (r 1) k).toNatClampNeg = m := by rw [eN, nI_clamp (by omega)]
                                                        refine k_iload C (i := 13) (p := 4) rfl dL_caravan_787 ?_
                                                        refine k_if_lt C (tgt := 805) (by decide) dL_caravan_789 (fun hc789 => ?_) (fun hc789 => ?_)
                                                        · skip
                                                          first
                                                          | omega
                                                          | exact absurd hc789 (by decide)
                                                          | exact absurd hc789 (nI_pos (by omega))
                                                          | exact absurd (nI_pos' (by omega)) hc789
                                                          | exact absurd rfl hc789
                                                          | exact absurd hc789 (nI_ne0 (by omega) (by omega))
                                                          | exact hc789 rfl
                                                          | contradiction
                                                          | exact absurd hc789 (nI_n101 (by omega))
                                                          | exact absurd hc789.symm (nI_n101 (by omega))
                                                          | (simp_all; done)
                                                        · skip
                                                          refine k_iload C (i := 15) (p := 2) rfl dL_caravan_792 ?_
                                                          refine k_aload_n C (f := 0) (i := 0) (p := 14) rfl rfl dL_caravan_794 ?_
                                                          refine k_bipush C bc_15 dL_caravan_795 ?_
                                                          refine k_iload C (i := 13) (p := 4) rfl dL_caravan_797 ?_
                                                          refine k_callSq C s_L_163 h_L_call__ (ct_k15 hx1 hrS1 hm rfl) rfl rfl (Nat.le_of_ble_eq_true rfl) ⟨Nat.le_of_ble_eq_true rfl, Nat.le_of_ble_eq_true rfl⟩ ⟨rfl, rfl⟩ ⟨by show _ ≤ 2600; (try dsimp only); omega, by show _ ≤ 16000; (try dsimp only); omega⟩ dL_caravan_799 ?_
                                                          refine k_icmp_ge C (tgt := 809) (by decide) dL_caravan_802 (fun hc802 => ?_) (fun hc802 => ?_)
                                                          · skip
                                                            have hNn : nI m = nE (sp_behindTo r (r 1) (k + 1)) := by rw [sp_behindTo_f (fun z => z.2.elim (fun z2 => by rw [eN] at z2; exact nI_pos (by omega) z2) (fun z2 => by rw [em, hpw] at z2; exact Int32.not_lt.mpr hc802 z2)), eN, nE_n (by omega)]
                                                            refine k_iinc C (i := 14) (p := 3) (lv := [(14, _), (12, _), (6, _), (15, _), (13, _), (10, _), (9, _), (8, _), (7, _), (5, _), (4, _), (3, _), (2, _), (1, _), (0, _)]) (Nat.le_of_ble_eq_true rfl) rfl (by first | exact am_inc1 _ | rfl) rfl dL_caravan_809 ?_
                                                            refine k_goto C (tgt := 710) (by decide) dL_caravan_812 ?_
                                                            refine k_sub [0, 4, 1, 5, 6, 7, 8, 2, 9, 10, 11, 12, 13, 14] rfl ?_
                                                            refine k_widen ?_ ?_ (ih710 (k + 1) _ _ (by omega) hHn hNn (by omega))
                                                            · (try dsimp only); omega
                                                            · (try dsimp only); omega
                                                          · skip
                                                            have hNn : nI k = nE (sp_behindTo r (r 1) (k + 1)) := by rw [sp_behindTo_t ⟨hlt, Or.inr (by rw [em, hpw]; exact Int32.not_le.mp hc802)⟩, nE_n (by omega)]
                                                            refine k_iload C (i := 14) (p := 3) rfl dL_caravan_805 ?_
                                                            refine k_istore C (i := 13) (lv := [(13, _), (12, _), (6, _), (15, _), (14, _), (10, _), (9, _), (8, _), (7, _), (5, _), (4, _), (3, _), (2, _), (1, _), (0, _)]) (Nat.le_of_ble_eq_true rfl) rfl dL_caravan_807 ?_
                                                            refine k_iinc C (i := 14) (p := 4) (lv := [(14, _), (13, _), (12, _), (6, _), (15, _), (10, _), (9, _), (8, _), (7, _), (5, _), (4, _), (3, _), (2, _), (1, _), (0, _)]) (Nat.le_of_ble_eq_true rfl) rfl (by first | exact am_inc1 _ | rfl) rfl dL_caravan_809 ?_
                                                            refine k_goto C (tgt := 710) (by decide) dL_caravan_812 ?_
                                                            refine k_sub [0, 1, 2, 5, 6, 7, 8, 3, 9, 10, 11, 12, 13, 14] rfl ?_
                                                            refine k_widen ?_ ?_ (ih710 (k + 1) _ _ (by omega) hHn hNn (by omega))
                                                            · (try dsimp only); omega
                                                            · (try dsimp only); omega
                                      refine k_sub [0, 1, 2, 4, 5, 6, 7, 8, 9, 10, 11, 12, 13, 14] rfl ?_
                                      refine k_widen ?_ ?_ (loop710 (sp_nw r + 1) 0 _ _ (Nat.zero_le _) (Or.inl ⟨rfl, fun i hi => absurd hi (Nat.not_lt_zero i)⟩) rfl (by omega))
                                      · (try dsimp only); omega
                                      · (try dsimp only); omega
                                    · skip
                                      refine k_iload C (i := 6) (p := 6) rfl dL_caravan_328 ?_
                                      refine k_if_eq C (tgt := 699) (by decide) dL_caravan_330 (fun hc330 => ?_) (fun hc330 => ?_)
                                      · skip
                                        first
                                        | omega
                                        | exact absurd hc330 (by decide)
                                        | exact absurd hc330 (nI_pos (by omega))
                                        | exact absurd (nI_pos' (by omega)) hc330
                                        | exact absurd rfl hc330
                                        | exact absurd hc330 (nI_ne0 (by omega) (by omega))
                                        | exact hc330 rfl
                                        | contradiction
                                        | exact absurd hc330 (nI_n101 (by omega))
                                        | exact absurd hc330.symm (nI_n101 (by omega))
                                        | (simp_all; done)
                                      · skip
                                        have hk2 : k < sp_nc r := by omega
                                        obtain ⟨⟨p, hp, -, hp9⟩, -, ⟨tk, wt, htk, -, htk9, hw, hwt⟩, ⟨d, hd, -, hd3⟩, -⟩ := RK_c hok k hk2
                                        obtain ⟨⟨s, hs14, -, hs60⟩, ⟨l, hl, -, hl9⟩⟩ := hLd k hk2
                                        obtain ⟨g, c, hg, hg9, hc, hc9⟩ := LX_c hleg.2 k hk2
                                        have hv28 : sp_free r k = nI (20 * g - c) := by
                                          unfold sp_free
                                          rw [hg, hc, pk_mul, pk_sub (by omega), Nat.mul_comm]
                                        have hsum : S h k = nI c := (hs0 k hk2).trans hc
                                        have join365 : ∀ (P : Int32), (sp_max (nI 5) (P - nI c / nI 10) = sp_speed r k) → am_K G X { frames := 12, cells := 2600, slots := 16000, locals := 300 } 16 Λ1 S J1 (880 + 132 * k + 12) (5300 + 792 * k + 72) 365 [(12, .int (nI k)), (11, .int (nI t)), (10, .int F), (9, .int T), (8, .int (nI (sp_wsumTo r k))), (7, .int (nI (sp_livingTo r k))), (6, .int (nI 1)), (5, .int (sp_cvalTo r (sp_nl r))), (4, .ref h), (3, .int (nI km)), (2, .int (nI (sp_nl r))), (1, .int (nI (sp_nc r))), (0, .ref x)] [.int P] := by
                                          intro P hP
                                          by_cases hal : d < 3
                                          · skip
                                            have hal2 : r (16 + 8 * k) < nI 3 := by rw [hd]; exact nI_lt hal (by omega)
                                            have hv20 : am_b (¬ r (16 + 8 * k) < nI 3) = nI 0 := (am_bf (fun z => z hal2)).symm
                                            have hv37 : (if r (16 + 8 * k) < nI 3 then sp_need r k (sp_storm r (r 2)) else nI 0) = nI (5 + c / 25 + t) := by
                                              rw [if_pos hal2, ht]
                                              unfold sp_need
                                              rw [hc, pk_div (by omega) (by omega) (by omega), nI_add, nI_add]
                                            have hws : sp_wsumTo r (k + 1) = sp_wsumTo r k + wt := by rw [sp_wsumTo_t hal2, hw, nI_clamp (by omega)]
                                            refine k_istore C (i := 13) (lv := [(13, _), (12, _), (11, _), (10, _), (9, _), (8, _), (7, _), (6, _), (5, _), (4, _), (3, _), (2, _), (1, _), (0, _)]) (Nat.le_of_ble_eq_true rfl) rfl dL_caravan_365 ?_
                                            refine k_aload_n C (f := 0) (i := 0) (p := 13) rfl rfl dL_caravan_367 ?_
                                            refine k_bipush C bc_20 dL_caravan_368 ?_
                                            refine k_iload C (i := 12) (p := 1) rfl dL_caravan_370 ?_
                                            refine k_callSq C s_L_163 h_L_call__ (ct_k20 hx1 hrS1 hk2 hv20) rfl rfl (Nat.le_of_ble_eq_true rfl) ⟨Nat.le_of_ble_eq_true rfl, Nat.le_of_ble_eq_true rfl⟩ ⟨rfl, rfl⟩ ⟨by show _ ≤ 2600; (try dsimp only); omega, by show _ ≤ 16000; (try dsimp only); omega⟩ dL_caravan_372 ?_
                                            refine k_istore C (i := 14) (lv := [(14, _), (13, _), (12, _), (11, _), (10, _), (9, _), (8, _), (7, _), (6, _), (5, _), (4, _), (3, _), (2, _), (1, _), (0, _)]) (Nat.le_of_ble_eq_true rfl) rfl dL_caravan_375 ?_
                                            refine k_aload_n C (f := 0) (i := 0) (p := 14) rfl rfl dL_caravan_377 ?_
                                            refine k_bipush C bc_27 dL_caravan_378 ?_
                                            refine k_iload C (i := 12) (p := 2) rfl dL_caravan_380 ?_
                                            refine k_callSq C s_L_163 h_L_call__ (ct_k27 hx1 hrS1 hk2 hc) rfl rfl (Nat.le_of_ble_eq_true rfl) ⟨Nat.le_of_ble_eq_true rfl, Nat.le_of_ble_eq_true rfl⟩ ⟨rfl, rfl⟩ ⟨by show _ ≤ 2600; (try dsimp only); omega, by show _ ≤ 16000; (try dsimp only); omega⟩ dL_caravan_382 ?_
                                            refine k_aload C (i := 4) (p := 10) rfl dL_caravan_385 ?_
                                            refine k_iload C (i := 12) (p := 2) rfl dL_caravan_387 ?_
                                            refine k_iald C (hsh) (rfl) (by omega) (by decide) (hsum) dL_caravan_389 ?_
                                            first
                                            | refine k_icmpN_ne C (tgt := 609) (by omega) (by omega) (by decide) dL_caravan_390 (fun hc390 => ?_) (fun hc390 => ?_)
                                            | refine k_icmp_ne C (tgt := 609) (by decide) dL_caravan_390 (fun hc390 => ?_) (fun hc390 => ?_)
                                            · skip
                                              first
                                              | omega
                                              | exact absurd hc390 (by decide)
                                              | exact absurd hc390 (nI_pos (by omega))
                                              | exact absurd (nI_pos' (by omega)) hc390
                                              | exact absurd rfl hc390
                                              | exact absurd hc390 (nI_ne0 (by omega) (by omega))
                                              | exact hc390 rfl
                                              | contradiction
                                              | exact absurd hc390 (nI_n101 (by omega))
                                              | exact absurd hc390.symm (nI_n101 (by omega))
                                              | (simp_all; done)
                                            · skip
                                              refine k_aload_n C (f := 0) (i := 0) (p := 14) rfl rfl dL_caravan_393 ?_
                                              refine k_bipush C bc_28 dL_caravan_394 ?_
                                              refine k_iload C (i := 12) (p := 2) rfl dL_caravan_396 ?_
                                              refine k_callSq C s_L_163 h_L_call__ (ct_k28 hx1 hrS1 hk2 hv28) rfl rfl (Nat.le_of_ble_eq_true rfl) ⟨Nat.le_of_ble_eq_true rfl, Nat.le_of_ble_eq_true rfl⟩ ⟨rfl, rfl⟩ ⟨by show _ ≤ 2600; (try dsimp only); omega, by show _ ≤ 16000; (try dsimp only); omega⟩ dL_caravan_398 ?_
                                              refine k_if_lt C (tgt := 609) (by decide) dL_caravan_401 (fun hc401 => ?_) (fun hc401 => ?_)
                                              · skip
                                                first
                                                | omega
                                                | exact absurd hc401 (by decide)
                                                | exact absurd hc401 (nI_pos (by omega))
                                                | exact absurd (nI_pos' (by omega)) hc401
                                                | exact absurd rfl hc401
                                                | exact absurd hc401 (nI_ne0 (by omega) (by omega))
                                                | exact hc401 rfl
                                                | contradiction
                                                | exact absurd hc401 (nI_n101 (by omega))
                                                | exact absurd hc401.symm (nI_n101 (by omega))
                                                | (simp_all; done)
                                              · skip
                                                refine k_aload C (i := 4) (p := 10) rfl dL_caravan_404 ?_
                                                refine k_iload C (i := 12) (p := 2) rfl dL_caravan_406 ?_
                                                refine k_iald C (hsh) (rfl) (by omega) (by decide) (hsum) dL_caravan_408 ?_
                                                refine k_aload_n C (f := 0) (i := 0) (p := 14) rfl rfl dL_caravan_409 ?_
                                                refine k_bipush C bc_28 dL_caravan_410 ?_
                                                refine k_iload C (i := 12) (p := 2) rfl dL_caravan_412 ?_
                                                refine k_callSq C s_L_163 h_L_call__ (ct_k28 hx1 hrS1 hk2 hv28) rfl rfl (Nat.le_of_ble_eq_true rfl) ⟨Nat.le_of_ble_eq_true rfl, Nat.le_of_ble_eq_true rfl⟩ ⟨rfl, rfl⟩ ⟨by show _ ≤ 2600; (try dsimp only); omega, by show _ ≤ 16000; (try dsimp only); omega⟩ dL_caravan_414 ?_
                                                refine k_iadd C dL_caravan_417 ?_
                                                rw [nI_add, show c + (20 * g - c) = 20 * g by omega]
                                                refine k_bipush C bc_20 dL_caravan_418 ?_
                                                refine k_irem C (by decide) dL_caravan_420 ?_
                                                rw [pk_rem (by omega) (by omega) (by omega), show 20 * g % 20 = 0 by omega]
                                                refine k_if_ne C (tgt := 609) (by decide) dL_caravan_421 (fun hc421 => ?_) (fun hc421 => ?_)
                                                · skip
                                                  first
                                                  | omega
                                                  | exact absurd hc421 (by decide)
                                                  | exact absurd hc421 (nI_pos (by omega))
                                                  | exact absurd (nI_pos' (by omega)) hc421
                                                  | exact absurd rfl hc421
                                                  | exact absurd hc421 (nI_ne0 (by omega) (by omega))
                                                  | exact hc421 rfl
                                                  | contradiction
                                                  | exact absurd hc421 (nI_n101 (by omega))
                                                  | exact absurd hc421.symm (nI_n101 (by omega))
                                                  | (simp_all; done)
                                                · skip
                                                  refine k_aload_n C (f := 0) (i := 0) (p := 14) rfl rfl dL_caravan_424 ?_
                                                  refine k_bipush C bc_23 dL_caravan_425 ?_
                                                  refine k_iload C (i := 12) (p := 2) rfl dL_caravan_427 ?_
                                                  refine k_callSq C s_L_163 h_L_call__ (ct_k23 hx1 hrS1 hk2 hw) rfl rfl (Nat.le_of_ble_eq_true rfl) ⟨Nat.le_of_ble_eq_true rfl, Nat.le_of_ble_eq_true rfl⟩ ⟨rfl, rfl⟩ ⟨by show _ ≤ 2600; (try dsimp only); omega, by show _ ≤ 16000; (try dsimp only); omega⟩ dL_caravan_429 ?_
                                                  refine k_if_lt C (tgt := 609) (by decide) dL_caravan_432 (fun hc432 => ?_) (fun hc432 => ?_)
                                                  · skip
                                                    first
                                                    | omega
                                                    | exact absurd hc432 (by decide)
                                                    | exact absurd hc432 (nI_pos (by omega))
                                                    | exact absurd (nI_pos' (by omega)) hc432
                                                    | exact absurd rfl hc432
                                                    | exact absurd hc432 (nI_ne0 (by omega) (by omega))
                                                    | exact hc432 rfl
                                                    | contradiction
                                                    | exact absurd hc432 (nI_n101 (by omega))
                                                    | exact absurd hc432.symm (nI_n101 (by omega))
                                                    | (simp_all; done)
                                                  · skip
                                                    refine k_aload_n C (f := 0) (i := 0) (p := 14) rfl rfl dL_caravan_435 ?_
                                                    refine k_bipush C bc_23 dL_caravan_436 ?_
                                                    refine k_iload C (i := 12) (p := 2) rfl dL_caravan_438 ?_
                                                    refine k_callSq C s_L_163 h_L_call__ (ct_k23 hx1 hrS1 hk2 hw) rfl rfl (Nat.le_of_ble_eq_true rfl) ⟨Nat.le_of_ble_eq_true rfl, Nat.le_of_ble_eq_true rfl⟩ ⟨rfl, rfl⟩ ⟨by show _ ≤ 2600; (try dsimp only); omega, by show _ ≤ 16000; (try dsimp only); omega⟩ dL_caravan_440 ?_
                                                    refine k_aload_n C (f := 0) (i := 0) (p := 14) rfl rfl dL_caravan_443 ?_
                                                    refine k_bipush C bc_22 dL_caravan_444 ?_
                                                    refine k_iload C (i := 12) (p := 2) rfl dL_caravan_446 ?_
                                                    refine k_callSq C s_L_163 h_L_call__ (ct_k22 hx1 hrS1 hk2 htk) rfl rfl (Nat.le_of_ble_eq_true rfl) ⟨Nat.le_of_ble_eq_true rfl, Nat.le_of_ble_eq_true rfl⟩ ⟨rfl, rfl⟩ ⟨by show _ ≤ 2600; (try dsimp only); omega, by show _ ≤ 16000; (try dsimp only); omega⟩ dL_caravan_448 ?_
                                                    first
                                                    | refine k_icmpN_gt C (tgt := 609) (by omega) (by omega) (by decide) dL_caravan_451 (fun hc451 => ?_) (fun hc451 => ?_)
                                                    | refine k_icmp_gt C (tgt := 609) (by decide) dL_caravan_451 (fun hc451 => ?_) (fun hc451 => ?_)
                                                    · skip
                                                      first
                                                      | omega
                                                      | exact absurd hc451 (by decide)
                                                      | exact absurd hc451 (nI_pos (by omega))
                                                      | exact absurd (nI_pos' (by omega)) hc451
                                                      | exact absurd rfl hc451
                                                      | exact absurd hc451 (nI_ne0 (by omega) (by omega))
                                                      | exact hc451 rfl
                                                      | contradiction
                                                      | exact absurd hc451 (nI_n101 (by omega))
                                                      | exact absurd hc451.symm (nI_n101 (by omega))
                                                      | (simp_all; done)
                                                    · skip
                                                      refine k_aload_n C (f := 0) (i := 0) (p := 14) rfl rfl dL_caravan_454 ?_
                                                      refine k_bipush C bc_24 dL_caravan_455 ?_
                                                      refine k_iload C (i := 12) (p := 2) rfl dL_caravan_457 ?_
                                                      refine k_callSq C s_L_163 h_L_call__ (ct_k24 hx1 hrS1 hk2 hs14) rfl rfl (Nat.le_of_ble_eq_true rfl) ⟨Nat.le_of_ble_eq_true rfl, Nat.le_of_ble_eq_true rfl⟩ ⟨rfl, rfl⟩ ⟨by show _ ≤ 2600; (try dsimp only); omega, by show _ ≤ 16000; (try dsimp only); omega⟩ dL_caravan_459 ?_
                                                      refine k_if_lt C (tgt := 609) (by decide) dL_caravan_462 (fun hc462 => ?_) (fun hc462 => ?_)
                                                      · skip
                                                        first
                                                        | omega
                                                        | exact absurd hc462 (by decide)
                                                        | exact absurd hc462 (nI_pos (by omega))
                                                        | exact absurd (nI_pos' (by omega)) hc462
                                                        | exact absurd rfl hc462
                                                        | exact absurd hc462 (nI_ne0 (by omega) (by omega))
                                                        | exact hc462 rfl
                                                        | contradiction
                                                        | exact absurd hc462 (nI_n101 (by omega))
                                                        | exact absurd hc462.symm (nI_n101 (by omega))
                                                        | (simp_all; done)
                                                      · skip
                                                        refine k_aload_n C (f := 0) (i := 0) (p := 14) rfl rfl dL_caravan_465 ?_
                                                        refine k_bipush C bc_24 dL_caravan_466 ?_
                                                        refine k_iload C (i := 12) (p := 2) rfl dL_caravan_468 ?_
                                                        refine k_callSq C s_L_163 h_L_call__ (ct_k24 hx1 hrS1 hk2 hs14) rfl rfl (Nat.le_of_ble_eq_true rfl) ⟨Nat.le_of_ble_eq_true rfl, Nat.le_of_ble_eq_true rfl⟩ ⟨rfl, rfl⟩ ⟨by show _ ≤ 2600; (try dsimp only); omega, by show _ ≤ 16000; (try dsimp only); omega⟩ dL_caravan_470 ?_
                                                        refine k_bipush C bc_60 dL_caravan_473 ?_
                                                        first
                                                        | refine k_icmpN_gt C (tgt := 609) (by omega) (by omega) (by decide) dL_caravan_475 (fun hc475 => ?_) (fun hc475 => ?_)
                                                        | refine k_icmp_gt C (tgt := 609) (by decide) dL_caravan_475 (fun hc475 => ?_) (fun hc475 => ?_)
                                                        · skip
                                                          first
                                                          | omega
                                                          | exact absurd hc475 (by decide)
                                                          | exact absurd hc475 (nI_pos (by omega))
                                                          | exact absurd (nI_pos' (by omega)) hc475
                                                          | exact absurd rfl hc475
                                                          | exact absurd hc475 (nI_ne0 (by omega) (by omega))
                                                          | exact hc475 rfl
                                                          | contradiction
                                                          | exact absurd hc475 (nI_n101 (by omega))
                                                          | exact absurd hc475.symm (nI_n101 (by omega))
                                                          | (simp_all; done)
                                                        · skip
                                                          refine k_aload_n C (f := 0) (i := 0) (p := 14) rfl rfl dL_caravan_478 ?_
                                                          refine k_bipush C bc_25 dL_caravan_479 ?_
                                                          refine k_iload C (i := 12) (p := 2) rfl dL_caravan_481 ?_
                                                          refine k_callSq C s_L_163 h_L_call__ (ct_k25 hx1 hrS1 hk2 hl) rfl rfl (Nat.le_of_ble_eq_true rfl) ⟨Nat.le_of_ble_eq_true rfl, Nat.le_of_ble_eq_true rfl⟩ ⟨rfl, rfl⟩ ⟨by show _ ≤ 2600; (try dsimp only); omega, by show _ ≤ 16000; (try dsimp only); omega⟩ dL_caravan_483 ?_
                                                          refine k_if_lt C (tgt := 609) (by decide) dL_caravan_486 (fun hc486 => ?_) (fun hc486 => ?_)
                                                          · skip
                                                            first
                                                            | omega
                                                            | exact absurd hc486 (by decide)
                                                            | exact absurd hc486 (nI_pos (by omega))
                                                            | exact absurd (nI_pos' (by omega)) hc486
                                                            | exact absurd rfl hc486
                                                            | exact absurd hc486 (nI_ne0 (by omega) (by omega))
                                                            | exact hc486 rfl
                                                            | contradiction
                                                            | exact absurd hc486 (nI_n101 (by omega))
                                                            | exact absurd hc486.symm (nI_n101 (by omega))
                                                            | (simp_all; done)
                                                          · skip
                                                            refine k_aload_n C (f := 0) (i := 0) (p := 14) rfl rfl dL_caravan_489 ?_
                                                            refine k_bipush C bc_29 dL_caravan_490 ?_
                                                            refine k_iload C (i := 12) (p := 2) rfl dL_caravan_492 ?_
                                                            refine k_callSq C s_L_163 h_L_call__ (ct_k29 hx1 hrS1 hk2 rfl) rfl rfl (Nat.le_of_ble_eq_true rfl) ⟨Nat.le_of_ble_eq_true rfl, Nat.le_of_ble_eq_true rfl⟩ ⟨rfl, rfl⟩ ⟨by show _ ≤ 2600; (try dsimp only); omega, by show _ ≤ 16000; (try dsimp only); omega⟩ dL_caravan_494 ?_
                                                            refine k_iconst C ic_5 dL_caravan_497 ?_
                                                            refine k_iload C (i := 13) (p := 1) rfl dL_caravan_498 ?_
                                                            refine k_aload C (i := 4) (p := 10) rfl dL_caravan_500 ?_
                                                            refine k_iload C (i := 12) (p := 2) rfl dL_caravan_502 ?_
                                                            refine k_iald C (hsh) (rfl) (by omega) (by decide) (hsum) dL_caravan_504 ?_
                                                            refine k_bipush C bc_10 dL_caravan_505 ?_
                                                            refine k_idiv C (by decide) dL_caravan_507 ?_
                                                            refine k_isub C dL_caravan_508 ?_
                                                            refine k_max C (hP) m_L_235 ⟨Nat.le_of_ble_eq_true rfl, Nat.le_of_ble_eq_true rfl⟩ ⟨by show _ ≤ 2600; (try dsimp only); omega, by show _ ≤ 16000; (try dsimp only); omega⟩ dL_caravan_509 ?_
                                                            refine k_icmp_ne C (tgt := 609) (by decide) dL_caravan_512 (fun hc512 => ?_) (fun hc512 => ?_)
                                                            · skip
                                                              first
                                                              | omega
                                                              | exact absurd hc512 (by decide)
                                                              | exact absurd hc512 (nI_pos (by omega))
                                                              | exact absurd (nI_pos' (by omega)) hc512
                                                              | exact absurd rfl hc512
                                                              | exact absurd hc512 (nI_ne0 (by omega) (by omega))
                                                              | exact hc512 rfl
                                                              | contradiction
                                                              | exact absurd hc512 (nI_n101 (by omega))
                                                              | exact absurd hc512.symm (nI_n101 (by omega))
                                                              | (simp_all; done)
                                                            · skip
                                                              refine k_aload_n C (f := 0) (i := 0) (p := 14) rfl rfl dL_caravan_515 ?_
                                                              refine k_bipush C bc_26 dL_caravan_516 ?_
                                                              refine k_iload C (i := 12) (p := 2) rfl dL_caravan_518 ?_
                                                              refine k_callSq C s_L_163 h_L_call__ (ct_k26 hx1 hrS1 hk2 hd) rfl rfl (Nat.le_of_ble_eq_true rfl) ⟨Nat.le_of_ble_eq_true rfl, Nat.le_of_ble_eq_true rfl⟩ ⟨rfl, rfl⟩ ⟨by show _ ≤ 2600; (try dsimp only); omega, by show _ ≤ 16000; (try dsimp only); omega⟩ dL_caravan_520 ?_
                                                              refine k_iconst C ic_3 dL_caravan_523 ?_
                                                              first
                                                              | refine k_icmpN_ne C (tgt := 531) (by omega) (by omega) (by decide) dL_caravan_524 (fun hc524 => ?_) (fun hc524 => ?_)
                                                              | refine k_icmp_ne C (tgt := 531) (by decide) dL_caravan_524 (fun hc524 => ?_) (fun hc524 => ?_)
                                                              · skip
                                                                refine k_iconst C ic_0 dL_caravan_531 ?_
                                                                refine k_iload C (i := 14) (p := 0) rfl dL_caravan_532 ?_
                                                                refine k_iconst C ic_1 dL_caravan_534 ?_
                                                                first
                                                                | refine k_icmpN_ne C (tgt := 542) (by omega) (by omega) (by decide) dL_caravan_535 (fun hc535 => ?_) (fun hc535 => ?_)
                                                                | refine k_icmp_ne C (tgt := 542) (by decide) dL_caravan_535 (fun hc535 => ?_) (fun hc535 => ?_)
                                                                · skip
                                                                  refine k_iconst C ic_0 dL_caravan_542 ?_
                                                                  first
                                                                  | refine k_icmpN_ne C (tgt := 609) (by omega) (by omega) (by decide) dL_caravan_543 (fun hc543 => ?_) (fun hc543 => ?_)
                                                                  | refine k_icmp_ne C (tgt := 609) (by decide) dL_caravan_543 (fun hc543 => ?_) (fun hc543 => ?_)
                                                                  · skip
                                                                    first
                                                                    | omega
                                                                    | exact absurd hc543 (by decide)
                                                                    | exact absurd hc543 (nI_pos (by omega))
                                                                    | exact absurd (nI_pos' (by omega)) hc543
                                                                    | exact absurd rfl hc543
                                                                    | exact absurd hc543 (nI_ne0 (by omega) (by omega))
                                                                    | exact hc543 rfl
                                                                    | contradiction
                                                                    | exact absurd hc543 (nI_n101 (by omega))
                                                                    | exact absurd hc543.symm (nI_n101 (by omega))
                                                                    | (simp_all; done)
                                                                  · skip
                                                                    refine k_aload_n C (f := 0) (i := 0) (p := 14) rfl rfl dL_caravan_546 ?_
                                                                    refine k_bipush C bc_26 dL_caravan_547 ?_
                                                                    refine k_iload C (i := 12) (p := 2) rfl dL_caravan_549 ?_
                                                                    refine k_callSq C s_L_163 h_L_call__ (ct_k26 hx1 hrS1 hk2 hd) rfl rfl (Nat.le_of_ble_eq_true rfl) ⟨Nat.le_of_ble_eq_true rfl, Nat.le_of_ble_eq_true rfl⟩ ⟨rfl, rfl⟩ ⟨by show _ ≤ 2600; (try dsimp only); omega, by show _ ≤ 16000; (try dsimp only); omega⟩ dL_caravan_551 ?_
                                                                    refine k_iconst C ic_3 dL_caravan_554 ?_
                                                                    first
                                                                    | refine k_icmpN_gt C (tgt := 609) (by omega) (by omega) (by decide) dL_caravan_555 (fun hc555 => ?_) (fun hc555 => ?_)
                                                                    | refine k_icmp_gt C (tgt := 609) (by decide) dL_caravan_555 (fun hc555 => ?_) (fun hc555 => ?_)
                                                                    · skip
                                                                      first
                                                                      | omega
                                                                      | exact absurd hc555 (by decide)
                                                                      | exact absurd hc555 (nI_pos (by omega))
                                                                      | exact absurd (nI_pos' (by omega)) hc555
                                                                      | exact absurd rfl hc555
                                                                      | exact absurd hc555 (nI_ne0 (by omega) (by omega))
                                                                      | exact hc555 rfl
                                                                      | contradiction
                                                                      | exact absurd hc555 (nI_n101 (by omega))
                                                                      | exact absurd hc555.symm (nI_n101 (by omega))
                                                                      | (simp_all; done)
                                                                    · skip
                                                                      refine k_iload C (i := 14) (p := 0) rfl dL_caravan_558 ?_
                                                                      refine k_if_eq C (tgt := 571) (by decide) dL_caravan_560 (fun hc560 => ?_) (fun hc560 => ?_)
                                                                      · skip
                                                                        refine k_aload_n C (f := 0) (i := 0) (p := 14) rfl rfl dL_caravan_571 ?_
                                                                        refine k_bipush C bc_37 dL_caravan_572 ?_
                                                                        refine k_iload C (i := 12) (p := 2) rfl dL_caravan_574 ?_
                                                                        refine k_callSq C s_L_163 h_L_call__ (ct_k37 hx1 hrS1 hk2 hv37) rfl rfl (Nat.le_of_ble_eq_true rfl) ⟨Nat.le_of_ble_eq_true rfl, Nat.le_of_ble_eq_true rfl⟩ ⟨rfl, rfl⟩ ⟨by show _ ≤ 2600; (try dsimp only); omega, by show _ ≤ 16000; (try dsimp only); omega⟩ dL_caravan_576 ?_
                                                                        refine k_iload C (i := 14) (p := 0) rfl dL_caravan_579 ?_
                                                                        refine k_iconst C ic_1 dL_caravan_581 ?_
                                                                        first
                                                                        | refine k_icmpN_ne C (tgt := 589) (by omega) (by omega) (by decide) dL_caravan_582 (fun hc582 => ?_) (fun hc582 => ?_)
                                                                        | refine k_icmp_ne C (tgt := 589) (by decide) dL_caravan_582 (fun hc582 => ?_) (fun hc582 => ?_)
                                                                        · skip
                                                                          refine k_iconst C ic_5 dL_caravan_589 ?_
                                                                          refine k_aload C (i := 4) (p := 10) rfl dL_caravan_590 ?_
                                                                          refine k_iload C (i := 12) (p := 2) rfl dL_caravan_592 ?_
                                                                          refine k_iald C (hsh) (rfl) (by omega) (by decide) (hsum) dL_caravan_594 ?_
                                                                          refine k_bipush C bc_25 dL_caravan_595 ?_
                                                                          refine k_idiv C (by decide) dL_caravan_597 ?_
                                                                          rw [pk_div (by omega) (by omega) (by omega)]
                                                                          refine k_iadd C dL_caravan_598 ?_
                                                                          rw [nI_add]
                                                                          refine k_iload C (i := 11) (p := 3) rfl dL_caravan_599 ?_
                                                                          refine k_iadd C dL_caravan_601 ?_
                                                                          rw [nI_add]
                                                                          first
                                                                          | refine k_icmpN_ne C (tgt := 609) (by omega) (by omega) (by decide) dL_caravan_602 (fun hc602 => ?_) (fun hc602 => ?_)
                                                                          | refine k_icmp_ne C (tgt := 609) (by decide) dL_caravan_602 (fun hc602 => ?_) (fun hc602 => ?_)
                                                                          · skip
                                                                            first
                                                                            | omega
                                                                            | exact absurd hc602 (by decide)
                                                                            | exact absurd hc602 (nI_pos (by omega))
                                                                            | exact absurd (nI_pos' (by omega)) hc602
                                                                            | exact absurd rfl hc602
                                                                            | exact absurd hc602 (nI_ne0 (by omega) (by omega))
                                                                            | exact hc602 rfl
                                                                            | contradiction
                                                                            | exact absurd hc602 (nI_n101 (by omega))
                                                                            | exact absurd hc602.symm (nI_n101 (by omega))
                                                                            | (simp_all; done)
                                                                          · skip
                                                                            refine k_iconst C ic_1 dL_caravan_605 ?_
                                                                            refine k_goto C (tgt := 610) (by decide) dL_caravan_606 ?_
                                                                            refine k_istore C (i := 6) (lv := [(6, _), (14, _), (13, _), (12, _), (11, _), (10, _), (9, _), (8, _), (7, _), (5, _), (4, _), (3, _), (2, _), (1, _), (0, _)]) (Nat.le_of_ble_eq_true rfl) rfl dL_caravan_610 ?_
                                                                            refine k_iload C (i := 14) (p := 1) rfl dL_caravan_612 ?_
                                                                            refine k_iconst C ic_1 dL_caravan_614 ?_
                                                                            first
                                                                            | refine k_icmpN_ne C (tgt := 621) (by omega) (by omega) (by decide) dL_caravan_615 (fun hc615 => ?_) (fun hc615 => ?_)
                                                                            | refine k_icmp_ne C (tgt := 621) (by decide) dL_caravan_615 (fun hc615 => ?_) (fun hc615 => ?_)
                                                                            · skip
                                                                              refine k_iinc C (i := 7) (p := 8) (lv := [(7, _), (6, _), (14, _), (13, _), (12, _), (11, _), (10, _), (9, _), (8, _), (5, _), (4, _), (3, _), (2, _), (1, _), (0, _)]) (Nat.le_of_ble_eq_true rfl) rfl (by first | exact am_inc1 _ | rfl) rfl dL_caravan_621 ?_
                                                                              refine k_iload C (i := 8) (p := 8) rfl dL_caravan_624 ?_
                                                                              refine k_aload_n C (f := 0) (i := 0) (p := 14) rfl rfl dL_caravan_626 ?_
                                                                              refine k_bipush C bc_23 dL_caravan_627 ?_
                                                                              refine k_iload C (i := 12) (p := 4) rfl dL_caravan_629 ?_
                                                                              refine k_callSq C s_L_163 h_L_call__ (ct_k23 hx1 hrS1 hk2 hw) rfl rfl (Nat.le_of_ble_eq_true rfl) ⟨Nat.le_of_ble_eq_true rfl, Nat.le_of_ble_eq_true rfl⟩ ⟨rfl, rfl⟩ ⟨by show _ ≤ 2600; (try dsimp only); omega, by show _ ≤ 16000; (try dsimp only); omega⟩ dL_caravan_631 ?_
                                                                              refine k_iadd C dL_caravan_634 ?_
                                                                              rw [nI_add]
                                                                              refine k_istore C (i := 8) (lv := [(8, _), (7, _), (6, _), (14, _), (13, _), (12, _), (11, _), (10, _), (9, _), (5, _), (4, _), (3, _), (2, _), (1, _), (0, _)]) (Nat.le_of_ble_eq_true rfl) rfl dL_caravan_635 ?_
                                                                              rcases sp_thirstTo_or r k with eT | ⟨m, eT, hm9⟩
                                                                              · skip
                                                                                obtain rfl : T = (-101) := by rw [hT, eT]; rfl
                                                                                have hTn : nI k = nE (sp_thirstTo r (k + 1)) := by rw [sp_thirstTo_t ⟨hal2, Or.inl (by rw [eT]; decide)⟩, nE_n (by omega)]
                                                                                refine k_iload C (i := 9) (p := 8) rfl dL_caravan_637 ?_
                                                                                refine k_if_lt C (tgt := 661) (by decide) dL_caravan_639 (fun hc639 => ?_) (fun hc639 => ?_)
                                                                                · skip
                                                                                  refine k_iload C (i := 12) (p := 5) rfl dL_caravan_661 ?_
                                                                                  refine k_istore C (i := 9) (lv := [(9, _), (8, _), (7, _), (6, _), (14, _), (13, _), (12, _), (11, _), (10, _), (5, _), (4, _), (3, _), (2, _), (1, _), (0, _)]) (Nat.le_of_ble_eq_true rfl) rfl dL_caravan_663 ?_
                                                                                  rcases sp_fastTo_or r k with eF | ⟨m2, eF, hm92, -⟩
                                                                                  · skip
                                                                                    obtain rfl : F = (-101) := by rw [hF, eF]; rfl
                                                                                    have hFn : nI k = nE (sp_fastTo r (k + 1)) := by rw [sp_fastTo_t ⟨hal2, Or.inl (by rw [eF]; decide)⟩, nE_n (by omega)]
                                                                                    refine k_iload C (i := 10) (p := 8) rfl dL_caravan_665 ?_
                                                                                    refine k_if_lt C (tgt := 689) (by decide) dL_caravan_667 (fun hc667 => ?_) (fun hc667 => ?_)
                                                                                    · skip
                                                                                      refine k_iload C (i := 12) (p := 6) rfl dL_caravan_689 ?_
                                                                                      refine k_istore C (i := 10) (lv := [(10, _), (9, _), (8, _), (7, _), (6, _), (14, _), (13, _), (12, _), (11, _), (5, _), (4, _), (3, _), (2, _), (1, _), (0, _)]) (Nat.le_of_ble_eq_true rfl) rfl dL_caravan_691 ?_
                                                                                      refine k_iinc C (i := 12) (p := 7) (lv := [(12, _), (10, _), (9, _), (8, _), (7, _), (6, _), (14, _), (13, _), (11, _), (5, _), (4, _), (3, _), (2, _), (1, _), (0, _)]) (Nat.le_of_ble_eq_true rfl) rfl (by first | exact am_inc1 _ | rfl) rfl dL_caravan_693 ?_
                                                                                      refine k_goto C (tgt := 322) (by decide) dL_caravan_696 ?_
                                                                                      refine k_sub [0, 8, 1, 2, 3, 4, 5, 9, 10, 11, 12, 13, 14] rfl ?_
                                                                                      rw [← sp_livingTo_t hal2, ← hws]
                                                                                      refine k_widen ?_ ?_ (ih322 (k + 1) _ _ (by omega) hTn hFn (by omega))
                                                                                      · (try dsimp only); omega
                                                                                      · (try dsimp only); omega
                                                                                    · skip
                                                                                      first
                                                                                      | omega
                                                                                      | exact absurd hc667 (by decide)
                                                                                      | exact absurd hc667 (nI_pos (by omega))
                                                                                      | exact absurd (nI_pos' (by omega)) hc667
                                                                                      | exact absurd rfl hc667
                                                                                      | exact absurd hc667 (nI_ne0 (by omega) (by omega))
                                                                                      | exact hc667 rfl
                                                                                      | contradiction
                                                                                      | exact absurd hc667 (nI_n101 (by omega))
                                                                                      | exact absurd hc667.symm (nI_n101 (by omega))
                                                                                      | (simp_all; done)
                                                                                  · skip
                                                                                    obtain rfl : F = nI m2 := by rw [hF, eF, nE_n (by omega)]
                                                                                    have hm2 : m2 < sp_nc r := by omega
                                                                                    have em2 : (sp_fastTo r k).toNatClampNeg = m2 := by rw [eF, nI_clamp (by omega)]
                                                                                    refine k_iload C (i := 10) (p := 8) rfl dL_caravan_665 ?_
                                                                                    refine k_if_lt C (tgt := 689) (by decide) dL_caravan_667 (fun hc667 => ?_) (fun hc667 => ?_)
                                                                                    · skip
                                                                                      first
                                                                                      | omega
                                                                                      | exact absurd hc667 (by decide)
                                                                                      | exact absurd hc667 (nI_pos (by omega))
                                                                                      | exact absurd (nI_pos' (by omega)) hc667
                                                                                      | exact absurd rfl hc667
                                                                                      | exact absurd hc667 (nI_ne0 (by omega) (by omega))
                                                                                      | exact hc667 rfl
                                                                                      | contradiction
                                                                                      | exact absurd hc667 (nI_n101 (by omega))
                                                                                      | exact absurd hc667.symm (nI_n101 (by omega))
                                                                                      | (simp_all; done)
                                                                                    · skip
                                                                                      refine k_aload_n C (f := 0) (i := 0) (p := 14) rfl rfl dL_caravan_670 ?_
                                                                                      refine k_bipush C bc_29 dL_caravan_671 ?_
                                                                                      refine k_iload C (i := 12) (p := 6) rfl dL_caravan_673 ?_
                                                                                      refine k_callSq C s_L_163 h_L_call__ (ct_k29 hx1 hrS1 hk2 rfl) rfl rfl (Nat.le_of_ble_eq_true rfl) ⟨Nat.le_of_ble_eq_true rfl, Nat.le_of_ble_eq_true rfl⟩ ⟨rfl, rfl⟩ ⟨by show _ ≤ 2600; (try dsimp only); omega, by show _ ≤ 16000; (try dsimp only); omega⟩ dL_caravan_675 ?_
                                                                                      refine k_aload_n C (f := 0) (i := 0) (p := 14) rfl rfl dL_caravan_678 ?_
                                                                                      refine k_bipush C bc_29 dL_caravan_679 ?_
                                                                                      refine k_iload C (i := 10) (p := 8) rfl dL_caravan_681 ?_
                                                                                      refine k_callSq C s_L_163 h_L_call__ (ct_k29 hx1 hrS1 hm2 rfl) rfl rfl (Nat.le_of_ble_eq_true rfl) ⟨Nat.le_of_ble_eq_true rfl, Nat.le_of_ble_eq_true rfl⟩ ⟨rfl, rfl⟩ ⟨by show _ ≤ 2600; (try dsimp only); omega, by show _ ≤ 16000; (try dsimp only); omega⟩ dL_caravan_683 ?_
                                                                                      refine k_icmp_le C (tgt := 693) (by decide) dL_caravan_686 (fun hc686 => ?_) (fun hc686 => ?_)
                                                                                      · skip
                                                                                        have hFn : nI m2 = nE (sp_fastTo r (k + 1)) := by rw [sp_fastTo_f (fun z => z.2.elim (fun z2 => by rw [eF] at z2; exact nI_pos (by omega) z2) (fun z2 => by rw [em2] at z2; exact Int32.not_lt.mpr hc686 z2)), eF, nE_n (by omega)]
                                                                                        refine k_iinc C (i := 12) (p := 6) (lv := [(12, _), (9, _), (8, _), (7, _), (6, _), (14, _), (13, _), (11, _), (10, _), (5, _), (4, _), (3, _), (2, _), (1, _), (0, _)]) (Nat.le_of_ble_eq_true rfl) rfl (by first | exact am_inc1 _ | rfl) rfl dL_caravan_693 ?_
                                                                                        refine k_goto C (tgt := 322) (by decide) dL_caravan_696 ?_
                                                                                        refine k_sub [0, 7, 8, 1, 2, 3, 4, 9, 10, 11, 12, 13, 14] rfl ?_
                                                                                        rw [← sp_livingTo_t hal2, ← hws]
                                                                                        refine k_widen ?_ ?_ (ih322 (k + 1) _ _ (by omega) hTn hFn (by omega))
                                                                                        · (try dsimp only); omega
                                                                                        · (try dsimp only); omega
                                                                                      · skip
                                                                                        have hFn : nI k = nE (sp_fastTo r (k + 1)) := by rw [sp_fastTo_t ⟨hal2, Or.inr (by rw [em2]; exact Int32.not_le.mp hc686)⟩, nE_n (by omega)]
                                                                                        refine k_iload C (i := 12) (p := 6) rfl dL_caravan_689 ?_
                                                                                        refine k_istore C (i := 10) (lv := [(10, _), (9, _), (8, _), (7, _), (6, _), (14, _), (13, _), (12, _), (11, _), (5, _), (4, _), (3, _), (2, _), (1, _), (0, _)]) (Nat.le_of_ble_eq_true rfl) rfl dL_caravan_691 ?_
                                                                                        refine k_iinc C (i := 12) (p := 7) (lv := [(12, _), (10, _), (9, _), (8, _), (7, _), (6, _), (14, _), (13, _), (11, _), (5, _), (4, _), (3, _), (2, _), (1, _), (0, _)]) (Nat.le_of_ble_eq_true rfl) rfl (by first | exact am_inc1 _ | rfl) rfl dL_caravan_693 ?_
                                                                                        refine k_goto C (tgt := 322) (by decide) dL_caravan_696 ?_
                                                                                        refine k_sub [0, 8, 1, 2, 3, 4, 5, 9, 10, 11, 12, 13, 14] rfl ?_
                                                                                        rw [← sp_livingTo_t hal2, ← hws]
                                                                                        refine k_widen ?_ ?_ (ih322 (k + 1) _ _ (by omega) hTn hFn (by omega))
                                                                                        · (try dsimp only); omega
                                                                                        · (try dsimp only); omega
                                                                                · skip
                                                                                  first
                                                                                  | omega
                                                                                  | exact absurd hc639 (by decide)
                                                                                  | exact absurd hc639 (nI_pos (by omega))
                                                                                  | exact absurd (nI_pos' (by omega)) hc639
                                                                                  | exact absurd rfl hc639
                                                                                  | exact absurd hc639 (nI_ne0 (by omega) (by omega))
                                                                                  | exact hc639 rfl
                                                                                  | contradiction
                                                                                  | exact absurd hc639 (nI_n101 (by omega))
                                                                                  | exact absurd hc639.symm (nI_n101 (by omega))
                                                                                  | (simp_all; done)
                                                                              · skip
                                                                                obtain rfl : T = nI m := by rw [hT, eT, nE_n (by omega)]
                                                                                have hm : m < sp_nc r := by omega
                                                                                have em : (sp_thirstTo r k).toNatClampNeg = m := by rw [eT, nI_clamp (by omega)]
                                                                                refine k_iload C (i := 9) (p := 8) rfl dL_caravan_637 ?_
                                                                                refine k_if_lt C (tgt := 661) (by decide) dL_caravan_639 (fun hc639 => ?_) (fun hc639 => ?_)
                                                                                · skip
                                                                                  first
                                                                                  | omega
                                                                                  | exact absurd hc639 (by decide)
                                                                                  | exact absurd hc639 (nI_pos (by omega))
                                                                                  | exact absurd (nI_pos' (by omega)) hc639
                                                                                  | exact absurd rfl hc639
                                                                                  | exact absurd hc639 (nI_ne0 (by omega) (by omega))
                                                                                  | exact hc639 rfl
                                                                                  | contradiction
                                                                                  | exact absurd hc639 (nI_n101 (by omega))
                                                                                  | exact absurd hc639.symm (nI_n101 (by omega))
                                                                                  | (simp_all; done)
                                                                                · skip
                                                                                  refine k_aload_n C (f := 0) (i := 0) (p := 14) rfl rfl dL_caravan_642 ?_
                                                                                  refine k_bipush C bc_23 dL_caravan_643 ?_
                                                                                  refine k_iload C (i := 12) (p := 5) rfl dL_caravan_645 ?_
                                                                                  refine k_callSq C s_L_163 h_L_call__ (ct_k23 hx1 hrS1 hk2 hw) rfl rfl (Nat.le_of_ble_eq_true rfl) ⟨Nat.le_of_ble_eq_true rfl, Nat.le_of_ble_eq_true rfl⟩ ⟨rfl, rfl⟩ ⟨by show _ ≤ 2600; (try dsimp only); omega, by show _ ≤ 16000; (try dsimp only); omega⟩ dL_caravan_647 ?_
                                                                                  refine k_aload_n C (f := 0) (i := 0) (p := 14) rfl rfl dL_caravan_650 ?_
                                                                                  refine k_bipush C bc_23 dL_caravan_651 ?_
                                                                                  refine k_iload C (i := 9) (p := 8) rfl dL_caravan_653 ?_
                                                                                  refine k_callSq C s_L_163 h_L_call__ (ct_k23 hx1 hrS1 hm rfl) rfl rfl (Nat.le_of_ble_eq_true rfl) ⟨Nat.le_of_ble_eq_true rfl, Nat.le_of_ble_eq_true rfl⟩ ⟨rfl, rfl⟩ ⟨by show _ ≤ 2600; (try dsimp only); omega, by show _ ≤ 16000; (try dsimp only); omega⟩ dL_caravan_655 ?_
                                                                                  refine k_icmp_ge C (tgt := 665) (by decide) dL_caravan_658 (fun hc658 => ?_) (fun hc658 => ?_)
                                                                                  · skip
                                                                                    have hTn : nI m = nE (sp_thirstTo r (k + 1)) := by rw [sp_thirstTo_f (fun z => z.2.elim (fun z2 => by rw [eT] at z2; exact nI_pos (by omega) z2) (fun z2 => by rw [em, hw] at z2; exact Int32.not_lt.mpr hc658 z2)), eT, nE_n (by omega)]
                                                                                    rcases sp_fastTo_or r k with eF | ⟨m2, eF, hm92, -⟩
                                                                                    · skip
                                                                                      obtain rfl : F = (-101) := by rw [hF, eF]; rfl
                                                                                      have hFn : nI k = nE (sp_fastTo r (k + 1)) := by rw [sp_fastTo_t ⟨hal2, Or.inl (by rw [eF]; decide)⟩, nE_n (by omega)]
                                                                                      refine k_iload C (i := 10) (p := 7) rfl dL_caravan_665 ?_
                                                                                      refine k_if_lt C (tgt := 689) (by decide) dL_caravan_667 (fun hc667 => ?_) (fun hc667 => ?_)
                                                                                      · skip
                                                                                        refine k_iload C (i := 12) (p := 5) rfl dL_caravan_689 ?_
                                                                                        refine k_istore C (i := 10) (lv := [(10, _), (8, _), (7, _), (6, _), (14, _), (13, _), (12, _), (11, _), (9, _), (5, _), (4, _), (3, _), (2, _), (1, _), (0, _)]) (Nat.le_of_ble_eq_true rfl) rfl dL_caravan_691 ?_
                                                                                        refine k_iinc C (i := 12) (p := 6) (lv := [(12, _), (10, _), (8, _), (7, _), (6, _), (14, _), (13, _), (11, _), (9, _), (5, _), (4, _), (3, _), (2, _), (1, _), (0, _)]) (Nat.le_of_ble_eq_true rfl) rfl (by first | exact am_inc1 _ | rfl) rfl dL_caravan_693 ?_
                                                                                        refine k_goto C (tgt := 322) (by decide) dL_caravan_696 ?_
                                                                                        refine k_sub [0, 7, 1, 8, 2, 3, 4, 9, 10, 11, 12, 13, 14] rfl ?_
                                                                                        rw [← sp_livingTo_t hal2, ← hws]
                                                                                        refine k_widen ?_ ?_ (ih322 (k + 1) _ _ (by omega) hTn hFn (by omega))
                                                                                        · (try dsimp only); omega
                                                                                        · (try dsimp only); omega
                                                                                      · skip
                                                                                        first
                                                                                        | omega
                                                                                        | exact absurd hc667 (by decide)
                                                                                        | exact absurd hc667 (nI_pos (by omega))
                                                                                        | exact absurd (nI_pos' (by omega)) hc667
                                                                                        | exact absurd rfl hc667
                                                                                        | exact absurd hc667 (nI_ne0 (by omega) (by omega))
                                                                                        | exact hc667 rfl
                                                                                        | contradiction
                                                                                        | exact absurd hc667 (nI_n101 (by omega))
                                                                                        | exact absurd hc667.symm (nI_n101 (by omega))
                                                                                        | (simp_all; done)
                                                                                    · skip
                                                                                      obtain rfl : F = nI m2 := by rw [hF, eF, nE_n (by omega)]
                                                                                      have hm2 : m2 < sp_nc r := by omega
                                                                                      have em2 : (sp_fastTo r k).toNatClampNeg = m2 := by rw [eF, nI_clamp (by omega)]
                                                                                      refine k_iload C (i := 10) (p := 7) rfl dL_caravan_665 ?_
                                                                                      refine k_if_lt C (tgt := 689) (by decide) dL_caravan_667 (fun hc667 => ?_) (fun hc667 => ?_)
                                                                                      · skip
                                                                                        first
                                                                                        | omega
                                                                                        | exact absurd hc667 (by decide)
                                                                                        | exact absurd hc667 (nI_pos (by omega))
                                                                                        | exact absurd (nI_pos' (by omega)) hc667
                                                                                        | exact absurd rfl hc667
                                                                                        | exact absurd hc667 (nI_ne0 (by omega) (by omega))
                                                                                        | exact hc667 rfl
                                                                                        | contradiction
                                                                                        | exact absurd hc667 (nI_n101 (by omega))
                                                                                        | exact absurd hc667.symm (nI_n101 (by omega))
                                                                                        | (simp_all; done)
                                                                                      · skip
                                                                                        refine k_aload_n C (f := 0) (i := 0) (p := 14) rfl rfl dL_caravan_670 ?_
                                                                                        refine k_bipush C bc_29 dL_caravan_671 ?_
                                                                                        refine k_iload C (i := 12) (p := 5) rfl dL_caravan_673 ?_
                                                                                        refine k_callSq C s_L_163 h_L_call__ (ct_k29 hx1 hrS1 hk2 rfl) rfl rfl (Nat.le_of_ble_eq_true rfl) ⟨Nat.le_of_ble_eq_true rfl, Nat.le_of_ble_eq_true rfl⟩ ⟨rfl, rfl⟩ ⟨by show _ ≤ 2600; (try dsimp only); omega, by show _ ≤ 16000; (try dsimp only); omega⟩ dL_caravan_675 ?_
                                                                                        refine k_aload_n C (f := 0) (i := 0) (p := 14) rfl rfl dL_caravan_678 ?_
                                                                                        refine k_bipush C bc_29 dL_caravan_679 ?_
                                                                                        refine k_iload C (i := 10) (p := 7) rfl dL_caravan_681 ?_
                                                                                        refine k_callSq C s_L_163 h_L_call__ (ct_k29 hx1 hrS1 hm2 rfl) rfl rfl (Nat.le_of_ble_eq_true rfl) ⟨Nat.le_of_ble_eq_true rfl, Nat.le_of_ble_eq_true rfl⟩ ⟨rfl, rfl⟩ ⟨by show _ ≤ 2600; (try dsimp only); omega, by show _ ≤ 16000; (try dsimp only); omega⟩ dL_caravan_683 ?_
                                                                                        refine k_icmp_le C (tgt := 693) (by decide) dL_caravan_686 (fun hc686 => ?_) (fun hc686 => ?_)
                                                                                        · skip
                                                                                          have hFn : nI m2 = nE (sp_fastTo r (k + 1)) := by rw [sp_fastTo_f (fun z => z.2.elim (fun z2 => by rw [eF] at z2; exact nI_pos (by omega) z2) (fun z2 => by rw [em2] at z2; exact Int32.not_lt.mpr hc686 z2)), eF, nE_n (by omega)]
                                                                                          refine k_iinc C (i := 12) (p := 5) (lv := [(12, _), (8, _), (7, _), (6, _), (14, _), (13, _), (11, _), (10, _), (9, _), (5, _), (4, _), (3, _), (2, _), (1, _), (0, _)]) (Nat.le_of_ble_eq_true rfl) rfl (by first | exact am_inc1 _ | rfl) rfl dL_caravan_693 ?_
                                                                                          refine k_goto C (tgt := 322) (by decide) dL_caravan_696 ?_
                                                                                          refine k_sub [0, 6, 7, 8, 1, 2, 3, 9, 10, 11, 12, 13, 14] rfl ?_
                                                                                          rw [← sp_livingTo_t hal2, ← hws]
                                                                                          refine k_widen ?_ ?_ (ih322 (k + 1) _ _ (by omega) hTn hFn (by omega))
                                                                                          · (try dsimp only); omega
                                                                                          · (try dsimp only); omega
                                                                                        · skip
                                                                                          have hFn : nI k = nE (sp_fastTo r (k + 1)) := by rw [sp_fastTo_t ⟨hal2, Or.inr (by rw [em2]; exact Int32.not_le.mp hc686)⟩, nE_n (by omega)]
                                                                                          refine k_iload C (i := 12) (p := 5) rfl dL_caravan_689 ?_
                                                                                          refine k_istore C (i := 10) (lv := [(10, _), (8, _), (7, _), (6, _), (14, _), (13, _), (12, _), (11, _), (9, _), (5, _), (4, _), (3, _), (2, _), (1, _), (0, _)]) (Nat.le_of_ble_eq_true rfl) rfl dL_caravan_691 ?_
                                                                                          refine k_iinc C (i := 12) (p := 6) (lv := [(12, _), (10, _), (8, _), (7, _), (6, _), (14, _), (13, _), (11, _), (9, _), (5, _), (4, _), (3, _), (2, _), (1, _), (0, _)]) (Nat.le_of_ble_eq_true rfl) rfl (by first | exact am_inc1 _ | rfl) rfl dL_caravan_693 ?_
                                                                                          refine k_goto C (tgt := 322) (by decide) dL_caravan_696 ?_
                                                                                          refine k_sub [0, 7, 1, 8, 2, 3, 4, 9, 10, 11, 12, 13, 14] rfl ?_
                                                                                          rw [← sp_livingTo_t hal2, ← hws]
                                                                                          refine k_widen ?_ ?_ (ih322 (k + 1) _ _ (by omega) hTn hFn (by omega))
                                                                                          · (try dsimp only); omega
                                                                                          · (try dsimp only); omega
                                                                                  · skip
                                                                                    have hTn : nI k = nE (sp_thirstTo r (k + 1)) := by rw [sp_thirstTo_t ⟨hal2, Or.inr (by rw [em, hw]; exact Int32.not_le.mp hc658)⟩, nE_n (by omega)]
                                                                                    refine k_iload C (i := 12) (p := 5) rfl dL_caravan_661 ?_
                                                                                    refine k_istore C (i := 9) (lv := [(9, _), (8, _), (7, _), (6, _), (14, _), (13, _), (12, _), (11, _), (10, _), (5, _), (4, _), (3, _), (2, _), (1, _), (0, _)]) (Nat.le_of_ble_eq_true rfl) rfl dL_caravan_663 ?_
                                                                                    rcases sp_fastTo_or r k with eF | ⟨m2, eF, hm92, -⟩
                                                                                    · skip
                                                                                      obtain rfl : F = (-101) := by rw [hF, eF]; rfl
                                                                                      have hFn : nI k = nE (sp_fastTo r (k + 1)) := by rw [sp_fastTo_t ⟨hal2, Or.inl (by rw [eF]; decide)⟩, nE_n (by omega)]
                                                                                      refine k_iload C (i := 10) (p := 8) rfl dL_caravan_665 ?_
                                                                                      refine k_if_lt C (tgt := 689) (by decide) dL_caravan_667 (fun hc667 => ?_) (fun hc667 => ?_)
                                                                                      · skip
                                                                                        refine k_iload C (i := 12) (p := 6) rfl dL_caravan_689 ?_
                                                                                        refine k_istore C (i := 10) (lv := [(10, _), (9, _), (8, _), (7, _), (6, _), (14, _), (13, _), (12, _), (11, _), (5, _), (4, _), (3, _), (2, _), (1, _), (0, _)]) (Nat.le_of_ble_eq_true rfl) rfl dL_caravan_691 ?_
                                                                                        refine k_iinc C (i := 12) (p := 7) (lv := [(12, _), (10, _), (9, _), (8, _), (7, _), (6, _), (14, _), (13, _), (11, _), (5, _), (4, _), (3, _), (2, _), (1, _), (0, _)]) (Nat.le_of_ble_eq_true rfl) rfl (by first | exact am_inc1 _ | rfl) rfl dL_caravan_693 ?_
                                                                                        refine k_goto C (tgt := 322) (by decide) dL_caravan_696 ?_
                                                                                        refine k_sub [0, 8, 1, 2, 3, 4, 5, 9, 10, 11, 12, 13, 14] rfl ?_
                                                                                        rw [← sp_livingTo_t hal2, ← hws]
                                                                                        refine k_widen ?_ ?_ (ih322 (k + 1) _ _ (by omega) hTn hFn (by omega))
                                                                                        · (try dsimp only); omega
                                                                                        · (try dsimp only); omega
                                                                                      · skip
                                                                                        first
                                                                                        | omega
                                                                                        | exact absurd hc667 (by decide)
                                                                                        | exact absurd hc667 (nI_pos (by omega))
                                                                                        | exact absurd (nI_pos' (by omega)) hc667
                                                                                        | exact absurd rfl hc667
                                                                                        | exact absurd hc667 (nI_ne0 (by omega) (by omega))
                                                                                        | exact hc667 rfl
                                                                                        | contradiction
                                                                                        | exact absurd hc667 (nI_n101 (by omega))
                                                                                        | exact absurd hc667.symm (nI_n101 (by omega))
                                                                                        | (simp_all; done)
                                                                                    · skip
                                                                                      obtain rfl : F = nI m2 := by rw [hF, eF, nE_n (by omega)]
                                                                                      have hm2 : m2 < sp_nc r := by omega
                                                                                      have em2 : (sp_fastTo r k).toNatClampNeg = m2 := by rw [eF, nI_clamp (by omega)]
                                                                                      refine k_iload C (i := 10) (p := 8) rfl dL_caravan_665 ?_
                                                                                      refine k_if_lt C (tgt := 689) (by decide) dL_caravan_667 (fun hc667 => ?_) (fun hc667 => ?_)
                                                                                      · skip
                                                                                        first
                                                                                        | omega
                                                                                        | exact absurd hc667 (by decide)
                                                                                        | exact absurd hc667 (nI_pos (by omega))
                                                                                        | exact absurd (nI_pos' (by omega)) hc667
                                                                                        | exact absurd rfl hc667
                                                                                        | exact absurd hc667 (nI_ne0 (by omega) (by omega))
                                                                                        | exact hc667 rfl
                                                                                        | contradiction
                                                                                        | exact absurd hc667 (nI_n101 (by omega))
                                                                                        | exact absurd hc667.symm (nI_n101 (by omega))
                                                                                        | (simp_all; done)
                                                                                      · skip
                                                                                        refine k_aload_n C (f := 0) (i := 0) (p := 14) rfl rfl dL_caravan_670 ?_
                                                                                        refine k_bipush C bc_29 dL_caravan_671 ?_
                                                                                        refine k_iload C (i := 12) (p := 6) rfl dL_caravan_673 ?_
                                                                                        refine k_callSq C s_L_163 h_L_call__ (ct_k29 hx1 hrS1 hk2 rfl) rfl rfl (Nat.le_of_ble_eq_true rfl) ⟨Nat.le_of_ble_eq_true rfl, Nat.le_of_ble_eq_true rfl⟩ ⟨rfl, rfl⟩ ⟨by show _ ≤ 2600; (try dsimp only); omega, by show _ ≤ 16000; (try dsimp only); omega⟩ dL_caravan_675 ?_
                                                                                        refine k_aload_n C (f := 0) (i := 0) (p := 14) rfl rfl dL_caravan_678 ?_
                                                                                        refine k_bipush C bc_29 dL_caravan_679 ?_
                                                                                        refine k_iload C (i := 10) (p := 8) rfl dL_caravan_681 ?_
                                                                                        refine k_callSq C s_L_163 h_L_call__ (ct_k29 hx1 hrS1 hm2 rfl) rfl rfl (Nat.le_of_ble_eq_true rfl) ⟨Nat.le_of_ble_eq_true rfl, Nat.le_of_ble_eq_true rfl⟩ ⟨rfl, rfl⟩ ⟨by show _ ≤ 2600; (try dsimp only); omega, by show _ ≤ 16000; (try dsimp only); omega⟩ dL_caravan_683 ?_
                                                                                        refine k_icmp_le C (tgt := 693) (by decide) dL_caravan_686 (fun hc686 => ?_) (fun hc686 => ?_)
                                                                                        · skip
                                                                                          have hFn : nI m2 = nE (sp_fastTo r (k + 1)) := by rw [sp_fastTo_f (fun z => z.2.elim (fun z2 => by rw [eF] at z2; exact nI_pos (by omega) z2) (fun z2 => by rw [em2] at z2; exact Int32.not_lt.mpr hc686 z2)), eF, nE_n (by omega)]
                                                                                          refine k_iinc C (i := 12) (p := 6) (lv := [(12, _), (9, _), (8, _), (7, _), (6, _), (14, _), (13, _), (11, _), (10, _), (5, _), (4, _), (3, _), (2, _), (1, _), (0, _)]) (Nat.le_of_ble_eq_true rfl) rfl (by first | exact am_inc1 _ | rfl) rfl dL_caravan_693 ?_
                                                                                          refine k_goto C (tgt := 322) (by decide) dL_caravan_696 ?_
                                                                                          refine k_sub [0, 7, 8, 1, 2, 3, 4, 9, 10, 11, 12, 13, 14] rfl ?_
                                                                                          rw [← sp_livingTo_t hal2, ← hws]
                                                                                          refine k_widen ?_ ?_ (ih322 (k + 1) _ _ (by omega) hTn hFn (by omega))
                                                                                          · (try dsimp only); omega
                                                                                          · (try dsimp only); omega
                                                                                        · skip
                                                                                          have hFn : nI k = nE (sp_fastTo r (k + 1)) := by rw [sp_fastTo_t ⟨hal2, Or.inr (by rw [em2]; exact Int32.not_le.mp hc686)⟩, nE_n (by omega)]
                                                                                          refine k_iload C (i := 12) (p := 6) rfl dL_caravan_689 ?_
                                                                                          refine k_istore C (i := 10) (lv := [(10, _), (9, _), (8, _), (7, _), (6, _), (14, _), (13, _), (12, _), (11, _), (5, _), (4, _), (3, _), (2, _), (1, _), (0, _)]) (Nat.le_of_ble_eq_true rfl) rfl dL_caravan_691 ?_
                                                                                          refine k_iinc C (i := 12) (p := 7) (lv := [(12, _), (10, _), (9, _), (8, _), (7, _), (6, _), (14, _), (13, _), (11, _), (5, _), (4, _), (3, _), (2, _), (1, _), (0, _)]) (Nat.le_of_ble_eq_true rfl) rfl (by first | exact am_inc1 _ | rfl) rfl dL_caravan_693 ?_
                                                                                          refine k_goto C (tgt := 322) (by decide) dL_caravan_696 ?_
                                                                                          refine k_sub [0, 8, 1, 2, 3, 4, 5, 9, 10, 11, 12, 13, 14] rfl ?_
                                                                                          rw [← sp_livingTo_t hal2, ← hws]
                                                                                          refine k_widen ?_ ?_ (ih322 (k + 1) _ _ (by omega) hTn hFn (by omega))
                                                                                          · (try dsimp only); omega
                                                                                          · (try dsimp only); omega
                                                                            · skip
                                                                              first
                                                                              | omega
                                                                              | exact absurd hc615 (by decide)
                                                                              | exact absurd hc615 (nI_pos (by omega))
                                                                              | exact absurd (nI_pos' (by omega)) hc615
                                                                              | exact absurd rfl hc615
                                                                              | exact absurd hc615 (nI_ne0 (by omega) (by omega))
                                                                              | exact hc615 rfl
                                                                              | contradiction
                                                                              | exact absurd hc615 (nI_n101 (by omega))
                                                                              | exact absurd hc615.symm (nI_n101 (by omega))
                                                                              | (simp_all; done)
                                                                        · skip
                                                                          first
                                                                          | omega
                                                                          | exact absurd hc582 (by decide)
                                                                          | exact absurd hc582 (nI_pos (by omega))
                                                                          | exact absurd (nI_pos' (by omega)) hc582
                                                                          | exact absurd rfl hc582
                                                                          | exact absurd hc582 (nI_ne0 (by omega) (by omega))
                                                                          | exact hc582 rfl
                                                                          | contradiction
                                                                          | exact absurd hc582 (nI_n101 (by omega))
                                                                          | exact absurd hc582.symm (nI_n101 (by omega))
                                                                          | (simp_all; done)
                                                                      · skip
                                                                        first
                                                                        | omega
                                                                        | exact absurd hc560 (by decide)
                                                                        | exact absurd hc560 (nI_pos (by omega))
                                                                        | exact absurd (nI_pos' (by omega)) hc560
                                                                        | exact absurd rfl hc560
                                                                        | exact absurd hc560 (nI_ne0 (by omega) (by omega))
                                                                        | exact hc560 rfl
                                                                        | contradiction
                                                                        | exact absurd hc560 (nI_n101 (by omega))
                                                                        | exact absurd hc560.symm (nI_n101 (by omega))
                                                                        | (simp_all; done)
                                                                · skip
                                                                  first
                                                                  | omega
                                                                  | exact absurd hc535 (by decide)
                                                                  | exact absurd hc535 (nI_pos (by omega))
                                                                  | exact absurd (nI_pos' (by omega)) hc535
                                                                  | exact absurd rfl hc535
                                                                  | exact absurd hc535 (nI_ne0 (by omega) (by omega))
                                                                  | exact hc535 rfl
                                                                  | contradiction
                                                                  | exact absurd hc535 (nI_n101 (by omega))
                                                                  | exact absurd hc535.symm (nI_n101 (by omega))
                                                                  | (simp_all; done)
                                                              · skip
                                                                first
                                                                | omega
                                                                | exact absurd hc524 (by decide)
                                                                | exact absurd hc524 (nI_pos (by omega))
                                                                | exact absurd (nI_pos' (by omega)) hc524
                                                                | exact absurd rfl hc524
                                                                | exact absurd hc524 (nI_ne0 (by omega) (by omega))
                                                                | exact hc524 rfl
                                                                | contradiction
                                                                | exact absurd hc524 (nI_n101 (by omega))
                                                                | exact absurd hc524.symm (nI_n101 (by omega))
                                                                | (simp_all; done)
                                          · skip
                                            have hdead : ¬ r (16 + 8 * k) < nI 3 := by rw [hd]; exact nI_nlt (by omega) (by omega)
                                            have hv20 : am_b (¬ r (16 + 8 * k) < nI 3) = nI 1 := (am_bt hdead).symm
                                            have hv37 : (if r (16 + 8 * k) < nI 3 then sp_need r k (sp_storm r (r 2)) else nI 0) = nI 0 := if_neg hdead
                                            obtain rfl : c = 0 := nI_inj (by omega) (by omega) (hc.symm.trans (dead_car hleg.2 hk2 hdead))
                                            refine k_istore C (i := 13) (lv := [(13, _), (12, _), (11, _), (10, _), (9, _), (8, _), (7, _), (6, _), (5, _), (4, _), (3, _), (2, _), (1, _), (0, _)]) (Nat.le_of_ble_eq_true rfl) rfl dL_caravan_365 ?_
                                            refine k_aload_n C (f := 0) (i := 0) (p := 13) rfl rfl dL_caravan_367 ?_
                                            refine k_bipush C bc_20 dL_caravan_368 ?_
                                            refine k_iload C (i := 12) (p := 1) rfl dL_caravan_370 ?_
                                            refine k_callSq C s_L_163 h_L_call__ (ct_k20 hx1 hrS1 hk2 hv20) rfl rfl (Nat.le_of_ble_eq_true rfl) ⟨Nat.le_of_ble_eq_true rfl, Nat.le_of_ble_eq_true rfl⟩ ⟨rfl, rfl⟩ ⟨by show _ ≤ 2600; (try dsimp only); omega, by show _ ≤ 16000; (try dsimp only); omega⟩ dL_caravan_372 ?_
                                            refine k_istore C (i := 14) (lv := [(14, _), (13, _), (12, _), (11, _), (10, _), (9, _), (8, _), (7, _), (6, _), (5, _), (4, _), (3, _), (2, _), (1, _), (0, _)]) (Nat.le_of_ble_eq_true rfl) rfl dL_caravan_375 ?_
                                            refine k_aload_n C (f := 0) (i := 0) (p := 14) rfl rfl dL_caravan_377 ?_
                                            refine k_bipush C bc_27 dL_caravan_378 ?_
                                            refine k_iload C (i := 12) (p := 2) rfl dL_caravan_380 ?_
                                            refine k_callSq C s_L_163 h_L_call__ (ct_k27 hx1 hrS1 hk2 hc) rfl rfl (Nat.le_of_ble_eq_true rfl) ⟨Nat.le_of_ble_eq_true rfl, Nat.le_of_ble_eq_true rfl⟩ ⟨rfl, rfl⟩ ⟨by show _ ≤ 2600; (try dsimp only); omega, by show _ ≤ 16000; (try dsimp only); omega⟩ dL_caravan_382 ?_
                                            refine k_aload C (i := 4) (p := 10) rfl dL_caravan_385 ?_
                                            refine k_iload C (i := 12) (p := 2) rfl dL_caravan_387 ?_
                                            refine k_iald C (hsh) (rfl) (by omega) (by decide) (hsum) dL_caravan_389 ?_
                                            first
                                            | refine k_icmpN_ne C (tgt := 609) (by omega) (by omega) (by decide) dL_caravan_390 (fun hc390 => ?_) (fun hc390 => ?_)
                                            | refine k_icmp_ne C (tgt := 609) (by decide) dL_caravan_390 (fun hc390 => ?_) (fun hc390 => ?_)
                                            · skip
                                              first
                                              | omega
                                              | exact absurd hc390 (by decide)
                                              | exact absurd hc390 (nI_pos (by omega))
                                              | exact absurd (nI_pos' (by omega)) hc390
                                              | exact absurd rfl hc390
                                              | exact absurd hc390 (nI_ne0 (by omega) (by omega))
                                              | exact hc390 rfl
                                              | contradiction
                                              | exact absurd hc390 (nI_n101 (by omega))
                                              | exact absurd hc390.symm (nI_n101 (by omega))
                                              | (simp_all; done)
                                            · skip
                                              refine k_aload_n C (f := 0) (i := 0) (p := 14) rfl rfl dL_caravan_393 ?_
                                              refine k_bipush C bc_28 dL_caravan_394 ?_
                                              refine k_iload C (i := 12) (p := 2) rfl dL_caravan_396 ?_
                                              refine k_callSq C s_L_163 h_L_call__ (ct_k28 hx1 hrS1 hk2 hv28) rfl rfl (Nat.le_of_ble_eq_true rfl) ⟨Nat.le_of_ble_eq_true rfl, Nat.le_of_ble_eq_true rfl⟩ ⟨rfl, rfl⟩ ⟨by show _ ≤ 2600; (try dsimp only); omega, by show _ ≤ 16000; (try dsimp only); omega⟩ dL_caravan_398 ?_
                                              refine k_if_lt C (tgt := 609) (by decide) dL_caravan_401 (fun hc401 => ?_) (fun hc401 => ?_)
                                              · skip
                                                first
                                                | omega
                                                | exact absurd hc401 (by decide)
                                                | exact absurd hc401 (nI_pos (by omega))
                                                | exact absurd (nI_pos' (by omega)) hc401
                                                | exact absurd rfl hc401
                                                | exact absurd hc401 (nI_ne0 (by omega) (by omega))
                                                | exact hc401 rfl
                                                | contradiction
                                                | exact absurd hc401 (nI_n101 (by omega))
                                                | exact absurd hc401.symm (nI_n101 (by omega))
                                                | (simp_all; done)
                                              · skip
                                                refine k_aload C (i := 4) (p := 10) rfl dL_caravan_404 ?_
                                                refine k_iload C (i := 12) (p := 2) rfl dL_caravan_406 ?_
                                                refine k_iald C (hsh) (rfl) (by omega) (by decide) (hsum) dL_caravan_408 ?_
                                                refine k_aload_n C (f := 0) (i := 0) (p := 14) rfl rfl dL_caravan_409 ?_
                                                refine k_bipush C bc_28 dL_caravan_410 ?_
                                                refine k_iload C (i := 12) (p := 2) rfl dL_caravan_412 ?_
                                                refine k_callSq C s_L_163 h_L_call__ (ct_k28 hx1 hrS1 hk2 hv28) rfl rfl (Nat.le_of_ble_eq_true rfl) ⟨Nat.le_of_ble_eq_true rfl, Nat.le_of_ble_eq_true rfl⟩ ⟨rfl, rfl⟩ ⟨by show _ ≤ 2600; (try dsimp only); omega, by show _ ≤ 16000; (try dsimp only); omega⟩ dL_caravan_414 ?_
                                                refine k_iadd C dL_caravan_417 ?_
                                                rw [nI_add, show 0 + (20 * g - 0) = 20 * g by omega]
                                                refine k_bipush C bc_20 dL_caravan_418 ?_
                                                refine k_irem C (by decide) dL_caravan_420 ?_
                                                rw [pk_rem (by omega) (by omega) (by omega), show 20 * g % 20 = 0 by omega]
                                                refine k_if_ne C (tgt := 609) (by decide) dL_caravan_421 (fun hc421 => ?_) (fun hc421 => ?_)
                                                · skip
                                                  first
                                                  | omega
                                                  | exact absurd hc421 (by decide)
                                                  | exact absurd hc421 (nI_pos (by omega))
                                                  | exact absurd (nI_pos' (by omega)) hc421
                                                  | exact absurd rfl hc421
                                                  | exact absurd hc421 (nI_ne0 (by omega) (by omega))
                                                  | exact hc421 rfl
                                                  | contradiction
                                                  | exact absurd hc421 (nI_n101 (by omega))
                                                  | exact absurd hc421.symm (nI_n101 (by omega))
                                                  | (simp_all; done)
                                                · skip
                                                  refine k_aload_n C (f := 0) (i := 0) (p := 14) rfl rfl dL_caravan_424 ?_
                                                  refine k_bipush C bc_23 dL_caravan_425 ?_
                                                  refine k_iload C (i := 12) (p := 2) rfl dL_caravan_427 ?_
                                                  refine k_callSq C s_L_163 h_L_call__ (ct_k23 hx1 hrS1 hk2 hw) rfl rfl (Nat.le_of_ble_eq_true rfl) ⟨Nat.le_of_ble_eq_true rfl, Nat.le_of_ble_eq_true rfl⟩ ⟨rfl, rfl⟩ ⟨by show _ ≤ 2600; (try dsimp only); omega, by show _ ≤ 16000; (try dsimp only); omega⟩ dL_caravan_429 ?_
                                                  refine k_if_lt C (tgt := 609) (by decide) dL_caravan_432 (fun hc432 => ?_) (fun hc432 => ?_)
                                                  · skip
                                                    first
                                                    | omega
                                                    | exact absurd hc432 (by decide)
                                                    | exact absurd hc432 (nI_pos (by omega))
                                                    | exact absurd (nI_pos' (by omega)) hc432
                                                    | exact absurd rfl hc432
                                                    | exact absurd hc432 (nI_ne0 (by omega) (by omega))
                                                    | exact hc432 rfl
                                                    | contradiction
                                                    | exact absurd hc432 (nI_n101 (by omega))
                                                    | exact absurd hc432.symm (nI_n101 (by omega))
                                                    | (simp_all; done)
                                                  · skip
                                                    refine k_aload_n C (f := 0) (i := 0) (p := 14) rfl rfl dL_caravan_435 ?_
                                                    refine k_bipush C bc_23 dL_caravan_436 ?_
                                                    refine k_iload C (i := 12) (p := 2) rfl dL_caravan_438 ?_
                                                    refine k_callSq C s_L_163 h_L_call__ (ct_k23 hx1 hrS1 hk2 hw) rfl rfl (Nat.le_of_ble_eq_true rfl) ⟨Nat.le_of_ble_eq_true rfl, Nat.le_of_ble_eq_true rfl⟩ ⟨rfl, rfl⟩ ⟨by show _ ≤ 2600; (try dsimp only); omega, by show _ ≤ 16000; (try dsimp only); omega⟩ dL_caravan_440 ?_
                                                    refine k_aload_n C (f := 0) (i := 0) (p := 14) rfl rfl dL_caravan_443 ?_
                                                    refine k_bipush C bc_22 dL_caravan_444 ?_
                                                    refine k_iload C (i := 12) (p := 2) rfl dL_caravan_446 ?_
                                                    refine k_callSq C s_L_163 h_L_call__ (ct_k22 hx1 hrS1 hk2 htk) rfl rfl (Nat.le_of_ble_eq_true rfl) ⟨Nat.le_of_ble_eq_true rfl, Nat.le_of_ble_eq_true rfl⟩ ⟨rfl, rfl⟩ ⟨by show _ ≤ 2600; (try dsimp only); omega, by show _ ≤ 16000; (try dsimp only); omega⟩ dL_caravan_448 ?_
                                                    first
                                                    | refine k_icmpN_gt C (tgt := 609) (by omega) (by omega) (by decide) dL_caravan_451 (fun hc451 => ?_) (fun hc451 => ?_)
                                                    | refine k_icmp_gt C (tgt := 609) (by decide) dL_caravan_451 (fun hc451 => ?_) (fun hc451 => ?_)
                                                    · skip
                                                      first
                                                      | omega
                                                      | exact absurd hc451 (by decide)
                                                      | exact absurd hc451 (nI_pos (by omega))
                                                      | exact absurd (nI_pos' (by omega)) hc451
                                                      | exact absurd rfl hc451
                                                      | exact absurd hc451 (nI_ne0 (by omega) (by omega))
                                                      | exact hc451 rfl
                                                      | contradiction
                                                      | exact absurd hc451 (nI_n101 (by omega))
                                                      | exact absurd hc451.symm (nI_n101 (by omega))
                                                      | (simp_all; done)
                                                    · skip
                                                      refine k_aload_n C (f := 0) (i := 0) (p := 14) rfl rfl dL_caravan_454 ?_
                                                      refine k_bipush C bc_24 dL_caravan_455 ?_
                                                      refine k_iload C (i := 12) (p := 2) rfl dL_caravan_457 ?_
                                                      refine k_callSq C s_L_163 h_L_call__ (ct_k24 hx1 hrS1 hk2 hs14) rfl rfl (Nat.le_of_ble_eq_true rfl) ⟨Nat.le_of_ble_eq_true rfl, Nat.le_of_ble_eq_true rfl⟩ ⟨rfl, rfl⟩ ⟨by show _ ≤ 2600; (try dsimp only); omega, by show _ ≤ 16000; (try dsimp only); omega⟩ dL_caravan_459 ?_
                                                      refine k_if_lt C (tgt := 609) (by decide) dL_caravan_462 (fun hc462 => ?_) (fun hc462 => ?_)
                                                      · skip
                                                        first
                                                        | omega
                                                        | exact absurd hc462 (by decide)
                                                        | exact absurd hc462 (nI_pos (by omega))
                                                        | exact absurd (nI_pos' (by omega)) hc462
                                                        | exact absurd rfl hc462
                                                        | exact absurd hc462 (nI_ne0 (by omega) (by omega))
                                                        | exact hc462 rfl
                                                        | contradiction
                                                        | exact absurd hc462 (nI_n101 (by omega))
                                                        | exact absurd hc462.symm (nI_n101 (by omega))
                                                        | (simp_all; done)
                                                      · skip
                                                        refine k_aload_n C (f := 0) (i := 0) (p := 14) rfl rfl dL_caravan_465 ?_
                                                        refine k_bipush C bc_24 dL_caravan_466 ?_
                                                        refine k_iload C (i := 12) (p := 2) rfl dL_caravan_468 ?_
                                                        refine k_callSq C s_L_163 h_L_call__ (ct_k24 hx1 hrS1 hk2 hs14) rfl rfl (Nat.le_of_ble_eq_true rfl) ⟨Nat.le_of_ble_eq_true rfl, Nat.le_of_ble_eq_true rfl⟩ ⟨rfl, rfl⟩ ⟨by show _ ≤ 2600; (try dsimp only); omega, by show _ ≤ 16000; (try dsimp only); omega⟩ dL_caravan_470 ?_
                                                        refine k_bipush C bc_60 dL_caravan_473 ?_
                                                        first
                                                        | refine k_icmpN_gt C (tgt := 609) (by omega) (by omega) (by decide) dL_caravan_475 (fun hc475 => ?_) (fun hc475 => ?_)
                                                        | refine k_icmp_gt C (tgt := 609) (by decide) dL_caravan_475 (fun hc475 => ?_) (fun hc475 => ?_)
                                                        · skip
                                                          first
                                                          | omega
                                                          | exact absurd hc475 (by decide)
                                                          | exact absurd hc475 (nI_pos (by omega))
                                                          | exact absurd (nI_pos' (by omega)) hc475
                                                          | exact absurd rfl hc475
                                                          | exact absurd hc475 (nI_ne0 (by omega) (by omega))
                                                          | exact hc475 rfl
                                                          | contradiction
                                                          | exact absurd hc475 (nI_n101 (by omega))
                                                          | exact absurd hc475.symm (nI_n101 (by omega))
                                                          | (simp_all; done)
                                                        · skip
                                                          refine k_aload_n C (f := 0) (i := 0) (p := 14) rfl rfl dL_caravan_478 ?_
                                                          refine k_bipush C bc_25 dL_caravan_479 ?_
                                                          refine k_iload C (i := 12) (p := 2) rfl dL_caravan_481 ?_
                                                          refine k_callSq C s_L_163 h_L_call__ (ct_k25 hx1 hrS1 hk2 hl) rfl rfl (Nat.le_of_ble_eq_true rfl) ⟨Nat.le_of_ble_eq_true rfl, Nat.le_of_ble_eq_true rfl⟩ ⟨rfl, rfl⟩ ⟨by show _ ≤ 2600; (try dsimp only); omega, by show _ ≤ 16000; (try dsimp only); omega⟩ dL_caravan_483 ?_
                                                          refine k_if_lt C (tgt := 609) (by decide) dL_caravan_486 (fun hc486 => ?_) (fun hc486 => ?_)
                                                          · skip
                                                            first
                                                            | omega
                                                            | exact absurd hc486 (by decide)
                                                            | exact absurd hc486 (nI_pos (by omega))
                                                            | exact absurd (nI_pos' (by omega)) hc486
                                                            | exact absurd rfl hc486
                                                            | exact absurd hc486 (nI_ne0 (by omega) (by omega))
                                                            | exact hc486 rfl
                                                            | contradiction
                                                            | exact absurd hc486 (nI_n101 (by omega))
                                                            | exact absurd hc486.symm (nI_n101 (by omega))
                                                            | (simp_all; done)
                                                          · skip
                                                            refine k_aload_n C (f := 0) (i := 0) (p := 14) rfl rfl dL_caravan_489 ?_
                                                            refine k_bipush C bc_29 dL_caravan_490 ?_
                                                            refine k_iload C (i := 12) (p := 2) rfl dL_caravan_492 ?_
                                                            refine k_callSq C s_L_163 h_L_call__ (ct_k29 hx1 hrS1 hk2 rfl) rfl rfl (Nat.le_of_ble_eq_true rfl) ⟨Nat.le_of_ble_eq_true rfl, Nat.le_of_ble_eq_true rfl⟩ ⟨rfl, rfl⟩ ⟨by show _ ≤ 2600; (try dsimp only); omega, by show _ ≤ 16000; (try dsimp only); omega⟩ dL_caravan_494 ?_
                                                            refine k_iconst C ic_5 dL_caravan_497 ?_
                                                            refine k_iload C (i := 13) (p := 1) rfl dL_caravan_498 ?_
                                                            refine k_aload C (i := 4) (p := 10) rfl dL_caravan_500 ?_
                                                            refine k_iload C (i := 12) (p := 2) rfl dL_caravan_502 ?_
                                                            refine k_iald C (hsh) (rfl) (by omega) (by decide) (hsum) dL_caravan_504 ?_
                                                            refine k_bipush C bc_10 dL_caravan_505 ?_
                                                            refine k_idiv C (by decide) dL_caravan_507 ?_
                                                            refine k_isub C dL_caravan_508 ?_
                                                            refine k_max C (hP) m_L_235 ⟨Nat.le_of_ble_eq_true rfl, Nat.le_of_ble_eq_true rfl⟩ ⟨by show _ ≤ 2600; (try dsimp only); omega, by show _ ≤ 16000; (try dsimp only); omega⟩ dL_caravan_509 ?_
                                                            refine k_icmp_ne C (tgt := 609) (by decide) dL_caravan_512 (fun hc512 => ?_) (fun hc512 => ?_)
                                                            · skip
                                                              first
                                                              | omega
                                                              | exact absurd hc512 (by decide)
                                                              | exact absurd hc512 (nI_pos (by omega))
                                                              | exact absurd (nI_pos' (by omega)) hc512
                                                              | exact absurd rfl hc512
                                                              | exact absurd hc512 (nI_ne0 (by omega) (by omega))
                                                              | exact hc512 rfl
                                                              | contradiction
                                                              | exact absurd hc512 (nI_n101 (by omega))
                                                              | exact absurd hc512.symm (nI_n101 (by omega))
                                                              | (simp_all; done)
                                                            · skip
                                                              refine k_aload_n C (f := 0) (i := 0) (p := 14) rfl rfl dL_caravan_515 ?_
                                                              refine k_bipush C bc_26 dL_caravan_516 ?_
                                                              refine k_iload C (i := 12) (p := 2) rfl dL_caravan_518 ?_
                                                              refine k_callSq C s_L_163 h_L_call__ (ct_k26 hx1 hrS1 hk2 hd) rfl rfl (Nat.le_of_ble_eq_true rfl) ⟨Nat.le_of_ble_eq_true rfl, Nat.le_of_ble_eq_true rfl⟩ ⟨rfl, rfl⟩ ⟨by show _ ≤ 2600; (try dsimp only); omega, by show _ ≤ 16000; (try dsimp only); omega⟩ dL_caravan_520 ?_
                                                              refine k_iconst C ic_3 dL_caravan_523 ?_
                                                              first
                                                              | refine k_icmpN_ne C (tgt := 531) (by omega) (by omega) (by decide) dL_caravan_524 (fun hc524 => ?_) (fun hc524 => ?_)
                                                              | refine k_icmp_ne C (tgt := 531) (by decide) dL_caravan_524 (fun hc524 => ?_) (fun hc524 => ?_)
                                                              · skip
                                                                first
                                                                | omega
                                                                | exact absurd hc524 (by decide)
                                                                | exact absurd hc524 (nI_pos (by omega))
                                                                | exact absurd (nI_pos' (by omega)) hc524
                                                                | exact absurd rfl hc524
                                                                | exact absurd hc524 (nI_ne0 (by omega) (by omega))
                                                                | exact hc524 rfl
                                                                | contradiction
                                                                | exact absurd hc524 (nI_n101 (by omega))
                                                                | exact absurd hc524.symm (nI_n101 (by omega))
                                                                | (simp_all; done)
                                                              · skip
                                                                refine k_iconst C ic_1 dL_caravan_527 ?_
                                                                refine k_goto C (tgt := 532) (by decide) dL_caravan_528 ?_
                                                                refine k_iload C (i := 14) (p := 0) rfl dL_caravan_532 ?_
                                                                refine k_iconst C ic_1 dL_caravan_534 ?_
                                                                first
                                                                | refine k_icmpN_ne C (tgt := 542) (by omega) (by omega) (by decide) dL_caravan_535 (fun hc535 => ?_) (fun hc535 => ?_)
                                                                | refine k_icmp_ne C (tgt := 542) (by decide) dL_caravan_535 (fun hc535 => ?_) (fun hc535 => ?_)
                                                                · skip
                                                                  first
                                                                  | omega
                                                                  | exact absurd hc535 (by decide)
                                                                  | exact absurd hc535 (nI_pos (by omega))
                                                                  | exact absurd (nI_pos' (by omega)) hc535
                                                                  | exact absurd rfl hc535
                                                                  | exact absurd hc535 (nI_ne0 (by omega) (by omega))
                                                                  | exact hc535 rfl
                                                                  | contradiction
                                                                  | exact absurd hc535 (nI_n101 (by omega))
                                                                  | exact absurd hc535.symm (nI_n101 (by omega))
                                                                  | (simp_all; done)
                                                                · skip
                                                                  refine k_iconst C ic_1 dL_caravan_538 ?_
                                                                  refine k_goto C (tgt := 543) (by decide) dL_caravan_539 ?_
                                                                  first
                                                                  | refine k_icmpN_ne C (tgt := 609) (by omega) (by omega) (by decide) dL_caravan_543 (fun hc543 => ?_) (fun hc543 => ?_)
                                                                  | refine k_icmp_ne C (tgt := 609) (by decide) dL_caravan_543 (fun hc543 => ?_) (fun hc543 => ?_)
                                                                  · skip
                                                                    first
                                                                    | omega
                                                                    | exact absurd hc543 (by decide)
                                                                    | exact absurd hc543 (nI_pos (by omega))
                                                                    | exact absurd (nI_pos' (by omega)) hc543
                                                                    | exact absurd rfl hc543
                                                                    | exact absurd hc543 (nI_ne0 (by omega) (by omega))
                                                                    | exact hc543 rfl
                                                                    | contradiction
                                                                    | exact absurd hc543 (nI_n101 (by omega))
                                                                    | exact absurd hc543.symm (nI_n101 (by omega))
                                                                    | (simp_all; done)
                                                                  · skip
                                                                    refine k_aload_n C (f := 0) (i := 0) (p := 14) rfl rfl dL_caravan_546 ?_
                                                                    refine k_bipush C bc_26 dL_caravan_547 ?_
                                                                    refine k_iload C (i := 12) (p := 2) rfl dL_caravan_549 ?_
                                                                    refine k_callSq C s_L_163 h_L_call__ (ct_k26 hx1 hrS1 hk2 hd) rfl rfl (Nat.le_of_ble_eq_true rfl) ⟨Nat.le_of_ble_eq_true rfl, Nat.le_of_ble_eq_true rfl⟩ ⟨rfl, rfl⟩ ⟨by show _ ≤ 2600; (try dsimp only); omega, by show _ ≤ 16000; (try dsimp only); omega⟩ dL_caravan_551 ?_
                                                                    refine k_iconst C ic_3 dL_caravan_554 ?_
                                                                    first
                                                                    | refine k_icmpN_gt C (tgt := 609) (by omega) (by omega) (by decide) dL_caravan_555 (fun hc555 => ?_) (fun hc555 => ?_)
                                                                    | refine k_icmp_gt C (tgt := 609) (by decide) dL_caravan_555 (fun hc555 => ?_) (fun hc555 => ?_)
                                                                    · skip
                                                                      first
                                                                      | omega
                                                                      | exact absurd hc555 (by decide)
                                                                      | exact absurd hc555 (nI_pos (by omega))
                                                                      | exact absurd (nI_pos' (by omega)) hc555
                                                                      | exact absurd rfl hc555
                                                                      | exact absurd hc555 (nI_ne0 (by omega) (by omega))
                                                                      | exact hc555 rfl
                                                                      | contradiction
                                                                      | exact absurd hc555 (nI_n101 (by omega))
                                                                      | exact absurd hc555.symm (nI_n101 (by omega))
                                                                      | (simp_all; done)
                                                                    · skip
                                                                      refine k_iload C (i := 14) (p := 0) rfl dL_caravan_558 ?_
                                                                      refine k_if_eq C (tgt := 571) (by decide) dL_caravan_560 (fun hc560 => ?_) (fun hc560 => ?_)
                                                                      · skip
                                                                        first
                                                                        | omega
                                                                        | exact absurd hc560 (by decide)
                                                                        | exact absurd hc560 (nI_pos (by omega))
                                                                        | exact absurd (nI_pos' (by omega)) hc560
                                                                        | exact absurd rfl hc560
                                                                        | exact absurd hc560 (nI_ne0 (by omega) (by omega))
                                                                        | exact hc560 rfl
                                                                        | contradiction
                                                                        | exact absurd hc560 (nI_n101 (by omega))
                                                                        | exact absurd hc560.symm (nI_n101 (by omega))
                                                                        | (simp_all; done)
                                                                      · skip
                                                                        refine k_aload C (i := 4) (p := 10) rfl dL_caravan_563 ?_
                                                                        refine k_iload C (i := 12) (p := 2) rfl dL_caravan_565 ?_
                                                                        refine k_iald C (hsh) (rfl) (by omega) (by decide) (hsum) dL_caravan_567 ?_
                                                                        refine k_if_ne C (tgt := 609) (by decide) dL_caravan_568 (fun hc568 => ?_) (fun hc568 => ?_)
                                                                        · skip
                                                                          first
                                                                          | omega
                                                                          | exact absurd hc568 (by decide)
                                                                          | exact absurd hc568 (nI_pos (by omega))
                                                                          | exact absurd (nI_pos' (by omega)) hc568
                                                                          | exact absurd rfl hc568
                                                                          | exact absurd hc568 (nI_ne0 (by omega) (by omega))
                                                                          | exact hc568 rfl
                                                                          | contradiction
                                                                          | exact absurd hc568 (nI_n101 (by omega))
                                                                          | exact absurd hc568.symm (nI_n101 (by omega))
                                                                          | (simp_all; done)
                                                                        · skip
                                                                          refine k_aload_n C (f := 0) (i := 0) (p := 14) rfl rfl dL_caravan_571 ?_
                                                                          refine k_bipush C bc_37 dL_caravan_572 ?_
                                                                          refine k_iload C (i := 12) (p := 2) rfl dL_caravan_574 ?_
                                                                          refine k_callSq C s_L_163 h_L_call__ (ct_k37 hx1 hrS1 hk2 hv37) rfl rfl (Nat.le_of_ble_eq_true rfl) ⟨Nat.le_of_ble_eq_true rfl, Nat.le_of_ble_eq_true rfl⟩ ⟨rfl, rfl⟩ ⟨by show _ ≤ 2600; (try dsimp only); omega, by show _ ≤ 16000; (try dsimp only); omega⟩ dL_caravan_576 ?_
                                                                          refine k_iload C (i := 14) (p := 0) rfl dL_caravan_579 ?_
                                                                          refine k_iconst C ic_1 dL_caravan_581 ?_
                                                                          first
                                                                          | refine k_icmpN_ne C (tgt := 589) (by omega) (by omega) (by decide) dL_caravan_582 (fun hc582 => ?_) (fun hc582 => ?_)
                                                                          | refine k_icmp_ne C (tgt := 589) (by decide) dL_caravan_582 (fun hc582 => ?_) (fun hc582 => ?_)
                                                                          · skip
                                                                            first
                                                                            | omega
                                                                            | exact absurd hc582 (by decide)
                                                                            | exact absurd hc582 (nI_pos (by omega))
                                                                            | exact absurd (nI_pos' (by omega)) hc582
                                                                            | exact absurd rfl hc582
                                                                            | exact absurd hc582 (nI_ne0 (by omega) (by omega))
                                                                            | exact hc582 rfl
                                                                            | contradiction
                                                                            | exact absurd hc582 (nI_n101 (by omega))
                                                                            | exact absurd hc582.symm (nI_n101 (by omega))
                                                                            | (simp_all; done)
                                                                          · skip
                                                                            refine k_iconst C ic_0 dL_caravan_585 ?_
                                                                            refine k_goto C (tgt := 602) (by decide) dL_caravan_586 ?_
                                                                            first
                                                                            | refine k_icmpN_ne C (tgt := 609) (by omega) (by omega) (by decide) dL_caravan_602 (fun hc602 => ?_) (fun hc602 => ?_)
                                                                            | refine k_icmp_ne C (tgt := 609) (by decide) dL_caravan_602 (fun hc602 => ?_) (fun hc602 => ?_)
                                                                            · skip
                                                                              first
                                                                              | omega
                                                                              | exact absurd hc602 (by decide)
                                                                              | exact absurd hc602 (nI_pos (by omega))
                                                                              | exact absurd (nI_pos' (by omega)) hc602
                                                                              | exact absurd rfl hc602
                                                                              | exact absurd hc602 (nI_ne0 (by omega) (by omega))
                                                                              | exact hc602 rfl
                                                                              | contradiction
                                                                              | exact absurd hc602 (nI_n101 (by omega))
                                                                              | exact absurd hc602.symm (nI_n101 (by omega))
                                                                              | (simp_all; done)
                                                                            · skip
                                                                              refine k_iconst C ic_1 dL_caravan_605 ?_
                                                                              refine k_goto C (tgt := 610) (by decide) dL_caravan_606 ?_
                                                                              refine k_istore C (i := 6) (lv := [(6, _), (14, _), (13, _), (12, _), (11, _), (10, _), (9, _), (8, _), (7, _), (5, _), (4, _), (3, _), (2, _), (1, _), (0, _)]) (Nat.le_of_ble_eq_true rfl) rfl dL_caravan_610 ?_
                                                                              refine k_iload C (i := 14) (p := 1) rfl dL_caravan_612 ?_
                                                                              refine k_iconst C ic_1 dL_caravan_614 ?_
                                                                              first
                                                                              | refine k_icmpN_ne C (tgt := 621) (by omega) (by omega) (by decide) dL_caravan_615 (fun hc615 => ?_) (fun hc615 => ?_)
                                                                              | refine k_icmp_ne C (tgt := 621) (by decide) dL_caravan_615 (fun hc615 => ?_) (fun hc615 => ?_)
                                                                              · skip
                                                                                first
                                                                                | omega
                                                                                | exact absurd hc615 (by decide)
                                                                                | exact absurd hc615 (nI_pos (by omega))
                                                                                | exact absurd (nI_pos' (by omega)) hc615
                                                                                | exact absurd rfl hc615
                                                                                | exact absurd hc615 (nI_ne0 (by omega) (by omega))
                                                                                | exact hc615 rfl
                                                                                | contradiction
                                                                                | exact absurd hc615 (nI_n101 (by omega))
                                                                                | exact absurd hc615.symm (nI_n101 (by omega))
                                                                                | (simp_all; done)
                                                                              · skip
                                                                                refine k_goto C (tgt := 693) (by decide) dL_caravan_618 ?_
                                                                                refine k_iinc C (i := 12) (p := 3) (lv := [(12, _), (6, _), (14, _), (13, _), (11, _), (10, _), (9, _), (8, _), (7, _), (5, _), (4, _), (3, _), (2, _), (1, _), (0, _)]) (Nat.le_of_ble_eq_true rfl) rfl (by first | exact am_inc1 _ | rfl) rfl dL_caravan_693 ?_
                                                                                refine k_goto C (tgt := 322) (by decide) dL_caravan_696 ?_
                                                                                refine k_sub [0, 4, 5, 6, 7, 8, 1, 9, 10, 11, 12, 13, 14] rfl ?_
                                                                                rw [← sp_livingTo_f hdead, ← sp_wsumTo_f hdead]
                                                                                refine k_widen ?_ ?_ (ih322 (k + 1) _ _ (by omega) (by rw [sp_thirstTo_f (fun z => hdead z.1)]; exact hT) (by rw [sp_fastTo_f (fun z => hdead z.1)]; exact hF) (by omega))
                                                                                · (try dsimp only); omega
                                                                                · (try dsimp only); omega
                                        refine k_aload_n C (f := 0) (i := 0) (p := 12) rfl rfl dL_caravan_333 ?_
                                        refine k_bipush C bc_25 dL_caravan_334 ?_
                                        refine k_iload C (i := 12) (p := 0) rfl dL_caravan_336 ?_
                                        refine k_callSq C s_L_163 h_L_call__ (ct_k25 hx1 hrS1 hk2 hl) rfl rfl (Nat.le_of_ble_eq_true rfl) ⟨Nat.le_of_ble_eq_true rfl, Nat.le_of_ble_eq_true rfl⟩ ⟨rfl, rfl⟩ ⟨by show _ ≤ 2600; (try dsimp only); omega, by show _ ≤ 16000; (try dsimp only); omega⟩ dL_caravan_338 ?_
                                        refine k_if_le C (tgt := 357) (by decide) dL_caravan_341 (fun hc341 => ?_) (fun hc341 => ?_)
                                        · skip
                                          refine k_aload_n C (f := 0) (i := 0) (p := 12) rfl rfl dL_caravan_357 ?_
                                          refine k_bipush C bc_21 dL_caravan_358 ?_
                                          refine k_iload C (i := 12) (p := 0) rfl dL_caravan_360 ?_
                                          refine k_callSq C s_L_163 h_L_call__ (ct_k21 hx1 hrS1 hk2 hp) rfl rfl (Nat.le_of_ble_eq_true rfl) ⟨Nat.le_of_ble_eq_true rfl, Nat.le_of_ble_eq_true rfl⟩ ⟨rfl, rfl⟩ ⟨by show _ ≤ 2600; (try dsimp only); omega, by show _ ≤ 16000; (try dsimp only); omega⟩ dL_caravan_362 ?_
                                          by_cases hal : d < 3
                                          · skip
                                            have hal2 : r (16 + 8 * k) < nI 3 := by rw [hd]; exact nI_lt hal (by omega)
                                            have hv20 : am_b (¬ r (16 + 8 * k) < nI 3) = nI 0 := (am_bf (fun z => z hal2)).symm
                                            have hv37 : (if r (16 + 8 * k) < nI 3 then sp_need r k (sp_storm r (r 2)) else nI 0) = nI (5 + c / 25 + t) := by
                                              rw [if_pos hal2, ht]
                                              unfold sp_need
                                              rw [hc, pk_div (by omega) (by omega) (by omega), nI_add, nI_add]
                                            have hws : sp_wsumTo r (k + 1) = sp_wsumTo r k + wt := by rw [sp_wsumTo_t hal2, hw, nI_clamp (by omega)]
                                            refine k_sub [0, 1, 2, 3, 4, 5, 6, 7, 8, 9, 10, 11, 12] rfl ?_
                                            refine k_widen ?_ ?_ (join365 _ (by first | (rw [sp_speed_f (by rw [hl]; exact hc341), hp, hc]) | (rw [sp_speed_t (by rw [hl]; exact hc341), hp, hc])))
                                            · (try dsimp only); omega
                                            · (try dsimp only); omega
                                          · skip
                                            have hdead : ¬ r (16 + 8 * k) < nI 3 := by rw [hd]; exact nI_nlt (by omega) (by omega)
                                            have hv20 : am_b (¬ r (16 + 8 * k) < nI 3) = nI 1 := (am_bt hdead).symm
                                            have hv37 : (if r (16 + 8 * k) < nI 3 then sp_need r k (sp_storm r (r 2)) else nI 0) = nI 0 := if_neg hdead
                                            obtain rfl : c = 0 := nI_inj (by omega) (by omega) (hc.symm.trans (dead_car hleg.2 hk2 hdead))
                                            refine k_sub [0, 1, 2, 3, 4, 5, 6, 7, 8, 9, 10, 11, 12] rfl ?_
                                            refine k_widen ?_ ?_ (join365 _ (by first | (rw [sp_speed_f (by rw [hl]; exact hc341), hp, hc]) | (rw [sp_speed_t (by rw [hl]; exact hc341), hp, hc])))
                                            · (try dsimp only); omega
                                            · (try dsimp only); omega
                                        · skip
                                          refine k_aload_n C (f := 0) (i := 0) (p := 12) rfl rfl dL_caravan_344 ?_
                                          refine k_bipush C bc_21 dL_caravan_345 ?_
                                          refine k_iload C (i := 12) (p := 0) rfl dL_caravan_347 ?_
                                          refine k_callSq C s_L_163 h_L_call__ (ct_k21 hx1 hrS1 hk2 hp) rfl rfl (Nat.le_of_ble_eq_true rfl) ⟨Nat.le_of_ble_eq_true rfl, Nat.le_of_ble_eq_true rfl⟩ ⟨rfl, rfl⟩ ⟨by show _ ≤ 2600; (try dsimp only); omega, by show _ ≤ 16000; (try dsimp only); omega⟩ dL_caravan_349 ?_
                                          refine k_iconst C ic_2 dL_caravan_352 ?_
                                          refine k_idiv C (by decide) dL_caravan_353 ?_
                                          refine k_goto C (tgt := 365) (by decide) dL_caravan_354 ?_
                                          by_cases hal : d < 3
                                          · skip
                                            have hal2 : r (16 + 8 * k) < nI 3 := by rw [hd]; exact nI_lt hal (by omega)
                                            have hv20 : am_b (¬ r (16 + 8 * k) < nI 3) = nI 0 := (am_bf (fun z => z hal2)).symm
                                            have hv37 : (if r (16 + 8 * k) < nI 3 then sp_need r k (sp_storm r (r 2)) else nI 0) = nI (5 + c / 25 + t) := by
                                              rw [if_pos hal2, ht]
                                              unfold sp_need
                                              rw [hc, pk_div (by omega) (by omega) (by omega), nI_add, nI_add]
                                            have hws : sp_wsumTo r (k + 1) = sp_wsumTo r k + wt := by rw [sp_wsumTo_t hal2, hw, nI_clamp (by omega)]
                                            refine k_sub [0, 1, 2, 3, 4, 5, 6, 7, 8, 9, 10, 11, 12] rfl ?_
                                            refine k_widen ?_ ?_ (join365 _ (by first | (rw [sp_speed_f (by rw [hl]; exact hc341), hp, hc]) | (rw [sp_speed_t (by rw [hl]; exact hc341), hp, hc])))
                                            · (try dsimp only); omega
                                            · (try dsimp only); omega
                                          · skip
                                            have hdead : ¬ r (16 + 8 * k) < nI 3 := by rw [hd]; exact nI_nlt (by omega) (by omega)
                                            have hv20 : am_b (¬ r (16 + 8 * k) < nI 3) = nI 1 := (am_bt hdead).symm
                                            have hv37 : (if r (16 + 8 * k) < nI 3 then sp_need r k (sp_storm r (r 2)) else nI 0) = nI 0 := if_neg hdead
                                            obtain rfl : c = 0 := nI_inj (by omega) (by omega) (hc.symm.trans (dead_car hleg.2 hk2 hdead))
                                            refine k_sub [0, 1, 2, 3, 4, 5, 6, 7, 8, 9, 10, 11, 12] rfl ?_
                                            refine k_widen ?_ ?_ (join365 _ (by first | (rw [sp_speed_f (by rw [hl]; exact hc341), hp, hc]) | (rw [sp_speed_t (by rw [hl]; exact hc341), hp, hc])))
                                            · (try dsimp only); omega
                                            · (try dsimp only); omega
                                refine k_sub [0, 1, 2, 3, 4, 5, 6, 7, 8, 9, 10, 11, 12] rfl ?_
                                refine k_widen ?_ ?_ (loop322 (sp_nc r + 1) 0 _ _ (Nat.zero_le _) rfl rfl (by omega))
                                · (try dsimp only); omega
                                · (try dsimp only); omega
                              · skip
                                refine k_iload C (i := 6) (p := 1) rfl dL_caravan_165 ?_
                                refine k_if_eq C (tgt := 293) (by decide) dL_caravan_167 (fun hc167 => ?_) (fun hc167 => ?_)
                                · skip
                                  first
                                  | omega
                                  | exact absurd hc167 (by decide)
                                  | exact absurd hc167 (nI_pos (by omega))
                                  | exact absurd (nI_pos' (by omega)) hc167
                                  | exact absurd rfl hc167
                                  | exact absurd hc167 (nI_ne0 (by omega) (by omega))
                                  | exact hc167 rfl
                                  | contradiction
                                  | exact absurd hc167 (nI_n101 (by omega))
                                  | exact absurd hc167.symm (nI_n101 (by omega))
                                  | (simp_all; done)
                                · skip
                                  have hk2 : k < sp_nl r := by omega
                                  rcases (RK_lo hok k hk2).2 with hcar | ⟨j, hcar, hj⟩
                                  · skip
                                    have hv35 : (if r (142 + 4 * k) = -1 then (-101) else r (142 + 4 * k)) = (-101 : Int32) := if_pos hcar
                                    have hv34 : am_b (¬ r (142 + 4 * k) = -1) = nI 0 := (am_bf (fun z => z hcar)).symm
                                    obtain ⟨p, km', hp, hk', hpk, hk9⟩ := LX_p hleg.2 k hk2 hcar
                                    have ekm : km' = km := nI_inj (by omega) (by omega) (hk'.symm.trans hk)
                                    have hv36 : (if r (142 + 4 * k) = -1 then r (143 + 4 * k) else r 1) = nI p := by rw [if_pos hcar, hp]
                                    refine k_aload_n C (f := 0) (i := 0) (p := 7) rfl rfl dL_caravan_170 ?_
                                    refine k_bipush C bc_35 dL_caravan_171 ?_
                                    refine k_iload C (i := 7) (p := 0) rfl dL_caravan_173 ?_
                                    refine k_callSq C s_L_163 h_L_call__ (ct_k35 hx1 hrS1 hk2 hv35) rfl rfl (Nat.le_of_ble_eq_true rfl) ⟨Nat.le_of_ble_eq_true rfl, Nat.le_of_ble_eq_true rfl⟩ ⟨rfl, rfl⟩ ⟨by show _ ≤ 2600; (try dsimp only); omega, by show _ ≤ 16000; (try dsimp only); omega⟩ dL_caravan_175 ?_
                                    refine k_istore C (i := 8) (lv := [(8, _), (7, _), (6, _), (5, _), (4, _), (3, _), (2, _), (1, _), (0, _)]) (Nat.le_of_ble_eq_true rfl) rfl dL_caravan_178 ?_
                                    refine k_aload_n C (f := 0) (i := 0) (p := 8) rfl rfl dL_caravan_180 ?_
                                    refine k_bipush C bc_34 dL_caravan_181 ?_
                                    refine k_iload C (i := 7) (p := 1) rfl dL_caravan_183 ?_
                                    refine k_callSq C s_L_163 h_L_call__ (ct_k34 hx1 hrS1 hk2 hv34) rfl rfl (Nat.le_of_ble_eq_true rfl) ⟨Nat.le_of_ble_eq_true rfl, Nat.le_of_ble_eq_true rfl⟩ ⟨rfl, rfl⟩ ⟨by show _ ≤ 2600; (try dsimp only); omega, by show _ ≤ 16000; (try dsimp only); omega⟩ dL_caravan_185 ?_
                                    refine k_iload C (i := 8) (p := 0) rfl dL_caravan_188 ?_
                                    refine k_if_ge C (tgt := 197) (by decide) dL_caravan_190 (fun hc190 => ?_) (fun hc190 => ?_)
                                    · skip
                                      first
                                      | omega
                                      | exact absurd hc190 (by decide)
                                      | exact absurd hc190 (nI_pos (by omega))
                                      | exact absurd (nI_pos' (by omega)) hc190
                                      | exact absurd rfl hc190
                                      | exact absurd hc190 (nI_ne0 (by omega) (by omega))
                                      | exact hc190 rfl
                                      | contradiction
                                      | exact absurd hc190 (nI_n101 (by omega))
                                      | exact absurd hc190.symm (nI_n101 (by omega))
                                      | (simp_all; done)
                                    · skip
                                      refine k_iconst C ic_0 dL_caravan_193 ?_
                                      refine k_goto C (tgt := 198) (by decide) dL_caravan_194 ?_
                                      first
                                      | refine k_icmpN_ne C (tgt := 247) (by omega) (by omega) (by decide) dL_caravan_198 (fun hc198 => ?_) (fun hc198 => ?_)
                                      | refine k_icmp_ne C (tgt := 247) (by decide) dL_caravan_198 (fun hc198 => ?_) (fun hc198 => ?_)
                                      · skip
                                        first
                                        | omega
                                        | exact absurd hc198 (by decide)
                                        | exact absurd hc198 (nI_pos (by omega))
                                        | exact absurd (nI_pos' (by omega)) hc198
                                        | exact absurd rfl hc198
                                        | exact absurd hc198 (nI_ne0 (by omega) (by omega))
                                        | exact hc198 rfl
                                        | contradiction
                                        | exact absurd hc198 (nI_n101 (by omega))
                                        | exact absurd hc198.symm (nI_n101 (by omega))
                                        | (simp_all; done)
                                      · skip
                                        refine k_iload C (i := 8) (p := 0) rfl dL_caravan_201 ?_
                                        refine k_bipush C bc_m101 dL_caravan_203 ?_
                                        refine k_icmp_eq C (tgt := 231) (by decide) dL_caravan_205 (fun hc205 => ?_) (fun hc205 => ?_)
                                        · skip
                                          refine k_aload_n C (f := 0) (i := 0) (p := 8) rfl rfl dL_caravan_231 ?_
                                          refine k_bipush C bc_36 dL_caravan_232 ?_
                                          refine k_iload C (i := 7) (p := 1) rfl dL_caravan_234 ?_
                                          refine k_callSq C s_L_163 h_L_call__ (ct_k36 hx1 hrS1 hk2 hv36) rfl rfl (Nat.le_of_ble_eq_true rfl) ⟨Nat.le_of_ble_eq_true rfl, Nat.le_of_ble_eq_true rfl⟩ ⟨rfl, rfl⟩ ⟨by show _ ≤ 2600; (try dsimp only); omega, by show _ ≤ 16000; (try dsimp only); omega⟩ dL_caravan_236 ?_
                                          refine k_iload_n C (f := 3) (i := 3) (p := 5) rfl rfl dL_caravan_239 ?_
                                          first
                                          | refine k_icmpN_gt C (tgt := 247) (by omega) (by omega) (by decide) dL_caravan_240 (fun hc240 => ?_) (fun hc240 => ?_)
                                          | refine k_icmp_gt C (tgt := 247) (by decide) dL_caravan_240 (fun hc240 => ?_) (fun hc240 => ?_)
                                          · skip
                                            first
                                            | omega
                                            | exact absurd hc240 (by decide)
                                            | exact absurd hc240 (nI_pos (by omega))
                                            | exact absurd (nI_pos' (by omega)) hc240
                                            | exact absurd rfl hc240
                                            | exact absurd hc240 (nI_ne0 (by omega) (by omega))
                                            | exact hc240 rfl
                                            | contradiction
                                            | exact absurd hc240 (nI_n101 (by omega))
                                            | exact absurd hc240.symm (nI_n101 (by omega))
                                            | (simp_all; done)
                                          · skip
                                            refine k_iconst C ic_1 dL_caravan_243 ?_
                                            refine k_goto C (tgt := 248) (by decide) dL_caravan_244 ?_
                                            refine k_istore C (i := 6) (lv := [(6, _), (8, _), (7, _), (5, _), (4, _), (3, _), (2, _), (1, _), (0, _)]) (Nat.le_of_ble_eq_true rfl) rfl dL_caravan_248 ?_
                                            refine k_iload C (i := 8) (p := 1) rfl dL_caravan_250 ?_
                                            refine k_if_ge C (tgt := 258) (by decide) dL_caravan_252 (fun hc252 => ?_) (fun hc252 => ?_)
                                            · skip
                                              first
                                              | omega
                                              | exact absurd hc252 (by decide)
                                              | exact absurd hc252 (nI_pos (by omega))
                                              | exact absurd (nI_pos' (by omega)) hc252
                                              | exact absurd rfl hc252
                                              | exact absurd hc252 (nI_ne0 (by omega) (by omega))
                                              | exact hc252 rfl
                                              | contradiction
                                              | exact absurd hc252 (nI_n101 (by omega))
                                              | exact absurd hc252.symm (nI_n101 (by omega))
                                              | (simp_all; done)
                                            · skip
                                              refine k_goto C (tgt := 287) (by decide) dL_caravan_255 ?_
                                              refine k_iinc C (i := 7) (p := 2) (lv := [(7, _), (6, _), (8, _), (5, _), (4, _), (3, _), (2, _), (1, _), (0, _)]) (Nat.le_of_ble_eq_true rfl) rfl (by first | exact am_inc1 _ | rfl) rfl dL_caravan_287 ?_
                                              refine k_goto C (tgt := 159) (by decide) dL_caravan_290 ?_
                                              refine k_sub [0, 1, 3, 4, 5, 6, 7, 8] rfl ?_
                                              rw [← sp_cvalTo_t hcar]
                                              refine k_widen ?_ ?_ (ih159 (k + 1) S (by omega) hS (fun j hj => by rw [hs1 j hj, sp_carTo_f (by rw [hcar]; exact fun z => nI_m1 (by omega) z.symm)]) (by omega))
                                              · (try dsimp only); omega
                                              · (try dsimp only); omega
                                        · skip
                                          first
                                          | omega
                                          | exact absurd hc205 (by decide)
                                          | exact absurd hc205 (nI_pos (by omega))
                                          | exact absurd (nI_pos' (by omega)) hc205
                                          | exact absurd rfl hc205
                                          | exact absurd hc205 (nI_ne0 (by omega) (by omega))
                                          | exact hc205 rfl
                                          | contradiction
                                          | exact absurd hc205 (nI_n101 (by omega))
                                          | exact absurd hc205.symm (nI_n101 (by omega))
                                          | (simp_all; done)
                                  · skip
                                    have hne : ¬ r (142 + 4 * k) = -1 := by rw [hcar]; exact nI_m1 (by omega)
                                    have hv35 : (if r (142 + 4 * k) = -1 then (-101) else r (142 + 4 * k)) = nI j := by rw [if_neg hne, hcar]
                                    have hv34 : am_b (¬ r (142 + 4 * k) = -1) = nI 1 := (am_bt hne).symm
                                    have hv36 : (if r (142 + 4 * k) = -1 then r (143 + 4 * k) else r 1) = nI km := by rw [if_neg hne, hk]
                                    have hal := LX_a hleg.2 k j hk2 hj hcar
                                    have hv20 : am_b (¬ r (16 + 8 * j) < nI 3) = nI 0 := (am_bf (fun z => z hal)).symm
                                    refine k_aload_n C (f := 0) (i := 0) (p := 7) rfl rfl dL_caravan_170 ?_
                                    refine k_bipush C bc_35 dL_caravan_171 ?_
                                    refine k_iload C (i := 7) (p := 0) rfl dL_caravan_173 ?_
                                    refine k_callSq C s_L_163 h_L_call__ (ct_k35 hx1 hrS1 hk2 hv35) rfl rfl (Nat.le_of_ble_eq_true rfl) ⟨Nat.le_of_ble_eq_true rfl, Nat.le_of_ble_eq_true rfl⟩ ⟨rfl, rfl⟩ ⟨by show _ ≤ 2600; (try dsimp only); omega, by show _ ≤ 16000; (try dsimp only); omega⟩ dL_caravan_175 ?_
                                    refine k_istore C (i := 8) (lv := [(8, _), (7, _), (6, _), (5, _), (4, _), (3, _), (2, _), (1, _), (0, _)]) (Nat.le_of_ble_eq_true rfl) rfl dL_caravan_178 ?_
                                    refine k_aload_n C (f := 0) (i := 0) (p := 8) rfl rfl dL_caravan_180 ?_
                                    refine k_bipush C bc_34 dL_caravan_181 ?_
                                    refine k_iload C (i := 7) (p := 1) rfl dL_caravan_183 ?_
                                    refine k_callSq C s_L_163 h_L_call__ (ct_k34 hx1 hrS1 hk2 hv34) rfl rfl (Nat.le_of_ble_eq_true rfl) ⟨Nat.le_of_ble_eq_true rfl, Nat.le_of_ble_eq_true rfl⟩ ⟨rfl, rfl⟩ ⟨by show _ ≤ 2600; (try dsimp only); omega, by show _ ≤ 16000; (try dsimp only); omega⟩ dL_caravan_185 ?_
                                    refine k_iload C (i := 8) (p := 0) rfl dL_caravan_188 ?_
                                    refine k_if_ge C (tgt := 197) (by decide) dL_caravan_190 (fun hc190 => ?_) (fun hc190 => ?_)
                                    · skip
                                      refine k_iconst C ic_1 dL_caravan_197 ?_
                                      first
                                      | refine k_icmpN_ne C (tgt := 247) (by omega) (by omega) (by decide) dL_caravan_198 (fun hc198 => ?_) (fun hc198 => ?_)
                                      | refine k_icmp_ne C (tgt := 247) (by decide) dL_caravan_198 (fun hc198 => ?_) (fun hc198 => ?_)
                                      · skip
                                        first
                                        | omega
                                        | exact absurd hc198 (by decide)
                                        | exact absurd hc198 (nI_pos (by omega))
                                        | exact absurd (nI_pos' (by omega)) hc198
                                        | exact absurd rfl hc198
                                        | exact absurd hc198 (nI_ne0 (by omega) (by omega))
                                        | exact hc198 rfl
                                        | contradiction
                                        | exact absurd hc198 (nI_n101 (by omega))
                                        | exact absurd hc198.symm (nI_n101 (by omega))
                                        | (simp_all; done)
                                      · skip
                                        refine k_iload C (i := 8) (p := 0) rfl dL_caravan_201 ?_
                                        refine k_bipush C bc_m101 dL_caravan_203 ?_
                                        refine k_icmp_eq C (tgt := 231) (by decide) dL_caravan_205 (fun hc205 => ?_) (fun hc205 => ?_)
                                        · skip
                                          first
                                          | omega
                                          | exact absurd hc205 (by decide)
                                          | exact absurd hc205 (nI_pos (by omega))
                                          | exact absurd (nI_pos' (by omega)) hc205
                                          | exact absurd rfl hc205
                                          | exact absurd hc205 (nI_ne0 (by omega) (by omega))
                                          | exact hc205 rfl
                                          | contradiction
                                          | exact absurd hc205 (nI_n101 (by omega))
                                          | exact absurd hc205.symm (nI_n101 (by omega))
                                          | (simp_all; done)
                                        · skip
                                          refine k_aload_n C (f := 0) (i := 0) (p := 8) rfl rfl dL_caravan_208 ?_
                                          refine k_bipush C bc_20 dL_caravan_209 ?_
                                          refine k_iload C (i := 8) (p := 0) rfl dL_caravan_211 ?_
                                          refine k_callSq C s_L_163 h_L_call__ (ct_k20 hx1 hrS1 hj hv20) rfl rfl (Nat.le_of_ble_eq_true rfl) ⟨Nat.le_of_ble_eq_true rfl, Nat.le_of_ble_eq_true rfl⟩ ⟨rfl, rfl⟩ ⟨by show _ ≤ 2600; (try dsimp only); omega, by show _ ≤ 16000; (try dsimp only); omega⟩ dL_caravan_213 ?_
                                          first
                                          | refine k_ifb_ne C (tgt := 247) (by decide) dL_caravan_216 (fun hc216 => ?_) (fun hc216 => ?_)
                                          | refine k_if_ne C (tgt := 247) (by decide) dL_caravan_216 (fun hc216 => ?_) (fun hc216 => ?_)
                                          · skip
                                            first
                                            | omega
                                            | exact absurd hc216 (by decide)
                                            | exact absurd hc216 (nI_pos (by omega))
                                            | exact absurd (nI_pos' (by omega)) hc216
                                            | exact absurd rfl hc216
                                            | exact absurd hc216 (nI_ne0 (by omega) (by omega))
                                            | exact hc216 rfl
                                            | contradiction
                                            | exact absurd hc216 (nI_n101 (by omega))
                                            | exact absurd hc216.symm (nI_n101 (by omega))
                                            | (simp_all; done)
                                          · skip
                                            refine k_aload_n C (f := 0) (i := 0) (p := 8) rfl rfl dL_caravan_219 ?_
                                            refine k_bipush C bc_36 dL_caravan_220 ?_
                                            refine k_iload C (i := 7) (p := 1) rfl dL_caravan_222 ?_
                                            refine k_callSq C s_L_163 h_L_call__ (ct_k36 hx1 hrS1 hk2 hv36) rfl rfl (Nat.le_of_ble_eq_true rfl) ⟨Nat.le_of_ble_eq_true rfl, Nat.le_of_ble_eq_true rfl⟩ ⟨rfl, rfl⟩ ⟨by show _ ≤ 2600; (try dsimp only); omega, by show _ ≤ 16000; (try dsimp only); omega⟩ dL_caravan_224 ?_
                                            refine k_iload_n C (f := 3) (i := 3) (p := 5) rfl rfl dL_caravan_227 ?_
                                            first
                                            | refine k_icmpN_ne C (tgt := 247) (by omega) (by omega) (by decide) dL_caravan_228 (fun hc228 => ?_) (fun hc228 => ?_)
                                            | refine k_icmp_ne C (tgt := 247) (by decide) dL_caravan_228 (fun hc228 => ?_) (fun hc228 => ?_)
                                            · skip
                                              first
                                              | omega
                                              | exact absurd hc228 (by decide)
                                              | exact absurd hc228 (nI_pos (by omega))
                                              | exact absurd (nI_pos' (by omega)) hc228
                                              | exact absurd rfl hc228
                                              | exact absurd hc228 (nI_ne0 (by omega) (by omega))
                                              | exact hc228 rfl
                                              | contradiction
                                              | exact absurd hc228 (nI_n101 (by omega))
                                              | exact absurd hc228.symm (nI_n101 (by omega))
                                              | (simp_all; done)
                                            · skip
                                              refine k_aload_n C (f := 0) (i := 0) (p := 8) rfl rfl dL_caravan_231 ?_
                                              refine k_bipush C bc_36 dL_caravan_232 ?_
                                              refine k_iload C (i := 7) (p := 1) rfl dL_caravan_234 ?_
                                              refine k_callSq C s_L_163 h_L_call__ (ct_k36 hx1 hrS1 hk2 hv36) rfl rfl (Nat.le_of_ble_eq_true rfl) ⟨Nat.le_of_ble_eq_true rfl, Nat.le_of_ble_eq_true rfl⟩ ⟨rfl, rfl⟩ ⟨by show _ ≤ 2600; (try dsimp only); omega, by show _ ≤ 16000; (try dsimp only); omega⟩ dL_caravan_236 ?_
                                              refine k_iload_n C (f := 3) (i := 3) (p := 5) rfl rfl dL_caravan_239 ?_
                                              first
                                              | refine k_icmpN_gt C (tgt := 247) (by omega) (by omega) (by decide) dL_caravan_240 (fun hc240 => ?_) (fun hc240 => ?_)
                                              | refine k_icmp_gt C (tgt := 247) (by decide) dL_caravan_240 (fun hc240 => ?_) (fun hc240 => ?_)
                                              · skip
                                                first
                                                | omega
                                                | exact absurd hc240 (by decide)
                                                | exact absurd hc240 (nI_pos (by omega))
                                                | exact absurd (nI_pos' (by omega)) hc240
                                                | exact absurd rfl hc240
                                                | exact absurd hc240 (nI_ne0 (by omega) (by omega))
                                                | exact hc240 rfl
                                                | contradiction
                                                | exact absurd hc240 (nI_n101 (by omega))
                                                | exact absurd hc240.symm (nI_n101 (by omega))
                                                | (simp_all; done)
                                              · skip
                                                refine k_iconst C ic_1 dL_caravan_243 ?_
                                                refine k_goto C (tgt := 248) (by decide) dL_caravan_244 ?_
                                                refine k_istore C (i := 6) (lv := [(6, _), (8, _), (7, _), (5, _), (4, _), (3, _), (2, _), (1, _), (0, _)]) (Nat.le_of_ble_eq_true rfl) rfl dL_caravan_248 ?_
                                                refine k_iload C (i := 8) (p := 1) rfl dL_caravan_250 ?_
                                                refine k_if_ge C (tgt := 258) (by decide) dL_caravan_252 (fun hc252 => ?_) (fun hc252 => ?_)
                                                · skip
                                                  refine k_aload C (i := 4) (p := 4) rfl dL_caravan_258 ?_
                                                  refine k_iload C (i := 8) (p := 1) rfl dL_caravan_260 ?_
                                                  refine k_dup2 C rfl rfl dL_caravan_262 ?_
                                                  refine k_iald C (hsh) (rfl) (by omega) (by decide) (hs1 j hj) dL_caravan_263 ?_
                                                  refine k_aload_n C (f := 0) (i := 0) (p := 8) rfl rfl dL_caravan_264 ?_
                                                  refine k_bipush C bc_32 dL_caravan_265 ?_
                                                  refine k_iload C (i := 7) (p := 2) rfl dL_caravan_267 ?_
                                                  refine k_callSq C s_L_163 h_L_call__ (ct_k32 hx1 hrS1 hk2 rfl) rfl rfl (Nat.le_of_ble_eq_true rfl) ⟨Nat.le_of_ble_eq_true rfl, Nat.le_of_ble_eq_true rfl⟩ ⟨rfl, rfl⟩ ⟨by show _ ≤ 2600; (try dsimp only); omega, by show _ ≤ 16000; (try dsimp only); omega⟩ dL_caravan_269 ?_
                                                  refine k_iadd C dL_caravan_272 ?_
                                                  refine k_iast C (hsh) (rfl) (by omega) (by decide) dL_caravan_273 ?_
                                                  have hS2 : ∀ b : Nat, b ≠ h → am_up S h j (sp_carTo r (nI j) k + r (140 + 4 * k)) b = I b := fun b hb => (am_up_ne hb).trans (hS b hb)
                                                  have hs2 : ∀ i : Nat, i < sp_nc r → am_up S h j (sp_carTo r (nI j) k + r (140 + 4 * k)) h i = sp_carTo r (nI i) (k + 1) := fun i hi => by
                                                    by_cases e : i = j
                                                    · subst e
                                                      rw [am_up_eq, sp_carTo_t hcar]
                                                    · rw [am_up_n2 (fun z => e z.2), hs1 i hi, sp_carTo_f (fun z => e (nI_inj (by omega) (by omega) (z.symm.trans hcar)))]
                                                  have hrS2 := hrS _ hS2
                                                  generalize am_up S h j (sp_carTo r (nI j) k + r (140 + 4 * k)) = S2 at hS2 hs2 hrS2 ⊢
                                                  refine k_iload C (i := 5) (p := 3) rfl dL_caravan_274 ?_
                                                  refine k_aload_n C (f := 0) (i := 0) (p := 8) rfl rfl dL_caravan_276 ?_
                                                  refine k_bipush C bc_33 dL_caravan_277 ?_
                                                  refine k_iload C (i := 7) (p := 2) rfl dL_caravan_279 ?_
                                                  refine k_callSq C s_L_163 h_L_call__ (ct_k33 hx1 hrS2 hk2 rfl) rfl rfl (Nat.le_of_ble_eq_true rfl) ⟨Nat.le_of_ble_eq_true rfl, Nat.le_of_ble_eq_true rfl⟩ ⟨rfl, rfl⟩ ⟨by show _ ≤ 2600; (try dsimp only); omega, by show _ ≤ 16000; (try dsimp only); omega⟩ dL_caravan_281 ?_
                                                  refine k_iadd C dL_caravan_284 ?_
                                                  refine k_istore C (i := 5) (lv := [(5, _), (6, _), (8, _), (7, _), (4, _), (3, _), (2, _), (1, _), (0, _)]) (Nat.le_of_ble_eq_true rfl) rfl dL_caravan_285 ?_
                                                  refine k_iinc C (i := 7) (p := 3) (lv := [(7, _), (5, _), (6, _), (8, _), (4, _), (3, _), (2, _), (1, _), (0, _)]) (Nat.le_of_ble_eq_true rfl) rfl (by first | exact am_inc1 _ | rfl) rfl dL_caravan_287 ?_
                                                  refine k_goto C (tgt := 159) (by decide) dL_caravan_290 ?_
                                                  refine k_sub [0, 2, 1, 4, 5, 6, 7, 8] rfl ?_
                                                  rw [← sp_cvalTo_f hne]
                                                  refine k_widen ?_ ?_ (ih159 (k + 1) S2 (by omega) hS2 hs2 (by omega))
                                                  · (try dsimp only); omega
                                                  · (try dsimp only); omega
                                                · skip
                                                  first
                                                  | omega
                                                  | exact absurd hc252 (by decide)
                                                  | exact absurd hc252 (nI_pos (by omega))
                                                  | exact absurd (nI_pos' (by omega)) hc252
                                                  | exact absurd rfl hc252
                                                  | exact absurd hc252 (nI_ne0 (by omega) (by omega))
                                                  | exact hc252 rfl
                                                  | contradiction
                                                  | exact absurd hc252 (nI_n101 (by omega))
                                                  | exact absurd hc252.symm (nI_n101 (by omega))
                                                  | (simp_all; done)
                                    · skip
                                      first
                                      | omega
                                      | exact absurd hc190 (by decide)
                                      | exact absurd hc190 (nI_pos (by omega))
                                      | exact absurd (nI_pos' (by omega)) hc190
                                      | exact absurd rfl hc190
                                      | exact absurd hc190 (nI_ne0 (by omega) (by omega))
                                      | exact hc190 rfl
                                      | contradiction
                                      | exact absurd hc190 (nI_n101 (by omega))
                                      | exact absurd hc190.symm (nI_n101 (by omega))
                                      | (simp_all; done)
                          refine k_sub [0, 1, 2, 3, 4, 5, 6, 7] rfl ?_
                          refine k_widen ?_ ?_ (loop159 (sp_nl r + 1) 0 I1 (Nat.zero_le _) hol (fun j hj => by rw [hz0]; rfl) (by omega))
                          · (try dsimp only); omega
                          · (try dsimp only); omega
            by_cases hec : km = L
            · skip
              have hab : am_b (r 0 ≤ r 1) = nI 1 := (am_bt (by rw [hL, hk]; exact nI_le (by omega) (by omega))).symm
              refine k_aload_n C (f := 0) (i := 0) (p := 5) rfl rfl dL_caravan_53 ?_
              refine k_callVp C s_L_232 h_X5_hasArrived (L5_s (by assumption)) rfl (ct_X5_hasArrived (by first | assumption | omega) (by first | assumption | omega)) rfl rfl (Nat.le_of_ble_eq_true rfl) ⟨Nat.le_of_ble_eq_true rfl, Nat.le_of_ble_eq_true rfl⟩ ⟨by show _ ≤ 2600; (try dsimp only); omega, by show _ ≤ 16000; (try dsimp only); omega⟩ ⟨rfl, rfl⟩ dL_caravan_54 ?_
              rw [hab]
              refine k_iload_n C (f := 3) (i := 3) (p := 2) rfl rfl dL_caravan_57 ?_
              refine k_aload_n C (f := 0) (i := 0) (p := 5) rfl rfl dL_caravan_58 ?_
              refine k_callVp C s_L_231 h_X5_length (L5_s (by assumption)) rfl (ct_X5_length (by first | assumption | omega) (by first | assumption | omega)) rfl rfl (Nat.le_of_ble_eq_true rfl) ⟨Nat.le_of_ble_eq_true rfl, Nat.le_of_ble_eq_true rfl⟩ ⟨by show _ ≤ 2600; (try dsimp only); omega, by show _ ≤ 16000; (try dsimp only); omega⟩ ⟨rfl, rfl⟩ dL_caravan_59 ?_
              rw [hL]
              first
              | refine k_icmpN_ne C (tgt := 69) (by omega) (by omega) (by decide) dL_caravan_62 (fun hc62 => ?_) (fun hc62 => ?_)
              | refine k_icmp_ne C (tgt := 69) (by decide) dL_caravan_62 (fun hc62 => ?_) (fun hc62 => ?_)
              · skip
                first
                | omega
                | exact absurd hc62 (by decide)
                | exact absurd hc62 (nI_pos (by omega))
                | exact absurd (nI_pos' (by omega)) hc62
                | exact absurd rfl hc62
                | exact absurd hc62 (nI_ne0 (by omega) (by omega))
                | exact hc62 rfl
                | contradiction
                | exact absurd hc62 (nI_n101 (by omega))
                | exact absurd hc62.symm (nI_n101 (by omega))
                | (simp_all; done)
              · skip
                refine k_iconst C ic_1 dL_caravan_65 ?_
                refine k_goto C (tgt := 70) (by decide) dL_caravan_66 ?_
                first
                | refine k_icmpN_ne C (tgt := 153) (by omega) (by omega) (by decide) dL_caravan_70 (fun hc70 => ?_) (fun hc70 => ?_)
                | refine k_icmp_ne C (tgt := 153) (by decide) dL_caravan_70 (fun hc70 => ?_) (fun hc70 => ?_)
                · skip
                  first
                  | omega
                  | exact absurd hc70 (by decide)
                  | exact absurd hc70 (nI_pos (by omega))
                  | exact absurd (nI_pos' (by omega)) hc70
                  | exact absurd rfl hc70
                  | exact absurd hc70 (nI_ne0 (by omega) (by omega))
                  | exact hc70 rfl
                  | contradiction
                  | exact absurd hc70 (nI_n101 (by omega))
                  | exact absurd hc70.symm (nI_n101 (by omega))
                  | (simp_all; done)
                · skip
                  refine k_sub [0, 1, 2, 3, 4, 5] rfl ?_
                  refine k_widen ?_ ?_ (join73 ())
                  · (try dsimp only); omega
                  · (try dsimp only); omega
            · skip
              have hab : am_b (r 0 ≤ r 1) = nI 0 := (am_bf (by rw [hL, hk]; exact nI_ge (by omega) (by omega))).symm
              refine k_aload_n C (f := 0) (i := 0) (p := 5) rfl rfl dL_caravan_53 ?_
              refine k_callVp C s_L_232 h_X5_hasArrived (L5_s (by assumption)) rfl (ct_X5_hasArrived (by first | assumption | omega) (by first | assumption | omega)) rfl rfl (Nat.le_of_ble_eq_true rfl) ⟨Nat.le_of_ble_eq_true rfl, Nat.le_of_ble_eq_true rfl⟩ ⟨by show _ ≤ 2600; (try dsimp only); omega, by show _ ≤ 16000; (try dsimp only); omega⟩ ⟨rfl, rfl⟩ dL_caravan_54 ?_
              rw [hab]
              refine k_iload_n C (f := 3) (i := 3) (p := 2) rfl rfl dL_caravan_57 ?_
              refine k_aload_n C (f := 0) (i := 0) (p := 5) rfl rfl dL_caravan_58 ?_
              refine k_callVp C s_L_231 h_X5_length (L5_s (by assumption)) rfl (ct_X5_length (by first | assumption | omega) (by first | assumption | omega)) rfl rfl (Nat.le_of_ble_eq_true rfl) ⟨Nat.le_of_ble_eq_true rfl, Nat.le_of_ble_eq_true rfl⟩ ⟨by show _ ≤ 2600; (try dsimp only); omega, by show _ ≤ 16000; (try dsimp only); omega⟩ ⟨rfl, rfl⟩ dL_caravan_59 ?_
              rw [hL]
              first
              | refine k_icmpN_ne C (tgt := 69) (by omega) (by omega) (by decide) dL_caravan_62 (fun hc62 => ?_) (fun hc62 => ?_)
              | refine k_icmp_ne C (tgt := 69) (by decide) dL_caravan_62 (fun hc62 => ?_) (fun hc62 => ?_)
              · skip
                refine k_iconst C ic_0 dL_caravan_69 ?_
                first
                | refine k_icmpN_ne C (tgt := 153) (by omega) (by omega) (by decide) dL_caravan_70 (fun hc70 => ?_) (fun hc70 => ?_)
                | refine k_icmp_ne C (tgt := 153) (by decide) dL_caravan_70 (fun hc70 => ?_) (fun hc70 => ?_)
                · skip
                  first
                  | omega
                  | exact absurd hc70 (by decide)
                  | exact absurd hc70 (nI_pos (by omega))
                  | exact absurd (nI_pos' (by omega)) hc70
                  | exact absurd rfl hc70
                  | exact absurd hc70 (nI_ne0 (by omega) (by omega))
                  | exact hc70 rfl
                  | contradiction
                  | exact absurd hc70 (nI_n101 (by omega))
                  | exact absurd hc70.symm (nI_n101 (by omega))
                  | (simp_all; done)
                · skip
                  refine k_sub [0, 1, 2, 3, 4, 5] rfl ?_
                  refine k_widen ?_ ?_ (join73 ())
                  · (try dsimp only); omega
                  · (try dsimp only); omega
              · skip
                first
                | omega
                | exact absurd hc62 (by decide)
                | exact absurd hc62 (nI_pos (by omega))
                | exact absurd (nI_pos' (by omega)) hc62
                | exact absurd rfl hc62
                | exact absurd hc62 (nI_ne0 (by omega) (by omega))
                | exact hc62 rfl
                | contradiction
                | exact absurd hc62 (nI_n101 (by omega))
                | exact absurd hc62.symm (nI_n101 (by omega))
                | (simp_all; done)
