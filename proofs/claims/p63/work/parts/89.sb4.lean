/-! ===== a builder is made; a text comes out of it ===== -/
theorem ii_J0 : Cond.instantiable RJ0 4 ∈ am_tbl := am_wd 1167 (by decide +kernel) rfl
theorem in_J0 : Cond.initialized RJ0 ∈ am_tbl := am_wd 31 (by decide +kernel) rfl
theorem ii_J4 : Cond.instantiable RJ4 4 ∈ am_tbl := am_wd 979 (by decide +kernel) rfl
theorem in_J4 : Cond.initialized RJ4 ∈ am_tbl := am_wd 47 (by decide +kernel) rfl
def am_ini (b n : Nat) (tx : Nat → Nat) (Λ : am_L) (I : am_I) : am_PT := fun w Λ' I' _ => w = none ∧ SKp b b Λ I Λ' I' ∧ ∃ v' cap' : Nat, (Λ.1 v').1 = 0 ∧ cap' ≤ 700 ∧ SbAt Λ' I' b v' cap' n tx
theorem ini_end {Λ : am_L} {I I2 : am_I} {b h N : Nat} (hs : Λ.1 b = (1, 6)) (hN : N ≤ 700) (hh : ∀ a : Nat, (Λ.1 a).1 ≠ 0 → a < h) (h0 : ∀ a : Nat, a ≠ b → a ≠ h → I2 a = I a) (h1 : I2 h = fun _ => 0) (h2 : I2 b = fun _ => 0) :
    SKp b b Λ I ((am_nS Λ h (3, N)).1, am_ur (am_nS Λ h (3, N)).2 b 0 (some h)) I2 ∧ (Λ.1 h).1 = 0 ∧ SbAt ((am_nS Λ h (3, N)).1, am_ur (am_nS Λ h (3, N)).2 b 0 (some h)) I2 b h N 0 (fun _ => 0) := by
  have hbh : b ≠ h := fun e => by have := hh b (by rw [hs]; exact Nat.one_ne_zero); omega
  refine ⟨fun a ha => ?_, fresh0 hh, (nS_ne hbh).trans hs, by simp [am_ur], by rw [h2]; rfl, by rw [h2]; rfl, Nat.zero_le _, ⟨nS_eq, by omega, fun j _ => ⟨0, by omega, by rw [h1]; rfl⟩⟩, fun j hj => absurd hj (Nat.not_lt_zero j)⟩
  have q : a ≠ h := fun e => by have := hh a ha; omega
  exact ⟨nS_ne q, fun hb => ⟨(am_ur_ne hb).trans (nR_ne q), fun _ => h0 a hb q⟩⟩
def am_cpr (v n : Nat) (Λ : am_L) (I : am_I) : am_PT := fun w Λ' I' _ => ∃ h : Nat, w = some (.ref h) ∧ (Λ.1 h).1 = 0 ∧ KPs Λ I Λ' I' ∧ Λ'.1 h = (3, n) ∧ ∀ j : Nat, j < n → I' h j = I v j
theorem cpr_end {Λ : am_L} {I : am_I} {J' : am_J} {v h n : Nat} (hv : (Λ.1 v).1 ≠ 0) (hh : ∀ a : Nat, (Λ.1 a).1 ≠ 0 → a < h) : am_cpr v n Λ I (some (.ref h)) (am_nS Λ h (3, n)) (am_cx (am_nI I h) h v 0 0 n) J' := by
  obtain ⟨h', e, a1, a2, a3, a4, -⟩ := cpo_end (J' := J') (N := n) (cap := n) (I := I) hv hh
  cases e
  exact ⟨h, rfl, a1, a2, a3, a4⟩
theorem cpr_clone {Λ : am_L} {I : am_I} {J' : am_J} {v h n : Nat} (hh : ∀ a : Nat, (Λ.1 a).1 ≠ 0 → a < h) : am_cpr v n Λ I (some (.ref h)) (am_nS Λ h (3, n)) (fun b => if b = h then I v else I b) J' := by
  refine ⟨h, rfl, fresh0 hh, fun a ha => ?_, nS_eq, fun j _ => congrFun (if_pos rfl) j⟩
  have q : a ≠ h := fun e => by have := hh a ha; omega
  exact ⟨nS_ne q, nR_ne q, if_neg q⟩
def am_str (s n : Nat) (tx : Nat → Nat) (Λ : am_L) (I : am_I) : am_PT := fun w Λ' I' _ => w = none ∧ SKp s s Λ I Λ' I' ∧ ∃ v' : Nat, (Λ.1 v').1 = 0 ∧ StAt Λ' I' s v' n tx
theorem str_end {Λ Λ2 : am_L} {I I1 I2 : am_I} {J' : am_J} {b v cap n s h : Nat} {tx : Nat → Nat} (hsb : SbAt Λ I b v cap n tx) (hs : Λ.1 s = (1, 7)) (hz : I s = fun _ => 0) (h1 : I1 = am_up I s 1 (nI 0)) (hf : (Λ.1 h).1 = 0) (hkp : KPs Λ I1 Λ2 I2) (hsh : Λ2.1 h = (3, n)) (hc : ∀ j : Nat, j < n → I2 h j = I1 v j) : am_str s n tx Λ I none (Λ2.1, am_ur Λ2.2 s 0 (some h)) I2 J' := by
  obtain ⟨a1, a2, a3, a4, a5, a6, a7⟩ := hsb
  have hvs : v ≠ s := fun e => by have e1 := a6.1; rw [e, hs] at e1; cases e1
  have e1 : ∀ a : Nat, a ≠ s → I1 a = I a := fun a q => by rw [h1]; exact am_up_ne q
  obtain ⟨s1, s2, s3⟩ := hkp s (by rw [hs]; exact Nat.one_ne_zero)
  refine ⟨rfl, fun a ha => ?_, h, hf, s1.trans hs, by simp [am_ur], by rw [s3, h1]; exact am_up_eq, ⟨hsh, by have := a6.2.1; omega, fun j hj => ?_⟩, fun j hj => ?_⟩
  · obtain ⟨q1, q2, q3⟩ := hkp a ha
    exact ⟨q1, fun q => ⟨(am_ur_ne q).trans q2, fun _ => q3.trans (e1 a q)⟩⟩
  · rw [hc j hj, e1 v hvs]; exact a6.2.2 j (by omega)
  · rw [hc j hj, e1 v hvs]; exact a7 j hj
def am_tos (n : Nat) (tx : Nat → Nat) (Λ : am_L) (I : am_I) : am_PT := fun w Λ' I' _ => ∃ s v' : Nat, w = some (.ref s) ∧ KPs Λ I Λ' I' ∧ (Λ.1 s).1 = 0 ∧ (Λ.1 v').1 = 0 ∧ StAt Λ' I' s v' n tx
set_option maxHeartbeats 4000000 in
set_option maxRecDepth 100000 in
theorem ct_J5_init_d00df {G : am_G} {Λ : am_L} {I : am_I} {J : am_J} {b N : Nat} (hs : Λ.1 b = (1, 6)) (hz : I b = fun _ => 0) (hN : N ≤ 700) : am_Ct G yJ5_init_d00df cJ5_init_d00df 2 none { frames := 1, cells := 1, slots := 700, locals := 100 } [.ref b, .int (nI N)] Λ I J (am_ini b 0 (fun _ => 0) Λ I) am_never := by
  refine am_ct_of (own := RJ5) rfl (by decide) (Nat.le_of_ble_eq_true rfl) (fun X C => ?_)
  change am_K G X { frames := 1, cells := 1, slots := 700, locals := 100 } 2 Λ I J 0 0 0 [(0, .ref b), (1, .int (nI N))] []
  refine k_aload_n C (f := 0) (i := 0) (p := 0) rfl rfl dJ5_init_d00df_0 ?_
  refine k_objInit C (m_J5_3) ⟨Nat.le_of_ble_eq_true rfl, Nat.le_of_ble_eq_true rfl⟩ dJ5_init_d00df_1 ?_
  refine k_scmp C f_J5_18 dJ5_init_d00df_4 ?_
  first
  | refine k_ifb_eq C (tgt := 25) (by decide) dJ5_init_d00df_7 (fun hc7 => ?_) (fun hc7 => ?_)
  | refine k_if_eq C (tgt := 25) (by decide) dJ5_init_d00df_7 (fun hc7 => ?_) (fun hc7 => ?_)
  · skip
    first
    | exact absurd hc7 (by decide)
    | exact absurd (by decide) hc7
  · skip
    refine k_aload_n C (f := 0) (i := 0) (p := 0) rfl rfl dJ5_init_d00df_10 ?_
    refine k_iload_n C (f := 1) (i := 1) (p := 1) rfl rfl dJ5_init_d00df_11 ?_
    refine k_newA2 C am_ar_b (rfl) (by omega) (Or.inr (Or.inl ⟨rfl, rfl⟩)) ⟨by show _ ≤ 1; (try dsimp only); omega, by show _ ≤ 700; (try dsimp only); omega⟩ dJ5_init_d00df_12 (fun h hh12 => ?_)
    have hbh : b ≠ h := fun e => by have := hh12 b (by rw [hs]; exact Nat.one_ne_zero); omega
    have hb1 : (am_nS Λ h (3, N)).1 b = (1, 6) := (nS_ne hbh).trans hs
    refine k_putR C f_J5_15 hb1 rfl rfl dJ5_init_d00df_14 ?_
    refine k_aload_n C (f := 0) (i := 0) (p := 0) rfl rfl dJ5_init_d00df_17 ?_
    refine k_iconst C ic_0 dJ5_init_d00df_18 ?_
    refine k_putB C f_J5_22 hb1 rfl rfl dJ5_init_d00df_19 ?_
    refine k_goto C (tgt := 38) (by decide) dJ5_init_d00df_22 ?_
    exact k_vret C (by show _ ≤ 1; (try dsimp only); omega) (by show _ ≤ 700; (try dsimp only); omega) (by
      obtain ⟨e1, e2, e3⟩ := ini_end (I := I) (I2 := am_up (am_nI I h) b 1 (nI 0)) hs hN hh12 (fun a q1 q2 => (am_up_ne q1).trans (nI_old q2)) ((am_up_ne hbh.symm).trans nI_new) (by funext j; by_cases e : j = 1; (subst e; rw [am_up_eq]; rfl); (rw [am_up_n2 (fun z => e z.2), nI_old hbh, hz]))
      exact ⟨rfl, e1, h, N, e2, hN, e3⟩) dJ5_init_d00df_38
set_option maxHeartbeats 4000000 in
set_option maxRecDepth 100000 in
theorem ct_J4_init_da8c8 {G : am_G} {Λ : am_L} {I : am_I} {J : am_J} {b : Nat} (hs : Λ.1 b = (1, 6)) (hz : I b = fun _ => 0) : am_Ct G yJ4_init_da8c8 cJ4_init_da8c8 1 none { frames := 2, cells := 1, slots := 700, locals := 160 } [.ref b] Λ I J (am_ini b 0 (fun _ => 0) Λ I) am_never := by
  refine am_ct_of (own := RJ4) rfl (by decide) (Nat.le_of_ble_eq_true rfl) (fun X C => ?_)
  change am_K G X { frames := 2, cells := 1, slots := 700, locals := 160 } 1 Λ I J 0 0 0 [(0, .ref b)] []
  refine k_aload_n C (f := 0) (i := 0) (p := 0) rfl rfl dJ4_init_da8c8_0 ?_
  refine k_bipush C bc_16 dJ4_init_da8c8_1 ?_
  refine k_callIl C s_J4_1 h_J5_init_d00df (ct_J5_init_d00df (N := 16) hs hz (by omega)) rfl rfl (Nat.le_of_ble_eq_true rfl) ⟨Nat.le_of_ble_eq_true rfl, Nat.le_of_ble_eq_true rfl⟩ ⟨rfl, rfl⟩ ⟨by show _ ≤ 1; (try dsimp only); omega, by show _ ≤ 700; (try dsimp only); omega⟩ dJ4_init_da8c8_3 ?_
  intro w0 Λ2 I2 J2 hv
  obtain ⟨rfl, hv⟩ := hv
  show am_K G X _ _ _ _ _ _ _ _ _ ([])
  exact k_vret C (by show _ ≤ 1; (try dsimp only); omega) (by show _ ≤ 700; (try dsimp only); omega) (⟨rfl, hv⟩) dJ4_init_da8c8_6
set_option maxHeartbeats 4000000 in
set_option maxRecDepth 100000 in
theorem ct_J5_init_a7421 {G : am_G} {Λ : am_L} {I : am_I} {J : am_J} {b i w : Nat} {sx : Nat → Nat} (hs : Λ.1 b = (1, 6)) (hz : I b = fun _ => 0) (hcs : CsOk i w sx) : am_Ct G yJ5_init_a7421 cJ5_init_a7421 5 none { frames := 7, cells := 2, slots := 800, locals := 520 } [.ref b, .ref (G.2.2.2.2.1 i)] Λ I J (am_ini b (0 + w) (sb_cat (fun _ => 0) 0 sx) Λ I) am_never := by
  refine am_ct_of (own := RJ5) rfl (by decide) (Nat.le_of_ble_eq_true rfl) (fun X C => ?_)
  change am_K G X { frames := 7, cells := 2, slots := 800, locals := 520 } 5 Λ I J 0 0 0 [(0, .ref b), (1, .ref (G.2.2.2.2.1 i))] []
  obtain ⟨hi, hw, hw9, hch⟩ := hcs
  refine k_aload_n C (f := 0) (i := 0) (p := 0) rfl rfl dJ5_init_a7421_0 ?_
  refine k_objInit C (m_J5_3) ⟨Nat.le_of_ble_eq_true rfl, Nat.le_of_ble_eq_true rfl⟩ dJ5_init_a7421_1 ?_
  refine k_aload_n C (f := 1) (i := 1) (p := 1) rfl rfl dJ5_init_a7421_4 ?_
  refine k_callKp C s_J5_32 h_J0_length_8abf5 hi (ct_J0_length_8abf5 hi) rfl rfl (Nat.le_of_ble_eq_true rfl) ⟨Nat.le_of_ble_eq_true rfl, Nat.le_of_ble_eq_true rfl⟩ ⟨by show _ ≤ 2; (try dsimp only); omega, by show _ ≤ 800; (try dsimp only); omega⟩ ⟨rfl, rfl⟩ dJ5_init_a7421_5 ?_
  rw [hw]
  refine k_istore_n C (f := 2) (i := 2) (lv := [(2, _), (0, _), (1, _)]) rfl (Nat.le_of_ble_eq_true rfl) rfl dJ5_init_a7421_8 ?_
  refine k_iload_n C (f := 2) (i := 2) (p := 0) rfl rfl dJ5_init_a7421_9 ?_
  refine k_ldcI C ki_J5_38 dJ5_init_a7421_10 ?_
  rw [show (2147483631 : Int32) = nI 2147483631 from rfl]
  first
  | refine k_icmpN_ge C (tgt := 22) (by omega) (by omega) (by decide) dJ5_init_a7421_12 (fun hc12 => ?_) (fun hc12 => ?_)
  | refine k_icmp_ge C (tgt := 22) (by decide) dJ5_init_a7421_12 (fun hc12 => ?_) (fun hc12 => ?_)
  · skip
    first
    | omega
    | exact absurd hc12 (nI_ge (by omega) (by omega))
    | exact absurd hc12 (by decide)
    | exact absurd hc12 (nI_pos (by omega))
    | exact absurd (nI_pos' (by omega)) hc12
    | exact absurd rfl hc12
    | exact absurd hc12 (nI_ne0 (by omega) (by omega))
    | exact hc12 rfl
    | contradiction
    | exact absurd hc12 (nI_n101 (by omega))
    | exact absurd hc12.symm (nI_n101 (by omega))
    | (simp_all; done)
  · skip
    refine k_iload_n C (f := 2) (i := 2) (p := 0) rfl rfl dJ5_init_a7421_15 ?_
    refine k_bipush C bc_16 dJ5_init_a7421_16 ?_
    refine k_iadd C dJ5_init_a7421_18 ?_
    rw [nI_add]
    refine k_goto C (tgt := 24) (by decide) dJ5_init_a7421_19 ?_
    refine k_istore_n C (f := 3) (i := 3) (lv := [(3, _), (2, _), (0, _), (1, _)]) rfl (Nat.le_of_ble_eq_true rfl) rfl dJ5_init_a7421_24 ?_
    refine k_aload_n C (f := 1) (i := 1) (p := 3) rfl rfl dJ5_init_a7421_25 ?_
    refine k_callKp C s_J5_40 h_J0_coder_7d493 hi (ct_J0_coder_7d493 hi) rfl rfl (Nat.le_of_ble_eq_true rfl) ⟨Nat.le_of_ble_eq_true rfl, Nat.le_of_ble_eq_true rfl⟩ ⟨by show _ ≤ 2; (try dsimp only); omega, by show _ ≤ 800; (try dsimp only); omega⟩ ⟨rfl, rfl⟩ dJ5_init_a7421_26 ?_
    show am_K G X _ _ _ _ _ _ _ _ _ (.int (nI 0) :: _)
    refine k_istore C (i := 4) (lv := [(4, _), (3, _), (2, _), (0, _), (1, _)]) (Nat.le_of_ble_eq_true rfl) rfl dJ5_init_a7421_29 ?_
    refine k_aload_n C (f := 0) (i := 0) (p := 3) rfl rfl dJ5_init_a7421_31 ?_
    refine k_iload C (i := 4) (p := 0) rfl dJ5_init_a7421_32 ?_
    refine k_putB C f_J5_22 hs rfl rfl dJ5_init_a7421_34 ?_
    refine k_aload_n C (f := 0) (i := 0) (p := 3) rfl rfl dJ5_init_a7421_37 ?_
    refine k_iload C (i := 4) (p := 0) rfl dJ5_init_a7421_38 ?_
    first
    | refine k_ifb_ne C (tgt := 49) (by decide) dJ5_init_a7421_40 (fun hc40 => ?_) (fun hc40 => ?_)
    | refine k_if_ne C (tgt := 49) (by decide) dJ5_init_a7421_40 (fun hc40 => ?_) (fun hc40 => ?_)
    · skip
      first
      | exact absurd hc40 (by decide)
      | exact absurd (by decide) hc40
    · skip
      refine k_iload_n C (f := 3) (i := 3) (p := 1) rfl rfl dJ5_init_a7421_43 ?_
      refine k_newA2 C am_ar_b (rfl) (by omega) (Or.inr (Or.inl ⟨rfl, rfl⟩)) ⟨by show _ ≤ 2; (try dsimp only); omega, by show _ ≤ 800; (try dsimp only); omega⟩ dJ5_init_a7421_44 (fun h hh44 => ?_)
      have hbh : b ≠ h := fun e => by have := hh44 b (by rw [hs]; exact Nat.one_ne_zero); omega
      have hb1 : (am_nS Λ h (3, w + 16)).1 b = (1, 6) := (nS_ne hbh).trans hs
      refine k_goto C (tgt := 53) (by decide) dJ5_init_a7421_46 ?_
      refine k_putR C f_J5_15 hb1 rfl rfl dJ5_init_a7421_53 ?_
      obtain ⟨e1, e2, hsb1⟩ := ini_end (I := I) (I2 := am_nI (am_up I b 1 (nI 0)) h) hs (show w + 16 ≤ 700 by omega) hh44 (fun a q1 q2 => (nI_old q2).trans (am_up_ne q1)) nI_new (by rw [nI_old hbh]; funext j; by_cases e : j = 1; (subst e; rw [am_up_eq]; rfl); (rw [am_up_n2 (fun z => e z.2), hz]))
      refine k_aload_n C (f := 0) (i := 0) (p := 3) rfl rfl dJ5_init_a7421_56 ?_
      refine k_aload_n C (f := 1) (i := 1) (p := 4) rfl rfl dJ5_init_a7421_57 ?_
      refine k_callWl C s_J5_43 h_J5_append_cf1ce h_J4_append_cf1ce (hsb1.1) rfl (ct_appCb hsb1 ⟨hi, hw, hw9, hch⟩ (by omega) (by omega)) rfl rfl (Nat.le_of_ble_eq_true rfl) ⟨Nat.le_of_ble_eq_true rfl, Nat.le_of_ble_eq_true rfl⟩ ⟨rfl, rfl⟩ ⟨by show _ ≤ 2; (try dsimp only); omega, by show _ ≤ 800; (try dsimp only); omega⟩ dJ5_init_a7421_58 ?_
      intro w0 Λ2 I2 J2 hv
      obtain ⟨rfl, hsk, v2, cap2, hv2, hc2, hsb2⟩ := hv
      show am_K G X _ _ _ _ _ _ _ _ _ (.ref b :: [])
      refine k_pop C rfl dJ5_init_a7421_61 ?_
      exact k_vret C (by show _ ≤ 2; (try dsimp only); omega) (by show _ ≤ 800; (try dsimp only); omega) (⟨rfl, fun a ha => by
        obtain ⟨q1, q2⟩ := e1 a ha
        obtain ⟨p1, p2⟩ := hsk a (by rw [q1]; exact ha)
        exact ⟨p1.trans q1, fun q => ⟨(p2 q).1.trans (q2 q).1, fun _ => ((p2 q).2 (fun z => by rw [z, e2] at ha; exact ha rfl)).trans ((q2 q).2 q)⟩⟩, v2, cap2, by
        rcases hv2 with z | z
        · rw [z]; exact e2
        · by_cases e : (Λ.1 v2).1 = 0
          · exact e
          · rw [(e1 v2 e).1] at z; exact absurd z e, hc2, hsb2⟩) dJ5_init_a7421_62
set_option maxHeartbeats 4000000 in
set_option maxRecDepth 100000 in
theorem ct_J4_init_a7421 {G : am_G} {Λ : am_L} {I : am_I} {J : am_J} {b i w : Nat} {sx : Nat → Nat} (hs : Λ.1 b = (1, 6)) (hz : I b = fun _ => 0) (hcs : CsOk i w sx) : am_Ct G yJ4_init_a7421 cJ4_init_a7421 2 none { frames := 8, cells := 2, slots := 800, locals := 600 } [.ref b, .ref (G.2.2.2.2.1 i)] Λ I J (am_ini b (0 + w) (sb_cat (fun _ => 0) 0 sx) Λ I) am_never := by
  refine am_ct_of (own := RJ4) rfl (by decide) (Nat.le_of_ble_eq_true rfl) (fun X C => ?_)
  change am_K G X { frames := 8, cells := 2, slots := 800, locals := 600 } 2 Λ I J 0 0 0 [(0, .ref b), (1, .ref (G.2.2.2.2.1 i))] []
  refine k_aload_n C (f := 0) (i := 0) (p := 0) rfl rfl dJ4_init_a7421_0 ?_
  refine k_aload_n C (f := 1) (i := 1) (p := 1) rfl rfl dJ4_init_a7421_1 ?_
  refine k_callIl C s_J4_7 h_J5_init_a7421 (ct_J5_init_a7421 hs hz hcs) rfl rfl (Nat.le_of_ble_eq_true rfl) ⟨Nat.le_of_ble_eq_true rfl, Nat.le_of_ble_eq_true rfl⟩ ⟨rfl, rfl⟩ ⟨by show _ ≤ 2; (try dsimp only); omega, by show _ ≤ 800; (try dsimp only); omega⟩ dJ4_init_a7421_2 ?_
  intro w0 Λ2 I2 J2 hv
  obtain ⟨rfl, hv⟩ := hv
  show am_K G X _ _ _ _ _ _ _ _ _ ([])
  exact k_vret C (by show _ ≤ 2; (try dsimp only); omega) (by show _ ≤ 800; (try dsimp only); omega) (⟨rfl, hv⟩) dJ4_init_a7421_5
set_option maxHeartbeats 4000000 in
set_option maxRecDepth 100000 in
theorem ct_J5_getValue_6d5f1 {G : am_G} {Λ : am_L} {I : am_I} {J : am_J} {b v cap n : Nat} {tx : Nat → Nat} (hsb : SbAt Λ I b v cap n tx) : am_Ct G yJ5_getValue_6d5f1 cJ5_getValue_6d5f1 1 (some (.array .byte)) { frames := 0, cells := 0, slots := 0, locals := 0 } [.ref b] Λ I J (am_pure (.ref v) Λ I J) am_never := by
  refine am_ct_of (own := RJ5) rfl (by decide) (Nat.le_of_ble_eq_true rfl) (fun X C => ?_)
  change am_K G X { frames := 0, cells := 0, slots := 0, locals := 0 } 1 Λ I J 0 0 0 [(0, .ref b)] []
  refine k_aload_n C (f := 0) (i := 0) (p := 0) rfl rfl dJ5_getValue_6d5f1_0 ?_
  refine k_getR C f_J5_15 hsb.1 (fun _ _ _ => rfl) hsb.2.1 dJ5_getValue_6d5f1_1 ?_
  exact k_aret C (by first | exact Or.inl ⟨_, rfl⟩ | exact Or.inr ⟨_, rfl⟩) (by show _ ≤ 0; (try dsimp only); omega) (by show _ ≤ 0; (try dsimp only); omega) (⟨rfl, rfl, rfl, rfl⟩) dJ5_getValue_6d5f1_4
set_option maxHeartbeats 4000000 in
set_option maxRecDepth 100000 in
theorem ct_J5_length_8abf5 {G : am_G} {Λ : am_L} {I : am_I} {J : am_J} {b v cap n : Nat} {tx : Nat → Nat} (hsb : SbAt Λ I b v cap n tx) : am_Ct G yJ5_length_8abf5 cJ5_length_8abf5 1 (some .int) { frames := 0, cells := 0, slots := 0, locals := 0 } [.ref b] Λ I J (am_pure (.int (nI n)) Λ I J) am_never := by
  refine am_ct_of (own := RJ5) rfl (by decide) (Nat.le_of_ble_eq_true rfl) (fun X C => ?_)
  change am_K G X { frames := 0, cells := 0, slots := 0, locals := 0 } 1 Λ I J 0 0 0 [(0, .ref b)] []
  refine k_aload_n C (f := 0) (i := 0) (p := 0) rfl rfl dJ5_length_8abf5_0 ?_
  refine k_getI C f_J5_79 hsb.1 (fun _ _ _ => rfl) (hsb.2.2.2.1) dJ5_length_8abf5_1 ?_
  exact k_iret C (by show _ ≤ 0; (try dsimp only); omega) (by show _ ≤ 0; (try dsimp only); omega) (⟨rfl, rfl, rfl, rfl⟩) dJ5_length_8abf5_4
set_option maxHeartbeats 4000000 in
set_option maxRecDepth 100000 in
theorem ct_J4_length_8abf5 {G : am_G} {Λ : am_L} {I : am_I} {J : am_J} {b v cap n : Nat} {tx : Nat → Nat} (hsb : SbAt Λ I b v cap n tx) : am_Ct G yJ4_length_8abf5 cJ4_length_8abf5 1 (some .int) { frames := 1, cells := 0, slots := 0, locals := 40 } [.ref b] Λ I J (am_pure (.int (nI n)) Λ I J) am_never := by
  refine am_ct_of (own := RJ4) rfl (by decide) (Nat.le_of_ble_eq_true rfl) (fun X C => ?_)
  change am_K G X { frames := 1, cells := 0, slots := 0, locals := 40 } 1 Λ I J 0 0 0 [(0, .ref b)] []
  refine k_aload_n C (f := 0) (i := 0) (p := 0) rfl rfl dJ4_length_8abf5_0 ?_
  refine k_callPq C s_J4_343 h_J5_length_8abf5 (hsb.1) rfl (by decide) (ct_J5_length_8abf5 hsb) rfl rfl (Nat.le_of_ble_eq_true rfl) ⟨Nat.le_of_ble_eq_true rfl, Nat.le_of_ble_eq_true rfl⟩ ⟨rfl, rfl⟩ ⟨by show _ ≤ 0; (try dsimp only); omega, by show _ ≤ 0; (try dsimp only); omega⟩ dJ4_length_8abf5_1 ?_
  exact k_iret C (by show _ ≤ 0; (try dsimp only); omega) (by show _ ≤ 0; (try dsimp only); omega) (⟨rfl, rfl, rfl, rfl⟩) dJ4_length_8abf5_4
set_option maxHeartbeats 4000000 in
set_option maxRecDepth 100000 in
theorem ct_J7_checkLength_df160 {G : am_G} {Λ : am_L} {I : am_I} {J : am_J} {n : Nat} (hn : n ≤ 1000) : am_Ct G yJ7_checkLength_df160 cJ7_checkLength_df160 2 none { frames := 0, cells := 0, slots := 0, locals := 0 } [.int (nI 0), .int (nI n)] Λ I J (am_gen Λ J (fun w0 I' => w0 = none ∧ I' = I)) am_never := by
  refine am_ct_of (own := RJ7) rfl (by decide) (Nat.le_of_ble_eq_true rfl) (fun X C => ?_)
  change am_K G X { frames := 0, cells := 0, slots := 0, locals := 0 } 2 Λ I J 0 0 0 [(0, .int (nI 0)), (1, .int (nI n))] []
  refine k_iload_n C (f := 1) (i := 1) (p := 1) rfl rfl dJ7_checkLength_df160_0 ?_
  refine k_iload_n C (f := 0) (i := 0) (p := 0) rfl rfl dJ7_checkLength_df160_1 ?_
  first
  | refine k_icmpN_ge C (tgt := 37) (by omega) (by omega) (by decide) dJ7_checkLength_df160_2 (fun hc2 => ?_) (fun hc2 => ?_)
  | refine k_icmp_ge C (tgt := 37) (by decide) dJ7_checkLength_df160_2 (fun hc2 => ?_) (fun hc2 => ?_)
  · skip
    exact k_vret C (by show _ ≤ 0; (try dsimp only); omega) (by show _ ≤ 0; (try dsimp only); omega) (⟨rfl, rfl, rfl, rfl⟩) dJ7_checkLength_df160_37
  · skip
    first
    | omega
    | exact absurd hc2 (nI_ge (by omega) (by omega))
    | exact absurd hc2 (by decide)
    | exact absurd hc2 (nI_pos (by omega))
    | exact absurd (nI_pos' (by omega)) hc2
    | exact absurd rfl hc2
    | exact absurd hc2 (nI_ne0 (by omega) (by omega))
    | exact hc2 rfl
    | contradiction
    | exact absurd hc2 (nI_n101 (by omega))
    | exact absurd hc2.symm (nI_n101 (by omega))
    | (simp_all; done)
set_option maxHeartbeats 4000000 in
set_option maxRecDepth 100000 in
theorem ct_J7_copyOfRangeByte_39247 {G : am_G} {Λ : am_L} {I : am_I} {J : am_J} {v cap n : Nat} (hv : BA Λ I v cap) (hn : n ≤ cap) : am_Ct G yJ7_copyOfRangeByte_39247 cJ7_copyOfRangeByte_39247 5 (some (.array .byte)) { frames := 1, cells := 1, slots := 1000, locals := 100 } [.ref v, .int (nI 0), .int (nI n)] Λ I J (am_cpr v n Λ I) am_never := by
  refine am_ct_of (own := RJ7) rfl (by decide) (Nat.le_of_ble_eq_true rfl) (fun X C => ?_)
  change am_K G X { frames := 1, cells := 1, slots := 1000, locals := 100 } 5 Λ I J 0 0 0 [(0, .ref v), (1, .int (nI 0)), (2, .int (nI n))] []
  have hv9 := hv.2.1
  refine k_iload_n C (f := 1) (i := 1) (p := 1) rfl rfl dJ7_copyOfRangeByte_39247_0 ?_
  refine k_iload_n C (f := 2) (i := 2) (p := 2) rfl rfl dJ7_copyOfRangeByte_39247_1 ?_
  refine k_callSgq C s_J7_343 h_J7_checkLength_df160 (ct_J7_checkLength_df160 (by omega)) rfl rfl (Nat.le_of_ble_eq_true rfl) ⟨Nat.le_of_ble_eq_true rfl, Nat.le_of_ble_eq_true rfl⟩ ⟨rfl, rfl⟩ ⟨by show _ ≤ 1; (try dsimp only); omega, by show _ ≤ 1000; (try dsimp only); omega⟩ dJ7_copyOfRangeByte_39247_2 ?_
  intro w1 I1 hv1
  obtain ⟨rfl, e1⟩ := hv1
  obtain rfl := e1.symm
  show am_K G X _ _ _ _ _ _ _ _ _ ([])
  refine k_iload_n C (f := 2) (i := 2) (p := 2) rfl rfl dJ7_copyOfRangeByte_39247_5 ?_
  refine k_iload_n C (f := 1) (i := 1) (p := 1) rfl rfl dJ7_copyOfRangeByte_39247_6 ?_
  refine k_isub C dJ7_copyOfRangeByte_39247_7 ?_
  rw [pk_sub (Nat.zero_le _), Nat.sub_zero]
  refine k_istore_n C (f := 3) (i := 3) (lv := [(3, _), (0, _), (1, _), (2, _)]) rfl (Nat.le_of_ble_eq_true rfl) rfl dJ7_copyOfRangeByte_39247_8 ?_
  refine k_iload_n C (f := 3) (i := 3) (p := 0) rfl rfl dJ7_copyOfRangeByte_39247_9 ?_
  refine k_newA2 C am_ar_b (rfl) (by omega) (Or.inr (Or.inl ⟨rfl, rfl⟩)) ⟨by show _ ≤ 1; (try dsimp only); omega, by show _ ≤ 1000; (try dsimp only); omega⟩ dJ7_copyOfRangeByte_39247_10 (fun h hh10 => ?_)
  have hsh : (am_nS Λ h (3, n)).1 h = (3, n) := nS_eq
  have hne : v ≠ h := fun e => by have := hh10 v (by rw [hv.1]; exact Nat.succ_ne_zero _); omega
  have hsv : (am_nS Λ h (3, n)).1 v = (3, cap) := (nS_ne hne).trans hv.1
  have hI : am_nI I h v = I v := nI_old hne
  refine k_astore C (i := 4) (lv := [(4, _), (3, _), (0, _), (1, _), (2, _)]) (Nat.le_of_ble_eq_true rfl) rfl dJ7_copyOfRangeByte_39247_12 ?_
  refine k_aload_n C (f := 0) (i := 0) (p := 2) rfl rfl dJ7_copyOfRangeByte_39247_14 ?_
  refine k_iload_n C (f := 1) (i := 1) (p := 3) rfl rfl dJ7_copyOfRangeByte_39247_15 ?_
  refine k_aload C (i := 4) (p := 0) rfl dJ7_copyOfRangeByte_39247_16 ?_
  refine k_iconst C ic_0 dJ7_copyOfRangeByte_39247_18 ?_
  refine k_aload_n C (f := 0) (i := 0) (p := 2) rfl rfl dJ7_copyOfRangeByte_39247_19 ?_
  refine k_lenB C (hsv) dJ7_copyOfRangeByte_39247_20 ?_
  refine k_iload_n C (f := 1) (i := 1) (p := 3) rfl rfl dJ7_copyOfRangeByte_39247_21 ?_
  refine k_isub C dJ7_copyOfRangeByte_39247_22 ?_
  rw [pk_sub (Nat.zero_le _), Nat.sub_zero]
  refine k_iload_n C (f := 3) (i := 3) (p := 1) rfl rfl dJ7_copyOfRangeByte_39247_23 ?_
  refine k_min C (sp_min_nI (by omega) (by omega)) m_J7_304 ⟨Nat.le_of_ble_eq_true rfl, Nat.le_of_ble_eq_true rfl⟩ ⟨by show _ ≤ 1; (try dsimp only); omega, by show _ ≤ 1000; (try dsimp only); omega⟩ dJ7_copyOfRangeByte_39247_24 ?_
  rw [show min cap n = n by omega]
  refine k_copyB C (M := cap) (N := n) (sp := 0) (dp := 0) (m := n) hsv hsh ⟨by omega, by omega, by omega⟩ (by omega) (by omega) (fun i hi => by rw [hI, Nat.zero_add]; exact BA_fit hv (by omega)) m_J7_150 ⟨Nat.le_of_ble_eq_true rfl, Nat.le_of_ble_eq_true rfl⟩ dJ7_copyOfRangeByte_39247_27 ?_
  refine k_aload C (i := 4) (p := 0) rfl dJ7_copyOfRangeByte_39247_30 ?_
  exact k_aret C (by first | exact Or.inl ⟨_, rfl⟩ | exact Or.inr ⟨_, rfl⟩) (by show _ ≤ 1; (try dsimp only); omega) (by show _ ≤ 1000; (try dsimp only); omega) (cpr_end (by rw [hv.1]; exact Nat.succ_ne_zero _) hh10) dJ7_copyOfRangeByte_39247_32
set_option maxHeartbeats 4000000 in
set_option maxRecDepth 100000 in
theorem ct_J7_copyOfRange_39247 {G : am_G} {Λ : am_L} {I : am_I} {J : am_J} {v cap n : Nat} (hv : BA Λ I v cap) (hn : n ≤ cap) : am_Ct G yJ7_copyOfRange_39247 cJ7_copyOfRange_39247 3 (some (.array .byte)) { frames := 2, cells := 1, slots := 1000, locals := 200 } [.ref v, .int (nI 0), .int (nI n)] Λ I J (am_cpr v n Λ I) am_never := by
  refine am_ct_of (own := RJ7) rfl (by decide) (Nat.le_of_ble_eq_true rfl) (fun X C => ?_)
  change am_K G X { frames := 2, cells := 1, slots := 1000, locals := 200 } 3 Λ I J 0 0 0 [(0, .ref v), (1, .int (nI 0)), (2, .int (nI n))] []
  have hv9 := hv.2.1
  refine k_iload_n C (f := 1) (i := 1) (p := 1) rfl rfl dJ7_copyOfRange_39247_0 ?_
  first
  | refine k_ifb_ne C (tgt := 10) (by decide) dJ7_copyOfRange_39247_1 (fun hc1 => ?_) (fun hc1 => ?_)
  | refine k_if_ne C (tgt := 10) (by decide) dJ7_copyOfRange_39247_1 (fun hc1 => ?_) (fun hc1 => ?_)
  · skip
    first
    | exact absurd hc1 (by decide)
    | exact absurd (by decide) hc1
  · skip
    refine k_iload_n C (f := 2) (i := 2) (p := 2) rfl rfl dJ7_copyOfRange_39247_4 ?_
    refine k_aload_n C (f := 0) (i := 0) (p := 0) rfl rfl dJ7_copyOfRange_39247_5 ?_
    refine k_lenB C (hv.1) dJ7_copyOfRange_39247_6 ?_
    first
    | refine k_icmpN_eq C (tgt := 17) (by omega) (by omega) (by decide) dJ7_copyOfRange_39247_7 (fun hc7 => ?_) (fun hc7 => ?_)
    | refine k_icmp_eq C (tgt := 17) (by decide) dJ7_copyOfRange_39247_7 (fun hc7 => ?_) (fun hc7 => ?_)
    · skip
      obtain rfl : n = cap := hc7
      refine k_aload_n C (f := 0) (i := 0) (p := 0) rfl rfl dJ7_copyOfRange_39247_17 ?_
      refine k_clone C hv.1 (fun j hj => BA_fit hv hj) ⟨Nat.le_of_ble_eq_true rfl, Nat.le_of_ble_eq_true rfl⟩ ⟨by show _ ≤ 1; (try dsimp only); omega, by show _ ≤ 1000; (try dsimp only); omega⟩ dJ7_copyOfRange_39247_18 (fun h hh18 => ?_)
      refine k_castB C nS_eq k_J7_311 dJ7_copyOfRange_39247_21 ?_
      exact k_aret C (by first | exact Or.inl ⟨_, rfl⟩ | exact Or.inr ⟨_, rfl⟩) (by show _ ≤ 1; (try dsimp only); omega) (by show _ ≤ 1000; (try dsimp only); omega) (cpr_clone hh18) dJ7_copyOfRange_39247_24
    · skip
      refine k_aload_n C (f := 0) (i := 0) (p := 0) rfl rfl dJ7_copyOfRange_39247_10 ?_
      refine k_iload_n C (f := 1) (i := 1) (p := 1) rfl rfl dJ7_copyOfRange_39247_11 ?_
      refine k_iload_n C (f := 2) (i := 2) (p := 2) rfl rfl dJ7_copyOfRange_39247_12 ?_
      refine k_callSl C s_J7_339 h_J7_copyOfRangeByte_39247 (ct_J7_copyOfRangeByte_39247 hv hn) rfl rfl (Nat.le_of_ble_eq_true rfl) ⟨Nat.le_of_ble_eq_true rfl, Nat.le_of_ble_eq_true rfl⟩ ⟨rfl, rfl⟩ ⟨by show _ ≤ 1; (try dsimp only); omega, by show _ ≤ 1000; (try dsimp only); omega⟩ dJ7_copyOfRange_39247_13 ?_
      intro w0 Λ2 I2 J2 hv2
      obtain ⟨h, rfl, hq⟩ := hv2
      show am_K G X _ _ _ _ _ _ _ _ _ (.ref h :: [])
      exact k_aret C (by first | exact Or.inl ⟨_, rfl⟩ | exact Or.inr ⟨_, rfl⟩) (by show _ ≤ 1; (try dsimp only); omega) (by show _ ≤ 1000; (try dsimp only); omega) (⟨h, rfl, hq⟩) dJ7_copyOfRange_39247_16
set_option maxHeartbeats 4000000 in
set_option maxRecDepth 100000 in
theorem ct_J0_init_db425 {G : am_G} {Λ : am_L} {I : am_I} {J : am_J} {s : Nat} {b v cap n : Nat} {tx : Nat → Nat} (hs : Λ.1 s = (1, 7)) (hz : I s = fun _ => 0) (hsb : SbAt Λ I b v cap n tx) : am_Ct G yJ0_init_db425 cJ0_init_db425 5 none { frames := 3, cells := 1, slots := 1000, locals := 300 } [.ref s, .ref b, .null] Λ I J (am_str s n tx Λ I) am_never := by
  refine am_ctI_of (own := RJ0) rfl (by decide) (Nat.le_of_ble_eq_true rfl) (fun X C hin => ?_)
  change am_K G X { frames := 3, cells := 1, slots := 1000, locals := 300 } 5 Λ I J 0 0 0 [(0, .ref s), (1, .ref b), (2, .null)] []
  have hbs : b ≠ s := fun e => by have e1 := hsb.1; rw [e, hs] at e1; cases e1
  have hvs : v ≠ s := fun e => by have e1 := hsb.2.2.2.2.2.1.1; rw [e, hs] at e1; cases e1
  refine k_aload_n C (f := 0) (i := 0) (p := 0) rfl rfl dJ0_init_db425_0 ?_
  refine k_objInit C (m_J0_1) ⟨Nat.le_of_ble_eq_true rfl, Nat.le_of_ble_eq_true rfl⟩ dJ0_init_db425_1 ?_
  refine k_aload_n C (f := 1) (i := 1) (p := 1) rfl rfl dJ0_init_db425_4 ?_
  refine k_callUq C s_J0_552 h_J5_getValue_6d5f1 (hsb.1) rfl (ct_J5_getValue_6d5f1 hsb) rfl rfl (Nat.le_of_ble_eq_true rfl) ⟨Nat.le_of_ble_eq_true rfl, Nat.le_of_ble_eq_true rfl⟩ ⟨rfl, rfl⟩ ⟨by show _ ≤ 1; (try dsimp only); omega, by show _ ≤ 1000; (try dsimp only); omega⟩ dJ0_init_db425_5 ?_
  refine k_astore_n C (f := 3) (i := 3) (lv := [(3, _), (0, _), (1, _), (2, _)]) rfl (Nat.le_of_ble_eq_true rfl) rfl dJ0_init_db425_8 ?_
  refine k_aload_n C (f := 1) (i := 1) (p := 2) rfl rfl dJ0_init_db425_9 ?_
  refine k_callWq C s_J0_549 h_J5_length_8abf5 h_J4_length_8abf5 (hsb.1) rfl (ct_J4_length_8abf5 hsb) rfl rfl (Nat.le_of_ble_eq_true rfl) ⟨Nat.le_of_ble_eq_true rfl, Nat.le_of_ble_eq_true rfl⟩ ⟨rfl, rfl⟩ ⟨by show _ ≤ 1; (try dsimp only); omega, by show _ ≤ 1000; (try dsimp only); omega⟩ dJ0_init_db425_10 ?_
  refine k_istore C (i := 4) (lv := [(4, _), (3, _), (0, _), (1, _), (2, _)]) (Nat.le_of_ble_eq_true rfl) rfl dJ0_init_db425_13 ?_
  refine k_aload_n C (f := 1) (i := 1) (p := 3) rfl rfl dJ0_init_db425_15 ?_
  refine k_callUq C s_J0_1047 h_J5_isLatin1_aae02 (hsb.1) rfl (ct_J5_isLatin1_aae02 hsb) rfl rfl (Nat.le_of_ble_eq_true rfl) ⟨Nat.le_of_ble_eq_true rfl, Nat.le_of_ble_eq_true rfl⟩ ⟨rfl, rfl⟩ ⟨by show _ ≤ 1; (try dsimp only); omega, by show _ ≤ 1000; (try dsimp only); omega⟩ dJ0_init_db425_16 ?_
  first
  | refine k_ifb_eq C (tgt := 41) (by decide) dJ0_init_db425_19 (fun hc19 => ?_) (fun hc19 => ?_)
  | refine k_if_eq C (tgt := 41) (by decide) dJ0_init_db425_19 (fun hc19 => ?_) (fun hc19 => ?_)
  · skip
    first
    | exact absurd hc19 (by decide)
    | exact absurd (by decide) hc19
  · skip
    refine k_aload_n C (f := 0) (i := 0) (p := 2) rfl rfl dJ0_init_db425_22 ?_
    refine k_iconst C ic_0 dJ0_init_db425_23 ?_
    refine k_putFB C hin fd_J0_15 hs rfl rfl rfl dJ0_init_db425_24 ?_
    have hba : BA Λ (am_up I s 1 (nI 0)) v cap := ⟨hsb.2.2.2.2.2.1.1, hsb.2.2.2.2.2.1.2.1, fun j hj => by rw [am_up_ne hvs]; exact hsb.2.2.2.2.2.1.2.2 j hj⟩
    refine k_aload_n C (f := 0) (i := 0) (p := 2) rfl rfl dJ0_init_db425_27 ?_
    refine k_aload_n C (f := 3) (i := 3) (p := 1) rfl rfl dJ0_init_db425_28 ?_
    refine k_iconst C ic_0 dJ0_init_db425_29 ?_
    refine k_iload C (i := 4) (p := 0) rfl dJ0_init_db425_30 ?_
    refine k_callSl C s_J0_54 h_J7_copyOfRange_39247 (ct_J7_copyOfRange_39247 hba hsb.2.2.2.2.1) rfl rfl (Nat.le_of_ble_eq_true rfl) ⟨Nat.le_of_ble_eq_true rfl, Nat.le_of_ble_eq_true rfl⟩ ⟨rfl, rfl⟩ ⟨by show _ ≤ 1; (try dsimp only); omega, by show _ ≤ 1000; (try dsimp only); omega⟩ dJ0_init_db425_32 ?_
    intro w0 Λ2 I2 J2 hv2
    obtain ⟨h, rfl, hf, hkp, hsh, hc⟩ := hv2
    show am_K G X _ _ _ _ _ _ _ _ _ (.ref h :: _)
    have hs2 : Λ2.1 s = (1, 7) := (hkp s (by rw [hs]; exact Nat.one_ne_zero)).1.trans hs
    refine k_putF C hin fd_J0_9 hs2 rfl rfl (Or.inr (Or.inl rfl)) dJ0_init_db425_35 ?_
    refine k_goto C (tgt := 97) (by decide) dJ0_init_db425_38 ?_
    exact k_vret C (by show _ ≤ 1; (try dsimp only); omega) (by show _ ≤ 1000; (try dsimp only); omega) (str_end hsb hs hz rfl hf hkp hsh hc) dJ0_init_db425_97
set_option maxHeartbeats 4000000 in
set_option maxRecDepth 100000 in
theorem ct_J0_init_81219 {G : am_G} {Λ : am_L} {I : am_I} {J : am_J} {s : Nat} {b v cap n : Nat} {tx : Nat → Nat} (hs : Λ.1 s = (1, 7)) (hz : I s = fun _ => 0) (hsb : SbAt Λ I b v cap n tx) : am_Ct G yJ0_init_81219 cJ0_init_81219 2 none { frames := 4, cells := 1, slots := 1000, locals := 400 } [.ref s, .ref b] Λ I J (am_str s n tx Λ I) am_never := by
  refine am_ct_of (own := RJ0) rfl (by decide) (Nat.le_of_ble_eq_true rfl) (fun X C => ?_)
  change am_K G X { frames := 4, cells := 1, slots := 1000, locals := 400 } 2 Λ I J 0 0 0 [(0, .ref s), (1, .ref b)] []
  refine k_aload_n C (f := 0) (i := 0) (p := 0) rfl rfl dJ0_init_81219_0 ?_
  refine k_aload_n C (f := 1) (i := 1) (p := 1) rfl rfl dJ0_init_81219_1 ?_
  refine k_null C dJ0_init_81219_2 ?_
  refine k_callIl C s_J0_489 h_J0_init_db425 (ct_J0_init_db425 hs hz hsb) rfl rfl (Nat.le_of_ble_eq_true rfl) ⟨Nat.le_of_ble_eq_true rfl, Nat.le_of_ble_eq_true rfl⟩ ⟨rfl, rfl⟩ ⟨by show _ ≤ 1; (try dsimp only); omega, by show _ ≤ 1000; (try dsimp only); omega⟩ dJ0_init_81219_3 ?_
  intro w0 Λ2 I2 J2 hv
  obtain ⟨rfl, hv⟩ := hv
  show am_K G X _ _ _ _ _ _ _ _ _ ([])
  exact k_vret C (by show _ ≤ 1; (try dsimp only); omega) (by show _ ≤ 1000; (try dsimp only); omega) (⟨rfl, hv⟩) dJ0_init_81219_6
set_option maxHeartbeats 4000000 in
set_option maxRecDepth 100000 in
theorem ct_J4_toString_0e30d {G : am_G} {Λ : am_L} {I : am_I} {J : am_J} {b v cap n : Nat} {tx : Nat → Nat} (hsb : SbAt Λ I b v cap n tx) : am_Ct G yJ4_toString_0e30d cJ4_toString_0e30d 1 (some (.object "java/lang/String")) { frames := 5, cells := 2, slots := 1004, locals := 500 } [.ref b] Λ I J (am_tos n tx Λ I) am_never := by
  refine am_ct_of (own := RJ4) rfl (by decide) (Nat.le_of_ble_eq_true rfl) (fun X C => ?_)
  change am_K G X { frames := 5, cells := 2, slots := 1004, locals := 500 } 1 Λ I J 0 0 0 [(0, .ref b)] []
  refine k_newC2 C (ci := 7) rfl k_J4_18 ii_J0 in_J0 ⟨by show _ ≤ 2; (try dsimp only); omega, by show _ ≤ 1004; (try dsimp only); omega⟩ dJ4_toString_0e30d_0 (fun s hs0 => ?_)
  have hbs : b ≠ s := fun e => by have := hs0 b (by rw [hsb.1]; exact Nat.one_ne_zero); omega
  have hvs : v ≠ s := fun e => by have := hs0 v (by rw [hsb.2.2.2.2.2.1.1]; exact Nat.succ_ne_zero _); omega
  have hsb1 : SbAt (am_nS Λ s (1, 7)) (am_nI I s) b v cap n tx := ⟨(nS_ne hbs).trans hsb.1, by rw [nR_ne hbs]; exact hsb.2.1, by rw [nI_old hbs]; exact hsb.2.2.1, by rw [nI_old hbs]; exact hsb.2.2.2.1, hsb.2.2.2.2.1, ⟨(nS_ne hvs).trans hsb.2.2.2.2.2.1.1, hsb.2.2.2.2.2.1.2.1, fun j hj => by rw [nI_old hvs]; exact hsb.2.2.2.2.2.1.2.2 j hj⟩, fun j hj => by rw [nI_old hvs]; exact hsb.2.2.2.2.2.2 j hj⟩
  refine k_dup C rfl dJ4_toString_0e30d_3 ?_
  refine k_aload_n C (f := 0) (i := 0) (p := 0) rfl rfl dJ4_toString_0e30d_4 ?_
  refine k_callIl C s_J4_137 h_J0_init_81219 (ct_J0_init_81219 nS_eq nI_new hsb1) rfl rfl (Nat.le_of_ble_eq_true rfl) ⟨Nat.le_of_ble_eq_true rfl, Nat.le_of_ble_eq_true rfl⟩ ⟨rfl, rfl⟩ ⟨by show _ ≤ 2; (try dsimp only); omega, by show _ ≤ 1004; (try dsimp only); omega⟩ dJ4_toString_0e30d_5 ?_
  intro w0 Λ2 I2 J2 hv
  obtain ⟨rfl, hsk, v2, hf, hst⟩ := hv
  show am_K G X _ _ _ _ _ _ _ _ _ (.ref s :: [])
  exact k_aret C (by first | exact Or.inl ⟨_, rfl⟩ | exact Or.inr ⟨_, rfl⟩) (by show _ ≤ 2; (try dsimp only); omega) (by show _ ≤ 1004; (try dsimp only); omega) (⟨s, v2, rfl, fun a ha => by
    have q : a ≠ s := fun e => by have := hs0 a ha; omega
    obtain ⟨p1, p2⟩ := hsk a (by rw [nS_ne q]; exact ha)
    exact ⟨p1.trans (nS_ne q), (p2 q).1.trans (nR_ne q), ((p2 q).2 q).trans (nI_old q)⟩, fresh0 hs0, by
    by_cases e : v2 = s
    · rw [e]; exact fresh0 hs0
    · rw [nS_ne e] at hf; exact hf, hst⟩) dJ4_toString_0e30d_8
