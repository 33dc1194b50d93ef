/-! ===== the law: the distance of a day, as it tells it itself ===== -/
theorem behind_none {r : Nat → Int32} {x : Int32} : ∀ n : Nat, (∀ k : Nat, k < n → ¬ x < r (90 + 4 * k)) → sp_behindTo r x n = -1 := by
  intro n
  induction n with
  | zero => intro _; rfl
  | succ n ih =>
    intro h
    rw [sp_behindTo_f (fun z => h n (Nat.lt_succ_self n) z.1)]
    exact ih (fun k hk => h k (by omega))
theorem behind_num {r : Nat → Int32} (h : RowOk r) : sp_behind r (r 1) = -1 ∨ ∃ m p km : Nat, sp_behind r (r 1) = nI m ∧ m < sp_nw r ∧ r (90 + 4 * m) = nI p ∧ p ≤ 999 ∧ r 1 = nI km ∧ km < p := by
  rcases sp_behindTo_or r (r 1) (sp_nw r) with e | ⟨m, e, hm, hlt⟩
  · exact Or.inl e
  · obtain ⟨L, km, hL, hk, hL1, hL9, hkL, hw⟩ := RK_L h
    obtain ⟨p, hp, -, hp9⟩ := hw m hm
    rw [hk, hp] at hlt
    exact Or.inr ⟨m, p, km, e, hm, hp, by omega, hk, (nI_ltI (by omega) (by omega)).mp hlt⟩
/-- the distance in numbers -/
theorem dist_num {r : Nat → Int32} {ld L km v t : Nat} (h : RowOk r) (hL : r 0 = nI L) (hk : r 1 = nI km) (hkL : km ≤ L) (hL9 : L ≤ 999) (hv : sp_speed r ld = nI v) (hv9 : v ≤ 60) (ht : sp_storm r (r 2) = nI t) (ht9 : t ≤ 9) :
    (¬ r 3 = nI 1 → sp_dist r ld = nI (min (L - km) (v * (10 - t) / 10))) ∧ (sp_behind r (r 1) = -1 → sp_dist r ld = nI (min (L - km) (v * (10 - t) / 10))) ∧ (∀ m p : Nat, r 3 = nI 1 → sp_behind r (r 1) = nI m → m < 2 ^ 31 → r (90 + 4 * m) = nI p → km < p → p ≤ 999 → sp_dist r ld = nI (min (min (L - km) (v * (10 - t) / 10)) (p - km))) := by
  have hb : v * (10 - t) ≤ 60 * 10 := Nat.mul_le_mul hv9 (by omega)
  have e1 : sp_speed r ld * (nI 10 - sp_storm r (r 2)) / nI 10 = nI (v * (10 - t) / 10) := by
    rw [hv, ht, pk_sub (by omega), pk_mul, pk_div (by omega) (by omega) (by omega)]
  have e2 : r 0 - r 1 = nI (L - km) := by rw [hL, hk, pk_sub hkL]
  have hd : v * (10 - t) / 10 ≤ 60 := by omega
  have e3 : sp_min (sp_speed r ld * (nI 10 - sp_storm r (r 2)) / nI 10) (r 0 - r 1) = nI (min (L - km) (v * (10 - t) / 10)) := by
    rw [e1, e2, sp_min_nI (by omega) (by omega), Nat.min_comm]
  refine ⟨fun z => ?_, fun z => ?_, fun m p z1 z2 z3 z4 z5 z6 => ?_⟩
  · unfold sp_dist
    rw [if_neg (fun q => z q.1), e3]
  · unfold sp_dist
    rw [if_neg (fun q => q.2 (by rw [z]; decide)), e3]
  · unfold sp_dist
    rw [if_pos ⟨z1, by rw [z2]; exact nI_pos z3⟩, e3, z2, nI_clamp z3, z4, hk, pk_sub (by omega), sp_min_nI (by omega) (by omega)]
theorem dist_end {r : Nat → Int32} {ld : Nat} (h : RowOk r) (hld : ld < sp_nc r) (ha : r 0 ≤ r 1) : sp_dist r ld = nI 0 := by
  obtain ⟨L, km, hL, hk, hL1, hL9, hkL, hw⟩ := RK_L h
  obtain ⟨v, hv, -, hv9⟩ := speed_b h hld
  obtain ⟨t, ht, ht9⟩ := storm_b h (r 2)
  rw [hL, hk] at ha
  have e := (nI_leI (by omega) (by omega)).mp ha
  obtain ⟨d1, d2, d3⟩ := dist_num h hL hk hkL hL9 hv hv9 ht ht9
  rw [d2 (behind_none _ (fun k hk2 => by
    obtain ⟨p, hp, -, hp9⟩ := hw k hk2
    rw [hk, hp]
    exact nI_nlt (by omega) (by omega))), show L - km = 0 by omega, Nat.min_eq_left (Nat.zero_le _)]
def dis (r : Nat → Int32) (ld : Nat) : Int32 := if sp_living r = 0 then nI 0 else sp_dist r ld
set_option maxHeartbeats 4000000 in
set_option maxRecDepth 100000 in
theorem ct_L_distance {G : am_G} {Λ : am_L} {I : am_I} {J : am_J} {x ld : Nat} {r : Nat → Int32} (hx : RouLay Λ x) (hr : CarRel I (x + 34) (x + 35) (x + 24) r) (hok : RowOk r) (hld : r 4 = nI ld) (hlc : ld < sp_nc r) : am_Ct G yL_distance cL_distance 3 (some .int) { frames := 12, cells := 24, slots := 144, locals := 300 } [.ref x] Λ I J (am_pure (.int (dis r ld)) Λ I J) am_never := by
  refine am_ct_of (own := RL) rfl (by decide) (Nat.le_of_ble_eq_true rfl) (fun X C => ?_)
  change am_K G X { frames := 12, cells := 24, slots := 144, locals := 300 } 3 Λ I J 0 0 0 [(0, .ref x)] []
  obtain ⟨L, km, hL, hk, hL1, hL9, hkL, hw⟩ := RK_L hok
  obtain ⟨v, hv, hv5, hv9⟩ := speed_b hok hlc
  obtain ⟨t, ht, ht9⟩ := storm_b hok (r 2)
  obtain ⟨d, hd, -, hd2⟩ := hok.2.2.2.2.2.2.1
  have h3 := RK_3 hok
  have hwk := RK_w hok
  have hbv : v * (10 - t) ≤ 60 * 10 := Nat.mul_le_mul hv9 (by omega)
  have hnc := hok.2.2.2.2.1
  have hlv : sp_living r ≤ 10 := Nat.le_trans (sp_livingTo_le r _) hnc.2.1
  obtain ⟨dn1, dn2, dn3⟩ := dist_num hok hL hk hkL hL9 hv hv9 ht ht9
  refine k_aload_n C (f := 0) (i := 0) (p := 0) rfl rfl dL_distance_0 ?_
  refine k_callVp C s_L_232 h_X5_hasArrived (L5_s (by assumption)) rfl (ct_X5_hasArrived (by first | assumption | omega) (by first | assumption | omega)) rfl rfl (Nat.le_of_ble_eq_true rfl) ⟨Nat.le_of_ble_eq_true rfl, Nat.le_of_ble_eq_true rfl⟩ ⟨by show _ ≤ 24; (try dsimp only); omega, by show _ ≤ 144; (try dsimp only); omega⟩ ⟨rfl, rfl⟩ dL_distance_1 ?_
  first
  | refine k_ifb_ne C (tgt := 14) (by decide) dL_distance_4 (fun hc4 => ?_) (fun hc4 => ?_)
  | refine k_if_ne C (tgt := 14) (by decide) dL_distance_4 (fun hc4 => ?_) (fun hc4 => ?_)
  · skip
    refine k_iconst C ic_0 dL_distance_14 ?_
    exact k_iret C (by show _ ≤ 24; (try dsimp only); omega) (by show _ ≤ 144; (try dsimp only); omega) (⟨by unfold dis; first | (rw [if_pos (nI_inj (by omega) (by omega) (hc11.trans (show (0 : Int32) = nI 0 from rfl)))]) | (by_cases z : sp_living r = 0; (rw [if_pos z]); (rw [if_neg z, dist_end hok hlc hc4])), rfl, rfl, rfl⟩) dL_distance_15
  · skip
    refine k_aload_n C (f := 0) (i := 0) (p := 0) rfl rfl dL_distance_7 ?_
    refine k_callVp C s_L_240 h_X5_livingCamels (L5_s (by assumption)) rfl (ct_X5_livingCamels (by first | assumption | omega) (by first | assumption | omega)) rfl rfl (Nat.le_of_ble_eq_true rfl) ⟨Nat.le_of_ble_eq_true rfl, Nat.le_of_ble_eq_true rfl⟩ ⟨by show _ ≤ 24; (try dsimp only); omega, by show _ ≤ 144; (try dsimp only); omega⟩ ⟨rfl, rfl⟩ dL_distance_8 ?_
    first
    | refine k_ifb_ne C (tgt := 16) (by decide) dL_distance_11 (fun hc11 => ?_) (fun hc11 => ?_)
    | refine k_if_ne C (tgt := 16) (by decide) dL_distance_11 (fun hc11 => ?_) (fun hc11 => ?_)
    · skip
      refine k_aload_n C (f := 0) (i := 0) (p := 0) rfl rfl dL_distance_16 ?_
      refine k_callVp C s_L_231 h_X5_length (L5_s (by assumption)) rfl (ct_X5_length (by first | assumption | omega) (by first | assumption | omega)) rfl rfl (Nat.le_of_ble_eq_true rfl) ⟨Nat.le_of_ble_eq_true rfl, Nat.le_of_ble_eq_true rfl⟩ ⟨by show _ ≤ 24; (try dsimp only); omega, by show _ ≤ 144; (try dsimp only); omega⟩ ⟨rfl, rfl⟩ dL_distance_17 ?_
      rw [hL]
      refine k_aload_n C (f := 0) (i := 0) (p := 0) rfl rfl dL_distance_20 ?_
      refine k_callVp C s_L_202 h_X5_kilometre (L5_s (by assumption)) rfl (ct_X5_kilometre (by first | assumption | omega) (by first | assumption | omega)) rfl rfl (Nat.le_of_ble_eq_true rfl) ⟨Nat.le_of_ble_eq_true rfl, Nat.le_of_ble_eq_true rfl⟩ ⟨by show _ ≤ 24; (try dsimp only); omega, by show _ ≤ 144; (try dsimp only); omega⟩ ⟨rfl, rfl⟩ dL_distance_21 ?_
      rw [hk]
      refine k_isub C dL_distance_24 ?_
      rw [pk_sub hkL]
      refine k_aload_n C (f := 0) (i := 0) (p := 0) rfl rfl dL_distance_25 ?_
      refine k_bipush C bc_29 dL_distance_26 ?_
      refine k_aload_n C (f := 0) (i := 0) (p := 0) rfl rfl dL_distance_28 ?_
      refine k_callVp C s_L_210 h_X5_leader (L5_s (by assumption)) rfl (ct_X5_leader (by first | assumption | omega) (by first | assumption | omega)) rfl rfl (Nat.le_of_ble_eq_true rfl) ⟨Nat.le_of_ble_eq_true rfl, Nat.le_of_ble_eq_true rfl⟩ ⟨by show _ ≤ 24; (try dsimp only); omega, by show _ ≤ 144; (try dsimp only); omega⟩ ⟨rfl, rfl⟩ dL_distance_29 ?_
      rw [hld]
      refine k_callSq C s_L_163 h_L_call__ (ct_k29 hx hr hlc hv) rfl rfl (Nat.le_of_ble_eq_true rfl) ⟨Nat.le_of_ble_eq_true rfl, Nat.le_of_ble_eq_true rfl⟩ ⟨rfl, rfl⟩ ⟨by show _ ≤ 24; (try dsimp only); omega, by show _ ≤ 144; (try dsimp only); omega⟩ dL_distance_32 ?_
      refine k_bipush C bc_10 dL_distance_35 ?_
      refine k_aload_n C (f := 0) (i := 0) (p := 0) rfl rfl dL_distance_37 ?_
      refine k_bipush C bc_14 dL_distance_38 ?_
      refine k_aload_n C (f := 0) (i := 0) (p := 0) rfl rfl dL_distance_40 ?_
      refine k_callVp C s_L_205 h_X5_day (L5_s (by assumption)) rfl (ct_X5_day (by first | assumption | omega) (by first | assumption | omega)) rfl rfl (Nat.le_of_ble_eq_true rfl) ⟨Nat.le_of_ble_eq_true rfl, Nat.le_of_ble_eq_true rfl⟩ ⟨by show _ ≤ 24; (try dsimp only); omega, by show _ ≤ 144; (try dsimp only); omega⟩ ⟨rfl, rfl⟩ dL_distance_41 ?_
      rw [hd]
      refine k_callSq C s_L_163 h_L_call__ (ct_q14 (d := nI d) (v := nI t) hx hr (by rw [if_pos (if_neg (fun z => z.elim (nI_pos (by omega)) (nI_nlt (by omega) (by omega)))), ← hd]; exact ht)) rfl rfl (Nat.le_of_ble_eq_true rfl) ⟨Nat.le_of_ble_eq_true rfl, Nat.le_of_ble_eq_true rfl⟩ ⟨rfl, rfl⟩ ⟨by show _ ≤ 24; (try dsimp only); omega, by show _ ≤ 144; (try dsimp only); omega⟩ dL_distance_44 ?_
      refine k_isub C dL_distance_47 ?_
      rw [pk_sub (show t ≤ 10 by omega)]
      refine k_imul C dL_distance_48 ?_
      rw [pk_mul]
      refine k_bipush C bc_10 dL_distance_49 ?_
      refine k_idiv C (by decide) dL_distance_51 ?_
      rw [pk_div (by omega) (by omega) (by omega)]
      refine k_min C (sp_min_nI (by omega) (by omega)) m_L_254 ⟨Nat.le_of_ble_eq_true rfl, Nat.le_of_ble_eq_true rfl⟩ ⟨Nat.le_of_ble_eq_true rfl, Nat.le_of_ble_eq_true rfl⟩ dL_distance_52 ?_
      refine k_istore_n C (f := 1) (i := 1) (lv := [(1, _), (0, _)]) rfl (Nat.le_of_ble_eq_true rfl) rfl dL_distance_55 ?_
      refine k_aload_n C (f := 0) (i := 0) (p := 1) rfl rfl dL_distance_56 ?_
      refine k_bipush C bc_19 dL_distance_57 ?_
      refine k_iconst C ic_0 dL_distance_59 ?_
      refine k_callSq C s_L_163 h_L_call__ (ct_q19 hx hr hwk rfl) rfl rfl (Nat.le_of_ble_eq_true rfl) ⟨Nat.le_of_ble_eq_true rfl, Nat.le_of_ble_eq_true rfl⟩ ⟨rfl, rfl⟩ ⟨by show _ ≤ 24; (try dsimp only); omega, by show _ ≤ 144; (try dsimp only); omega⟩ dL_distance_60 ?_
      refine k_istore_n C (f := 2) (i := 2) (lv := [(2, _), (1, _), (0, _)]) rfl (Nat.le_of_ble_eq_true rfl) rfl dL_distance_63 ?_
      refine k_aload_n C (f := 0) (i := 0) (p := 2) rfl rfl dL_distance_64 ?_
      refine k_callVp C s_L_213 h_X5_isStopping (L5_s (by assumption)) rfl (ct_X5_isStopping (by first | assumption | omega) (by first | assumption | omega) (by first | assumption | omega)) rfl rfl (Nat.le_of_ble_eq_true rfl) ⟨Nat.le_of_ble_eq_true rfl, Nat.le_of_ble_eq_true rfl⟩ ⟨by show _ ≤ 24; (try dsimp only); omega, by show _ ≤ 144; (try dsimp only); omega⟩ ⟨rfl, rfl⟩ dL_distance_65 ?_
      first
      | refine k_ifb_eq C (tgt := 94) (by decide) dL_distance_68 (fun hc68 => ?_) (fun hc68 => ?_)
      | refine k_if_eq C (tgt := 94) (by decide) dL_distance_68 (fun hc68 => ?_) (fun hc68 => ?_)
      · skip
        refine k_iload_n C (f := 1) (i := 1) (p := 1) rfl rfl dL_distance_94 ?_
        exact k_iret C (by show _ ≤ 24; (try dsimp only); omega) (by show _ ≤ 144; (try dsimp only); omega) (⟨by unfold dis; rw [if_neg (fun z => hc11 (by rw [z]; rfl))]; first | (rw [dn1 hc68]) | (rw [dn3 m p (by assumption) hbn hm31 hp hkp hp9]), rfl, rfl, rfl⟩) dL_distance_95
      · skip
        rcases behind_num hok with hbn | ⟨m, p, km', hbn, hm, hp, hp9, hk', hkp⟩
        · rw [hbn]
          refine k_iload_n C (f := 2) (i := 2) (p := 0) rfl rfl dL_distance_71 ?_
          refine k_if_lt C (tgt := 94) (by decide) dL_distance_72 (fun hc72 => ?_) (fun hc72 => absurd (by decide) hc72)
          refine k_iload_n C (f := 1) (i := 1) (p := 1) rfl rfl dL_distance_94 ?_
          exact k_iret C (by show _ ≤ 24; (try dsimp only); omega) (by show _ ≤ 144; (try dsimp only); omega) ⟨by unfold dis; rw [if_neg (fun z => hc11 (by rw [z]; rfl)), dn2 hbn], rfl, rfl, rfl⟩ dL_distance_95
        have ekm : km = km' := nI_inj (by omega) (by omega) (hk.symm.trans hk')
        subst ekm
        have hm31 : m < 2 ^ 31 := by omega
        have eb : (if (if sp_behind r (r 1) = -1 then 1 else 0) = 0 then sp_behind r (r 1) else (-101)) = nI m := by rw [hbn, if_neg (nI_m1 hm31), if_pos rfl]
        rw [eb]
        refine k_iload_n C (f := 2) (i := 2) (p := 0) rfl rfl dL_distance_71 ?_
        refine k_if_lt C (tgt := 94) (by decide) dL_distance_72 (fun hc72 => ?_) (fun hc72 => ?_)
        · skip
          exact absurd hc72 (nI_pos hm31)
        · skip
          refine k_iload_n C (f := 1) (i := 1) (p := 1) rfl rfl dL_distance_75 ?_
          refine k_aload_n C (f := 0) (i := 0) (p := 2) rfl rfl dL_distance_76 ?_
          refine k_bipush C bc_15 dL_distance_77 ?_
          refine k_iload_n C (f := 2) (i := 2) (p := 0) rfl rfl dL_distance_79 ?_
          refine k_callSq C s_L_163 h_L_call__ (ct_k15 hx hr hm hp) rfl rfl (Nat.le_of_ble_eq_true rfl) ⟨Nat.le_of_ble_eq_true rfl, Nat.le_of_ble_eq_true rfl⟩ ⟨rfl, rfl⟩ ⟨by show _ ≤ 24; (try dsimp only); omega, by show _ ≤ 144; (try dsimp only); omega⟩ dL_distance_80 ?_
          skip
          refine k_aload_n C (f := 0) (i := 0) (p := 2) rfl rfl dL_distance_83 ?_
          refine k_callVp C s_L_202 h_X5_kilometre (L5_s (by assumption)) rfl (ct_X5_kilometre (by first | assumption | omega) (by first | assumption | omega)) rfl rfl (Nat.le_of_ble_eq_true rfl) ⟨Nat.le_of_ble_eq_true rfl, Nat.le_of_ble_eq_true rfl⟩ ⟨by show _ ≤ 24; (try dsimp only); omega, by show _ ≤ 144; (try dsimp only); omega⟩ ⟨rfl, rfl⟩ dL_distance_84 ?_
          rw [hk]
          refine k_isub C dL_distance_87 ?_
          rw [pk_sub (show km ≤ p by omega)]
          refine k_min C (sp_min_nI (by omega) (by omega)) m_L_254 ⟨Nat.le_of_ble_eq_true rfl, Nat.le_of_ble_eq_true rfl⟩ ⟨Nat.le_of_ble_eq_true rfl, Nat.le_of_ble_eq_true rfl⟩ dL_distance_88 ?_
          refine k_goto C (tgt := 95) (by decide) dL_distance_91 ?_
          exact k_iret C (by show _ ≤ 24; (try dsimp only); omega) (by show _ ≤ 144; (try dsimp only); omega) (⟨by unfold dis; rw [if_neg (fun z => hc11 (by rw [z]; rfl))]; first | (rw [dn1 hc68]) | (rw [dn3 m p (by assumption) hbn hm31 hp hkp hp9]), rfl, rfl, rfl⟩) dL_distance_95
    · skip
      refine k_iconst C ic_0 dL_distance_14 ?_
      exact k_iret C (by show _ ≤ 24; (try dsimp only); omega) (by show _ ≤ 144; (try dsimp only); omega) (⟨by unfold dis; first | (rw [if_pos (nI_inj (by omega) (by omega) (hc11.trans (show (0 : Int32) = nI 0 from rfl)))]) | (by_cases z : sp_living r = 0; (rw [if_pos z]); (rw [if_neg z, dist_end hok hlc hc4])), rfl, rfl, rfl⟩) dL_distance_15
