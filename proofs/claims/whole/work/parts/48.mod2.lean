/-! ===== the model: changes of a row ===== -/
def am_f1 (s : Nat) (I I' : am_I) : Prop := ∀ b : Nat, b ≠ s → I' b = I b
theorem am_f1.rf {s : Nat} {I : am_I} : am_f1 s I I := fun _ _ => rfl
theorem am_f1.tr {s : Nat} {I I1 I2 : am_I} (h : am_f1 s I I1) (h2 : am_f1 s I1 I2) : am_f1 s I I2 := fun b hb => (h2 b hb).trans (h b hb)
section KRST
variable {G : am_G} {X : am_X} {R : Room} {own : String} {cc : ByteArray} {nL : Nat} {ret : Option FieldType} {tb : List ExceptionTableEntry} {Q : State → Prop}
variable {Λ : am_L} {I : am_I} {J : am_J} {k n pc : Nat} {ls : List (Nat × Value)} {st : List Value}
theorem k_rst (C : am_Cx G X own cc nL ret tb Q) {s m i : Nat} {r : Nat → Int32} {I0 : am_I} {ix x : Int32} (hs : Λ.1 s = (2, 220)) (hi : ix = nI m) (e : m = i) (hlt : i < 220) (hm : MRow I s 0 r) (hf : am_f1 s I0 I) (hd : decode cc pc = .ok (.iastore, 1)) (kk : ∀ I1 : am_I, MRow I1 s 0 (upd r i x) → am_f1 s I0 I1 → am_K G X R nL Λ I1 J k n (pc + 1) ls st) : am_K G X R nL Λ I J k n pc ls (.int x :: .int ix :: .ref s :: st) :=
  k_iast C hs hi (by omega) (by decide) hd (kk _ (MR_up hm e) (fun b hb => (am_up_ne hb).trans (hf b hb)))
end KRST
theorem RowB.up {r : Nat → Int32} {i : Nat} {x : Int32} (h : RowB r) (hi : i ≠ 6 ∧ i ≠ 7 ∧ i ≠ 8 ∧ i ≠ 9) : RowB (upd r i x) := by
  obtain ⟨⟨h6, h7, h8, h9⟩, hb⟩ := h
  unfold RowB
  rw [sp_nc_upd hi.1, sp_nw_upd hi.2.1, sp_ns_upd hi.2.2.1, sp_nl_upd hi.2.2.2]
  exact ⟨⟨(upd_ne (by omega)).trans h6, (upd_ne (by omega)).trans h7, (upd_ne (by omega)).trans h8, (upd_ne (by omega)).trans h9⟩, hb⟩
theorem MR_eq {I : am_I} {s : Nat} {r r' : Nat → Int32} (h : MRow I s 0 r) (e : r = r') : MRow I s 0 r' := e ▸ h
theorem strain_gt {r : Nat → Int32} {j p v : Nat} (hv : sp_speed r j = nI v) (hb : v < 2 ^ 30) (hp : p < 2 ^ 30) (h : v < p) : sp_strain r j (nI p - sp_speed r j) = upd r (14 + 8 * j) (r (14 + 8 * j) + (nI p - sp_speed r j)) := by
  unfold sp_strain
  rw [hv, pk_sub (by omega), if_pos (by rw [← nI_0]; exact nI_lt (by omega) (by omega))]
theorem strain_le {r : Nat → Int32} {j p v : Nat} (hv : sp_speed r j = nI v) (hb : v < 2 ^ 30) (hp : p < 2 ^ 30) (h : p ≤ v) : sp_strain r j (nI p - sp_speed r j) = upd r (14 + 8 * j) (sp_max (nI 0) (r (14 + 8 * j) - nI 10)) := by
  unfold sp_strain
  rw [hv]
  refine if_neg (Int32.not_lt.mpr ?_)
  rcases Nat.lt_or_ge p v with g | g
  · exact Int32.le_of_lt (pk_sneg hb g)
  · rw [show p = v by omega, pk_sub (Nat.le_refl _), Nat.sub_self]
    exact Int32.le_refl _
theorem strain_0 (r : Nat → Int32) (j : Nat) : sp_strain r j (nI 0) = upd r (14 + 8 * j) (sp_max (nI 0) (r (14 + 8 * j) - nI 10)) := by
  unfold sp_strain
  exact if_neg (by decide)
theorem limp_a {r : Nat → Int32} {j : Nat} (h : nI 60 < r (14 + 8 * j)) : sp_limp r j = upd (upd r (15 + 8 * j) (r (15 + 8 * j) + nI 3)) (14 + 8 * j) (nI 0) := if_pos h
theorem limp_b {r : Nat → Int32} {j : Nat} (h : ¬ nI 60 < r (14 + 8 * j)) (h2 : 0 < r (15 + 8 * j)) : sp_limp r j = upd r (15 + 8 * j) (r (15 + 8 * j) - nI 1) := by
  unfold sp_limp
  rw [if_neg h, if_pos h2]
theorem limp_c {r : Nat → Int32} {j : Nat} (h : ¬ nI 60 < r (14 + 8 * j)) (h2 : ¬ 0 < r (15 + 8 * j)) : sp_limp r j = r := by
  unfold sp_limp
  rw [if_neg h, if_neg h2]
theorem md_drain_hi {r : Nat → Int32} {j i : Nat} {x : Int32} (hj : j < 10) (hi : 90 ≤ i ∧ i < 140) : sp_drain r j x i = r i := by
  have h1 : sp_dry r j i = r i := by
    unfold sp_dry
    rw [upd_ne (by omega), upd_ne (by omega)]
  unfold sp_drain
  split
  · rw [upd_ne (by omega), upd_ne (by omega)]
  · split
    · unfold sp_die
      rw [drop_lo (by omega), upd_ne (by omega), h1]
    · exact h1
theorem md_go_hi {r : Nat → Int32} {ls st : Int32} {i : Nat} (hi : 90 ≤ i ∧ i < 140) : ∀ k : Nat, k ≤ 10 → sp_goTo r ls st k i = r i := by
  intro k
  induction k with
  | zero => intro _; rfl
  | succ k ih =>
    intro hk
    by_cases h : sp_goTo r ls st k (16 + 8 * k) < nI 3
    · rw [sp_goTo_t h, md_drain_hi (by omega) hi, limp_at (by omega), strain_at (by omega), ih (by omega)]
    · rw [sp_goTo_f h, ih (by omega)]
theorem md_rest_hi {r : Nat → Int32} {st : Int32} {i : Nat} (hi : 90 ≤ i ∧ i < 140) : ∀ k : Nat, k ≤ 10 → sp_restTo r st k i = r i := by
  intro k
  induction k with
  | zero => intro _; rfl
  | succ k ih =>
    intro hk
    by_cases h : sp_restTo r st k (16 + 8 * k) < nI 3
    · rw [sp_restTo_t h, md_drain_hi (by omega) hi, limp_at (by omega), strain_at (by omega), ih (by omega)]
    · rw [sp_restTo_f h, ih (by omega)]
theorem md_storm {r r' : Nat → Int32} (h : ∀ i : Nat, 122 ≤ i → i < 140 → r' i = r i) (h8 : r' 8 = r 8) (hn : sp_ns r ≤ 6) (d : Int32) : sp_storm r' d = sp_storm r d := by
  have e : ∀ k : Nat, k ≤ 6 → sp_stormTo r' d k = sp_stormTo r d k := by
    intro k
    induction k with
    | zero => intro _; rfl
    | succ k ih =>
      intro hk
      simp only [sp_stormTo, ih (by omega), h (122 + 3 * k) (by omega) (by omega), h (123 + 3 * k) (by omega) (by omega), h (124 + 3 * k) (by omega) (by omega)]
  unfold sp_storm
  rw [show sp_ns r' = sp_ns r from congrArg Int32.toNatClampNeg h8]
  exact e _ hn
theorem rowok_restDay {r : Nat → Int32} (h : RowOk r) (hd : r 2 < nI 200) : RowOk (sp_rest r) := by
  obtain ⟨t, ht, ht9⟩ := storm_b h (r 2)
  obtain ⟨d, hd2, -, hd3⟩ := h.2.2.2.2.2.2.1
  have hd4 : d < 200 := by
    rw [hd2] at hd
    exact (nI_ltI (by omega) (by omega)).mp hd
  unfold sp_rest
  rw [ht]
  exact rowok_endDay (rowok_rest h ht9 _ (Nat.le_refl _)) (show _ = nI d by rw [restTo_lo (by omega)]; exact hd2) hd4
set_option maxHeartbeats 4000000 in
set_option maxRecDepth 100000 in
theorem ct_X6_layRow {G : am_G} {Λ : am_L} {I : am_I} {J : am_J} {u b a p nf na : Nat} (hsf : Λ.1 u = (2, nf)) (hsa : Λ.1 a = (2, na)) (hbf : b + 220 ≤ nf) (hpa : p + 220 ≤ na) (hnn : nf < 4000 ∧ na < 4000) (hap : u ≠ a ∨ p + 220 ≤ b) : am_Ct G yX6_layRow cX6_layRow 5 none { frames := 0, cells := 0, slots := 0, locals := 0 } [.ref u, .int (nI b), .ref a, .int (nI p)] Λ I J (am_gen Λ J (fun v I' => v = none ∧ (∀ m : Nat, m < 220 → I' a (p + m) = I u (b + m)) ∧ ∀ A K : Nat, ¬ (A = a ∧ p ≤ K ∧ K < p + 220) → I' A K = I A K)) am_never := by
  refine am_ct_of (own := RX6) rfl (by decide) (Nat.le_of_ble_eq_true rfl) (fun X C => ?_)
  change am_K G X { frames := 0, cells := 0, slots := 0, locals := 0 } 5 Λ I J 0 0 0 [(0, .ref u), (1, .int (nI b)), (2, .ref a), (3, .int (nI p))] []
  refine k_iconst C ic_0 dX6_layRow_0 ?_
  refine k_istore C (i := 4) (lv := [(4, _), (0, _), (1, _), (2, _), (3, _)]) (Nat.le_of_ble_eq_true rfl) rfl dX6_layRow_1 ?_
  have loop3 : ∀ (f : Nat) (k : Nat) (I1 : am_I), (k ≤ 220) → (∀ m : Nat, m < k → I1 a (p + m) = I u (b + m)) → (∀ A K : Nat, ¬ (A = a ∧ p ≤ K ∧ K < p + 220) → I1 A K = I A K) → (220 - k) < f → am_K G X { frames := 0, cells := 0, slots := 0, locals := 0 } 5 Λ I1 J 0 0 3 [(0, .ref u), (1, .int (nI b)), (2, .ref a), (3, .int (nI p)), (4, .int (nI k))] [] := by
    intro f
    induction f with
    | zero => intro k I1 hk hA hO hf; exact absurd hf (Nat.not_lt_zero _)
    | succ f ih3 =>
      intro k I1 hk hA hO hf
      refine k_iload C (i := 4) (p := 4) rfl dX6_layRow_3 ?_
      refine k_sipush C sc_220 dX6_layRow_5 ?_
      first
      | refine k_icmpN_ge C (tgt := 29) (by omega) (by omega) (by decide) dX6_layRow_8 (fun hc8 => ?_) (fun hc8 => ?_)
      | refine k_icmp_ge C (tgt := 29) (by decide) dX6_layRow_8 (fun hc8 => ?_) (fun hc8 => ?_)
      · skip
        exact k_vret C (Nat.le_of_ble_eq_true rfl) (Nat.le_of_ble_eq_true rfl) (⟨rfl, rfl, ⟨rfl, fun m hm => hA m (by omega), hO⟩⟩) dX6_layRow_29
      · skip
        refine k_aload_n C (f := 2) (i := 2) (p := 2) rfl rfl dX6_layRow_11 ?_
        refine k_iload_n C (f := 3) (i := 3) (p := 3) rfl rfl dX6_layRow_12 ?_
        refine k_iload C (i := 4) (p := 4) rfl dX6_layRow_13 ?_
        refine k_iadd C dX6_layRow_15 ?_
        refine k_aload_n C (f := 0) (i := 0) (p := 0) rfl rfl dX6_layRow_16 ?_
        refine k_iload_n C (f := 1) (i := 1) (p := 1) rfl rfl dX6_layRow_17 ?_
        refine k_iload C (i := 4) (p := 4) rfl dX6_layRow_18 ?_
        refine k_iadd C dX6_layRow_20 ?_
        refine k_iald C (hsf) (nI_add _ _) (by omega) (by omega) (hO u (b + k) (by omega)) dX6_layRow_21 ?_
        refine k_iast C (hsa) (nI_add _ _) (by omega) (by omega) dX6_layRow_22 ?_
        refine k_iinc C (i := 4) (p := 4) (lv := [(4, _), (0, _), (1, _), (2, _), (3, _)]) (Nat.le_of_ble_eq_true rfl) rfl (by first | exact am_inc1 _ | rfl) rfl dX6_layRow_23 ?_
        refine k_goto C (tgt := 3) (by decide) dX6_layRow_26 ?_
        refine k_sub [1, 2, 3, 4, 0] rfl ?_
        exact ih3 (k + 1) _ (by omega) (fun m hm => by
          by_cases e : m = k
          · rw [e, am_up_eq]
          · rw [am_up_n2 (by omega)]; exact hA m (by omega)) (fun A K h => by rw [am_up_n2 (by omega)]; exact hO A K h) (by omega)
  refine k_sub [1, 2, 3, 4, 0] rfl ?_
  exact loop3 221 0 I (Nat.zero_le _) (fun m h => absurd h (Nat.not_lt_zero m)) (fun _ _ _ => rfl) (by omega)
set_option maxHeartbeats 4000000 in
set_option maxRecDepth 100000 in
theorem ct_X6_recovers {G : am_G} {Λ : am_L} {I : am_I} {J : am_J} {s : Nat} {r : Nat → Int32} {j : Nat} (hs : Λ.1 s = (2, 220)) (hm : MRow I s 0 r) (hB : RowB r) (hj : j < 10) : am_Ct G yX6_recovers cX6_recovers 3 none { frames := 1, cells := 0, slots := 0, locals := 21 } [.ref s, .int (nI j)] Λ I J (am_gen Λ J (fun v I' => v = none ∧ MRow I' s 0 (upd r (14 + 8 * j) (sp_max (nI 0) (r (14 + 8 * j) - nI 10))) ∧ am_f1 s I I')) am_never := by
  refine am_ct_of (own := RX6) rfl (by decide) (Nat.le_of_ble_eq_true rfl) (fun X C => ?_)
  change am_K G X { frames := 1, cells := 0, slots := 0, locals := 21 } 3 Λ I J 0 0 0 [(0, .ref s), (1, .int (nI j))] []
  have hB9 := hB
  obtain ⟨⟨h6, h7, h8, h9⟩, hnc, hnw, hns, hnl⟩ := hB9
  have hg : am_f1 s I I := am_f1.rf
  
  refine k_iload_n C (f := 1) (i := 1) (p := 1) rfl rfl dX6_recovers_0 ?_
  refine k_iconst C ic_4 dX6_recovers_1 ?_
  refine k_callSp C s_X6_71 h_X6_camelAt (ct_X6_camelAt ) rfl rfl (Nat.le_of_ble_eq_true rfl) ⟨Nat.le_of_ble_eq_true rfl, Nat.le_of_ble_eq_true rfl⟩ ⟨Nat.le_of_ble_eq_true rfl, Nat.le_of_ble_eq_true rfl⟩ ⟨rfl, rfl⟩ dX6_recovers_2 ?_
  refine k_istore_n C (f := 2) (i := 2) (lv := [(2, _), (0, _), (1, _)]) rfl (Nat.le_of_ble_eq_true rfl) rfl dX6_recovers_5 ?_
  refine k_aload_n C (f := 0) (i := 0) (p := 1) rfl rfl dX6_recovers_6 ?_
  refine k_iload_n C (f := 2) (i := 2) (p := 0) rfl rfl dX6_recovers_7 ?_
  refine k_iconst C ic_0 dX6_recovers_8 ?_
  refine k_aload_n C (f := 0) (i := 0) (p := 1) rfl rfl dX6_recovers_9 ?_
  refine k_iload_n C (f := 2) (i := 2) (p := 0) rfl rfl dX6_recovers_10 ?_
  refine k_iald C (by assumption) (by first | rfl | assumption) (by omega) (by decide) (MRx (i := 14 + 8 * j) hm (by omega) (by omega)) dX6_recovers_11 ?_
  refine k_bipush C bc_10 dX6_recovers_12 ?_
  refine k_isub C dX6_recovers_14 ?_
  refine k_callSp C s_X6_80 h_X6_more (ct_X6_more ) rfl rfl (Nat.le_of_ble_eq_true rfl) ⟨Nat.le_of_ble_eq_true rfl, Nat.le_of_ble_eq_true rfl⟩ ⟨Nat.le_of_ble_eq_true rfl, Nat.le_of_ble_eq_true rfl⟩ ⟨rfl, rfl⟩ dX6_recovers_15 ?_
  refine k_rst C (i := 14 + 8 * j) (hs) (by first | rfl | assumption) (by omega) (by omega) hm hg dX6_recovers_18 (fun I9 hm hg => ?_)
  exact k_vret C (Nat.le_of_ble_eq_true rfl) (Nat.le_of_ble_eq_true rfl) (⟨rfl, rfl, ⟨rfl, hm, hg⟩⟩) dX6_recovers_19
set_option maxHeartbeats 4000000 in
set_option maxRecDepth 100000 in
theorem ct_X6_strains {G : am_G} {Λ : am_L} {I : am_I} {J : am_J} {s : Nat} {r : Nat → Int32} {j p : Nat} (hs : Λ.1 s = (2, 220)) (hm : MRow I s 0 r) (hok : RowOk r) (hj : j < sp_nc r) (hp : p < 1000) : am_Ct G yX6_strains cX6_strains 4 none { frames := 3, cells := 0, slots := 0, locals := 66 } [.ref s, .int (nI j), .int (nI p)] Λ I J (am_gen Λ J (fun v I' => v = none ∧ MRow I' s 0 (sp_strain r j (nI p - sp_speed r j)) ∧ am_f1 s I I')) am_never := by
  refine am_ct_of (own := RX6) rfl (by decide) (Nat.le_of_ble_eq_true rfl) (fun X C => ?_)
  change am_K G X { frames := 3, cells := 0, slots := 0, locals := 66 } 4 Λ I J 0 0 0 [(0, .ref s), (1, .int (nI j)), (2, .int (nI p))] []
  have hB := hok.B
  have hB9 := hB
  obtain ⟨⟨h6, h7, h8, h9⟩, hnc, hnw, hns, hnl⟩ := hB9
  have hg : am_f1 s I I := am_f1.rf
  obtain ⟨v, hv, hv5, hv6⟩ := speed_b hok hj
  refine k_aload_n C (f := 0) (i := 0) (p := 0) rfl rfl dX6_strains_0 ?_
  refine k_iload_n C (f := 1) (i := 1) (p := 1) rfl rfl dX6_strains_1 ?_
  refine k_callSp C s_X6_91 h_X6_speedOf (ct_X6_speedOf hs hm hB hj) rfl rfl (Nat.le_of_ble_eq_true rfl) ⟨Nat.le_of_ble_eq_true rfl, Nat.le_of_ble_eq_true rfl⟩ ⟨Nat.le_of_ble_eq_true rfl, Nat.le_of_ble_eq_true rfl⟩ ⟨rfl, rfl⟩ dX6_strains_2 ?_
  refine k_istore_n C (f := 3) (i := 3) (lv := [(3, _), (0, _), (1, _), (2, _)]) rfl (Nat.le_of_ble_eq_true rfl) rfl dX6_strains_5 ?_
  refine k_iload_n C (f := 2) (i := 2) (p := 3) rfl rfl dX6_strains_6 ?_
  refine k_iload_n C (f := 3) (i := 3) (p := 0) rfl rfl dX6_strains_7 ?_
  refine k_icmp_le C (tgt := 27) (by decide) dX6_strains_8 (fun hc8 => ?_) (fun hc8 => ?_)
  · skip
    refine k_aload_n C (f := 0) (i := 0) (p := 1) rfl rfl dX6_strains_27 ?_
    refine k_iload_n C (f := 1) (i := 1) (p := 2) rfl rfl dX6_strains_28 ?_
    refine k_callSg C s_X6_103 h_X6_recovers (ct_X6_recovers hs hm hB (by omega)) rfl rfl (Nat.le_of_ble_eq_true rfl) ⟨Nat.le_of_ble_eq_true rfl, Nat.le_of_ble_eq_true rfl⟩ ⟨Nat.le_of_ble_eq_true rfl, Nat.le_of_ble_eq_true rfl⟩ ⟨rfl, rfl⟩ dX6_strains_29 ?_
    intro v29 I9 hv
    obtain ⟨rfl, hm, g9⟩ := hv
    have hg := hg.tr g9
    exact k_vret C (Nat.le_of_ble_eq_true rfl) (Nat.le_of_ble_eq_true rfl) (⟨rfl, rfl, ⟨rfl, by first | (rw [strain_gt hv (by omega) (by omega) (by rw [hv] at hc8; exact (nI_ltI (by omega) (by omega)).mp (Int32.not_le.mp hc8))]; exact hm) | (rw [strain_le hv (by omega) (by omega) (by rw [hv] at hc8; exact (nI_leI (by omega) (by omega)).mp hc8)]; exact hm), hg⟩⟩) dX6_strains_32
  · skip
    refine k_aload_n C (f := 0) (i := 0) (p := 1) rfl rfl dX6_strains_11 ?_
    refine k_iload_n C (f := 1) (i := 1) (p := 2) rfl rfl dX6_strains_12 ?_
    refine k_iconst C ic_4 dX6_strains_13 ?_
    refine k_callSp C s_X6_71 h_X6_camelAt (ct_X6_camelAt ) rfl rfl (Nat.le_of_ble_eq_true rfl) ⟨Nat.le_of_ble_eq_true rfl, Nat.le_of_ble_eq_true rfl⟩ ⟨Nat.le_of_ble_eq_true rfl, Nat.le_of_ble_eq_true rfl⟩ ⟨rfl, rfl⟩ dX6_strains_14 ?_
    refine k_dup2 C rfl rfl dX6_strains_17 ?_
    refine k_iald C (by assumption) (by first | rfl | assumption) (by omega) (by decide) (MRx (i := 14 + 8 * j) hm (by omega) (by omega)) dX6_strains_18 ?_
    refine k_iload_n C (f := 2) (i := 2) (p := 3) rfl rfl dX6_strains_19 ?_
    refine k_iload_n C (f := 3) (i := 3) (p := 0) rfl rfl dX6_strains_20 ?_
    refine k_isub C dX6_strains_21 ?_
    refine k_iadd C dX6_strains_22 ?_
    refine k_rst C (i := 14 + 8 * j) (hs) (by first | rfl | assumption) (by omega) (by omega) hm hg dX6_strains_23 (fun I9 hm hg => ?_)
    refine k_goto C (tgt := 32) (by decide) dX6_strains_24 ?_
    exact k_vret C (Nat.le_of_ble_eq_true rfl) (Nat.le_of_ble_eq_true rfl) (⟨rfl, rfl, ⟨rfl, by first | (rw [strain_gt hv (by omega) (by omega) (by rw [hv] at hc8; exact (nI_ltI (by omega) (by omega)).mp (Int32.not_le.mp hc8))]; exact hm) | (rw [strain_le hv (by omega) (by omega) (by rw [hv] at hc8; exact (nI_leI (by omega) (by omega)).mp hc8)]; exact hm), hg⟩⟩) dX6_strains_32
set_option maxHeartbeats 4000000 in
set_option maxRecDepth 100000 in
theorem ct_X6_limps {G : am_G} {Λ : am_L} {I : am_I} {J : am_J} {s : Nat} {r : Nat → Int32} {j : Nat} (hs : Λ.1 s = (2, 220)) (hm : MRow I s 0 r) (hB : RowB r) (hj : j < 10) : am_Ct G yX6_limps cX6_limps 2 none { frames := 1, cells := 0, slots := 0, locals := 21 } [.ref s, .int (nI j)] Λ I J (am_gen Λ J (fun v I' => v = none ∧ MRow I' s 0 (sp_limp r j) ∧ am_f1 s I I')) am_never := by
  refine am_ct_of (own := RX6) rfl (by decide) (Nat.le_of_ble_eq_true rfl) (fun X C => ?_)
  change am_K G X { frames := 1, cells := 0, slots := 0, locals := 21 } 2 Λ I J 0 0 0 [(0, .ref s), (1, .int (nI j))] []
  have hB9 := hB
  obtain ⟨⟨h6, h7, h8, h9⟩, hnc, hnw, hns, hnl⟩ := hB9
  have hg : am_f1 s I I := am_f1.rf
  
  refine k_aload_n C (f := 0) (i := 0) (p := 0) rfl rfl dX6_limps_0 ?_
  refine k_iload_n C (f := 1) (i := 1) (p := 1) rfl rfl dX6_limps_1 ?_
  refine k_iconst C ic_4 dX6_limps_2 ?_
  refine k_callSp C s_X6_71 h_X6_camelAt (ct_X6_camelAt ) rfl rfl (Nat.le_of_ble_eq_true rfl) ⟨Nat.le_of_ble_eq_true rfl, Nat.le_of_ble_eq_true rfl⟩ ⟨Nat.le_of_ble_eq_true rfl, Nat.le_of_ble_eq_true rfl⟩ ⟨rfl, rfl⟩ dX6_limps_3 ?_
  refine k_iald C (by assumption) (by first | rfl | assumption) (by omega) (by decide) (MRx (i := 14 + 8 * j) hm (by omega) (by omega)) dX6_limps_6 ?_
  refine k_bipush C bc_60 dX6_limps_7 ?_
  refine k_icmp_le C (tgt := 34) (by decide) dX6_limps_9 (fun hc9 => ?_) (fun hc9 => ?_)
  · skip
    refine k_aload_n C (f := 0) (i := 0) (p := 0) rfl rfl dX6_limps_34 ?_
    refine k_iload_n C (f := 1) (i := 1) (p := 1) rfl rfl dX6_limps_35 ?_
    refine k_iconst C ic_5 dX6_limps_36 ?_
    refine k_callSp C s_X6_71 h_X6_camelAt (ct_X6_camelAt ) rfl rfl (Nat.le_of_ble_eq_true rfl) ⟨Nat.le_of_ble_eq_true rfl, Nat.le_of_ble_eq_true rfl⟩ ⟨Nat.le_of_ble_eq_true rfl, Nat.le_of_ble_eq_true rfl⟩ ⟨rfl, rfl⟩ dX6_limps_37 ?_
    refine k_iald C (by assumption) (by first | rfl | assumption) (by omega) (by decide) (MRx (i := 15 + 8 * j) hm (by omega) (by omega)) dX6_limps_40 ?_
    refine k_if_le C (tgt := 55) (by decide) dX6_limps_41 (fun hc41 => ?_) (fun hc41 => ?_)
    · skip
      exact k_vret C (Nat.le_of_ble_eq_true rfl) (Nat.le_of_ble_eq_true rfl) (⟨rfl, rfl, ⟨rfl, by first | (rw [limp_a (Int32.not_le.mp hc9)]; exact hm) | (rw [limp_b (Int32.not_lt.mpr hc9) (Int32.not_le.mp hc41)]; exact hm) | (rw [limp_c (Int32.not_lt.mpr hc9) (Int32.not_lt.mpr hc41)]; exact hm), hg⟩⟩) dX6_limps_55
    · skip
      refine k_aload_n C (f := 0) (i := 0) (p := 0) rfl rfl dX6_limps_44 ?_
      refine k_iload_n C (f := 1) (i := 1) (p := 1) rfl rfl dX6_limps_45 ?_
      refine k_iconst C ic_5 dX6_limps_46 ?_
      refine k_callSp C s_X6_71 h_X6_camelAt (ct_X6_camelAt ) rfl rfl (Nat.le_of_ble_eq_true rfl) ⟨Nat.le_of_ble_eq_true rfl, Nat.le_of_ble_eq_true rfl⟩ ⟨Nat.le_of_ble_eq_true rfl, Nat.le_of_ble_eq_true rfl⟩ ⟨rfl, rfl⟩ dX6_limps_47 ?_
      refine k_dup2 C rfl rfl dX6_limps_50 ?_
      refine k_iald C (by assumption) (by first | rfl | assumption) (by omega) (by decide) (MRx (i := 15 + 8 * j) hm (by omega) (by omega)) dX6_limps_51 ?_
      refine k_iconst C ic_1 dX6_limps_52 ?_
      refine k_isub C dX6_limps_53 ?_
      refine k_rst C (i := 15 + 8 * j) (hs) (by first | rfl | assumption) (by omega) (by omega) hm hg dX6_limps_54 (fun I9 hm hg => ?_)
      exact k_vret C (Nat.le_of_ble_eq_true rfl) (Nat.le_of_ble_eq_true rfl) (⟨rfl, rfl, ⟨rfl, by first | (rw [limp_a (Int32.not_le.mp hc9)]; exact hm) | (rw [limp_b (Int32.not_lt.mpr hc9) (Int32.not_le.mp hc41)]; exact hm) | (rw [limp_c (Int32.not_lt.mpr hc9) (Int32.not_lt.mpr hc41)]; exact hm), hg⟩⟩) dX6_limps_55
  · skip
    refine k_aload_n C (f := 0) (i := 0) (p := 0) rfl rfl dX6_limps_12 ?_
    refine k_iload_n C (f := 1) (i := 1) (p := 1) rfl rfl dX6_limps_13 ?_
    refine k_iconst C ic_5 dX6_limps_14 ?_
    refine k_callSp C s_X6_71 h_X6_camelAt (ct_X6_camelAt ) rfl rfl (Nat.le_of_ble_eq_true rfl) ⟨Nat.le_of_ble_eq_true rfl, Nat.le_of_ble_eq_true rfl⟩ ⟨Nat.le_of_ble_eq_true rfl, Nat.le_of_ble_eq_true rfl⟩ ⟨rfl, rfl⟩ dX6_limps_15 ?_
    refine k_dup2 C rfl rfl dX6_limps_18 ?_
    refine k_iald C (by assumption) (by first | rfl | assumption) (by omega) (by decide) (MRx (i := 15 + 8 * j) hm (by omega) (by omega)) dX6_limps_19 ?_
    refine k_iconst C ic_3 dX6_limps_20 ?_
    refine k_iadd C dX6_limps_21 ?_
    refine k_rst C (i := 15 + 8 * j) (hs) (by first | rfl | assumption) (by omega) (by omega) hm hg dX6_limps_22 (fun I9 hm hg => ?_)
    refine k_aload_n C (f := 0) (i := 0) (p := 0) rfl rfl dX6_limps_23 ?_
    refine k_iload_n C (f := 1) (i := 1) (p := 1) rfl rfl dX6_limps_24 ?_
    refine k_iconst C ic_4 dX6_limps_25 ?_
    refine k_callSp C s_X6_71 h_X6_camelAt (ct_X6_camelAt ) rfl rfl (Nat.le_of_ble_eq_true rfl) ⟨Nat.le_of_ble_eq_true rfl, Nat.le_of_ble_eq_true rfl⟩ ⟨Nat.le_of_ble_eq_true rfl, Nat.le_of_ble_eq_true rfl⟩ ⟨rfl, rfl⟩ dX6_limps_26 ?_
    refine k_iconst C ic_0 dX6_limps_29 ?_
    refine k_rst C (i := 14 + 8 * j) (hs) (by first | rfl | assumption) (by omega) (by omega) hm hg dX6_limps_30 (fun I9 hm hg => ?_)
    refine k_goto C (tgt := 55) (by decide) dX6_limps_31 ?_
    exact k_vret C (Nat.le_of_ble_eq_true rfl) (Nat.le_of_ble_eq_true rfl) (⟨rfl, rfl, ⟨rfl, by first | (rw [limp_a (Int32.not_le.mp hc9)]; exact hm) | (rw [limp_b (Int32.not_lt.mpr hc9) (Int32.not_le.mp hc41)]; exact hm) | (rw [limp_c (Int32.not_lt.mpr hc9) (Int32.not_lt.mpr hc41)]; exact hm), hg⟩⟩) dX6_limps_55
set_option maxHeartbeats 4000000 in
set_option maxRecDepth 100000 in
theorem ct_X6_dies {G : am_G} {Λ : am_L} {I : am_I} {J : am_J} {s : Nat} {r : Nat → Int32} {j : Nat} (hs : Λ.1 s = (2, 220)) (hm : MRow I s 0 r) (hB : RowB r) (hj : j < 10) : am_Ct G yX6_dies cX6_dies 3 none { frames := 1, cells := 0, slots := 0, locals := 21 } [.ref s, .int (nI j)] Λ I J (am_gen Λ J (fun v I' => v = none ∧ MRow I' s 0 (sp_die r j) ∧ am_f1 s I I')) am_never := by
  refine am_ct_of (own := RX6) rfl (by decide) (Nat.le_of_ble_eq_true rfl) (fun X C => ?_)
  change am_K G X { frames := 1, cells := 0, slots := 0, locals := 21 } 3 Λ I J 0 0 0 [(0, .ref s), (1, .int (nI j))] []
  have hB9 := hB
  obtain ⟨⟨h6, h7, h8, h9⟩, hnc, hnw, hns, hnl⟩ := hB9
  have hg : am_f1 s I I := am_f1.rf
  
  refine k_aload_n C (f := 0) (i := 0) (p := 0) rfl rfl dX6_dies_0 ?_
  refine k_iload_n C (f := 1) (i := 1) (p := 1) rfl rfl dX6_dies_1 ?_
  refine k_bipush C bc_7 dX6_dies_2 ?_
  refine k_callSp C s_X6_71 h_X6_camelAt (ct_X6_camelAt ) rfl rfl (Nat.le_of_ble_eq_true rfl) ⟨Nat.le_of_ble_eq_true rfl, Nat.le_of_ble_eq_true rfl⟩ ⟨Nat.le_of_ble_eq_true rfl, Nat.le_of_ble_eq_true rfl⟩ ⟨rfl, rfl⟩ dX6_dies_4 ?_
  refine k_iconst C ic_1 dX6_dies_7 ?_
  refine k_rst C (i := 17 + 8 * j) (hs) (by first | rfl | assumption) (by omega) (by omega) hm hg dX6_dies_8 (fun I9 hm hg => ?_)
  refine k_iconst C ic_0 dX6_dies_9 ?_
  refine k_istore_n C (f := 2) (i := 2) (lv := [(2, _), (0, _), (1, _)]) rfl (Nat.le_of_ble_eq_true rfl) rfl dX6_dies_10 ?_
  have loop11 : ∀ (f : Nat) (k : Nat) (I1 : am_I), (k ≤ sp_nl r) → (MRow I1 s 0 (sp_dropTo (upd r (17 + 8 * j) (nI 1)) j k)) → (am_f1 s I I1) → (sp_nl r - k) < f → am_K G X { frames := 1, cells := 0, slots := 0, locals := 21 } 3 Λ I1 J 0 0 11 [(0, .ref s), (1, .int (nI j)), (2, .int (nI k))] [] := by
    intro f
    induction f with
    | zero => intro k I1 hk hm hg hf; exact absurd hf (Nat.not_lt_zero _)
    | succ f ih11 =>
      intro k I1 hk hm hg hf
      refine k_iload_n C (f := 2) (i := 2) (p := 2) rfl rfl dX6_dies_11 ?_
      refine k_aload_n C (f := 0) (i := 0) (p := 0) rfl rfl dX6_dies_12 ?_
      refine k_bipush C bc_9 dX6_dies_13 ?_
      refine k_iald C (by assumption) (by first | rfl | assumption) (by omega) (by decide) ((MR hm (by decide)).trans ((drop_lo (by omega)).trans ((upd_ne (by omega)).trans h9))) dX6_dies_15 ?_
      first
      | refine k_icmpN_ge C (tgt := 57) (by omega) (by omega) (by decide) dX6_dies_16 (fun hc16 => ?_) (fun hc16 => ?_)
      | refine k_icmp_ge C (tgt := 57) (by decide) dX6_dies_16 (fun hc16 => ?_) (fun hc16 => ?_)
      · skip
        exact k_vret C (Nat.le_of_ble_eq_true rfl) (Nat.le_of_ble_eq_true rfl) (⟨rfl, rfl, ⟨rfl, by rw [show k = sp_nl r by omega] at hm; exact hm, hg⟩⟩) dX6_dies_57
      · skip
        refine k_aload_n C (f := 0) (i := 0) (p := 0) rfl rfl dX6_dies_19 ?_
        refine k_iload_n C (f := 2) (i := 2) (p := 2) rfl rfl dX6_dies_20 ?_
        refine k_iconst C ic_2 dX6_dies_21 ?_
        refine k_callSp C s_X6_56 h_X6_loadAt (ct_X6_loadAt ) rfl rfl (Nat.le_of_ble_eq_true rfl) ⟨Nat.le_of_ble_eq_true rfl, Nat.le_of_ble_eq_true rfl⟩ ⟨Nat.le_of_ble_eq_true rfl, Nat.le_of_ble_eq_true rfl⟩ ⟨rfl, rfl⟩ dX6_dies_22 ?_
        refine k_iald C (by assumption) (by first | rfl | assumption) (by omega) (by decide) (MRx (i := 142 + 4 * k) hm (by omega) (by omega)) dX6_dies_25 ?_
        refine k_iload_n C (f := 1) (i := 1) (p := 1) rfl rfl dX6_dies_26 ?_
        refine k_icmp_eq C (tgt := 33) (by decide) dX6_dies_27 (fun hc27 => ?_) (fun hc27 => ?_)
        · skip
          refine k_aload_n C (f := 0) (i := 0) (p := 0) rfl rfl dX6_dies_33 ?_
          refine k_iload_n C (f := 2) (i := 2) (p := 2) rfl rfl dX6_dies_34 ?_
          refine k_iconst C ic_2 dX6_dies_35 ?_
          refine k_callSp C s_X6_56 h_X6_loadAt (ct_X6_loadAt ) rfl rfl (Nat.le_of_ble_eq_true rfl) ⟨Nat.le_of_ble_eq_true rfl, Nat.le_of_ble_eq_true rfl⟩ ⟨Nat.le_of_ble_eq_true rfl, Nat.le_of_ble_eq_true rfl⟩ ⟨rfl, rfl⟩ dX6_dies_36 ?_
          refine k_iconst C ic_m1 dX6_dies_39 ?_
          refine k_rst C (i := 142 + 4 * k) (hs) (by first | rfl | assumption) (by omega) (by omega) hm hg dX6_dies_40 (fun I9 hm hg => ?_)
          refine k_aload_n C (f := 0) (i := 0) (p := 0) rfl rfl dX6_dies_41 ?_
          refine k_iload_n C (f := 2) (i := 2) (p := 2) rfl rfl dX6_dies_42 ?_
          refine k_iconst C ic_3 dX6_dies_43 ?_
          refine k_callSp C s_X6_56 h_X6_loadAt (ct_X6_loadAt ) rfl rfl (Nat.le_of_ble_eq_true rfl) ⟨Nat.le_of_ble_eq_true rfl, Nat.le_of_ble_eq_true rfl⟩ ⟨Nat.le_of_ble_eq_true rfl, Nat.le_of_ble_eq_true rfl⟩ ⟨rfl, rfl⟩ dX6_dies_44 ?_
          refine k_aload_n C (f := 0) (i := 0) (p := 0) rfl rfl dX6_dies_47 ?_
          refine k_iconst C ic_1 dX6_dies_48 ?_
          refine k_iald C (by assumption) (by first | rfl | assumption) (by omega) (by decide) ((MR hm (by decide)).trans (upd_ne (by omega))) dX6_dies_49 ?_
          refine k_rst C (i := 143 + 4 * k) (hs) (by first | rfl | assumption) (by omega) (by omega) hm hg dX6_dies_50 (fun I9 hm hg => ?_)
          refine k_iinc C (i := 2) (p := 2) (lv := [(2, _), (0, _), (1, _)]) (Nat.le_of_ble_eq_true rfl) rfl (by first | exact am_inc1 _ | rfl) rfl dX6_dies_51 ?_
          refine k_goto C (tgt := 11) (by decide) dX6_dies_54 ?_
          refine k_sub [1, 2, 0] rfl ?_
          first
          | exact ih11 (k + 1) _ (by omega) (MR_eq hm (sp_dropTo_t hc27).symm) hg (by omega)
          | exact ih11 (k + 1) _ (by omega) (MR_eq hm (sp_dropTo_f hc27).symm) hg (by omega)
        · skip
          refine k_goto C (tgt := 51) (by decide) dX6_dies_30 ?_
          refine k_iinc C (i := 2) (p := 2) (lv := [(2, _), (0, _), (1, _)]) (Nat.le_of_ble_eq_true rfl) rfl (by first | exact am_inc1 _ | rfl) rfl dX6_dies_51 ?_
          refine k_goto C (tgt := 11) (by decide) dX6_dies_54 ?_
          refine k_sub [1, 2, 0] rfl ?_
          first
          | exact ih11 (k + 1) _ (by omega) (MR_eq hm (sp_dropTo_t hc27).symm) hg (by omega)
          | exact ih11 (k + 1) _ (by omega) (MR_eq hm (sp_dropTo_f hc27).symm) hg (by omega)
  refine k_sub [1, 2, 0] rfl ?_
  exact loop11 (sp_nl r + 1) 0 _ (Nat.zero_le _) hm hg (by omega)
set_option maxHeartbeats 4000000 in
set_option maxRecDepth 100000 in
theorem ct_X6_thirsts {G : am_G} {Λ : am_L} {I : am_I} {J : am_J} {s : Nat} {r : Nat → Int32} {j : Nat} {x : Int32} (hs : Λ.1 s = (2, 220)) (hm : MRow I s 0 r) (hB : RowB r) (hj : j < sp_nc r) : am_Ct G yX6_thirsts cX6_thirsts 4 none { frames := 2, cells := 0, slots := 0, locals := 43 } [.ref s, .int (nI j), .int x] Λ I J (am_gen Λ J (fun v I' => v = none ∧ MRow I' s 0 (sp_drain r j x) ∧ am_f1 s I I')) am_never := by
  refine am_ct_of (own := RX6) rfl (by decide) (Nat.le_of_ble_eq_true rfl) (fun X C => ?_)
  change am_K G X { frames := 2, cells := 0, slots := 0, locals := 43 } 4 Λ I J 0 0 0 [(0, .ref s), (1, .int (nI j)), (2, .int x)] []
  have hB9 := hB
  obtain ⟨⟨h6, h7, h8, h9⟩, hnc, hnw, hns, hnl⟩ := hB9
  have hg : am_f1 s I I := am_f1.rf
  
  refine k_iload_n C (f := 1) (i := 1) (p := 1) rfl rfl dX6_thirsts_0 ?_
  refine k_iconst C ic_3 dX6_thirsts_1 ?_
  refine k_callSp C s_X6_71 h_X6_camelAt (ct_X6_camelAt ) rfl rfl (Nat.le_of_ble_eq_true rfl) ⟨Nat.le_of_ble_eq_true rfl, Nat.le_of_ble_eq_true rfl⟩ ⟨Nat.le_of_ble_eq_true rfl, Nat.le_of_ble_eq_true rfl⟩ ⟨rfl, rfl⟩ dX6_thirsts_2 ?_
  refine k_istore_n C (f := 3) (i := 3) (lv := [(3, _), (0, _), (1, _), (2, _)]) rfl (Nat.le_of_ble_eq_true rfl) rfl dX6_thirsts_5 ?_
  refine k_aload_n C (f := 0) (i := 0) (p := 1) rfl rfl dX6_thirsts_6 ?_
  refine k_iload_n C (f := 3) (i := 3) (p := 0) rfl rfl dX6_thirsts_7 ?_
  refine k_iald C (by assumption) (by first | rfl | assumption) (by omega) (by decide) (MRx (i := 13 + 8 * j) hm (by omega) (by omega)) dX6_thirsts_8 ?_
  refine k_iload_n C (f := 2) (i := 2) (p := 3) rfl rfl dX6_thirsts_9 ?_
  refine k_icmp_lt C (tgt := 30) (by decide) dX6_thirsts_10 (fun hc10 => ?_) (fun hc10 => ?_)
  · skip
    refine k_aload_n C (f := 0) (i := 0) (p := 1) rfl rfl dX6_thirsts_30 ?_
    refine k_iload_n C (f := 3) (i := 3) (p := 0) rfl rfl dX6_thirsts_31 ?_
    refine k_iconst C ic_0 dX6_thirsts_32 ?_
    refine k_rst C (i := 13 + 8 * j) (hs) (by first | rfl | assumption) (by omega) (by omega) hm hg dX6_thirsts_33 (fun I9 hm hg => ?_)
    refine k_aload_n C (f := 0) (i := 0) (p := 1) rfl rfl dX6_thirsts_34 ?_
    refine k_iload_n C (f := 1) (i := 1) (p := 2) rfl rfl dX6_thirsts_35 ?_
    refine k_bipush C bc_6 dX6_thirsts_36 ?_
    refine k_callSp C s_X6_71 h_X6_camelAt (ct_X6_camelAt ) rfl rfl (Nat.le_of_ble_eq_true rfl) ⟨Nat.le_of_ble_eq_true rfl, Nat.le_of_ble_eq_true rfl⟩ ⟨Nat.le_of_ble_eq_true rfl, Nat.le_of_ble_eq_true rfl⟩ ⟨rfl, rfl⟩ dX6_thirsts_38 ?_
    refine k_dup2 C rfl rfl dX6_thirsts_41 ?_
    refine k_iald C (by assumption) (by first | rfl | assumption) (by omega) (by decide) ((MRx (i := 16 + 8 * j) hm (by omega) (by omega)).trans (upd_ne (by omega))) dX6_thirsts_42 ?_
    refine k_iconst C ic_1 dX6_thirsts_43 ?_
    refine k_iadd C dX6_thirsts_44 ?_
    refine k_rst C (i := 16 + 8 * j) (hs) (by first | rfl | assumption) (by omega) (by omega) hm hg dX6_thirsts_45 (fun I9 hm hg => ?_)
    refine k_aload_n C (f := 0) (i := 0) (p := 1) rfl rfl dX6_thirsts_46 ?_
    refine k_iload_n C (f := 1) (i := 1) (p := 2) rfl rfl dX6_thirsts_47 ?_
    refine k_bipush C bc_6 dX6_thirsts_48 ?_
    refine k_callSp C s_X6_71 h_X6_camelAt (ct_X6_camelAt ) rfl rfl (Nat.le_of_ble_eq_true rfl) ⟨Nat.le_of_ble_eq_true rfl, Nat.le_of_ble_eq_true rfl⟩ ⟨Nat.le_of_ble_eq_true rfl, Nat.le_of_ble_eq_true rfl⟩ ⟨rfl, rfl⟩ dX6_thirsts_50 ?_
    refine k_iald C (by assumption) (by first | rfl | assumption) (by omega) (by decide) ((MRx (i := 16 + 8 * j) hm (by omega) (by omega)).trans upd_eq) dX6_thirsts_53 ?_
    refine k_iconst C ic_3 dX6_thirsts_54 ?_
    refine k_icmp_ne C (tgt := 63) (by decide) dX6_thirsts_55 (fun hc55 => ?_) (fun hc55 => ?_)
    · skip
      exact k_vret C (Nat.le_of_ble_eq_true rfl) (Nat.le_of_ble_eq_true rfl) (⟨rfl, rfl, ⟨rfl, by first | exact MR_eq hm (drain_b (Int32.not_le.mpr hc10) hc55).symm | exact MR_eq hm (drain_c (Int32.not_le.mpr hc10) hc55).symm, hg⟩⟩) dX6_thirsts_63
    · skip
      refine k_aload_n C (f := 0) (i := 0) (p := 1) rfl rfl dX6_thirsts_58 ?_
      refine k_iload_n C (f := 1) (i := 1) (p := 2) rfl rfl dX6_thirsts_59 ?_
      refine k_callSg C s_X6_107 h_X6_dies (ct_X6_dies hs (show MRow _ s 0 (sp_dry r j) from hm) ((hB.up (by omega)).up (by omega)) (by omega)) rfl rfl (Nat.le_of_ble_eq_true rfl) ⟨Nat.le_of_ble_eq_true rfl, Nat.le_of_ble_eq_true rfl⟩ ⟨Nat.le_of_ble_eq_true rfl, Nat.le_of_ble_eq_true rfl⟩ ⟨rfl, rfl⟩ dX6_thirsts_60 ?_
      intro v60 I9 hv
      obtain ⟨rfl, hm, g9⟩ := hv
      have hg := hg.tr g9
      exact k_vret C (Nat.le_of_ble_eq_true rfl) (Nat.le_of_ble_eq_true rfl) (⟨rfl, rfl, ⟨rfl, by first | exact MR_eq hm (drain_b (Int32.not_le.mpr hc10) hc55).symm | exact MR_eq hm (drain_c (Int32.not_le.mpr hc10) hc55).symm, hg⟩⟩) dX6_thirsts_63
  · skip
    refine k_aload_n C (f := 0) (i := 0) (p := 1) rfl rfl dX6_thirsts_13 ?_
    refine k_iload_n C (f := 3) (i := 3) (p := 0) rfl rfl dX6_thirsts_14 ?_
    refine k_dup2 C rfl rfl dX6_thirsts_15 ?_
    refine k_iald C (by assumption) (by first | rfl | assumption) (by omega) (by decide) (MRx (i := 13 + 8 * j) hm (by omega) (by omega)) dX6_thirsts_16 ?_
    refine k_iload_n C (f := 2) (i := 2) (p := 3) rfl rfl dX6_thirsts_17 ?_
    refine k_isub C dX6_thirsts_18 ?_
    refine k_rst C (i := 13 + 8 * j) (hs) (by first | rfl | assumption) (by omega) (by omega) hm hg dX6_thirsts_19 (fun I9 hm hg => ?_)
    refine k_aload_n C (f := 0) (i := 0) (p := 1) rfl rfl dX6_thirsts_20 ?_
    refine k_iload_n C (f := 1) (i := 1) (p := 2) rfl rfl dX6_thirsts_21 ?_
    refine k_bipush C bc_6 dX6_thirsts_22 ?_
    refine k_callSp C s_X6_71 h_X6_camelAt (ct_X6_camelAt ) rfl rfl (Nat.le_of_ble_eq_true rfl) ⟨Nat.le_of_ble_eq_true rfl, Nat.le_of_ble_eq_true rfl⟩ ⟨Nat.le_of_ble_eq_true rfl, Nat.le_of_ble_eq_true rfl⟩ ⟨rfl, rfl⟩ dX6_thirsts_24 ?_
    refine k_iconst C ic_0 dX6_thirsts_27 ?_
    refine k_rst C (i := 16 + 8 * j) (hs) (by first | rfl | assumption) (by omega) (by omega) hm hg dX6_thirsts_28 (fun I9 hm hg => ?_)
    exact k_vret C (Nat.le_of_ble_eq_true rfl) (Nat.le_of_ble_eq_true rfl) (⟨rfl, rfl, ⟨rfl, MR_eq hm (drain_a (Int32.not_lt.mp hc10)).symm, hg⟩⟩) dX6_thirsts_29
set_option maxHeartbeats 4000000 in
set_option maxRecDepth 100000 in
theorem ct_X6_endsDay {G : am_G} {Λ : am_L} {I : am_I} {J : am_J} {s : Nat} {r : Nat → Int32}  (hs : Λ.1 s = (2, 220)) (hm : MRow I s 0 r) (hok : RowOk r) : am_Ct G yX6_endsDay cX6_endsDay 2 none { frames := 4, cells := 0, slots := 0, locals := 88 } [.ref s] Λ I J (am_gen Λ J (fun v I' => v = none ∧ MRow I' s 0 (sp_endDay r) ∧ am_f1 s I I')) am_never := by
  refine am_ct_of (own := RX6) rfl (by decide) (Nat.le_of_ble_eq_true rfl) (fun X C => ?_)
  change am_K G X { frames := 4, cells := 0, slots := 0, locals := 88 } 2 Λ I J 0 0 0 [(0, .ref s)] []
  have hB := hok.B
  have hB9 := hB
  obtain ⟨⟨h6, h7, h8, h9⟩, hnc, hnw, hns, hnl⟩ := hB9
  have hg : am_f1 s I I := am_f1.rf
  obtain ⟨ld, hld, hlc⟩ := RK_ld hok
  refine k_aload_n C (f := 0) (i := 0) (p := 0) rfl rfl dX6_endsDay_0 ?_
  refine k_aload_n C (f := 0) (i := 0) (p := 0) rfl rfl dX6_endsDay_1 ?_
  refine k_iconst C ic_4 dX6_endsDay_2 ?_
  refine k_iald C (by assumption) (by first | rfl | assumption) (by omega) (by decide) ((MR hm (by decide)).trans hld) dX6_endsDay_3 ?_
  refine k_callSp C s_X6_83 h_X6_lives (ct_X6_lives hs hm hB hok.D hlc) rfl rfl (Nat.le_of_ble_eq_true rfl) ⟨Nat.le_of_ble_eq_true rfl, Nat.le_of_ble_eq_true rfl⟩ ⟨Nat.le_of_ble_eq_true rfl, Nat.le_of_ble_eq_true rfl⟩ ⟨rfl, rfl⟩ dX6_endsDay_4 ?_
  refine k_ifb_ne C (tgt := 23) (by decide) dX6_endsDay_7 (fun hc7 => ?_) (fun hc7 => ?_)
  · skip
    refine k_iconst C ic_0 dX6_endsDay_23 ?_
    refine k_istore_n C (f := 1) (i := 1) (lv := [(1, _), (0, _)]) rfl (Nat.le_of_ble_eq_true rfl) rfl dX6_endsDay_24 ?_
    have loop25 : ∀ (f : Nat) (k : Nat) (I1 : am_I), (k ≤ sp_nw r) → (MRow I1 s 0 (sp_wellsTo (sp_lead r) k)) → (am_f1 s I I1) → (sp_nw r - k) < f → am_K G X { frames := 4, cells := 0, slots := 0, locals := 88 } 2 Λ I1 J 0 0 25 [(0, .ref s), (1, .int (nI k))] [] := by
      intro f
      induction f with
      | zero => intro k I1 hk hm hg hf; exact absurd hf (Nat.not_lt_zero _)
      | succ f ih25 =>
        intro k I1 hk hm hg hf
        have hok2 := rowok_wells (rowok_lead hok) k (by rw [(sc_lead r).2.1]; exact hk)
        have h72 := hok2.2.1.trans (congrArg nI (((sc_lead r).tr (sc_wells _ k)).2.1))
        refine k_iload_n C (f := 1) (i := 1) (p := 1) rfl rfl dX6_endsDay_25 ?_
        refine k_aload_n C (f := 0) (i := 0) (p := 0) rfl rfl dX6_endsDay_26 ?_
        refine k_bipush C bc_7 dX6_endsDay_27 ?_
        refine k_iald C (by assumption) (by first | rfl | assumption) (by omega) (by decide) ((MR hm (by decide)).trans h72) dX6_endsDay_29 ?_
        first
        | refine k_icmpN_ge C (tgt := 71) (by omega) (by omega) (by decide) dX6_endsDay_30 (fun hc30 => ?_) (fun hc30 => ?_)
        | refine k_icmp_ge C (tgt := 71) (by decide) dX6_endsDay_30 (fun hc30 => ?_) (fun hc30 => ?_)
        · skip
          refine k_aload_n C (f := 0) (i := 0) (p := 0) rfl rfl dX6_endsDay_71 ?_
          refine k_iconst C ic_2 dX6_endsDay_72 ?_
          refine k_dup2 C rfl rfl dX6_endsDay_73 ?_
          refine k_iald C (by assumption) (by first | rfl | assumption) (by omega) (by decide) (MR hm (by decide)) dX6_endsDay_74 ?_
          refine k_iconst C ic_1 dX6_endsDay_75 ?_
          refine k_iadd C dX6_endsDay_76 ?_
          refine k_rst C (i := 2) (hs) (rfl) (by omega) (by omega) hm hg dX6_endsDay_77 (fun I9 hm hg => ?_)
          exact k_vret C (Nat.le_of_ble_eq_true rfl) (Nat.le_of_ble_eq_true rfl) (⟨rfl, rfl, ⟨rfl, by rw [show k = sp_nw r by omega] at hm; exact hm, hg⟩⟩) dX6_endsDay_78
        · skip
          refine k_aload_n C (f := 0) (i := 0) (p := 0) rfl rfl dX6_endsDay_33 ?_
          refine k_iload_n C (f := 1) (i := 1) (p := 1) rfl rfl dX6_endsDay_34 ?_
          refine k_iconst C ic_3 dX6_endsDay_35 ?_
          refine k_callSp C s_X6_74 h_X6_wellAt (ct_X6_wellAt ) rfl rfl (Nat.le_of_ble_eq_true rfl) ⟨Nat.le_of_ble_eq_true rfl, Nat.le_of_ble_eq_true rfl⟩ ⟨Nat.le_of_ble_eq_true rfl, Nat.le_of_ble_eq_true rfl⟩ ⟨rfl, rfl⟩ dX6_endsDay_36 ?_
          refine k_aload_n C (f := 0) (i := 0) (p := 0) rfl rfl dX6_endsDay_39 ?_
          refine k_iload_n C (f := 1) (i := 1) (p := 1) rfl rfl dX6_endsDay_40 ?_
          refine k_iconst C ic_1 dX6_endsDay_41 ?_
          refine k_callSp C s_X6_74 h_X6_wellAt (ct_X6_wellAt ) rfl rfl (Nat.le_of_ble_eq_true rfl) ⟨Nat.le_of_ble_eq_true rfl, Nat.le_of_ble_eq_true rfl⟩ ⟨Nat.le_of_ble_eq_true rfl, Nat.le_of_ble_eq_true rfl⟩ ⟨rfl, rfl⟩ dX6_endsDay_42 ?_
          refine k_iald C (by assumption) (by first | rfl | assumption) (by omega) (by decide) (MRx (i := 91 + 4 * k) hm (by omega) (by omega)) dX6_endsDay_45 ?_
          refine k_aload_n C (f := 0) (i := 0) (p := 0) rfl rfl dX6_endsDay_46 ?_
          refine k_iload_n C (f := 1) (i := 1) (p := 1) rfl rfl dX6_endsDay_47 ?_
          refine k_iconst C ic_3 dX6_endsDay_48 ?_
          refine k_callSp C s_X6_74 h_X6_wellAt (ct_X6_wellAt ) rfl rfl (Nat.le_of_ble_eq_true rfl) ⟨Nat.le_of_ble_eq_true rfl, Nat.le_of_ble_eq_true rfl⟩ ⟨Nat.le_of_ble_eq_true rfl, Nat.le_of_ble_eq_true rfl⟩ ⟨rfl, rfl⟩ dX6_endsDay_49 ?_
          refine k_iald C (by assumption) (by first | rfl | assumption) (by omega) (by decide) (MRx (i := 93 + 4 * k) hm (by omega) (by omega)) dX6_endsDay_52 ?_
          refine k_aload_n C (f := 0) (i := 0) (p := 0) rfl rfl dX6_endsDay_53 ?_
          refine k_iload_n C (f := 1) (i := 1) (p := 1) rfl rfl dX6_endsDay_54 ?_
          refine k_iconst C ic_2 dX6_endsDay_55 ?_
          refine k_callSp C s_X6_74 h_X6_wellAt (ct_X6_wellAt ) rfl rfl (Nat.le_of_ble_eq_true rfl) ⟨Nat.le_of_ble_eq_true rfl, Nat.le_of_ble_eq_true rfl⟩ ⟨Nat.le_of_ble_eq_true rfl, Nat.le_of_ble_eq_true rfl⟩ ⟨rfl, rfl⟩ dX6_endsDay_56 ?_
          refine k_iald C (by assumption) (by first | rfl | assumption) (by omega) (by decide) (MRx (i := 92 + 4 * k) hm (by omega) (by omega)) dX6_endsDay_59 ?_
          refine k_iadd C dX6_endsDay_60 ?_
          refine k_callSp C s_X6_97 h_X6_less (ct_X6_less ) rfl rfl (Nat.le_of_ble_eq_true rfl) ⟨Nat.le_of_ble_eq_true rfl, Nat.le_of_ble_eq_true rfl⟩ ⟨Nat.le_of_ble_eq_true rfl, Nat.le_of_ble_eq_true rfl⟩ ⟨rfl, rfl⟩ dX6_endsDay_61 ?_
          refine k_rst C (i := 93 + 4 * k) (hs) (by first | rfl | assumption) (by omega) (by omega) hm hg dX6_endsDay_64 (fun I9 hm hg => ?_)
          refine k_iinc C (i := 1) (p := 1) (lv := [(1, _), (0, _)]) (Nat.le_of_ble_eq_true rfl) rfl (by first | exact am_inc1 _ | rfl) rfl dX6_endsDay_65 ?_
          refine k_goto C (tgt := 25) (by decide) dX6_endsDay_68 ?_
          refine k_sub [1, 0] rfl ?_
          exact ih25 (k + 1) _ (by omega) hm hg (by omega)
    refine k_sub [1, 0] rfl ?_
    exact loop25 (sp_nw r + 1) 0 _ (Nat.zero_le _) (by first | exact MR_eq hm (lead_a hld (by omega) hc7).symm | exact MR_eq hm (lead_b hld (by omega) hc7 hc16).symm | exact MR_eq hm (lead_c hld (by omega) hc7 hc16).symm) hg (by omega)
  · skip
    refine k_aload_n C (f := 0) (i := 0) (p := 0) rfl rfl dX6_endsDay_10 ?_
    refine k_callSp C s_X6_110 h_X6_fastestOf (ct_X6_fastestOf hs hm hB hok.D) rfl rfl (Nat.le_of_ble_eq_true rfl) ⟨Nat.le_of_ble_eq_true rfl, Nat.le_of_ble_eq_true rfl⟩ ⟨Nat.le_of_ble_eq_true rfl, Nat.le_of_ble_eq_true rfl⟩ ⟨rfl, rfl⟩ dX6_endsDay_11 ?_
    refine k_istore_n C (f := 1) (i := 1) (lv := [(1, _), (0, _)]) rfl (Nat.le_of_ble_eq_true rfl) rfl dX6_endsDay_14 ?_
    refine k_iload_n C (f := 1) (i := 1) (p := 0) rfl rfl dX6_endsDay_15 ?_
    refine k_if_lt C (tgt := 23) (by decide) dX6_endsDay_16 (fun hc16 => ?_) (fun hc16 => ?_)
    · skip
      refine k_iconst C ic_0 dX6_endsDay_23 ?_
      refine k_istore_n C (f := 1) (i := 1) (lv := [(1, _), (0, _)]) rfl (Nat.le_of_ble_eq_true rfl) rfl dX6_endsDay_24 ?_
      have loop25 : ∀ (f : Nat) (k : Nat) (I1 : am_I), (k ≤ sp_nw r) → (MRow I1 s 0 (sp_wellsTo (sp_lead r) k)) → (am_f1 s I I1) → (sp_nw r - k) < f → am_K G X { frames := 4, cells := 0, slots := 0, locals := 88 } 2 Λ I1 J 0 0 25 [(0, .ref s), (1, .int (nI k))] [] := by
        intro f
        induction f with
        | zero => intro k I1 hk hm hg hf; exact absurd hf (Nat.not_lt_zero _)
        | succ f ih25 =>
          intro k I1 hk hm hg hf
          have hok2 := rowok_wells (rowok_lead hok) k (by rw [(sc_lead r).2.1]; exact hk)
          have h72 := hok2.2.1.trans (congrArg nI (((sc_lead r).tr (sc_wells _ k)).2.1))
          refine k_iload_n C (f := 1) (i := 1) (p := 1) rfl rfl dX6_endsDay_25 ?_
          refine k_aload_n C (f := 0) (i := 0) (p := 0) rfl rfl dX6_endsDay_26 ?_
          refine k_bipush C bc_7 dX6_endsDay_27 ?_
          refine k_iald C (by assumption) (by first | rfl | assumption) (by omega) (by decide) ((MR hm (by decide)).trans h72) dX6_endsDay_29 ?_
          first
          | refine k_icmpN_ge C (tgt := 71) (by omega) (by omega) (by decide) dX6_endsDay_30 (fun hc30 => ?_) (fun hc30 => ?_)
          | refine k_icmp_ge C (tgt := 71) (by decide) dX6_endsDay_30 (fun hc30 => ?_) (fun hc30 => ?_)
          · skip
            refine k_aload_n C (f := 0) (i := 0) (p := 0) rfl rfl dX6_endsDay_71 ?_
            refine k_iconst C ic_2 dX6_endsDay_72 ?_
            refine k_dup2 C rfl rfl dX6_endsDay_73 ?_
            refine k_iald C (by assumption) (by first | rfl | assumption) (by omega) (by decide) (MR hm (by decide)) dX6_endsDay_74 ?_
            refine k_iconst C ic_1 dX6_endsDay_75 ?_
            refine k_iadd C dX6_endsDay_76 ?_
            refine k_rst C (i := 2) (hs) (rfl) (by omega) (by omega) hm hg dX6_endsDay_77 (fun I9 hm hg => ?_)
            exact k_vret C (Nat.le_of_ble_eq_true rfl) (Nat.le_of_ble_eq_true rfl) (⟨rfl, rfl, ⟨rfl, by rw [show k = sp_nw r by omega] at hm; exact hm, hg⟩⟩) dX6_endsDay_78
          · skip
            refine k_aload_n C (f := 0) (i := 0) (p := 0) rfl rfl dX6_endsDay_33 ?_
            refine k_iload_n C (f := 1) (i := 1) (p := 1) rfl rfl dX6_endsDay_34 ?_
            refine k_iconst C ic_3 dX6_endsDay_35 ?_
            refine k_callSp C s_X6_74 h_X6_wellAt (ct_X6_wellAt ) rfl rfl (Nat.le_of_ble_eq_true rfl) ⟨Nat.le_of_ble_eq_true rfl, Nat.le_of_ble_eq_true rfl⟩ ⟨Nat.le_of_ble_eq_true rfl, Nat.le_of_ble_eq_true rfl⟩ ⟨rfl, rfl⟩ dX6_endsDay_36 ?_
            refine k_aload_n C (f := 0) (i := 0) (p := 0) rfl rfl dX6_endsDay_39 ?_
            refine k_iload_n C (f := 1) (i := 1) (p := 1) rfl rfl dX6_endsDay_40 ?_
            refine k_iconst C ic_1 dX6_endsDay_41 ?_
            refine k_callSp C s_X6_74 h_X6_wellAt (ct_X6_wellAt ) rfl rfl (Nat.le_of_ble_eq_true rfl) ⟨Nat.le_of_ble_eq_true rfl, Nat.le_of_ble_eq_true rfl⟩ ⟨Nat.le_of_ble_eq_true rfl, Nat.le_of_ble_eq_true rfl⟩ ⟨rfl, rfl⟩ dX6_endsDay_42 ?_
            refine k_iald C (by assumption) (by first | rfl | assumption) (by omega) (by decide) (MRx (i := 91 + 4 * k) hm (by omega) (by omega)) dX6_endsDay_45 ?_
            refine k_aload_n C (f := 0) (i := 0) (p := 0) rfl rfl dX6_endsDay_46 ?_
            refine k_iload_n C (f := 1) (i := 1) (p := 1) rfl rfl dX6_endsDay_47 ?_
            refine k_iconst C ic_3 dX6_endsDay_48 ?_
            refine k_callSp C s_X6_74 h_X6_wellAt (ct_X6_wellAt ) rfl rfl (Nat.le_of_ble_eq_true rfl) ⟨Nat.le_of_ble_eq_true rfl, Nat.le_of_ble_eq_true rfl⟩ ⟨Nat.le_of_ble_eq_true rfl, Nat.le_of_ble_eq_true rfl⟩ ⟨rfl, rfl⟩ dX6_endsDay_49 ?_
            refine k_iald C (by assumption) (by first | rfl | assumption) (by omega) (by decide) (MRx (i := 93 + 4 * k) hm (by omega) (by omega)) dX6_endsDay_52 ?_
            refine k_aload_n C (f := 0) (i := 0) (p := 0) rfl rfl dX6_endsDay_53 ?_
            refine k_iload_n C (f := 1) (i := 1) (p := 1) rfl rfl dX6_endsDay_54 ?_
            refine k_iconst C ic_2 dX6_endsDay_55 ?_
            refine k_callSp C s_X6_74 h_X6_wellAt (ct_X6_wellAt ) rfl rfl (Nat.le_of_ble_eq_true rfl) ⟨Nat.le_of_ble_eq_true rfl, Nat.le_of_ble_eq_true rfl⟩ ⟨Nat.le_of_ble_eq_true rfl, Nat.le_of_ble_eq_true rfl⟩ ⟨rfl, rfl⟩ dX6_endsDay_56 ?_
            refine k_iald C (by assumption) (by first | rfl | assumption) (by omega) (by decide) (MRx (i := 92 + 4 * k) hm (by omega) (by omega)) dX6_endsDay_59 ?_
            refine k_iadd C dX6_endsDay_60 ?_
            refine k_callSp C s_X6_97 h_X6_less (ct_X6_less ) rfl rfl (Nat.le_of_ble_eq_true rfl) ⟨Nat.le_of_ble_eq_true rfl, Nat.le_of_ble_eq_true rfl⟩ ⟨Nat.le_of_ble_eq_true rfl, Nat.le_of_ble_eq_true rfl⟩ ⟨rfl, rfl⟩ dX6_endsDay_61 ?_
            refine k_rst C (i := 93 + 4 * k) (hs) (by first | rfl | assumption) (by omega) (by omega) hm hg dX6_endsDay_64 (fun I9 hm hg => ?_)
            refine k_iinc C (i := 1) (p := 1) (lv := [(1, _), (0, _)]) (Nat.le_of_ble_eq_true rfl) rfl (by first | exact am_inc1 _ | rfl) rfl dX6_endsDay_65 ?_
            refine k_goto C (tgt := 25) (by decide) dX6_endsDay_68 ?_
            refine k_sub [1, 0] rfl ?_
            exact ih25 (k + 1) _ (by omega) hm hg (by omega)
      refine k_sub [1, 0] rfl ?_
      exact loop25 (sp_nw r + 1) 0 _ (Nat.zero_le _) (by first | exact MR_eq hm (lead_a hld (by omega) hc7).symm | exact MR_eq hm (lead_b hld (by omega) hc7 hc16).symm | exact MR_eq hm (lead_c hld (by omega) hc7 hc16).symm) hg (by omega)
    · skip
      refine k_aload_n C (f := 0) (i := 0) (p := 1) rfl rfl dX6_endsDay_19 ?_
      refine k_iconst C ic_4 dX6_endsDay_20 ?_
      refine k_iload_n C (f := 1) (i := 1) (p := 0) rfl rfl dX6_endsDay_21 ?_
      refine k_rst C (i := 4) (hs) (by first | rfl | assumption) (by omega) (by omega) hm hg dX6_endsDay_22 (fun I9 hm hg => ?_)
      refine k_iconst C ic_0 dX6_endsDay_23 ?_
      refine k_istore_n C (f := 1) (i := 1) (lv := [(1, _), (0, _)]) rfl (Nat.le_of_ble_eq_true rfl) rfl dX6_endsDay_24 ?_
      have loop25 : ∀ (f : Nat) (k : Nat) (I1 : am_I), (k ≤ sp_nw r) → (MRow I1 s 0 (sp_wellsTo (sp_lead r) k)) → (am_f1 s I I1) → (sp_nw r - k) < f → am_K G X { frames := 4, cells := 0, slots := 0, locals := 88 } 2 Λ I1 J 0 0 25 [(0, .ref s), (1, .int (nI k))] [] := by
        intro f
        induction f with
        | zero => intro k I1 hk hm hg hf; exact absurd hf (Nat.not_lt_zero _)
        | succ f ih25 =>
          intro k I1 hk hm hg hf
          have hok2 := rowok_wells (rowok_lead hok) k (by rw [(sc_lead r).2.1]; exact hk)
          have h72 := hok2.2.1.trans (congrArg nI (((sc_lead r).tr (sc_wells _ k)).2.1))
          refine k_iload_n C (f := 1) (i := 1) (p := 1) rfl rfl dX6_endsDay_25 ?_
          refine k_aload_n C (f := 0) (i := 0) (p := 0) rfl rfl dX6_endsDay_26 ?_
          refine k_bipush C bc_7 dX6_endsDay_27 ?_
          refine k_iald C (by assumption) (by first | rfl | assumption) (by omega) (by decide) ((MR hm (by decide)).trans h72) dX6_endsDay_29 ?_
          first
          | refine k_icmpN_ge C (tgt := 71) (by omega) (by omega) (by decide) dX6_endsDay_30 (fun hc30 => ?_) (fun hc30 => ?_)
          | refine k_icmp_ge C (tgt := 71) (by decide) dX6_endsDay_30 (fun hc30 => ?_) (fun hc30 => ?_)
          · skip
            refine k_aload_n C (f := 0) (i := 0) (p := 0) rfl rfl dX6_endsDay_71 ?_
            refine k_iconst C ic_2 dX6_endsDay_72 ?_
            refine k_dup2 C rfl rfl dX6_endsDay_73 ?_
            refine k_iald C (by assumption) (by first | rfl | assumption) (by omega) (by decide) (MR hm (by decide)) dX6_endsDay_74 ?_
            refine k_iconst C ic_1 dX6_endsDay_75 ?_
            refine k_iadd C dX6_endsDay_76 ?_
            refine k_rst C (i := 2) (hs) (rfl) (by omega) (by omega) hm hg dX6_endsDay_77 (fun I9 hm hg => ?_)
            exact k_vret C (Nat.le_of_ble_eq_true rfl) (Nat.le_of_ble_eq_true rfl) (⟨rfl, rfl, ⟨rfl, by rw [show k = sp_nw r by omega] at hm; exact hm, hg⟩⟩) dX6_endsDay_78
          · skip
            refine k_aload_n C (f := 0) (i := 0) (p := 0) rfl rfl dX6_endsDay_33 ?_
            refine k_iload_n C (f := 1) (i := 1) (p := 1) rfl rfl dX6_endsDay_34 ?_
            refine k_iconst C ic_3 dX6_endsDay_35 ?_
            refine k_callSp C s_X6_74 h_X6_wellAt (ct_X6_wellAt ) rfl rfl (Nat.le_of_ble_eq_true rfl) ⟨Nat.le_of_ble_eq_true rfl, Nat.le_of_ble_eq_true rfl⟩ ⟨Nat.le_of_ble_eq_true rfl, Nat.le_of_ble_eq_true rfl⟩ ⟨rfl, rfl⟩ dX6_endsDay_36 ?_
            refine k_aload_n C (f := 0) (i := 0) (p := 0) rfl rfl dX6_endsDay_39 ?_
            refine k_iload_n C (f := 1) (i := 1) (p := 1) rfl rfl dX6_endsDay_40 ?_
            refine k_iconst C ic_1 dX6_endsDay_41 ?_
            refine k_callSp C s_X6_74 h_X6_wellAt (ct_X6_wellAt ) rfl rfl (Nat.le_of_ble_eq_true rfl) ⟨Nat.le_of_ble_eq_true rfl, Nat.le_of_ble_eq_true rfl⟩ ⟨Nat.le_of_ble_eq_true rfl, Nat.le_of_ble_eq_true rfl⟩ ⟨rfl, rfl⟩ dX6_endsDay_42 ?_
            refine k_iald C (by assumption) (by first | rfl | assumption) (by omega) (by decide) (MRx (i := 91 + 4 * k) hm (by omega) (by omega)) dX6_endsDay_45 ?_
            refine k_aload_n C (f := 0) (i := 0) (p := 0) rfl rfl dX6_endsDay_46 ?_
            refine k_iload_n C (f := 1) (i := 1) (p := 1) rfl rfl dX6_endsDay_47 ?_
            refine k_iconst C ic_3 dX6_endsDay_48 ?_
            refine k_callSp C s_X6_74 h_X6_wellAt (ct_X6_wellAt ) rfl rfl (Nat.le_of_ble_eq_true rfl) ⟨Nat.le_of_ble_eq_true rfl, Nat.le_of_ble_eq_true rfl⟩ ⟨Nat.le_of_ble_eq_true rfl, Nat.le_of_ble_eq_true rfl⟩ ⟨rfl, rfl⟩ dX6_endsDay_49 ?_
            refine k_iald C (by assumption) (by first | rfl | assumption) (by omega) (by decide) (MRx (i := 93 + 4 * k) hm (by omega) (by omega)) dX6_endsDay_52 ?_
            refine k_aload_n C (f := 0) (i := 0) (p := 0) rfl rfl dX6_endsDay_53 ?_
            refine k_iload_n C (f := 1) (i := 1) (p := 1) rfl rfl dX6_endsDay_54 ?_
            refine k_iconst C ic_2 dX6_endsDay_55 ?_
            refine k_callSp C s_X6_74 h_X6_wellAt (ct_X6_wellAt ) rfl rfl (Nat.le_of_ble_eq_true rfl) ⟨Nat.le_of_ble_eq_true rfl, Nat.le_of_ble_eq_true rfl⟩ ⟨Nat.le_of_ble_eq_true rfl, Nat.le_of_ble_eq_true rfl⟩ ⟨rfl, rfl⟩ dX6_endsDay_56 ?_
            refine k_iald C (by assumption) (by first | rfl | assumption) (by omega) (by decide) (MRx (i := 92 + 4 * k) hm (by omega) (by omega)) dX6_endsDay_59 ?_
            refine k_iadd C dX6_endsDay_60 ?_
            refine k_callSp C s_X6_97 h_X6_less (ct_X6_less ) rfl rfl (Nat.le_of_ble_eq_true rfl) ⟨Nat.le_of_ble_eq_true rfl, Nat.le_of_ble_eq_true rfl⟩ ⟨Nat.le_of_ble_eq_true rfl, Nat.le_of_ble_eq_true rfl⟩ ⟨rfl, rfl⟩ dX6_endsDay_61 ?_
            refine k_rst C (i := 93 + 4 * k) (hs) (by first | rfl | assumption) (by omega) (by omega) hm hg dX6_endsDay_64 (fun I9 hm hg => ?_)
            refine k_iinc C (i := 1) (p := 1) (lv := [(1, _), (0, _)]) (Nat.le_of_ble_eq_true rfl) rfl (by first | exact am_inc1 _ | rfl) rfl dX6_endsDay_65 ?_
            refine k_goto C (tgt := 25) (by decide) dX6_endsDay_68 ?_
            refine k_sub [1, 0] rfl ?_
            exact ih25 (k + 1) _ (by omega) hm hg (by omega)
      refine k_sub [1, 0] rfl ?_
      exact loop25 (sp_nw r + 1) 0 _ (Nat.zero_le _) (by first | exact MR_eq hm (lead_a hld (by omega) hc7).symm | exact MR_eq hm (lead_b hld (by omega) hc7 hc16).symm | exact MR_eq hm (lead_c hld (by omega) hc7 hc16).symm) hg (by omega)
set_option maxHeartbeats 4000000 in
set_option maxRecDepth 100000 in
theorem ct_X6_distanceOf {G : am_G} {Λ : am_L} {I : am_I} {J : am_J} {s : Nat} {r : Nat → Int32} {ld : Nat} (hs : Λ.1 s = (2, 220)) (hm : MRow I s 0 r) (hB : RowB r) (hld : r 4 = nI ld) (hlc : ld < sp_nc r) : am_Ct G yX6_distanceOf cX6_distanceOf 3 (some .int) { frames := 3, cells := 0, slots := 0, locals := 66 } [.ref s] Λ I J (am_pure (.int (sp_dist r ld)) Λ I J) am_never := by
  refine am_ct_of (own := RX6) rfl (by decide) (Nat.le_of_ble_eq_true rfl) (fun X C => ?_)
  change am_K G X { frames := 3, cells := 0, slots := 0, locals := 66 } 3 Λ I J 0 0 0 [(0, .ref s)] []
  have hB9 := hB
  obtain ⟨⟨h6, h7, h8, h9⟩, hnc, hnw, hns, hnl⟩ := hB9
  refine k_aload_n C (f := 0) (i := 0) (p := 0) rfl rfl dX6_distanceOf_0 ?_
  refine k_aload_n C (f := 0) (i := 0) (p := 0) rfl rfl dX6_distanceOf_1 ?_
  refine k_iconst C ic_4 dX6_distanceOf_2 ?_
  refine k_iald C (by assumption) (by first | rfl | assumption) (by omega) (by decide) ((MR hm (by decide)).trans hld) dX6_distanceOf_3 ?_
  refine k_callSp C s_X6_91 h_X6_speedOf (ct_X6_speedOf hs hm hB hlc) rfl rfl (Nat.le_of_ble_eq_true rfl) ⟨Nat.le_of_ble_eq_true rfl, Nat.le_of_ble_eq_true rfl⟩ ⟨Nat.le_of_ble_eq_true rfl, Nat.le_of_ble_eq_true rfl⟩ ⟨rfl, rfl⟩ dX6_distanceOf_4 ?_
  refine k_bipush C bc_10 dX6_distanceOf_7 ?_
  refine k_aload_n C (f := 0) (i := 0) (p := 0) rfl rfl dX6_distanceOf_9 ?_
  refine k_aload_n C (f := 0) (i := 0) (p := 0) rfl rfl dX6_distanceOf_10 ?_
  refine k_iconst C ic_2 dX6_distanceOf_11 ?_
  refine k_iald C (by assumption) (by first | rfl | assumption) (by omega) (by decide) (MR hm (by decide)) dX6_distanceOf_12 ?_
  refine k_callSp C s_X6_94 h_X6_stormOf (ct_X6_stormOf (by first | assumption | omega) (by first | assumption | omega) (by first | assumption | omega)) rfl rfl (Nat.le_of_ble_eq_true rfl) ⟨Nat.le_of_ble_eq_true rfl, Nat.le_of_ble_eq_true rfl⟩ ⟨Nat.le_of_ble_eq_true rfl, Nat.le_of_ble_eq_true rfl⟩ ⟨rfl, rfl⟩ dX6_distanceOf_13 ?_
  refine k_isub C dX6_distanceOf_16 ?_
  refine k_imul C dX6_distanceOf_17 ?_
  refine k_bipush C bc_10 dX6_distanceOf_18 ?_
  refine k_idiv C (by decide) dX6_distanceOf_20 ?_
  refine k_istore_n C (f := 1) (i := 1) (lv := [(1, _), (0, _)]) rfl (Nat.le_of_ble_eq_true rfl) rfl dX6_distanceOf_21 ?_
  refine k_iload_n C (f := 1) (i := 1) (p := 0) rfl rfl dX6_distanceOf_22 ?_
  refine k_aload_n C (f := 0) (i := 0) (p := 1) rfl rfl dX6_distanceOf_23 ?_
  refine k_iconst C ic_0 dX6_distanceOf_24 ?_
  refine k_iald C (by assumption) (by first | rfl | assumption) (by omega) (by decide) (MR hm (by decide)) dX6_distanceOf_25 ?_
  refine k_aload_n C (f := 0) (i := 0) (p := 1) rfl rfl dX6_distanceOf_26 ?_
  refine k_iconst C ic_1 dX6_distanceOf_27 ?_
  refine k_iald C (by assumption) (by first | rfl | assumption) (by omega) (by decide) (MR hm (by decide)) dX6_distanceOf_28 ?_
  refine k_isub C dX6_distanceOf_29 ?_
  refine k_callSp C s_X6_97 h_X6_less (ct_X6_less ) rfl rfl (Nat.le_of_ble_eq_true rfl) ⟨Nat.le_of_ble_eq_true rfl, Nat.le_of_ble_eq_true rfl⟩ ⟨Nat.le_of_ble_eq_true rfl, Nat.le_of_ble_eq_true rfl⟩ ⟨rfl, rfl⟩ dX6_distanceOf_30 ?_
  refine k_istore_n C (f := 1) (i := 1) (lv := [(1, _), (0, _)]) rfl (Nat.le_of_ble_eq_true rfl) rfl dX6_distanceOf_33 ?_
  refine k_aload_n C (f := 0) (i := 0) (p := 1) rfl rfl dX6_distanceOf_34 ?_
  refine k_aload_n C (f := 0) (i := 0) (p := 1) rfl rfl dX6_distanceOf_35 ?_
  refine k_iconst C ic_1 dX6_distanceOf_36 ?_
  refine k_iald C (by assumption) (by first | rfl | assumption) (by omega) (by decide) (MR hm (by decide)) dX6_distanceOf_37 ?_
  refine k_callSp C s_X6_100 h_X6_wellBehind (ct_X6_wellBehind (by first | assumption | omega) (by first | assumption | omega) (by first | assumption | omega)) rfl rfl (Nat.le_of_ble_eq_true rfl) ⟨Nat.le_of_ble_eq_true rfl, Nat.le_of_ble_eq_true rfl⟩ ⟨Nat.le_of_ble_eq_true rfl, Nat.le_of_ble_eq_true rfl⟩ ⟨rfl, rfl⟩ dX6_distanceOf_38 ?_
  refine k_istore_n C (f := 2) (i := 2) (lv := [(2, _), (1, _), (0, _)]) rfl (Nat.le_of_ble_eq_true rfl) rfl dX6_distanceOf_41 ?_
  refine k_aload_n C (f := 0) (i := 0) (p := 2) rfl rfl dX6_distanceOf_42 ?_
  refine k_iconst C ic_3 dX6_distanceOf_43 ?_
  refine k_iald C (by assumption) (by first | rfl | assumption) (by omega) (by decide) (MR hm (by decide)) dX6_distanceOf_44 ?_
  refine k_iconst C ic_1 dX6_distanceOf_45 ?_
  refine k_icmp_ne C (tgt := 69) (by decide) dX6_distanceOf_46 (fun hc46 => ?_) (fun hc46 => ?_)
  · skip
    refine k_iload_n C (f := 1) (i := 1) (p := 1) rfl rfl dX6_distanceOf_69 ?_
    exact k_iret C (Nat.le_of_ble_eq_true rfl) (Nat.le_of_ble_eq_true rfl) (⟨by first | (unfold sp_dist; rw [if_neg (fun z => hc46 z.1)]; done) | (unfold sp_dist; rw [if_neg (fun z => z.2 hc50)]; done) | (unfold sp_dist; rw [if_pos ⟨hc46, hc50⟩, hw, nI_clamp (by omega)]; done), rfl, rfl, rfl⟩) dX6_distanceOf_70
  · skip
    refine k_iload_n C (f := 2) (i := 2) (p := 0) rfl rfl dX6_distanceOf_49 ?_
    refine k_if_lt C (tgt := 69) (by decide) dX6_distanceOf_50 (fun hc50 => ?_) (fun hc50 => ?_)
    · skip
      refine k_iload_n C (f := 1) (i := 1) (p := 1) rfl rfl dX6_distanceOf_69 ?_
      exact k_iret C (Nat.le_of_ble_eq_true rfl) (Nat.le_of_ble_eq_true rfl) (⟨by first | (unfold sp_dist; rw [if_neg (fun z => hc46 z.1)]; done) | (unfold sp_dist; rw [if_neg (fun z => z.2 hc50)]; done) | (unfold sp_dist; rw [if_pos ⟨hc46, hc50⟩, hw, nI_clamp (by omega)]; done), rfl, rfl, rfl⟩) dX6_distanceOf_70
    · skip
      obtain ⟨w, hw, hwn⟩ : ∃ w : Nat, sp_behind r (r 1) = nI w ∧ w < sp_nw r := by
        obtain ⟨m, hm9, hmk, -⟩ := (sp_behindTo_or r (r 1) (sp_nw r)).resolve_left (fun e => hc50 (by unfold sp_behind; rw [e]; decide))
        exact ⟨m, hm9, hmk⟩
      rw [hw]
      refine k_iload_n C (f := 1) (i := 1) (p := 1) rfl rfl dX6_distanceOf_53 ?_
      refine k_aload_n C (f := 0) (i := 0) (p := 2) rfl rfl dX6_distanceOf_54 ?_
      refine k_iload_n C (f := 2) (i := 2) (p := 0) rfl rfl dX6_distanceOf_55 ?_
      refine k_iconst C ic_0 dX6_distanceOf_56 ?_
      refine k_callSp C s_X6_74 h_X6_wellAt (ct_X6_wellAt ) rfl rfl (Nat.le_of_ble_eq_true rfl) ⟨Nat.le_of_ble_eq_true rfl, Nat.le_of_ble_eq_true rfl⟩ ⟨Nat.le_of_ble_eq_true rfl, Nat.le_of_ble_eq_true rfl⟩ ⟨rfl, rfl⟩ dX6_distanceOf_57 ?_
      refine k_iald C (by assumption) (by first | rfl | assumption) (by omega) (by decide) (MRx (i := 90 + 4 * w) hm (by omega) (by omega)) dX6_distanceOf_60 ?_
      refine k_aload_n C (f := 0) (i := 0) (p := 2) rfl rfl dX6_distanceOf_61 ?_
      refine k_iconst C ic_1 dX6_distanceOf_62 ?_
      refine k_iald C (by assumption) (by first | rfl | assumption) (by omega) (by decide) (MR hm (by decide)) dX6_distanceOf_63 ?_
      refine k_isub C dX6_distanceOf_64 ?_
      refine k_callSp C s_X6_97 h_X6_less (ct_X6_less ) rfl rfl (Nat.le_of_ble_eq_true rfl) ⟨Nat.le_of_ble_eq_true rfl, Nat.le_of_ble_eq_true rfl⟩ ⟨Nat.le_of_ble_eq_true rfl, Nat.le_of_ble_eq_true rfl⟩ ⟨rfl, rfl⟩ dX6_distanceOf_65 ?_
      refine k_istore_n C (f := 1) (i := 1) (lv := [(1, _), (2, _), (0, _)]) rfl (Nat.le_of_ble_eq_true rfl) rfl dX6_distanceOf_68 ?_
      refine k_iload_n C (f := 1) (i := 1) (p := 0) rfl rfl dX6_distanceOf_69 ?_
      exact k_iret C (Nat.le_of_ble_eq_true rfl) (Nat.le_of_ble_eq_true rfl) (⟨by first | (unfold sp_dist; rw [if_neg (fun z => hc46 z.1)]; done) | (unfold sp_dist; rw [if_neg (fun z => z.2 hc50)]; done) | (unfold sp_dist; rw [if_pos ⟨hc46, hc50⟩, hw, nI_clamp (by omega)]; done), rfl, rfl, rfl⟩) dX6_distanceOf_70
set_option maxHeartbeats 4000000 in
set_option maxRecDepth 100000 in
theorem ct_X6_canTravel {G : am_G} {Λ : am_L} {I : am_I} {J : am_J} {s : Nat} {r : Nat → Int32}  (hs : Λ.1 s = (2, 220)) (hm : MRow I s 0 r) (hB : RowB r) (hD : RowD r) (hok : RowOk r) : am_Ct G yX6_canTravel cX6_canTravel 1 (some .boolean) { frames := 3, cells := 0, slots := 0, locals := 64 } [.ref s] Λ I J (am_pure (.int (am_b (¬ r 0 ≤ r 1 ∧ (r 2 < nI 200 ∧ 0 < sp_living r)))) Λ I J) am_never := by
  refine am_ct_of (own := RX6) rfl (by decide) (Nat.le_of_ble_eq_true rfl) (fun X C => ?_)
  change am_K G X { frames := 3, cells := 0, slots := 0, locals := 64 } 1 Λ I J 0 0 0 [(0, .ref s)] []
  have hB9 := hB
  obtain ⟨⟨h6, h7, h8, h9⟩, hnc, hnw, hns, hnl⟩ := hB9
  have hlv2 : sp_living r ≤ sp_nc r := sp_livingTo_le r (sp_nc r)
  refine k_aload_n C (f := 0) (i := 0) (p := 0) rfl rfl dX6_canTravel_0 ?_
  refine k_callSp C s_X6_137 h_X6_isAtEnd (ct_X6_isAtEnd (by first | assumption | omega) (by first | assumption | omega) (by first | assumption | omega)) rfl rfl (Nat.le_of_ble_eq_true rfl) ⟨Nat.le_of_ble_eq_true rfl, Nat.le_of_ble_eq_true rfl⟩ ⟨Nat.le_of_ble_eq_true rfl, Nat.le_of_ble_eq_true rfl⟩ ⟨rfl, rfl⟩ dX6_canTravel_1 ?_
  refine k_ifb_ne C (tgt := 27) (by decide) dX6_canTravel_4 (fun hc4 => ?_) (fun hc4 => ?_)
  · skip
    refine k_iconst C ic_0 dX6_canTravel_27 ?_
    exact k_zret C (by first | rfl | exact am_bz) (Nat.le_of_ble_eq_true rfl) (Nat.le_of_ble_eq_true rfl) (⟨congrArg (fun z => some (Value.int z)) (am_bf (by
      obtain ⟨L, km, hL, hkm, -, hL9, hkL, -⟩ := hok.2.2.2.2.2.1
      have e1 : r 0 ≤ r 1 ↔ r 1 = r 0 := by rw [hL, hkm, nI_leI (by omega) (by omega), nI_eq (by omega) (by omega)]; omega
      rw [e1]
      first
      | exact ⟨hc4, Int32.not_le.mp hc20, Nat.pos_of_ne_zero (fun z => hc11 (by rw [z]; decide))⟩
      | exact fun z => z.1 hc4
      | exact fun z => absurd z.2.1 (Int32.not_lt.mpr hc20)
      | exact fun z => absurd ((nI_le0 (by omega)).mp hc11) (by omega))), rfl, rfl, rfl⟩) dX6_canTravel_28
  · skip
    refine k_aload_n C (f := 0) (i := 0) (p := 0) rfl rfl dX6_canTravel_7 ?_
    refine k_callSp C s_X6_134 h_X6_livingOf (ct_X6_livingOf (by first | assumption | omega) (by first | assumption | omega) (by first | assumption | omega) (by first | assumption | omega)) rfl rfl (Nat.le_of_ble_eq_true rfl) ⟨Nat.le_of_ble_eq_true rfl, Nat.le_of_ble_eq_true rfl⟩ ⟨Nat.le_of_ble_eq_true rfl, Nat.le_of_ble_eq_true rfl⟩ ⟨rfl, rfl⟩ dX6_canTravel_8 ?_
    refine k_if_le C (tgt := 27) (by decide) dX6_canTravel_11 (fun hc11 => ?_) (fun hc11 => ?_)
    · skip
      refine k_iconst C ic_0 dX6_canTravel_27 ?_
      exact k_zret C (by first | rfl | exact am_bz) (Nat.le_of_ble_eq_true rfl) (Nat.le_of_ble_eq_true rfl) (⟨congrArg (fun z => some (Value.int z)) (am_bf (by
        obtain ⟨L, km, hL, hkm, -, hL9, hkL, -⟩ := hok.2.2.2.2.2.1
        have e1 : r 0 ≤ r 1 ↔ r 1 = r 0 := by rw [hL, hkm, nI_leI (by omega) (by omega), nI_eq (by omega) (by omega)]; omega
        rw [e1]
        first
        | exact ⟨hc4, Int32.not_le.mp hc20, Nat.pos_of_ne_zero (fun z => hc11 (by rw [z]; decide))⟩
        | exact fun z => z.1 hc4
        | exact fun z => absurd z.2.1 (Int32.not_lt.mpr hc20)
        | exact fun z => absurd ((nI_le0 (by omega)).mp hc11) (by omega))), rfl, rfl, rfl⟩) dX6_canTravel_28
    · skip
      refine k_aload_n C (f := 0) (i := 0) (p := 0) rfl rfl dX6_canTravel_14 ?_
      refine k_iconst C ic_2 dX6_canTravel_15 ?_
      refine k_iald C (by assumption) (by first | rfl | assumption) (by omega) (by decide) (MR hm (by decide)) dX6_canTravel_16 ?_
      refine k_sipush C sc_200 dX6_canTravel_17 ?_
      first
      | refine k_icmpN_ge C (tgt := 27) (by omega) (by omega) (by decide) dX6_canTravel_20 (fun hc20 => ?_) (fun hc20 => ?_)
      | refine k_icmp_ge C (tgt := 27) (by decide) dX6_canTravel_20 (fun hc20 => ?_) (fun hc20 => ?_)
      · skip
        refine k_iconst C ic_0 dX6_canTravel_27 ?_
        exact k_zret C (by first | rfl | exact am_bz) (Nat.le_of_ble_eq_true rfl) (Nat.le_of_ble_eq_true rfl) (⟨congrArg (fun z => some (Value.int z)) (am_bf (by
          obtain ⟨L, km, hL, hkm, -, hL9, hkL, -⟩ := hok.2.2.2.2.2.1
          have e1 : r 0 ≤ r 1 ↔ r 1 = r 0 := by rw [hL, hkm, nI_leI (by omega) (by omega), nI_eq (by omega) (by omega)]; omega
          rw [e1]
          first
          | exact ⟨hc4, Int32.not_le.mp hc20, Nat.pos_of_ne_zero (fun z => hc11 (by rw [z]; decide))⟩
          | exact fun z => z.1 hc4
          | exact fun z => absurd z.2.1 (Int32.not_lt.mpr hc20)
          | exact fun z => absurd ((nI_le0 (by omega)).mp hc11) (by omega))), rfl, rfl, rfl⟩) dX6_canTravel_28
      · skip
        refine k_iconst C ic_1 dX6_canTravel_23 ?_
        refine k_goto C (tgt := 28) (by decide) dX6_canTravel_24 ?_
        exact k_zret C (by first | rfl | exact am_bz) (Nat.le_of_ble_eq_true rfl) (Nat.le_of_ble_eq_true rfl) (⟨congrArg (fun z => some (Value.int z)) (am_bt (by
          obtain ⟨L, km, hL, hkm, -, hL9, hkL, -⟩ := hok.2.2.2.2.2.1
          have e1 : r 0 ≤ r 1 ↔ r 1 = r 0 := by rw [hL, hkm, nI_leI (by omega) (by omega), nI_eq (by omega) (by omega)]; omega
          rw [e1]
          first
          | exact ⟨hc4, Int32.not_le.mp hc20, Nat.pos_of_ne_zero (fun z => hc11 (by rw [z]; decide))⟩
          | exact fun z => z.1 hc4
          | exact fun z => absurd z.2.1 (Int32.not_lt.mpr hc20)
          | exact fun z => absurd ((nI_le0 (by omega)).mp hc11) (by omega))), rfl, rfl, rfl⟩) dX6_canTravel_28
set_option maxHeartbeats 4000000 in
set_option maxRecDepth 100000 in
theorem ct_X6_travels {G : am_G} {Λ : am_L} {I : am_I} {J : am_J} {s : Nat} {r : Nat → Int32} {ld : Nat} (hs : Λ.1 s = (2, 220)) (hm : MRow I s 0 r) (hok : RowOk r) (hld : r 4 = nI ld) (hlc : ld < sp_nc r) : am_Ct G yX6_travels cX6_travels 4 (some .int) { frames := 5, cells := 0, slots := 0, locals := 109 } [.ref s] Λ I J (am_gen Λ J (fun v I' => v = some (.int (sp_dist r ld)) ∧ MRow I' s 0 (sp_travel r ld) ∧ am_f1 s I I')) am_never := by
  refine am_ct_of (own := RX6) rfl (by decide) (Nat.le_of_ble_eq_true rfl) (fun X C => ?_)
  change am_K G X { frames := 5, cells := 0, slots := 0, locals := 109 } 4 Λ I J 0 0 0 [(0, .ref s)] []
  have hB := hok.B
  have hB9 := hB
  obtain ⟨⟨h6, h7, h8, h9⟩, hnc, hnw, hns, hnl⟩ := hB9
  have hg : am_f1 s I I := am_f1.rf
  obtain ⟨p, hp, hp5, hp6⟩ := speed_b hok hlc
  obtain ⟨t, ht, ht9⟩ := storm_b hok (r 2)
  obtain ⟨L, km, hL, hkm, -, hL9, hkL, -⟩ := hok.2.2.2.2.2.1
  obtain ⟨dd, hdd, hdL⟩ := dist_b hok hlc hL hkm hkL hL9
  have hok1 : RowOk (upd r 1 (r 1 + sp_dist r ld)) := by rw [hkm, hdd, nI_add]; exact RU_km hok hL hL9 hdL
  have n1 : sp_nc (upd r 1 (r 1 + sp_dist r ld)) = sp_nc r := sp_nc_upd (by decide)
  refine k_aload_n C (f := 0) (i := 0) (p := 0) rfl rfl dX6_travels_0 ?_
  refine k_aload_n C (f := 0) (i := 0) (p := 0) rfl rfl dX6_travels_1 ?_
  refine k_iconst C ic_4 dX6_travels_2 ?_
  
  refine k_iald C (by assumption) (by first | rfl | assumption) (by omega) (by decide) ((MR hm (by decide)).trans hld) dX6_travels_3 ?_
  refine k_callSp C s_X6_91 h_X6_speedOf (ct_X6_speedOf hs hm hB hlc) rfl rfl (Nat.le_of_ble_eq_true rfl) ⟨Nat.le_of_ble_eq_true rfl, Nat.le_of_ble_eq_true rfl⟩ ⟨Nat.le_of_ble_eq_true rfl, Nat.le_of_ble_eq_true rfl⟩ ⟨rfl, rfl⟩ dX6_travels_4 ?_
  rw [hp]
  refine k_istore_n C (f := 1) (i := 1) (lv := [(1, _), (0, _)]) rfl (Nat.le_of_ble_eq_true rfl) rfl dX6_travels_7 ?_
  refine k_aload_n C (f := 0) (i := 0) (p := 1) rfl rfl dX6_travels_8 ?_
  refine k_callSp C s_X6_114 h_X6_distanceOf (ct_X6_distanceOf hs hm hB hld hlc) rfl rfl (Nat.le_of_ble_eq_true rfl) ⟨Nat.le_of_ble_eq_true rfl, Nat.le_of_ble_eq_true rfl⟩ ⟨Nat.le_of_ble_eq_true rfl, Nat.le_of_ble_eq_true rfl⟩ ⟨rfl, rfl⟩ dX6_travels_9 ?_
  refine k_istore_n C (f := 2) (i := 2) (lv := [(2, _), (1, _), (0, _)]) rfl (Nat.le_of_ble_eq_true rfl) rfl dX6_travels_12 ?_
  refine k_aload_n C (f := 0) (i := 0) (p := 2) rfl rfl dX6_travels_13 ?_
  refine k_iconst C ic_1 dX6_travels_14 ?_
  refine k_dup2 C rfl rfl dX6_travels_15 ?_
  refine k_iald C (by assumption) (by first | rfl | assumption) (by omega) (by decide) (MR hm (by decide)) dX6_travels_16 ?_
  refine k_iload_n C (f := 2) (i := 2) (p := 0) rfl rfl dX6_travels_17 ?_
  refine k_iadd C dX6_travels_18 ?_
  refine k_rst C (i := 1) (hs) (by first | rfl | assumption) (by omega) (by omega) hm hg dX6_travels_19 (fun I9 hm hg => ?_)
  refine k_iconst C ic_0 dX6_travels_20 ?_
  refine k_istore_n C (f := 3) (i := 3) (lv := [(3, _), (2, _), (1, _), (0, _)]) rfl (Nat.le_of_ble_eq_true rfl) rfl dX6_travels_21 ?_
  have loop22 : ∀ (f : Nat) (k : Nat) (I1 : am_I), (k ≤ sp_nc r) → (MRow I1 s 0 (sp_goTo (upd r 1 (r 1 + sp_dist r ld)) (nI p) (nI t) k)) → (am_f1 s I I1) → (sp_nc r - k) < f → am_K G X { frames := 5, cells := 0, slots := 0, locals := 109 } 4 Λ I1 J 0 0 22 [(0, .ref s), (1, .int (nI p)), (2, .int (sp_dist r ld)), (3, .int (nI k))] [] := by
    intro f
    induction f with
    | zero => intro k I1 hk hm hg hf; exact absurd hf (Nat.not_lt_zero _)
    | succ f ih22 =>
      intro k I1 hk hm hg hf
      have hok2 := rowok_go (ls := nI p) hok1 ht9 k (by omega)
      have n2 : sp_nc (sp_goTo (upd r 1 (r 1 + sp_dist r ld)) (nI p) (nI t) k) = sp_nc r := (sc_go _ _ _ k).1.trans n1
      have h62 := hok2.1.trans (congrArg nI n2)
      refine k_iload_n C (f := 3) (i := 3) (p := 3) rfl rfl dX6_travels_22 ?_
      refine k_aload_n C (f := 0) (i := 0) (p := 0) rfl rfl dX6_travels_23 ?_
      refine k_bipush C bc_6 dX6_travels_24 ?_
      refine k_iald C (by assumption) (by first | rfl | assumption) (by omega) (by decide) ((MR hm (by decide)).trans h62) dX6_travels_26 ?_
      first
      | refine k_icmpN_ge C (tgt := 68) (by omega) (by omega) (by decide) dX6_travels_27 (fun hc27 => ?_) (fun hc27 => ?_)
      | refine k_icmp_ge C (tgt := 68) (by decide) dX6_travels_27 (fun hc27 => ?_) (fun hc27 => ?_)
      · skip
        refine k_aload_n C (f := 0) (i := 0) (p := 0) rfl rfl dX6_travels_68 ?_
        refine k_callSg C s_X6_130 h_X6_endsDay (ct_X6_endsDay hs hm hok2) rfl rfl (Nat.le_of_ble_eq_true rfl) ⟨Nat.le_of_ble_eq_true rfl, Nat.le_of_ble_eq_true rfl⟩ ⟨Nat.le_of_ble_eq_true rfl, Nat.le_of_ble_eq_true rfl⟩ ⟨rfl, rfl⟩ dX6_travels_69 ?_
        intro v69 I9 hv
        obtain ⟨rfl, hm, g9⟩ := hv
        have hg := hg.tr g9
        refine k_iload_n C (f := 2) (i := 2) (p := 2) rfl rfl dX6_travels_72 ?_
        exact k_iret C (Nat.le_of_ble_eq_true rfl) (Nat.le_of_ble_eq_true rfl) (⟨rfl, rfl, ⟨rfl, by rw [show k = sp_nc r by omega] at hm; unfold sp_travel; rw [hp, ht]; exact hm, hg⟩⟩) dX6_travels_73
      · skip
        refine k_aload_n C (f := 0) (i := 0) (p := 0) rfl rfl dX6_travels_30 ?_
        refine k_iload_n C (f := 3) (i := 3) (p := 3) rfl rfl dX6_travels_31 ?_
        refine k_callSp C s_X6_83 h_X6_lives (ct_X6_lives hs hm hok2.B hok2.D (by omega)) rfl rfl (Nat.le_of_ble_eq_true rfl) ⟨Nat.le_of_ble_eq_true rfl, Nat.le_of_ble_eq_true rfl⟩ ⟨Nat.le_of_ble_eq_true rfl, Nat.le_of_ble_eq_true rfl⟩ ⟨rfl, rfl⟩ dX6_travels_32 ?_
        refine k_ifb_ne C (tgt := 41) (by decide) dX6_travels_35 (fun hc35 => ?_) (fun hc35 => ?_)
        · skip
          refine k_aload_n C (f := 0) (i := 0) (p := 0) rfl rfl dX6_travels_41 ?_
          refine k_iload_n C (f := 3) (i := 3) (p := 3) rfl rfl dX6_travels_42 ?_
          refine k_iload_n C (f := 1) (i := 1) (p := 1) rfl rfl dX6_travels_43 ?_
          refine k_callSg C s_X6_117 h_X6_strains (ct_X6_strains hs hm hok2 (by omega) (by omega)) rfl rfl (Nat.le_of_ble_eq_true rfl) ⟨Nat.le_of_ble_eq_true rfl, Nat.le_of_ble_eq_true rfl⟩ ⟨Nat.le_of_ble_eq_true rfl, Nat.le_of_ble_eq_true rfl⟩ ⟨rfl, rfl⟩ dX6_travels_44 ?_
          intro v44 I9 hv
          obtain ⟨rfl, hm, g9⟩ := hv
          have hg := hg.tr g9
          refine k_aload_n C (f := 0) (i := 0) (p := 0) rfl rfl dX6_travels_47 ?_
          refine k_iload_n C (f := 3) (i := 3) (p := 3) rfl rfl dX6_travels_48 ?_
          refine k_callSg C s_X6_121 h_X6_limps (ct_X6_limps hs hm (rowok_strain hok2 (by omega)).B (by omega)) rfl rfl (Nat.le_of_ble_eq_true rfl) ⟨Nat.le_of_ble_eq_true rfl, Nat.le_of_ble_eq_true rfl⟩ ⟨Nat.le_of_ble_eq_true rfl, Nat.le_of_ble_eq_true rfl⟩ ⟨rfl, rfl⟩ dX6_travels_49 ?_
          intro v49 I9 hv
          obtain ⟨rfl, hm, g9⟩ := hv
          have hg := hg.tr g9
          refine k_aload_n C (f := 0) (i := 0) (p := 0) rfl rfl dX6_travels_52 ?_
          refine k_iload_n C (f := 3) (i := 3) (p := 3) rfl rfl dX6_travels_53 ?_
          refine k_aload_n C (f := 0) (i := 0) (p := 0) rfl rfl dX6_travels_54 ?_
          refine k_iload_n C (f := 3) (i := 3) (p := 3) rfl rfl dX6_travels_55 ?_
          refine k_callSp C s_X6_124 h_X6_needOf (ct_X6_needOf hs hm (rowok_limp (rowok_strain hok2 (by omega)) (by rw [(sc_strain _ _ _).1]; omega)).B) rfl rfl (Nat.le_of_ble_eq_true rfl) ⟨Nat.le_of_ble_eq_true rfl, Nat.le_of_ble_eq_true rfl⟩ ⟨Nat.le_of_ble_eq_true rfl, Nat.le_of_ble_eq_true rfl⟩ ⟨rfl, rfl⟩ dX6_travels_56 ?_
          have hst : ∀ i : Nat, (122 ≤ i ∧ i < 140) ∨ i = 2 ∨ i = 8 → sp_limp (sp_strain (sp_goTo (upd r 1 (r 1 + sp_dist r ld)) (nI p) (nI t) k) k (nI p - sp_speed (sp_goTo (upd r 1 (r 1 + sp_dist r ld)) (nI p) (nI t) k) k)) k i = r i := fun i hi => by
            rw [limp_at (by omega), strain_at (by omega)]
            rcases hi with hi | hi
            · rw [md_go_hi (by omega) k (by omega), upd_ne (by omega)]
            · rw [go_lo (by omega), upd_ne (by omega)]
          rw [hst 2 (by omega), md_storm (fun i h1 h2 => hst i (Or.inl ⟨h1, h2⟩)) (hst 8 (by omega)) hns, ht]
          refine k_callSg C s_X6_127 h_X6_thirsts (ct_X6_thirsts hs hm (rowok_limp (rowok_strain hok2 (by omega)) (by rw [(sc_strain _ _ _).1]; omega)).B (by rw [(sc_limp _ _).1, (sc_strain _ _ _).1]; omega)) rfl rfl (Nat.le_of_ble_eq_true rfl) ⟨Nat.le_of_ble_eq_true rfl, Nat.le_of_ble_eq_true rfl⟩ ⟨Nat.le_of_ble_eq_true rfl, Nat.le_of_ble_eq_true rfl⟩ ⟨rfl, rfl⟩ dX6_travels_59 ?_
          intro v59 I9 hv
          obtain ⟨rfl, hm, g9⟩ := hv
          have hg := hg.tr g9
          refine k_iinc C (i := 3) (p := 3) (lv := [(3, _), (0, _), (1, _), (2, _)]) (Nat.le_of_ble_eq_true rfl) rfl (by first | exact am_inc1 _ | rfl) rfl dX6_travels_62 ?_
          refine k_goto C (tgt := 22) (by decide) dX6_travels_65 ?_
          refine k_sub [1, 2, 3, 0] rfl ?_
          first
          | exact ih22 (k + 1) _ (by omega) (MR_eq hm (sp_goTo_t hc35).symm) hg (by omega)
          | exact ih22 (k + 1) _ (by omega) (MR_eq hm (sp_goTo_f hc35).symm) hg (by omega)
        · skip
          refine k_goto C (tgt := 62) (by decide) dX6_travels_38 ?_
          refine k_iinc C (i := 3) (p := 3) (lv := [(3, _), (0, _), (1, _), (2, _)]) (Nat.le_of_ble_eq_true rfl) rfl (by first | exact am_inc1 _ | rfl) rfl dX6_travels_62 ?_
          refine k_goto C (tgt := 22) (by decide) dX6_travels_65 ?_
          refine k_sub [1, 2, 3, 0] rfl ?_
          first
          | exact ih22 (k + 1) _ (by omega) (MR_eq hm (sp_goTo_t hc35).symm) hg (by omega)
          | exact ih22 (k + 1) _ (by omega) (MR_eq hm (sp_goTo_f hc35).symm) hg (by omega)
  refine k_sub [3, 2, 1, 0] rfl ?_
  exact loop22 (sp_nc r + 1) 0 _ (Nat.zero_le _) hm hg (by omega)
set_option maxHeartbeats 4000000 in
set_option maxRecDepth 100000 in
theorem ct_X6_rests {G : am_G} {Λ : am_L} {I : am_I} {J : am_J} {s : Nat} {r : Nat → Int32}  (hs : Λ.1 s = (2, 220)) (hm : MRow I s 0 r) (hok : RowOk r) (hday : r 2 < nI 200) : am_Ct G yX6_rests cX6_rests 2 (some .int) { frames := 5, cells := 0, slots := 0, locals := 109 } [.ref s] Λ I J (am_gen Λ J (fun v I' => v = some (.int (nI (sp_living (sp_rest r)))) ∧ MRow I' s 0 (sp_rest r) ∧ am_f1 s I I')) am_never := by
  refine am_ct_of (own := RX6) rfl (by decide) (Nat.le_of_ble_eq_true rfl) (fun X C => ?_)
  change am_K G X { frames := 5, cells := 0, slots := 0, locals := 109 } 2 Λ I J 0 0 0 [(0, .ref s)] []
  have hB := hok.B
  have hB9 := hB
  obtain ⟨⟨h6, h7, h8, h9⟩, hnc, hnw, hns, hnl⟩ := hB9
  have hg : am_f1 s I I := am_f1.rf
  obtain ⟨t, ht, ht9⟩ := storm_b hok (r 2)
  have hokR := rowok_restDay hok hday
  refine k_iconst C ic_0 dX6_rests_0 ?_
  refine k_istore_n C (f := 1) (i := 1) (lv := [(1, _), (0, _)]) rfl (Nat.le_of_ble_eq_true rfl) rfl dX6_rests_1 ?_
  have loop2 : ∀ (f : Nat) (k : Nat) (I1 : am_I), (k ≤ sp_nc r) → (MRow I1 s 0 (sp_restTo r (nI t) k)) → (am_f1 s I I1) → (sp_nc r - k) < f → am_K G X { frames := 5, cells := 0, slots := 0, locals := 109 } 2 Λ I1 J 0 0 2 [(0, .ref s), (1, .int (nI k))] [] := by
    intro f
    induction f with
    | zero => intro k I1 hk hm hg hf; exact absurd hf (Nat.not_lt_zero _)
    | succ f ih2 =>
      intro k I1 hk hm hg hf
      have hok2 := rowok_rest hok ht9 k (by omega)
      have n2 : sp_nc (sp_restTo r (nI t) k) = sp_nc r := (sc_restTo _ _ k).1
      have h62 := hok2.1.trans (congrArg nI n2)
      refine k_iload_n C (f := 1) (i := 1) (p := 1) rfl rfl dX6_rests_2 ?_
      refine k_aload_n C (f := 0) (i := 0) (p := 0) rfl rfl dX6_rests_3 ?_
      refine k_bipush C bc_6 dX6_rests_4 ?_
      refine k_iald C (by assumption) (by first | rfl | assumption) (by omega) (by decide) ((MR hm (by decide)).trans h62) dX6_rests_6 ?_
      first
      | refine k_icmpN_ge C (tgt := 51) (by omega) (by omega) (by decide) dX6_rests_7 (fun hc7 => ?_) (fun hc7 => ?_)
      | refine k_icmp_ge C (tgt := 51) (by decide) dX6_rests_7 (fun hc7 => ?_) (fun hc7 => ?_)
      · skip
        refine k_aload_n C (f := 0) (i := 0) (p := 0) rfl rfl dX6_rests_51 ?_
        refine k_callSg C s_X6_130 h_X6_endsDay (ct_X6_endsDay hs hm hok2) rfl rfl (Nat.le_of_ble_eq_true rfl) ⟨Nat.le_of_ble_eq_true rfl, Nat.le_of_ble_eq_true rfl⟩ ⟨Nat.le_of_ble_eq_true rfl, Nat.le_of_ble_eq_true rfl⟩ ⟨rfl, rfl⟩ dX6_rests_52 ?_
        intro v52 I9 hv
        obtain ⟨rfl, hm, g9⟩ := hv
        have hg := hg.tr g9
        have hm : MRow I9 s 0 (sp_rest r) := by rw [show k = sp_nc r by omega] at hm; unfold sp_rest; rw [ht]; exact hm
        refine k_aload_n C (f := 0) (i := 0) (p := 0) rfl rfl dX6_rests_55 ?_
        refine k_callSp C s_X6_134 h_X6_livingOf (ct_X6_livingOf hs hm hokR.B hokR.D) rfl rfl (Nat.le_of_ble_eq_true rfl) ⟨Nat.le_of_ble_eq_true rfl, Nat.le_of_ble_eq_true rfl⟩ ⟨Nat.le_of_ble_eq_true rfl, Nat.le_of_ble_eq_true rfl⟩ ⟨rfl, rfl⟩ dX6_rests_56 ?_
        exact k_iret C (Nat.le_of_ble_eq_true rfl) (Nat.le_of_ble_eq_true rfl) (⟨rfl, rfl, ⟨rfl, hm, hg⟩⟩) dX6_rests_59
      · skip
        refine k_aload_n C (f := 0) (i := 0) (p := 0) rfl rfl dX6_rests_10 ?_
        refine k_iload_n C (f := 1) (i := 1) (p := 1) rfl rfl dX6_rests_11 ?_
        refine k_callSp C s_X6_83 h_X6_lives (ct_X6_lives hs hm hok2.B hok2.D (by omega)) rfl rfl (Nat.le_of_ble_eq_true rfl) ⟨Nat.le_of_ble_eq_true rfl, Nat.le_of_ble_eq_true rfl⟩ ⟨Nat.le_of_ble_eq_true rfl, Nat.le_of_ble_eq_true rfl⟩ ⟨rfl, rfl⟩ dX6_rests_12 ?_
        refine k_ifb_ne C (tgt := 21) (by decide) dX6_rests_15 (fun hc15 => ?_) (fun hc15 => ?_)
        · skip
          refine k_aload_n C (f := 0) (i := 0) (p := 0) rfl rfl dX6_rests_21 ?_
          refine k_iload_n C (f := 1) (i := 1) (p := 1) rfl rfl dX6_rests_22 ?_
          refine k_callSg C s_X6_103 h_X6_recovers (ct_X6_recovers hs hm hok2.B (by omega)) rfl rfl (Nat.le_of_ble_eq_true rfl) ⟨Nat.le_of_ble_eq_true rfl, Nat.le_of_ble_eq_true rfl⟩ ⟨Nat.le_of_ble_eq_true rfl, Nat.le_of_ble_eq_true rfl⟩ ⟨rfl, rfl⟩ dX6_rests_23 ?_
          intro v23 I9 hv
          obtain ⟨rfl, hm, g9⟩ := hv
          have hg := hg.tr g9
          rw [← strain_0] at hm
          refine k_aload_n C (f := 0) (i := 0) (p := 0) rfl rfl dX6_rests_26 ?_
          refine k_iload_n C (f := 1) (i := 1) (p := 1) rfl rfl dX6_rests_27 ?_
          refine k_callSg C s_X6_121 h_X6_limps (ct_X6_limps hs hm (rowok_strain hok2 (by omega)).B (by omega)) rfl rfl (Nat.le_of_ble_eq_true rfl) ⟨Nat.le_of_ble_eq_true rfl, Nat.le_of_ble_eq_true rfl⟩ ⟨Nat.le_of_ble_eq_true rfl, Nat.le_of_ble_eq_true rfl⟩ ⟨rfl, rfl⟩ dX6_rests_28 ?_
          intro v28 I9 hv
          obtain ⟨rfl, hm, g9⟩ := hv
          have hg := hg.tr g9
          refine k_aload_n C (f := 0) (i := 0) (p := 0) rfl rfl dX6_rests_31 ?_
          refine k_iload_n C (f := 1) (i := 1) (p := 1) rfl rfl dX6_rests_32 ?_
          refine k_aload_n C (f := 0) (i := 0) (p := 0) rfl rfl dX6_rests_33 ?_
          refine k_iload_n C (f := 1) (i := 1) (p := 1) rfl rfl dX6_rests_34 ?_
          refine k_callSp C s_X6_124 h_X6_needOf (ct_X6_needOf hs hm (rowok_limp (rowok_strain hok2 (by omega)) (by rw [(sc_strain _ _ _).1]; omega)).B) rfl rfl (Nat.le_of_ble_eq_true rfl) ⟨Nat.le_of_ble_eq_true rfl, Nat.le_of_ble_eq_true rfl⟩ ⟨Nat.le_of_ble_eq_true rfl, Nat.le_of_ble_eq_true rfl⟩ ⟨rfl, rfl⟩ dX6_rests_35 ?_
          have hst : ∀ i : Nat, (122 ≤ i ∧ i < 140) ∨ i = 2 ∨ i = 8 → sp_limp (sp_strain (sp_restTo r (nI t) k) k (nI 0)) k i = r i := fun i hi => by
            rw [limp_at (by omega), strain_at (by omega)]
            rcases hi with hi | hi
            · exact md_rest_hi (by omega) k (by omega)
            · exact restTo_lo (by omega)
          rw [hst 2 (by omega), md_storm (fun i h1 h2 => hst i (Or.inl ⟨h1, h2⟩)) (hst 8 (by omega)) hns, ht]
          refine k_iconst C ic_1 dX6_rests_38 ?_
          refine k_iadd C dX6_rests_39 ?_
          refine k_iconst C ic_2 dX6_rests_40 ?_
          refine k_idiv C (by decide) dX6_rests_41 ?_
          refine k_callSg C s_X6_127 h_X6_thirsts (ct_X6_thirsts hs hm (rowok_limp (rowok_strain hok2 (by omega)) (by rw [(sc_strain _ _ _).1]; omega)).B (by rw [(sc_limp _ _).1, (sc_strain _ _ _).1]; omega)) rfl rfl (Nat.le_of_ble_eq_true rfl) ⟨Nat.le_of_ble_eq_true rfl, Nat.le_of_ble_eq_true rfl⟩ ⟨Nat.le_of_ble_eq_true rfl, Nat.le_of_ble_eq_true rfl⟩ ⟨rfl, rfl⟩ dX6_rests_42 ?_
          intro v42 I9 hv
          obtain ⟨rfl, hm, g9⟩ := hv
          have hg := hg.tr g9
          refine k_iinc C (i := 1) (p := 1) (lv := [(1, _), (0, _)]) (Nat.le_of_ble_eq_true rfl) rfl (by first | exact am_inc1 _ | rfl) rfl dX6_rests_45 ?_
          refine k_goto C (tgt := 2) (by decide) dX6_rests_48 ?_
          refine k_sub [1, 0] rfl ?_
          first
          | exact ih2 (k + 1) _ (by omega) (MR_eq hm (sp_restTo_t hc15).symm) hg (by omega)
          | exact ih2 (k + 1) _ (by omega) (MR_eq hm (sp_restTo_f hc15).symm) hg (by omega)
        · skip
          refine k_goto C (tgt := 45) (by decide) dX6_rests_18 ?_
          refine k_iinc C (i := 1) (p := 1) (lv := [(1, _), (0, _)]) (Nat.le_of_ble_eq_true rfl) rfl (by first | exact am_inc1 _ | rfl) rfl dX6_rests_45 ?_
          refine k_goto C (tgt := 2) (by decide) dX6_rests_48 ?_
          refine k_sub [1, 0] rfl ?_
          first
          | exact ih2 (k + 1) _ (by omega) (MR_eq hm (sp_restTo_t hc15).symm) hg (by omega)
          | exact ih2 (k + 1) _ (by omega) (MR_eq hm (sp_restTo_f hc15).symm) hg (by omega)
  refine k_sub [1, 0] rfl ?_
  exact loop2 (sp_nc r + 1) 0 _ (Nat.zero_le _) hm hg (by omega)
set_option maxHeartbeats 4000000 in
set_option maxRecDepth 100000 in
theorem ct_X6_addsCamel {G : am_G} {Λ : am_L} {I : am_I} {J : am_J} {s : Nat} {r : Nat → Int32} {x y z : Int32} (hs : Λ.1 s = (2, 220)) (hm : MRow I s 0 r) (hB : RowB r) (hn : sp_nc r < 10) : am_Ct G yX6_addsCamel cX6_addsCamel 5 none { frames := 1, cells := 0, slots := 0, locals := 21 } [.ref s, .int x, .int y, .int z] Λ I J (am_gen Λ J (fun v I' => v = none ∧ MRow I' s 0 (sp_addCamel r x y z) ∧ am_f1 s I I')) am_never := by
  refine am_ct_of (own := RX6) rfl (by decide) (Nat.le_of_ble_eq_true rfl) (fun X C => ?_)
  change am_K G X { frames := 1, cells := 0, slots := 0, locals := 21 } 5 Λ I J 0 0 0 [(0, .ref s), (1, .int x), (2, .int y), (3, .int z)] []
  have hB9 := hB
  obtain ⟨⟨h6, h7, h8, h9⟩, hnc, hnw, hns, hnl⟩ := hB9
  have hg : am_f1 s I I := am_f1.rf
  
  refine k_aload_n C (f := 0) (i := 0) (p := 0) rfl rfl dX6_addsCamel_0 ?_
  refine k_bipush C bc_6 dX6_addsCamel_1 ?_
  refine k_iald C (by assumption) (by first | rfl | assumption) (by omega) (by decide) ((MR hm (by decide)).trans h6) dX6_addsCamel_3 ?_
  refine k_istore C (i := 4) (lv := [(4, _), (0, _), (1, _), (2, _), (3, _)]) (Nat.le_of_ble_eq_true rfl) rfl dX6_addsCamel_4 ?_
  refine k_aload_n C (f := 0) (i := 0) (p := 1) rfl rfl dX6_addsCamel_6 ?_
  refine k_iload C (i := 4) (p := 0) rfl dX6_addsCamel_7 ?_
  refine k_iconst C ic_0 dX6_addsCamel_9 ?_
  refine k_callSp C s_X6_71 h_X6_camelAt (ct_X6_camelAt ) rfl rfl (Nat.le_of_ble_eq_true rfl) ⟨Nat.le_of_ble_eq_true rfl, Nat.le_of_ble_eq_true rfl⟩ ⟨Nat.le_of_ble_eq_true rfl, Nat.le_of_ble_eq_true rfl⟩ ⟨rfl, rfl⟩ dX6_addsCamel_10 ?_
  refine k_iload_n C (f := 1) (i := 1) (p := 2) rfl rfl dX6_addsCamel_13 ?_
  refine k_rst C (i := 10 + 8 * sp_nc r) (hs) (by first | rfl | assumption) (by omega) (by omega) hm hg dX6_addsCamel_14 (fun I9 hm hg => ?_)
  refine k_aload_n C (f := 0) (i := 0) (p := 1) rfl rfl dX6_addsCamel_15 ?_
  refine k_iload C (i := 4) (p := 0) rfl dX6_addsCamel_16 ?_
  refine k_iconst C ic_1 dX6_addsCamel_18 ?_
  refine k_callSp C s_X6_71 h_X6_camelAt (ct_X6_camelAt ) rfl rfl (Nat.le_of_ble_eq_true rfl) ⟨Nat.le_of_ble_eq_true rfl, Nat.le_of_ble_eq_true rfl⟩ ⟨Nat.le_of_ble_eq_true rfl, Nat.le_of_ble_eq_true rfl⟩ ⟨rfl, rfl⟩ dX6_addsCamel_19 ?_
  refine k_iload_n C (f := 2) (i := 2) (p := 3) rfl rfl dX6_addsCamel_22 ?_
  refine k_rst C (i := 11 + 8 * sp_nc r) (hs) (by first | rfl | assumption) (by omega) (by omega) hm hg dX6_addsCamel_23 (fun I9 hm hg => ?_)
  refine k_aload_n C (f := 0) (i := 0) (p := 1) rfl rfl dX6_addsCamel_24 ?_
  refine k_iload C (i := 4) (p := 0) rfl dX6_addsCamel_25 ?_
  refine k_iconst C ic_2 dX6_addsCamel_27 ?_
  refine k_callSp C s_X6_71 h_X6_camelAt (ct_X6_camelAt ) rfl rfl (Nat.le_of_ble_eq_true rfl) ⟨Nat.le_of_ble_eq_true rfl, Nat.le_of_ble_eq_true rfl⟩ ⟨Nat.le_of_ble_eq_true rfl, Nat.le_of_ble_eq_true rfl⟩ ⟨rfl, rfl⟩ dX6_addsCamel_28 ?_
  refine k_iload_n C (f := 3) (i := 3) (p := 4) rfl rfl dX6_addsCamel_31 ?_
  refine k_rst C (i := 12 + 8 * sp_nc r) (hs) (by first | rfl | assumption) (by omega) (by omega) hm hg dX6_addsCamel_32 (fun I9 hm hg => ?_)
  refine k_aload_n C (f := 0) (i := 0) (p := 1) rfl rfl dX6_addsCamel_33 ?_
  refine k_iload C (i := 4) (p := 0) rfl dX6_addsCamel_34 ?_
  refine k_iconst C ic_3 dX6_addsCamel_36 ?_
  refine k_callSp C s_X6_71 h_X6_camelAt (ct_X6_camelAt ) rfl rfl (Nat.le_of_ble_eq_true rfl) ⟨Nat.le_of_ble_eq_true rfl, Nat.le_of_ble_eq_true rfl⟩ ⟨Nat.le_of_ble_eq_true rfl, Nat.le_of_ble_eq_true rfl⟩ ⟨rfl, rfl⟩ dX6_addsCamel_37 ?_
  refine k_iload_n C (f := 3) (i := 3) (p := 4) rfl rfl dX6_addsCamel_40 ?_
  refine k_rst C (i := 13 + 8 * sp_nc r) (hs) (by first | rfl | assumption) (by omega) (by omega) hm hg dX6_addsCamel_41 (fun I9 hm hg => ?_)
  refine k_aload_n C (f := 0) (i := 0) (p := 1) rfl rfl dX6_addsCamel_42 ?_
  refine k_bipush C bc_6 dX6_addsCamel_43 ?_
  refine k_dup2 C rfl rfl dX6_addsCamel_45 ?_
  refine k_iald C (by assumption) (by first | rfl | assumption) (by omega) (by decide) ((MR hm (by decide)).trans ((upd_ne (by omega)).trans ((upd_ne (by omega)).trans ((upd_ne (by omega)).trans ((upd_ne (by omega)).trans h6))))) dX6_addsCamel_46 ?_
  refine k_iconst C ic_1 dX6_addsCamel_47 ?_
  refine k_iadd C dX6_addsCamel_48 ?_
  rw [nI_add1]
  refine k_rst C (i := 6) (hs) (by first | rfl | assumption) (by omega) (by omega) hm hg dX6_addsCamel_49 (fun I9 hm hg => ?_)
  exact k_vret C (Nat.le_of_ble_eq_true rfl) (Nat.le_of_ble_eq_true rfl) (⟨rfl, rfl, ⟨rfl, hm, hg⟩⟩) dX6_addsCamel_50
set_option maxHeartbeats 4000000 in
set_option maxRecDepth 100000 in
theorem ct_X6_addsWell {G : am_G} {Λ : am_L} {I : am_I} {J : am_J} {s : Nat} {r : Nat → Int32} {x y z : Int32} (hs : Λ.1 s = (2, 220)) (hm : MRow I s 0 r) (hB : RowB r) (hn : sp_nw r < 8) : am_Ct G yX6_addsWell cX6_addsWell 5 none { frames := 1, cells := 0, slots := 0, locals := 21 } [.ref s, .int x, .int y, .int z] Λ I J (am_gen Λ J (fun v I' => v = none ∧ MRow I' s 0 (sp_addWell r x y z) ∧ am_f1 s I I')) am_never := by
  refine am_ct_of (own := RX6) rfl (by decide) (Nat.le_of_ble_eq_true rfl) (fun X C => ?_)
  change am_K G X { frames := 1, cells := 0, slots := 0, locals := 21 } 5 Λ I J 0 0 0 [(0, .ref s), (1, .int x), (2, .int y), (3, .int z)] []
  have hB9 := hB
  obtain ⟨⟨h6, h7, h8, h9⟩, hnc, hnw, hns, hnl⟩ := hB9
  have hg : am_f1 s I I := am_f1.rf
  
  refine k_aload_n C (f := 0) (i := 0) (p := 0) rfl rfl dX6_addsWell_0 ?_
  refine k_bipush C bc_7 dX6_addsWell_1 ?_
  refine k_iald C (by assumption) (by first | rfl | assumption) (by omega) (by decide) ((MR hm (by decide)).trans h7) dX6_addsWell_3 ?_
  refine k_istore C (i := 4) (lv := [(4, _), (0, _), (1, _), (2, _), (3, _)]) (Nat.le_of_ble_eq_true rfl) rfl dX6_addsWell_4 ?_
  refine k_aload_n C (f := 0) (i := 0) (p := 1) rfl rfl dX6_addsWell_6 ?_
  refine k_iload C (i := 4) (p := 0) rfl dX6_addsWell_7 ?_
  refine k_iconst C ic_0 dX6_addsWell_9 ?_
  refine k_callSp C s_X6_74 h_X6_wellAt (ct_X6_wellAt ) rfl rfl (Nat.le_of_ble_eq_true rfl) ⟨Nat.le_of_ble_eq_true rfl, Nat.le_of_ble_eq_true rfl⟩ ⟨Nat.le_of_ble_eq_true rfl, Nat.le_of_ble_eq_true rfl⟩ ⟨rfl, rfl⟩ dX6_addsWell_10 ?_
  refine k_iload_n C (f := 1) (i := 1) (p := 2) rfl rfl dX6_addsWell_13 ?_
  refine k_rst C (i := 90 + 4 * sp_nw r) (hs) (by first | rfl | assumption) (by omega) (by omega) hm hg dX6_addsWell_14 (fun I9 hm hg => ?_)
  refine k_aload_n C (f := 0) (i := 0) (p := 1) rfl rfl dX6_addsWell_15 ?_
  refine k_iload C (i := 4) (p := 0) rfl dX6_addsWell_16 ?_
  refine k_iconst C ic_1 dX6_addsWell_18 ?_
  refine k_callSp C s_X6_74 h_X6_wellAt (ct_X6_wellAt ) rfl rfl (Nat.le_of_ble_eq_true rfl) ⟨Nat.le_of_ble_eq_true rfl, Nat.le_of_ble_eq_true rfl⟩ ⟨Nat.le_of_ble_eq_true rfl, Nat.le_of_ble_eq_true rfl⟩ ⟨rfl, rfl⟩ dX6_addsWell_19 ?_
  refine k_iload_n C (f := 2) (i := 2) (p := 3) rfl rfl dX6_addsWell_22 ?_
  refine k_rst C (i := 91 + 4 * sp_nw r) (hs) (by first | rfl | assumption) (by omega) (by omega) hm hg dX6_addsWell_23 (fun I9 hm hg => ?_)
  refine k_aload_n C (f := 0) (i := 0) (p := 1) rfl rfl dX6_addsWell_24 ?_
  refine k_iload C (i := 4) (p := 0) rfl dX6_addsWell_25 ?_
  refine k_iconst C ic_2 dX6_addsWell_27 ?_
  refine k_callSp C s_X6_74 h_X6_wellAt (ct_X6_wellAt ) rfl rfl (Nat.le_of_ble_eq_true rfl) ⟨Nat.le_of_ble_eq_true rfl, Nat.le_of_ble_eq_true rfl⟩ ⟨Nat.le_of_ble_eq_true rfl, Nat.le_of_ble_eq_true rfl⟩ ⟨rfl, rfl⟩ dX6_addsWell_28 ?_
  refine k_iload_n C (f := 3) (i := 3) (p := 4) rfl rfl dX6_addsWell_31 ?_
  refine k_rst C (i := 92 + 4 * sp_nw r) (hs) (by first | rfl | assumption) (by omega) (by omega) hm hg dX6_addsWell_32 (fun I9 hm hg => ?_)
  refine k_aload_n C (f := 0) (i := 0) (p := 1) rfl rfl dX6_addsWell_33 ?_
  refine k_iload C (i := 4) (p := 0) rfl dX6_addsWell_34 ?_
  refine k_iconst C ic_3 dX6_addsWell_36 ?_
  refine k_callSp C s_X6_74 h_X6_wellAt (ct_X6_wellAt ) rfl rfl (Nat.le_of_ble_eq_true rfl) ⟨Nat.le_of_ble_eq_true rfl, Nat.le_of_ble_eq_true rfl⟩ ⟨Nat.le_of_ble_eq_true rfl, Nat.le_of_ble_eq_true rfl⟩ ⟨rfl, rfl⟩ dX6_addsWell_37 ?_
  refine k_iload_n C (f := 2) (i := 2) (p := 3) rfl rfl dX6_addsWell_40 ?_
  refine k_rst C (i := 93 + 4 * sp_nw r) (hs) (by first | rfl | assumption) (by omega) (by omega) hm hg dX6_addsWell_41 (fun I9 hm hg => ?_)
  refine k_aload_n C (f := 0) (i := 0) (p := 1) rfl rfl dX6_addsWell_42 ?_
  refine k_bipush C bc_7 dX6_addsWell_43 ?_
  refine k_dup2 C rfl rfl dX6_addsWell_45 ?_
  refine k_iald C (by assumption) (by first | rfl | assumption) (by omega) (by decide) ((MR hm (by decide)).trans ((upd_ne (by omega)).trans ((upd_ne (by omega)).trans ((upd_ne (by omega)).trans ((upd_ne (by omega)).trans h7))))) dX6_addsWell_46 ?_
  refine k_iconst C ic_1 dX6_addsWell_47 ?_
  refine k_iadd C dX6_addsWell_48 ?_
  rw [nI_add1]
  refine k_rst C (i := 7) (hs) (by first | rfl | assumption) (by omega) (by omega) hm hg dX6_addsWell_49 (fun I9 hm hg => ?_)
  exact k_vret C (Nat.le_of_ble_eq_true rfl) (Nat.le_of_ble_eq_true rfl) (⟨rfl, rfl, ⟨rfl, hm, hg⟩⟩) dX6_addsWell_50
set_option maxHeartbeats 4000000 in
set_option maxRecDepth 100000 in
theorem ct_X6_addsStorm {G : am_G} {Λ : am_L} {I : am_I} {J : am_J} {s : Nat} {r : Nat → Int32} {x y z : Int32} (hs : Λ.1 s = (2, 220)) (hm : MRow I s 0 r) (hB : RowB r) (hn : sp_ns r < 6) : am_Ct G yX6_addsStorm cX6_addsStorm 5 none { frames := 1, cells := 0, slots := 0, locals := 21 } [.ref s, .int x, .int y, .int z] Λ I J (am_gen Λ J (fun v I' => v = none ∧ MRow I' s 0 (sp_addStorm r x y z) ∧ am_f1 s I I')) am_never := by
  refine am_ct_of (own := RX6) rfl (by decide) (Nat.le_of_ble_eq_true rfl) (fun X C => ?_)
  change am_K G X { frames := 1, cells := 0, slots := 0, locals := 21 } 5 Λ I J 0 0 0 [(0, .ref s), (1, .int x), (2, .int y), (3, .int z)] []
  have hB9 := hB
  obtain ⟨⟨h6, h7, h8, h9⟩, hnc, hnw, hns, hnl⟩ := hB9
  have hg : am_f1 s I I := am_f1.rf
  
  refine k_aload_n C (f := 0) (i := 0) (p := 0) rfl rfl dX6_addsStorm_0 ?_
  refine k_bipush C bc_8 dX6_addsStorm_1 ?_
  refine k_iald C (by assumption) (by first | rfl | assumption) (by omega) (by decide) ((MR hm (by decide)).trans h8) dX6_addsStorm_3 ?_
  refine k_istore C (i := 4) (lv := [(4, _), (0, _), (1, _), (2, _), (3, _)]) (Nat.le_of_ble_eq_true rfl) rfl dX6_addsStorm_4 ?_
  refine k_aload_n C (f := 0) (i := 0) (p := 1) rfl rfl dX6_addsStorm_6 ?_
  refine k_iload C (i := 4) (p := 0) rfl dX6_addsStorm_7 ?_
  refine k_iconst C ic_0 dX6_addsStorm_9 ?_
  refine k_callSp C s_X6_77 h_X6_stormAt (ct_X6_stormAt ) rfl rfl (Nat.le_of_ble_eq_true rfl) ⟨Nat.le_of_ble_eq_true rfl, Nat.le_of_ble_eq_true rfl⟩ ⟨Nat.le_of_ble_eq_true rfl, Nat.le_of_ble_eq_true rfl⟩ ⟨rfl, rfl⟩ dX6_addsStorm_10 ?_
  refine k_iload_n C (f := 1) (i := 1) (p := 2) rfl rfl dX6_addsStorm_13 ?_
  refine k_rst C (i := 122 + 3 * sp_ns r) (hs) (by first | rfl | assumption) (by omega) (by omega) hm hg dX6_addsStorm_14 (fun I9 hm hg => ?_)
  refine k_aload_n C (f := 0) (i := 0) (p := 1) rfl rfl dX6_addsStorm_15 ?_
  refine k_iload C (i := 4) (p := 0) rfl dX6_addsStorm_16 ?_
  refine k_iconst C ic_1 dX6_addsStorm_18 ?_
  refine k_callSp C s_X6_77 h_X6_stormAt (ct_X6_stormAt ) rfl rfl (Nat.le_of_ble_eq_true rfl) ⟨Nat.le_of_ble_eq_true rfl, Nat.le_of_ble_eq_true rfl⟩ ⟨Nat.le_of_ble_eq_true rfl, Nat.le_of_ble_eq_true rfl⟩ ⟨rfl, rfl⟩ dX6_addsStorm_19 ?_
  refine k_iload_n C (f := 2) (i := 2) (p := 3) rfl rfl dX6_addsStorm_22 ?_
  refine k_rst C (i := 123 + 3 * sp_ns r) (hs) (by first | rfl | assumption) (by omega) (by omega) hm hg dX6_addsStorm_23 (fun I9 hm hg => ?_)
  refine k_aload_n C (f := 0) (i := 0) (p := 1) rfl rfl dX6_addsStorm_24 ?_
  refine k_iload C (i := 4) (p := 0) rfl dX6_addsStorm_25 ?_
  refine k_iconst C ic_2 dX6_addsStorm_27 ?_
  refine k_callSp C s_X6_77 h_X6_stormAt (ct_X6_stormAt ) rfl rfl (Nat.le_of_ble_eq_true rfl) ⟨Nat.le_of_ble_eq_true rfl, Nat.le_of_ble_eq_true rfl⟩ ⟨Nat.le_of_ble_eq_true rfl, Nat.le_of_ble_eq_true rfl⟩ ⟨rfl, rfl⟩ dX6_addsStorm_28 ?_
  refine k_iload_n C (f := 3) (i := 3) (p := 4) rfl rfl dX6_addsStorm_31 ?_
  refine k_rst C (i := 124 + 3 * sp_ns r) (hs) (by first | rfl | assumption) (by omega) (by omega) hm hg dX6_addsStorm_32 (fun I9 hm hg => ?_)
  refine k_aload_n C (f := 0) (i := 0) (p := 1) rfl rfl dX6_addsStorm_33 ?_
  refine k_bipush C bc_8 dX6_addsStorm_34 ?_
  refine k_dup2 C rfl rfl dX6_addsStorm_36 ?_
  refine k_iald C (by assumption) (by first | rfl | assumption) (by omega) (by decide) ((MR hm (by decide)).trans ((upd_ne (by omega)).trans ((upd_ne (by omega)).trans ((upd_ne (by omega)).trans h8)))) dX6_addsStorm_37 ?_
  refine k_iconst C ic_1 dX6_addsStorm_38 ?_
  refine k_iadd C dX6_addsStorm_39 ?_
  rw [nI_add1]
  refine k_rst C (i := 8) (hs) (by first | rfl | assumption) (by omega) (by omega) hm hg dX6_addsStorm_40 (fun I9 hm hg => ?_)
  exact k_vret C (Nat.le_of_ble_eq_true rfl) (Nat.le_of_ble_eq_true rfl) (⟨rfl, rfl, ⟨rfl, hm, hg⟩⟩) dX6_addsStorm_41
set_option maxHeartbeats 4000000 in
set_option maxRecDepth 100000 in
theorem ct_X6_addsLoad {G : am_G} {Λ : am_L} {I : am_I} {J : am_J} {s : Nat} {r : Nat → Int32} {x y : Int32} (hs : Λ.1 s = (2, 220)) (hm : MRow I s 0 r) (hB : RowB r) (hn : sp_nl r < 20) : am_Ct G yX6_addsLoad cX6_addsLoad 4 (some .int) { frames := 1, cells := 0, slots := 0, locals := 21 } [.ref s, .int x, .int y] Λ I J (am_gen Λ J (fun v I' => v = some (.int (nI (sp_nl r))) ∧ MRow I' s 0 (sp_bring r x y) ∧ am_f1 s I I')) am_never := by
  refine am_ct_of (own := RX6) rfl (by decide) (Nat.le_of_ble_eq_true rfl) (fun X C => ?_)
  change am_K G X { frames := 1, cells := 0, slots := 0, locals := 21 } 4 Λ I J 0 0 0 [(0, .ref s), (1, .int x), (2, .int y)] []
  have hB9 := hB
  obtain ⟨⟨h6, h7, h8, h9⟩, hnc, hnw, hns, hnl⟩ := hB9
  have hg : am_f1 s I I := am_f1.rf
  
  refine k_aload_n C (f := 0) (i := 0) (p := 0) rfl rfl dX6_addsLoad_0 ?_
  refine k_bipush C bc_9 dX6_addsLoad_1 ?_
  refine k_iald C (by assumption) (by first | rfl | assumption) (by omega) (by decide) ((MR hm (by decide)).trans h9) dX6_addsLoad_3 ?_
  refine k_istore_n C (f := 3) (i := 3) (lv := [(3, _), (0, _), (1, _), (2, _)]) rfl (Nat.le_of_ble_eq_true rfl) rfl dX6_addsLoad_4 ?_
  refine k_aload_n C (f := 0) (i := 0) (p := 1) rfl rfl dX6_addsLoad_5 ?_
  refine k_iload_n C (f := 3) (i := 3) (p := 0) rfl rfl dX6_addsLoad_6 ?_
  refine k_iconst C ic_0 dX6_addsLoad_7 ?_
  refine k_callSp C s_X6_56 h_X6_loadAt (ct_X6_loadAt ) rfl rfl (Nat.le_of_ble_eq_true rfl) ⟨Nat.le_of_ble_eq_true rfl, Nat.le_of_ble_eq_true rfl⟩ ⟨Nat.le_of_ble_eq_true rfl, Nat.le_of_ble_eq_true rfl⟩ ⟨rfl, rfl⟩ dX6_addsLoad_8 ?_
  refine k_iload_n C (f := 1) (i := 1) (p := 2) rfl rfl dX6_addsLoad_11 ?_
  refine k_rst C (i := 140 + 4 * sp_nl r) (hs) (by first | rfl | assumption) (by omega) (by omega) hm hg dX6_addsLoad_12 (fun I9 hm hg => ?_)
  refine k_aload_n C (f := 0) (i := 0) (p := 1) rfl rfl dX6_addsLoad_13 ?_
  refine k_iload_n C (f := 3) (i := 3) (p := 0) rfl rfl dX6_addsLoad_14 ?_
  refine k_iconst C ic_1 dX6_addsLoad_15 ?_
  refine k_callSp C s_X6_56 h_X6_loadAt (ct_X6_loadAt ) rfl rfl (Nat.le_of_ble_eq_true rfl) ⟨Nat.le_of_ble_eq_true rfl, Nat.le_of_ble_eq_true rfl⟩ ⟨Nat.le_of_ble_eq_true rfl, Nat.le_of_ble_eq_true rfl⟩ ⟨rfl, rfl⟩ dX6_addsLoad_16 ?_
  refine k_iload_n C (f := 2) (i := 2) (p := 3) rfl rfl dX6_addsLoad_19 ?_
  refine k_rst C (i := 141 + 4 * sp_nl r) (hs) (by first | rfl | assumption) (by omega) (by omega) hm hg dX6_addsLoad_20 (fun I9 hm hg => ?_)
  refine k_aload_n C (f := 0) (i := 0) (p := 1) rfl rfl dX6_addsLoad_21 ?_
  refine k_iload_n C (f := 3) (i := 3) (p := 0) rfl rfl dX6_addsLoad_22 ?_
  refine k_iconst C ic_2 dX6_addsLoad_23 ?_
  refine k_callSp C s_X6_56 h_X6_loadAt (ct_X6_loadAt ) rfl rfl (Nat.le_of_ble_eq_true rfl) ⟨Nat.le_of_ble_eq_true rfl, Nat.le_of_ble_eq_true rfl⟩ ⟨Nat.le_of_ble_eq_true rfl, Nat.le_of_ble_eq_true rfl⟩ ⟨rfl, rfl⟩ dX6_addsLoad_24 ?_
  refine k_iconst C ic_m1 dX6_addsLoad_27 ?_
  refine k_rst C (i := 142 + 4 * sp_nl r) (hs) (by first | rfl | assumption) (by omega) (by omega) hm hg dX6_addsLoad_28 (fun I9 hm hg => ?_)
  refine k_aload_n C (f := 0) (i := 0) (p := 1) rfl rfl dX6_addsLoad_29 ?_
  refine k_iload_n C (f := 3) (i := 3) (p := 0) rfl rfl dX6_addsLoad_30 ?_
  refine k_iconst C ic_3 dX6_addsLoad_31 ?_
  refine k_callSp C s_X6_56 h_X6_loadAt (ct_X6_loadAt ) rfl rfl (Nat.le_of_ble_eq_true rfl) ⟨Nat.le_of_ble_eq_true rfl, Nat.le_of_ble_eq_true rfl⟩ ⟨Nat.le_of_ble_eq_true rfl, Nat.le_of_ble_eq_true rfl⟩ ⟨rfl, rfl⟩ dX6_addsLoad_32 ?_
  refine k_aload_n C (f := 0) (i := 0) (p := 1) rfl rfl dX6_addsLoad_35 ?_
  refine k_iconst C ic_1 dX6_addsLoad_36 ?_
  refine k_iald C (by assumption) (by first | rfl | assumption) (by omega) (by decide) ((MR hm (by decide)).trans ((upd_ne (by omega)).trans ((upd_ne (by omega)).trans (upd_ne (by omega))))) dX6_addsLoad_37 ?_
  refine k_rst C (i := 143 + 4 * sp_nl r) (hs) (by first | rfl | assumption) (by omega) (by omega) hm hg dX6_addsLoad_38 (fun I9 hm hg => ?_)
  refine k_aload_n C (f := 0) (i := 0) (p := 1) rfl rfl dX6_addsLoad_39 ?_
  refine k_bipush C bc_9 dX6_addsLoad_40 ?_
  refine k_dup2 C rfl rfl dX6_addsLoad_42 ?_
  refine k_iald C (by assumption) (by first | rfl | assumption) (by omega) (by decide) ((MR hm (by decide)).trans ((upd_ne (by omega)).trans ((upd_ne (by omega)).trans ((upd_ne (by omega)).trans ((upd_ne (by omega)).trans h9))))) dX6_addsLoad_43 ?_
  refine k_iconst C ic_1 dX6_addsLoad_44 ?_
  refine k_iadd C dX6_addsLoad_45 ?_
  rw [nI_add1]
  refine k_rst C (i := 9) (hs) (by first | rfl | assumption) (by omega) (by omega) hm hg dX6_addsLoad_46 (fun I9 hm hg => ?_)
  refine k_iload_n C (f := 3) (i := 3) (p := 0) rfl rfl dX6_addsLoad_47 ?_
  exact k_iret C (Nat.le_of_ble_eq_true rfl) (Nat.le_of_ble_eq_true rfl) (⟨rfl, rfl, ⟨rfl, hm, hg⟩⟩) dX6_addsLoad_48
