/-! ===== texts that the library builds ===== -/
def BA (Λ : am_L) (I : am_I) (v cap : Nat) : Prop := Λ.1 v = (3, cap) ∧ cap ≤ 1000 ∧ ∀ j : Nat, j < cap → ∃ c : Nat, c < 128 ∧ I v j = nI c
def SbAt (Λ : am_L) (I : am_I) (b v cap n : Nat) (tx : Nat → Nat) : Prop := Λ.1 b = (1, 6) ∧ Λ.2 b 0 = some v ∧ I b 1 = nI 0 ∧ I b 3 = nI n ∧ n ≤ cap ∧ BA Λ I v cap ∧ ∀ j : Nat, j < n → I v j = nI (tx j)
def StAt (Λ : am_L) (I : am_I) (s v n : Nat) (tx : Nat → Nat) : Prop := Λ.1 s = (1, 7) ∧ Λ.2 s 0 = some v ∧ I s 1 = nI 0 ∧ BA Λ I v n ∧ ∀ j : Nat, j < n → I v j = nI (tx j)
/-- all that was there is where it was and as it was -/
def KPs (Λ : am_L) (I : am_I) (Λ' : am_L) (I' : am_I) : Prop := ∀ a : Nat, (Λ.1 a).1 ≠ 0 → Λ'.1 a = Λ.1 a ∧ Λ'.2 a = Λ.2 a ∧ I' a = I a
theorem KPs.rf {Λ : am_L} {I : am_I} : KPs Λ I Λ I := fun _ _ => ⟨rfl, rfl, rfl⟩
theorem KPs.tr {Λ Λ1 Λ2 : am_L} {I I1 I2 : am_I} (h : KPs Λ I Λ1 I1) (h2 : KPs Λ1 I1 Λ2 I2) : KPs Λ I Λ2 I2 := fun a ha => by
  obtain ⟨a1, a2, a3⟩ := h a ha
  obtain ⟨b1, b2, b3⟩ := h2 a (by rw [a1]; exact ha)
  exact ⟨b1.trans a1, b2.trans a2, b3.trans a3⟩
/-- all but the builder b and its array v -/
def SKp (b v : Nat) (Λ : am_L) (I : am_I) (Λ' : am_L) (I' : am_I) : Prop := ∀ a : Nat, (Λ.1 a).1 ≠ 0 → Λ'.1 a = Λ.1 a ∧ (a ≠ b → Λ'.2 a = Λ.2 a ∧ (a ≠ v → I' a = I a))
theorem SKp.rf {b v : Nat} {Λ : am_L} {I : am_I} : SKp b v Λ I Λ I := fun _ _ => ⟨rfl, fun _ => ⟨rfl, fun _ => rfl⟩⟩
/-- two steps of one builder, whose array the first may have changed for a new one -/
theorem SKp.tr {b v v1 : Nat} {Λ Λ1 Λ2 : am_L} {I I1 I2 : am_I} (h : SKp b v Λ I Λ1 I1) (hv : v1 = v ∨ (Λ.1 v1).1 = 0) (h2 : SKp b v1 Λ1 I1 Λ2 I2) : SKp b v Λ I Λ2 I2 := fun a ha => by
  obtain ⟨a1, a2⟩ := h a ha
  obtain ⟨b1, b2⟩ := h2 a (by rw [a1]; exact ha)
  refine ⟨b1.trans a1, fun hb => ⟨(b2 hb).1.trans (a2 hb).1, fun hav => ?_⟩⟩
  refine ((b2 hb).2 (fun e => ?_)).trans ((a2 hb).2 hav)
  rcases hv with hv | hv
  · exact hav (e.trans hv)
  · rw [← e] at hv; exact ha hv
theorem fresh_tr {v v1 v2 b : Nat} {Λ Λ1 : am_L} {I I1 : am_I} (h : SKp b v Λ I Λ1 I1) (h1 : v1 = v ∨ (Λ.1 v1).1 = 0) (h2 : v2 = v1 ∨ (Λ1.1 v2).1 = 0) : v2 = v ∨ (Λ.1 v2).1 = 0 := by
  rcases h2 with h2 | h2
  · rw [h2]; exact h1
  · refine Or.inr ?_
    by_cases e : (Λ.1 v2).1 = 0
    · exact e
    · rw [(h v2 e).1] at h2; exact absurd h2 e
theorem fit_nI : ∀ c : Nat, c < 128 → fits .byte (.int (nI c)) = true ∧ (nI c).toInt8.toInt32 = nI c ∧ vp_nar .byte (nI c) = nI c := by decide +kernel
theorem BA_fit {Λ : am_L} {I : am_I} {v cap : Nat} (h : BA Λ I v cap) {j : Nat} (hj : j < cap) : fits .byte (.int (I v j)) = true := by
  obtain ⟨c, c1, c2⟩ := h.2.2 j hj
  rw [c2]; exact (fit_nI c c1).1
theorem shl0n (x : Int32) : x <<< (nI 0 &&& 31) = x := sb_shl0 x
theorem shr0n (x : Int32) : x >>> (nI 0 &&& 31) = x := sb_shr0 x
theorem mx_nI {a b : Nat} (ha : a < 2 ^ 31) (hb : b < 2 ^ 31) : (if nI a < nI b then nI b else nI a) = nI (max a b) := by
  by_cases e : a < b
  · rw [if_pos (nI_lt e hb), show max a b = b by omega]
  · rw [if_neg (nI_nlt (by omega) ha), show max a b = a by omega]
theorem sub_le0 {a b : Nat} (h : a ≤ b) (ha : a < 2 ^ 30) (hb : b < 2 ^ 30) : nI a - nI b ≤ 0 := Int32.not_lt.mp (fun z => by have := (sub_pos_iff ha hb).mp z; omega)
theorem nI_npos {n : Nat} (h0 : 0 < n) (h : n < 2 ^ 31) : ¬ nI n ≤ 0 := fun z => by have := (nI_le0 h).mp z; omega
def am_cpo (v cap N : Nat) (Λ : am_L) (I : am_I) : am_PT := fun w Λ' I' _ => ∃ h : Nat, w = some (.ref h) ∧ (Λ.1 h).1 = 0 ∧ KPs Λ I Λ' I' ∧ Λ'.1 h = (3, N) ∧ (∀ j : Nat, j < cap → I' h j = I v j) ∧ ∀ j : Nat, cap ≤ j → I' h j = 0
theorem fresh0 {Λ : am_L} {h : Nat} (hh : ∀ a : Nat, (Λ.1 a).1 ≠ 0 → a < h) : (Λ.1 h).1 = 0 := by
  by_cases e : (Λ.1 h).1 = 0
  · exact e
  · exact absurd (hh h e) (Nat.lt_irrefl _)
theorem cpo_end {Λ : am_L} {I : am_I} {J' : am_J} {v h cap N : Nat} (hv : (Λ.1 v).1 ≠ 0) (hh : ∀ a : Nat, (Λ.1 a).1 ≠ 0 → a < h) : am_cpo v cap N Λ I (some (.ref h)) (am_nS Λ h (3, N)) (am_cx (am_nI I h) h v 0 0 cap) J' := by
  have hne : v ≠ h := fun e => by have := hh v hv; omega
  refine ⟨h, rfl, fresh0 hh, fun a ha => ?_, nS_eq, fun j hj => ?_, fun j hj => ?_⟩
  · have q : a ≠ h := fun e => by have := hh a ha; omega
    exact ⟨nS_ne q, nR_ne q, (am_cx_ne q).trans (nI_old q)⟩
  · rw [am_cx_eq, pk_cpy_in (Nat.zero_le _) (by omega), nI_old hne, Nat.zero_add, Nat.sub_zero]
  · rw [am_cx_eq, pk_cpy_out (Or.inr (by omega)), nI_new]
def am_en (b v n m : Nat) (tx : Nat → Nat) (Λ : am_L) (I : am_I) : am_PT := fun w Λ' I' _ => w = none ∧ SKp b v Λ I Λ' I' ∧ I' b = I b ∧ ∃ v' cap' : Nat, (v' = v ∨ (Λ.1 v').1 = 0) ∧ cap' ≤ 700 ∧ m ≤ cap' ∧ SbAt Λ' I' b v' cap' n tx
theorem en_grow {Λ Λ2 : am_L} {I I2 : am_I} {J' : am_J} {b v cap n m N h : Nat} {tx : Nat → Nat} (hsb : SbAt Λ I b v cap n tx) (hz : (Λ.1 h).1 = 0) (hkp : KPs Λ I Λ2 I2) (hsh : Λ2.1 h = (3, N)) (hc1 : ∀ j : Nat, j < cap → I2 h j = I v j) (hc2 : ∀ j : Nat, cap ≤ j → I2 h j = 0) (hN : N ≤ 700) (hm : m ≤ N) (hcN : cap ≤ N) : am_en b v n m tx Λ I none (Λ2.1, am_ur Λ2.2 b 0 (some h)) I2 J' := by
  obtain ⟨h1, h2, h3, h4, h5, h6, h7⟩ := hsb
  have tb : (Λ.1 b).1 ≠ 0 := by rw [h1]; exact Nat.one_ne_zero
  obtain ⟨b1, b2, b3⟩ := hkp b tb
  refine ⟨rfl, fun a ha => ?_, b3, h, N, Or.inr hz, hN, hm, b1.trans h1, ?_, by rw [b3]; exact h3, by rw [b3]; exact h4, by omega, ⟨hsh, by omega, fun j hj => ?_⟩, fun j hj => ?_⟩
  · obtain ⟨a1, a2, a3⟩ := hkp a ha
    exact ⟨a1, fun q => ⟨(am_ur_ne q).trans a2, fun _ => a3⟩⟩
  · simp [am_ur]
  · by_cases e : j < cap
    · rw [hc1 j e]; exact h6.2.2 j e
    · exact ⟨0, by omega, hc2 j (by omega)⟩
  · rw [hc1 j (by omega)]; exact h7 j hj
def am_ap (b v n : Nat) (tx : Nat → Nat) (Λ : am_L) (I : am_I) : am_PT := fun w Λ' I' _ => w = some (.ref b) ∧ SKp b v Λ I Λ' I' ∧ ∃ v' cap' : Nat, (v' = v ∨ (Λ.1 v').1 = 0) ∧ cap' ≤ 700 ∧ SbAt Λ' I' b v' cap' n tx
def tx1 (tx : Nat → Nat) (n c : Nat) : Nat → Nat := fun j => if j = n then c else tx j
/-- w bytes are put behind the first n -/
theorem ap_end {Λ Λ2 : am_L} {I I2 I3 : am_I} {J' : am_J} {b v v2 cap2 n w : Nat} {tx sx : Nat → Nat} (hsk : SKp b v Λ I Λ2 I2) (hv2 : v2 = v ∨ (Λ.1 v2).1 = 0) (hc2 : cap2 ≤ 700) (hsb : SbAt Λ2 I2 b v2 cap2 n tx) (hm : n + w ≤ cap2)
    (h0 : ∀ a : Nat, a ≠ b → a ≠ v2 → I3 a = I2 a) (hb : I3 b = fun j => if j = 3 then nI (n + w) else I2 b j) (hlo : ∀ j : Nat, j < n ∨ n + w ≤ j → I3 v2 j = I2 v2 j) (hi : ∀ i : Nat, i < w → sx i < 128 ∧ I3 v2 (n + i) = nI (sx i)) : am_ap b v (n + w) (sb_cat tx n sx) Λ I (some (.ref b)) Λ2 I3 J' := by
  obtain ⟨h1, h2, h3, h4, h5, h6, h7⟩ := hsb
  refine ⟨rfl, hsk.tr hv2 (fun a ha => ⟨rfl, fun q => ⟨rfl, fun q2 => h0 a q q2⟩⟩), v2, cap2, hv2, hc2, h1, h2, by rw [hb]; exact h3, by rw [hb]; exact if_pos rfl, hm, ⟨h6.1, h6.2.1, fun j hj => ?_⟩, fun j hj => ?_⟩
  · by_cases e : j < n ∨ n + w ≤ j
    · rw [hlo j e]; exact h6.2.2 j hj
    · obtain ⟨q1, q2⟩ := hi (j - n) (by omega)
      rw [show n + (j - n) = j by omega] at q2
      exact ⟨_, q1, q2⟩
  · by_cases e : j < n
    · rw [hlo j (Or.inl e), sb_cat_lo e]; exact h7 j e
    · obtain ⟨q1, q2⟩ := hi (j - n) (by omega)
      have q3 := sb_cat_hi (t := tx) (s := sx) (n := n) (j := j - n)
      rw [show n + (j - n) = j by omega] at q2 q3
      rw [q2, q3]
set_option maxHeartbeats 4000000 in
set_option maxRecDepth 100000 in
theorem ct_J8_newLength_cabcc {G : am_G} {Λ : am_L} {I : am_I} {J : am_J} {a b c : Nat} (ha : a + max b c ≤ 2000) (h0 : 0 < a + max b c) : am_Ct G yJ8_newLength_cabcc cJ8_newLength_cabcc 4 (some .int) { frames := 1, cells := 0, slots := 0, locals := 40 } [.int (nI a), .int (nI b), .int (nI c)] Λ I J (am_pure (.int (nI (a + max b c))) Λ I J) am_never := by
  refine am_ct_of (own := RJ8) rfl (by decide) (Nat.le_of_ble_eq_true rfl) (fun X C => ?_)
  change am_K G X { frames := 1, cells := 0, slots := 0, locals := 40 } 4 Λ I J 0 0 0 [(0, .int (nI a)), (1, .int (nI b)), (2, .int (nI c))] []
  refine k_iload_n C (f := 0) (i := 0) (p := 0) rfl rfl dJ8_newLength_cabcc_0 ?_
  refine k_iload_n C (f := 1) (i := 1) (p := 1) rfl rfl dJ8_newLength_cabcc_1 ?_
  refine k_iload_n C (f := 2) (i := 2) (p := 2) rfl rfl dJ8_newLength_cabcc_2 ?_
  refine k_max C (mx_nI (by omega) (by omega)) m_J8_194 ⟨Nat.le_of_ble_eq_true rfl, Nat.le_of_ble_eq_true rfl⟩ ⟨by show _ ≤ 0; (try dsimp only); omega, by show _ ≤ 0; (try dsimp only); omega⟩ dJ8_newLength_cabcc_3 ?_
  refine k_iadd C dJ8_newLength_cabcc_6 ?_
  rw [nI_add]
  refine k_istore_n C (f := 3) (i := 3) (lv := [(3, _), (0, _), (1, _), (2, _)]) rfl (Nat.le_of_ble_eq_true rfl) rfl dJ8_newLength_cabcc_7 ?_
  refine k_iconst C ic_0 dJ8_newLength_cabcc_8 ?_
  refine k_iload_n C (f := 3) (i := 3) (p := 0) rfl rfl dJ8_newLength_cabcc_9 ?_
  first
  | refine k_icmpN_ge C (tgt := 21) (by omega) (by omega) (by decide) dJ8_newLength_cabcc_10 (fun hc10 => ?_) (fun hc10 => ?_)
  | refine k_icmp_ge C (tgt := 21) (by decide) dJ8_newLength_cabcc_10 (fun hc10 => ?_) (fun hc10 => ?_)
  · skip
    first
    | omega
    | exact absurd hc10 (nI_ge (by omega) (by omega))
    | exact absurd hc10 (by decide)
    | exact absurd hc10 (nI_pos (by omega))
    | exact absurd (nI_pos' (by omega)) hc10
    | exact absurd rfl hc10
    | exact absurd hc10 (nI_ne0 (by omega) (by omega))
    | exact hc10 rfl
    | contradiction
    | exact absurd hc10 (nI_n101 (by omega))
    | exact absurd hc10.symm (nI_n101 (by omega))
    | (simp_all; done)
  · skip
    refine k_iload_n C (f := 3) (i := 3) (p := 0) rfl rfl dJ8_newLength_cabcc_13 ?_
    refine k_ldcI C ki_J8_200 dJ8_newLength_cabcc_14 ?_
    rw [show (2147483639 : Int32) = nI 2147483639 from rfl]
    first
    | refine k_icmpN_gt C (tgt := 21) (by omega) (by omega) (by decide) dJ8_newLength_cabcc_16 (fun hc16 => ?_) (fun hc16 => ?_)
    | refine k_icmp_gt C (tgt := 21) (by decide) dJ8_newLength_cabcc_16 (fun hc16 => ?_) (fun hc16 => ?_)
    · skip
      first
      | omega
      | exact absurd hc16 (nI_ge (by omega) (by omega))
      | exact absurd hc16 (by decide)
      | exact absurd hc16 (nI_pos (by omega))
      | exact absurd (nI_pos' (by omega)) hc16
      | exact absurd rfl hc16
      | exact absurd hc16 (nI_ne0 (by omega) (by omega))
      | exact hc16 rfl
      | contradiction
      | exact absurd hc16 (nI_n101 (by omega))
      | exact absurd hc16.symm (nI_n101 (by omega))
      | (simp_all; done)
    · skip
      refine k_iload_n C (f := 3) (i := 3) (p := 0) rfl rfl dJ8_newLength_cabcc_19 ?_
      exact k_iret C (by show _ ≤ 0; (try dsimp only); omega) (by show _ ≤ 0; (try dsimp only); omega) (⟨rfl, rfl, rfl, rfl⟩) dJ8_newLength_cabcc_20
set_option maxHeartbeats 4000000 in
set_option maxRecDepth 100000 in
theorem ct_J5_newCapacity_0f7a4 {G : am_G} {Λ : am_L} {I : am_I} {J : am_J} {b v cap n : Nat} {tx : Nat → Nat} {m : Nat} (hsb : SbAt Λ I b v cap n tx) (hm : cap < m) (hm9 : m ≤ 300) : am_Ct G yJ5_newCapacity_0f7a4 cJ5_newCapacity_0f7a4 6 (some .int) { frames := 2, cells := 0, slots := 0, locals := 100 } [.ref b, .int (nI m)] Λ I J (am_pure (.int (nI (cap + max (m - cap) (cap + 2)))) Λ I J) am_never := by
  refine am_ct_of (own := RJ5) rfl (by decide) (Nat.le_of_ble_eq_true rfl) (fun X C => ?_)
  change am_K G X { frames := 2, cells := 0, slots := 0, locals := 100 } 6 Λ I J 0 0 0 [(0, .ref b), (1, .int (nI m))] []
  refine k_aload_n C (f := 0) (i := 0) (p := 0) rfl rfl dJ5_newCapacity_0f7a4_0 ?_
  refine k_getR C f_J5_15 hsb.1 (fun _ _ _ => rfl) hsb.2.1 dJ5_newCapacity_0f7a4_1 ?_
  refine k_lenB C (hsb.2.2.2.2.2.1.1) dJ5_newCapacity_0f7a4_4 ?_
  refine k_istore_n C (f := 2) (i := 2) (lv := [(2, _), (0, _), (1, _)]) rfl (Nat.le_of_ble_eq_true rfl) rfl dJ5_newCapacity_0f7a4_5 ?_
  refine k_iload_n C (f := 1) (i := 1) (p := 2) rfl rfl dJ5_newCapacity_0f7a4_6 ?_
  refine k_aload_n C (f := 0) (i := 0) (p := 1) rfl rfl dJ5_newCapacity_0f7a4_7 ?_
  refine k_getI C f_J5_22 hsb.1 (fun _ _ _ => rfl) hsb.2.2.1 dJ5_newCapacity_0f7a4_8 ?_
  refine k_ishl C dJ5_newCapacity_0f7a4_11 ?_
  rw [shl0n]
  refine k_istore_n C (f := 3) (i := 3) (lv := [(3, _), (2, _), (0, _), (1, _)]) rfl (Nat.le_of_ble_eq_true rfl) rfl dJ5_newCapacity_0f7a4_12 ?_
  refine k_iload_n C (f := 3) (i := 3) (p := 0) rfl rfl dJ5_newCapacity_0f7a4_13 ?_
  refine k_iload_n C (f := 2) (i := 2) (p := 1) rfl rfl dJ5_newCapacity_0f7a4_14 ?_
  refine k_isub C dJ5_newCapacity_0f7a4_15 ?_
  rw [pk_sub (by omega)]
  refine k_istore C (i := 4) (lv := [(4, _), (3, _), (2, _), (0, _), (1, _)]) (Nat.le_of_ble_eq_true rfl) rfl dJ5_newCapacity_0f7a4_16 ?_
  refine k_iload_n C (f := 2) (i := 2) (p := 2) rfl rfl dJ5_newCapacity_0f7a4_18 ?_
  refine k_iload C (i := 4) (p := 0) rfl dJ5_newCapacity_0f7a4_19 ?_
  refine k_iload_n C (f := 2) (i := 2) (p := 2) rfl rfl dJ5_newCapacity_0f7a4_21 ?_
  refine k_iconst C ic_2 dJ5_newCapacity_0f7a4_22 ?_
  refine k_aload_n C (f := 0) (i := 0) (p := 3) rfl rfl dJ5_newCapacity_0f7a4_23 ?_
  refine k_getI C f_J5_22 hsb.1 (fun _ _ _ => rfl) hsb.2.2.1 dJ5_newCapacity_0f7a4_24 ?_
  refine k_ishl C dJ5_newCapacity_0f7a4_27 ?_
  rw [shl0n]
  refine k_iadd C dJ5_newCapacity_0f7a4_28 ?_
  rw [nI_add]
  refine k_callSq C s_J5_114 h_J8_newLength_cabcc (ct_J8_newLength_cabcc (by omega) (by omega)) rfl rfl (Nat.le_of_ble_eq_true rfl) ⟨Nat.le_of_ble_eq_true rfl, Nat.le_of_ble_eq_true rfl⟩ ⟨rfl, rfl⟩ ⟨by show _ ≤ 0; (try dsimp only); omega, by show _ ≤ 0; (try dsimp only); omega⟩ dJ5_newCapacity_0f7a4_29 ?_
  refine k_istore C (i := 5) (lv := [(5, _), (4, _), (3, _), (2, _), (0, _), (1, _)]) (Nat.le_of_ble_eq_true rfl) rfl dJ5_newCapacity_0f7a4_32 ?_
  refine k_iload C (i := 5) (p := 0) rfl dJ5_newCapacity_0f7a4_34 ?_
  refine k_ldcI C ki_J5_39 dJ5_newCapacity_0f7a4_36 ?_
  rw [show (2147483647 : Int32) = nI 2147483647 from rfl]
  first
  | refine k_icmpN_ne C (tgt := 51) (by omega) (by omega) (by decide) dJ5_newCapacity_0f7a4_38 (fun hc38 => ?_) (fun hc38 => ?_)
  | refine k_icmp_ne C (tgt := 51) (by decide) dJ5_newCapacity_0f7a4_38 (fun hc38 => ?_) (fun hc38 => ?_)
  · skip
    refine k_iload C (i := 5) (p := 0) rfl dJ5_newCapacity_0f7a4_51 ?_
    refine k_aload_n C (f := 0) (i := 0) (p := 4) rfl rfl dJ5_newCapacity_0f7a4_53 ?_
    refine k_getI C f_J5_22 hsb.1 (fun _ _ _ => rfl) hsb.2.2.1 dJ5_newCapacity_0f7a4_54 ?_
    refine k_ishr C dJ5_newCapacity_0f7a4_57 ?_
    rw [shr0n]
    exact k_iret C (by show _ ≤ 0; (try dsimp only); omega) (by show _ ≤ 0; (try dsimp only); omega) (⟨rfl, rfl, rfl, rfl⟩) dJ5_newCapacity_0f7a4_58
  · skip
    first
    | omega
    | exact absurd hc38 (nI_ge (by omega) (by omega))
    | exact absurd hc38 (by decide)
    | exact absurd hc38 (nI_pos (by omega))
    | exact absurd (nI_pos' (by omega)) hc38
    | exact absurd rfl hc38
    | exact absurd hc38 (nI_ne0 (by omega) (by omega))
    | exact hc38 rfl
    | contradiction
    | exact absurd hc38 (nI_n101 (by omega))
    | exact absurd hc38.symm (nI_n101 (by omega))
    | (simp_all; done)
set_option maxHeartbeats 4000000 in
set_option maxRecDepth 100000 in
theorem ct_J7_copyOf_9075b {G : am_G} {Λ : am_L} {I : am_I} {J : am_J} {v cap N : Nat} (hv : BA Λ I v cap) (hc : cap < N) (hN : N ≤ 700) : am_Ct G yJ7_copyOf_9075b cJ7_copyOf_9075b 3 (some (.array .byte)) { frames := 1, cells := 1, slots := 700, locals := 100 } [.ref v, .int (nI N)] Λ I J (am_cpo v cap N Λ I) am_never := by
  refine am_ct_of (own := RJ7) rfl (by decide) (Nat.le_of_ble_eq_true rfl) (fun X C => ?_)
  change am_K G X { frames := 1, cells := 1, slots := 700, locals := 100 } 3 Λ I J 0 0 0 [(0, .ref v), (1, .int (nI N))] []
  have hv9b := hv.2.1
  refine k_iload_n C (f := 1) (i := 1) (p := 1) rfl rfl dJ7_copyOf_9075b_0 ?_
  refine k_aload_n C (f := 0) (i := 0) (p := 0) rfl rfl dJ7_copyOf_9075b_1 ?_
  refine k_lenB C (hv.1) dJ7_copyOf_9075b_2 ?_
  first
  | refine k_icmpN_ne C (tgt := 14) (by omega) (by omega) (by decide) dJ7_copyOf_9075b_3 (fun hc3 => ?_) (fun hc3 => ?_)
  | refine k_icmp_ne C (tgt := 14) (by decide) dJ7_copyOf_9075b_3 (fun hc3 => ?_) (fun hc3 => ?_)
  · skip
    refine k_iload_n C (f := 1) (i := 1) (p := 1) rfl rfl dJ7_copyOf_9075b_14 ?_
    refine k_newA2 C am_ar_b (rfl) (by omega) (Or.inr (Or.inl ⟨rfl, rfl⟩)) ⟨by show _ ≤ 1; (try dsimp only); omega, by show _ ≤ 700; (try dsimp only); omega⟩ dJ7_copyOf_9075b_15 (fun h hh15 => ?_)
    have hv9 := hv.2.1
    have hsh : (am_nS Λ h (3, N)).1 h = (3, N) := nS_eq
    have hne : v ≠ h := fun e => by have := hh15 v (by rw [hv.1]; exact Nat.succ_ne_zero _); omega
    have hsv : (am_nS Λ h (3, N)).1 v = (3, cap) := (nS_ne hne).trans hv.1
    have hI : am_nI I h v = I v := nI_old hne
    refine k_astore_n C (f := 2) (i := 2) (lv := [(2, _), (0, _), (1, _)]) rfl (Nat.le_of_ble_eq_true rfl) rfl dJ7_copyOf_9075b_17 ?_
    refine k_aload_n C (f := 0) (i := 0) (p := 1) rfl rfl dJ7_copyOf_9075b_18 ?_
    refine k_iconst C ic_0 dJ7_copyOf_9075b_19 ?_
    refine k_aload_n C (f := 2) (i := 2) (p := 0) rfl rfl dJ7_copyOf_9075b_20 ?_
    refine k_iconst C ic_0 dJ7_copyOf_9075b_21 ?_
    refine k_aload_n C (f := 0) (i := 0) (p := 1) rfl rfl dJ7_copyOf_9075b_22 ?_
    refine k_lenB C (hsv) dJ7_copyOf_9075b_23 ?_
    refine k_iload_n C (f := 1) (i := 1) (p := 2) rfl rfl dJ7_copyOf_9075b_24 ?_
    refine k_min C (sp_min_nI (by omega) (by omega)) m_J7_304 ⟨Nat.le_of_ble_eq_true rfl, Nat.le_of_ble_eq_true rfl⟩ ⟨by show _ ≤ 1; (try dsimp only); omega, by show _ ≤ 700; (try dsimp only); omega⟩ dJ7_copyOf_9075b_25 ?_
    rw [show min cap N = cap by omega]
    refine k_copyB C (M := cap) (N := N) (sp := 0) (dp := 0) (m := cap) hsv hsh ⟨by omega, by omega, by omega⟩ (by omega) (by omega) (fun i hi => by rw [hI, Nat.zero_add]; exact BA_fit hv hi) m_J7_150 ⟨Nat.le_of_ble_eq_true rfl, Nat.le_of_ble_eq_true rfl⟩ dJ7_copyOf_9075b_28 ?_
    refine k_aload_n C (f := 2) (i := 2) (p := 0) rfl rfl dJ7_copyOf_9075b_31 ?_
    exact k_aret C (by first | exact Or.inl ⟨_, rfl⟩ | exact Or.inr ⟨_, rfl⟩) (by show _ ≤ 1; (try dsimp only); omega) (by show _ ≤ 700; (try dsimp only); omega) (cpo_end (by rw [hv.1]; exact Nat.succ_ne_zero _) hh15) dJ7_copyOf_9075b_32
  · skip
    first
    | omega
    | exact absurd hc3 (nI_ge (by omega) (by omega))
    | exact absurd hc3 (by decide)
    | exact absurd hc3 (nI_pos (by omega))
    | exact absurd (nI_pos' (by omega)) hc3
    | exact absurd rfl hc3
    | exact absurd hc3 (nI_ne0 (by omega) (by omega))
    | exact hc3 rfl
    | contradiction
    | exact absurd hc3 (nI_n101 (by omega))
    | exact absurd hc3.symm (nI_n101 (by omega))
    | (simp_all; done)
set_option maxHeartbeats 4000000 in
set_option maxRecDepth 100000 in
theorem ct_J5_ensureCapacityInternal_d00df {G : am_G} {Λ : am_L} {I : am_I} {J : am_J} {b v cap n : Nat} {tx : Nat → Nat} {m : Nat} (hsb : SbAt Λ I b v cap n tx) (hm9 : m ≤ 300) (hc7 : cap ≤ 700) : am_Ct G yJ5_ensureCapacityInternal_d00df cJ5_ensureCapacityInternal_d00df 3 none { frames := 3, cells := 1, slots := 700, locals := 180 } [.ref b, .int (nI m)] Λ I J (am_en b v n m tx Λ I) am_never := by
  refine am_ct_of (own := RJ5) rfl (by decide) (Nat.le_of_ble_eq_true rfl) (fun X C => ?_)
  change am_K G X { frames := 3, cells := 1, slots := 700, locals := 180 } 3 Λ I J 0 0 0 [(0, .ref b), (1, .int (nI m))] []
  refine k_aload_n C (f := 0) (i := 0) (p := 0) rfl rfl dJ5_ensureCapacityInternal_d00df_0 ?_
  refine k_getR C f_J5_15 hsb.1 (fun _ _ _ => rfl) hsb.2.1 dJ5_ensureCapacityInternal_d00df_1 ?_
  refine k_lenB C (hsb.2.2.2.2.2.1.1) dJ5_ensureCapacityInternal_d00df_4 ?_
  refine k_aload_n C (f := 0) (i := 0) (p := 0) rfl rfl dJ5_ensureCapacityInternal_d00df_5 ?_
  refine k_getI C f_J5_22 hsb.1 (fun _ _ _ => rfl) hsb.2.2.1 dJ5_ensureCapacityInternal_d00df_6 ?_
  refine k_ishr C dJ5_ensureCapacityInternal_d00df_9 ?_
  rw [shr0n]
  refine k_istore_n C (f := 2) (i := 2) (lv := [(2, _), (0, _), (1, _)]) rfl (Nat.le_of_ble_eq_true rfl) rfl dJ5_ensureCapacityInternal_d00df_10 ?_
  by_cases hle : m ≤ cap
  · skip
    refine k_iload_n C (f := 1) (i := 1) (p := 2) rfl rfl dJ5_ensureCapacityInternal_d00df_11 ?_
    refine k_iload_n C (f := 2) (i := 2) (p := 0) rfl rfl dJ5_ensureCapacityInternal_d00df_12 ?_
    refine k_isub C dJ5_ensureCapacityInternal_d00df_13 ?_
    skip
    refine k_if_le C (tgt := 38) (by decide) dJ5_ensureCapacityInternal_d00df_14 (fun hc14 => ?_) (fun hc14 => ?_)
    · skip
      exact k_vret C (by show _ ≤ 1; (try dsimp only); omega) (by show _ ≤ 700; (try dsimp only); omega) (⟨rfl, SKp.rf, rfl, v, cap, Or.inl rfl, hc7, hle, hsb⟩) dJ5_ensureCapacityInternal_d00df_38
    · skip
      exact absurd (sub_le0 hle (by omega) (by omega)) hc14
  · skip
    refine k_iload_n C (f := 1) (i := 1) (p := 2) rfl rfl dJ5_ensureCapacityInternal_d00df_11 ?_
    refine k_iload_n C (f := 2) (i := 2) (p := 0) rfl rfl dJ5_ensureCapacityInternal_d00df_12 ?_
    refine k_isub C dJ5_ensureCapacityInternal_d00df_13 ?_
    rw [pk_sub (by omega)]
    refine k_if_le C (tgt := 38) (by decide) dJ5_ensureCapacityInternal_d00df_14 (fun hc14 => ?_) (fun hc14 => ?_)
    · skip
      exact absurd hc14 (nI_npos (by omega) (by omega))
    · skip
      refine k_aload_n C (f := 0) (i := 0) (p := 1) rfl rfl dJ5_ensureCapacityInternal_d00df_17 ?_
      refine k_aload_n C (f := 0) (i := 0) (p := 1) rfl rfl dJ5_ensureCapacityInternal_d00df_18 ?_
      refine k_getR C f_J5_15 hsb.1 (fun _ _ _ => rfl) hsb.2.1 dJ5_ensureCapacityInternal_d00df_19 ?_
      refine k_aload_n C (f := 0) (i := 0) (p := 1) rfl rfl dJ5_ensureCapacityInternal_d00df_22 ?_
      refine k_iload_n C (f := 1) (i := 1) (p := 2) rfl rfl dJ5_ensureCapacityInternal_d00df_23 ?_
      refine k_callUq C s_J5_104 h_J5_newCapacity_0f7a4 (hsb.1) rfl (ct_J5_newCapacity_0f7a4 hsb (by omega) hm9) rfl rfl (Nat.le_of_ble_eq_true rfl) ⟨Nat.le_of_ble_eq_true rfl, Nat.le_of_ble_eq_true rfl⟩ ⟨rfl, rfl⟩ ⟨by show _ ≤ 1; (try dsimp only); omega, by show _ ≤ 700; (try dsimp only); omega⟩ dJ5_ensureCapacityInternal_d00df_24 ?_
      refine k_aload_n C (f := 0) (i := 0) (p := 1) rfl rfl dJ5_ensureCapacityInternal_d00df_27 ?_
      refine k_getI C f_J5_22 hsb.1 (fun _ _ _ => rfl) hsb.2.2.1 dJ5_ensureCapacityInternal_d00df_28 ?_
      refine k_ishl C dJ5_ensureCapacityInternal_d00df_31 ?_
      rw [shl0n]
      refine k_callSl C s_J5_108 h_J7_copyOf_9075b (ct_J7_copyOf_9075b (N := cap + max (m - cap) (cap + 2)) hsb.2.2.2.2.2.1 (by omega) (by omega)) rfl rfl (Nat.le_of_ble_eq_true rfl) ⟨Nat.le_of_ble_eq_true rfl, Nat.le_of_ble_eq_true rfl⟩ ⟨rfl, rfl⟩ ⟨by show _ ≤ 1; (try dsimp only); omega, by show _ ≤ 700; (try dsimp only); omega⟩ dJ5_ensureCapacityInternal_d00df_32 ?_
      intro w Λ2 I2 J2 hv
      obtain ⟨h, rfl, hz, hkp, hsh, hc1, hc2⟩ := hv
      show am_K G X _ _ _ _ _ _ _ _ _ (.ref h :: _)
      have eb1 : Λ2.1 b = (1, 6) := (hkp b (by rw [hsb.1]; exact Nat.one_ne_zero)).1.trans hsb.1
      refine k_putR C f_J5_15 eb1 rfl rfl dJ5_ensureCapacityInternal_d00df_35 ?_
      exact k_vret C (by show _ ≤ 1; (try dsimp only); omega) (by show _ ≤ 700; (try dsimp only); omega) (en_grow hsb hz hkp hsh hc1 hc2 (by omega) (by omega) (by omega)) dJ5_ensureCapacityInternal_d00df_38
set_option maxHeartbeats 4000000 in
set_option maxRecDepth 100000 in
theorem ct_J5_isLatin1_aae02 {G : am_G} {Λ : am_L} {I : am_I} {J : am_J} {b v cap n : Nat} {tx : Nat → Nat} (hsb : SbAt Λ I b v cap n tx) : am_Ct G yJ5_isLatin1_aae02 cJ5_isLatin1_aae02 1 (some .boolean) { frames := 0, cells := 0, slots := 0, locals := 0 } [.ref b] Λ I J (am_pure (.int (nI 1)) Λ I J) am_never := by
  refine am_ct_of (own := RJ5) rfl (by decide) (Nat.le_of_ble_eq_true rfl) (fun X C => ?_)
  change am_K G X { frames := 0, cells := 0, slots := 0, locals := 0 } 1 Λ I J 0 0 0 [(0, .ref b)] []
  refine k_scmp C f_J5_18 dJ5_isLatin1_aae02_0 ?_
  first
  | refine k_ifb_eq C (tgt := 17) (by decide) dJ5_isLatin1_aae02_3 (fun hc3 => ?_) (fun hc3 => ?_)
  | refine k_if_eq C (tgt := 17) (by decide) dJ5_isLatin1_aae02_3 (fun hc3 => ?_) (fun hc3 => ?_)
  · skip
    first
    | exact absurd hc3 (by decide)
    | exact absurd (by decide) hc3
  · skip
    refine k_aload_n C (f := 0) (i := 0) (p := 0) rfl rfl dJ5_isLatin1_aae02_6 ?_
    refine k_getI C f_J5_22 hsb.1 (fun _ _ _ => rfl) hsb.2.2.1 dJ5_isLatin1_aae02_7 ?_
    first
    | refine k_ifb_ne C (tgt := 17) (by decide) dJ5_isLatin1_aae02_10 (fun hc10 => ?_) (fun hc10 => ?_)
    | refine k_if_ne C (tgt := 17) (by decide) dJ5_isLatin1_aae02_10 (fun hc10 => ?_) (fun hc10 => ?_)
    · skip
      first
      | exact absurd hc10 (by decide)
      | exact absurd (by decide) hc10
    · skip
      refine k_iconst C ic_1 dJ5_isLatin1_aae02_13 ?_
      refine k_goto C (tgt := 18) (by decide) dJ5_isLatin1_aae02_14 ?_
      exact k_zret C (rfl) (by show _ ≤ 0; (try dsimp only); omega) (by show _ ≤ 0; (try dsimp only); omega) (⟨rfl, rfl, rfl, rfl⟩) dJ5_isLatin1_aae02_18
set_option maxHeartbeats 4000000 in
set_option maxRecDepth 100000 in
theorem ct_J1_canEncode_fc78d {G : am_G} {Λ : am_L} {I : am_I} {J : am_J} {c : Nat} (hc : c < 128) : am_Ct G yJ1_canEncode_fc78d cJ1_canEncode_fc78d 1 (some .boolean) { frames := 0, cells := 0, slots := 0, locals := 0 } [.int (nI c)] Λ I J (am_pure (.int (nI 1)) Λ I J) am_never := by
  refine am_ct_of (own := RJ1) rfl (by decide) (Nat.le_of_ble_eq_true rfl) (fun X C => ?_)
  change am_K G X { frames := 0, cells := 0, slots := 0, locals := 0 } 1 Λ I J 0 0 0 [(0, .int (nI c))] []
  refine k_iload_n C (f := 0) (i := 0) (p := 0) rfl rfl dJ1_canEncode_fc78d_0 ?_
  refine k_sipush C sc_255 dJ1_canEncode_fc78d_1 ?_
  first
  | refine k_icmpN_gt C (tgt := 11) (by omega) (by omega) (by decide) dJ1_canEncode_fc78d_4 (fun hc4 => ?_) (fun hc4 => ?_)
  | refine k_icmp_gt C (tgt := 11) (by decide) dJ1_canEncode_fc78d_4 (fun hc4 => ?_) (fun hc4 => ?_)
  · skip
    first
    | omega
    | exact absurd hc4 (nI_ge (by omega) (by omega))
    | exact absurd hc4 (by decide)
    | exact absurd hc4 (nI_pos (by omega))
    | exact absurd (nI_pos' (by omega)) hc4
    | exact absurd rfl hc4
    | exact absurd hc4 (nI_ne0 (by omega) (by omega))
    | exact hc4 rfl
    | contradiction
    | exact absurd hc4 (nI_n101 (by omega))
    | exact absurd hc4.symm (nI_n101 (by omega))
    | (simp_all; done)
  · skip
    refine k_iconst C ic_1 dJ1_canEncode_fc78d_7 ?_
    refine k_goto C (tgt := 12) (by decide) dJ1_canEncode_fc78d_8 ?_
    exact k_zret C (rfl) (by show _ ≤ 0; (try dsimp only); omega) (by show _ ≤ 0; (try dsimp only); omega) (⟨rfl, rfl, rfl, rfl⟩) dJ1_canEncode_fc78d_12
set_option maxHeartbeats 4000000 in
set_option maxRecDepth 100000 in
theorem ct_J5_append_3fe6f {G : am_G} {Λ : am_L} {I : am_I} {J : am_J} {b v cap n : Nat} {tx : Nat → Nat} {c : Nat} (hsb : SbAt Λ I b v cap n tx) (hc : c < 128) (hn9 : n + 1 ≤ 300) (hc7 : cap ≤ 700) : am_Ct G yJ5_append_3fe6f cJ5_append_3fe6f 2 (some (.object "java/lang/AbstractStringBuilder")) { frames := 4, cells := 1, slots := 700, locals := 260 } [.ref b, .int (nI c)] Λ I J (am_ap b v (n + 1) (sb_cat tx n (fun _ => c)) Λ I) am_never := by
  refine am_ct_of (own := RJ5) rfl (by decide) (Nat.le_of_ble_eq_true rfl) (fun X C => ?_)
  change am_K G X { frames := 4, cells := 1, slots := 700, locals := 260 } 2 Λ I J 0 0 0 [(0, .ref b), (1, .int (nI c))] []
  refine k_aload_n C (f := 0) (i := 0) (p := 0) rfl rfl dJ5_append_3fe6f_0 ?_
  refine k_aload_n C (f := 0) (i := 0) (p := 0) rfl rfl dJ5_append_3fe6f_1 ?_
  refine k_getI C f_J5_79 hsb.1 (fun _ _ _ => rfl) (hsb.2.2.2.1) dJ5_append_3fe6f_2 ?_
  refine k_iconst C ic_1 dJ5_append_3fe6f_5 ?_
  refine k_iadd C dJ5_append_3fe6f_6 ?_
  rw [nI_add]
  refine k_callUl C s_J5_100 h_J5_ensureCapacityInternal_d00df (hsb.1) rfl (ct_J5_ensureCapacityInternal_d00df (m := n + 1) hsb (by omega) hc7) rfl rfl (Nat.le_of_ble_eq_true rfl) ⟨Nat.le_of_ble_eq_true rfl, Nat.le_of_ble_eq_true rfl⟩ ⟨rfl, rfl⟩ ⟨by show _ ≤ 1; (try dsimp only); omega, by show _ ≤ 700; (try dsimp only); omega⟩ dJ5_append_3fe6f_7 ?_
  intro w0 Λ2 I2 J2 hv
  obtain ⟨rfl, hsk, hib, v2, cap2, hv2, hc2, hm2, hsb2⟩ := hv
  show am_K G X _ _ _ _ _ _ _ _ _ ([])
  refine k_aload_n C (f := 0) (i := 0) (p := 0) rfl rfl dJ5_append_3fe6f_10 ?_
  refine k_callUq C s_J5_83 h_J5_isLatin1_aae02 (hsb2.1) rfl (ct_J5_isLatin1_aae02 hsb2) rfl rfl (Nat.le_of_ble_eq_true rfl) ⟨Nat.le_of_ble_eq_true rfl, Nat.le_of_ble_eq_true rfl⟩ ⟨rfl, rfl⟩ ⟨by show _ ≤ 1; (try dsimp only); omega, by show _ ≤ 700; (try dsimp only); omega⟩ dJ5_append_3fe6f_11 ?_
  first
  | refine k_ifb_eq C (tgt := 45) (by decide) dJ5_append_3fe6f_14 (fun hc14 => ?_) (fun hc14 => ?_)
  | refine k_if_eq C (tgt := 45) (by decide) dJ5_append_3fe6f_14 (fun hc14 => ?_) (fun hc14 => ?_)
  · skip
    first
    | exact absurd hc14 (by decide)
    | exact absurd (by decide) hc14
  · skip
    refine k_iload_n C (f := 1) (i := 1) (p := 1) rfl rfl dJ5_append_3fe6f_17 ?_
    refine k_callSq C s_J5_191 h_J1_canEncode_fc78d (ct_J1_canEncode_fc78d hc) rfl rfl (Nat.le_of_ble_eq_true rfl) ⟨Nat.le_of_ble_eq_true rfl, Nat.le_of_ble_eq_true rfl⟩ ⟨rfl, rfl⟩ ⟨by show _ ≤ 1; (try dsimp only); omega, by show _ ≤ 700; (try dsimp only); omega⟩ dJ5_append_3fe6f_18 ?_
    first
    | refine k_ifb_eq C (tgt := 45) (by decide) dJ5_append_3fe6f_21 (fun hc21 => ?_) (fun hc21 => ?_)
    | refine k_if_eq C (tgt := 45) (by decide) dJ5_append_3fe6f_21 (fun hc21 => ?_) (fun hc21 => ?_)
    · skip
      first
      | exact absurd hc21 (by decide)
      | exact absurd (by decide) hc21
    · skip
      refine k_aload_n C (f := 0) (i := 0) (p := 0) rfl rfl dJ5_append_3fe6f_24 ?_
      refine k_getR C f_J5_15 hsb2.1 (fun _ _ _ => rfl) hsb2.2.1 dJ5_append_3fe6f_25 ?_
      refine k_aload_n C (f := 0) (i := 0) (p := 0) rfl rfl dJ5_append_3fe6f_28 ?_
      refine k_dup C rfl dJ5_append_3fe6f_29 ?_
      refine k_getI C f_J5_79 hsb2.1 (fun _ _ _ => rfl) (hsb2.2.2.2.1) dJ5_append_3fe6f_30 ?_
      refine k_dupx1 C rfl rfl dJ5_append_3fe6f_33 ?_
      refine k_iconst C ic_1 dJ5_append_3fe6f_34 ?_
      refine k_iadd C dJ5_append_3fe6f_35 ?_
      rw [nI_add]
      refine k_putI C f_J5_79 hsb2.1 rfl rfl dJ5_append_3fe6f_36 ?_
      refine k_iload_n C (f := 1) (i := 1) (p := 1) rfl rfl dJ5_append_3fe6f_39 ?_
      refine k_i2b C ((fit_nI c hc).2.1) dJ5_append_3fe6f_40 ?_
      refine k_bast C hsb2.2.2.2.2.2.1.1 rfl (by omega) (by omega) dJ5_append_3fe6f_41 ?_
      rw [(fit_nI c hc).2.2]
      refine k_goto C (tgt := 75) (by decide) dJ5_append_3fe6f_42 ?_
      refine k_aload_n C (f := 0) (i := 0) (p := 0) rfl rfl dJ5_append_3fe6f_75 ?_
      exact k_aret C (by first | exact Or.inl ⟨_, rfl⟩ | exact Or.inr ⟨_, rfl⟩) (by show _ ≤ 1; (try dsimp only); omega) (by show _ ≤ 700; (try dsimp only); omega) (ap_end (w := 1) (sx := fun _ => c) hsk hv2 hc2 hsb2 hm2 (fun a h1 h2 => (am_up_ne h2).trans (am_up_ne h1)) (funext fun j => by
        rw [am_up_ne (fun e => by have e1 := hsb2.1; rw [e, hsb2.2.2.2.2.2.1.1] at e1; cases e1)]; simp [am_up]) (fun j hj => by rw [am_up_n2 (fun z => by omega), am_up_ne (fun e => by have e1 := hsb2.2.2.2.2.2.1.1; rw [e, hsb2.1] at e1; cases e1)]) (fun i hi => ⟨hc, by obtain rfl : i = 0 := (by omega); rw [Nat.add_zero]; exact am_up_eq⟩)) dJ5_append_3fe6f_76
set_option maxHeartbeats 4000000 in
set_option maxRecDepth 100000 in
theorem ct_J4_append_cf468 {G : am_G} {Λ : am_L} {I : am_I} {J : am_J} {b v cap n : Nat} {tx : Nat → Nat} {c : Nat} (hsb : SbAt Λ I b v cap n tx) (hc : c < 128) (hn9 : n + 1 ≤ 300) (hc7 : cap ≤ 700) : am_Ct G yJ4_append_cf468 cJ4_append_cf468 2 (some (.object "java/lang/StringBuilder")) { frames := 5, cells := 1, slots := 700, locals := 340 } [.ref b, .int (nI c)] Λ I J (am_ap b v (n + 1) (sb_cat tx n (fun _ => c)) Λ I) am_never := by
  refine am_ct_of (own := RJ4) rfl (by decide) (Nat.le_of_ble_eq_true rfl) (fun X C => ?_)
  change am_K G X { frames := 5, cells := 1, slots := 700, locals := 340 } 2 Λ I J 0 0 0 [(0, .ref b), (1, .int (nI c))] []
  refine k_aload_n C (f := 0) (i := 0) (p := 0) rfl rfl dJ4_append_cf468_0 ?_
  refine k_iload_n C (f := 1) (i := 1) (p := 1) rfl rfl dJ4_append_cf468_1 ?_
  refine k_callPl C s_J4_50 h_J5_append_3fe6f (hsb.1) rfl (by decide) (ct_J5_append_3fe6f hsb hc hn9 hc7) rfl rfl (Nat.le_of_ble_eq_true rfl) ⟨Nat.le_of_ble_eq_true rfl, Nat.le_of_ble_eq_true rfl⟩ ⟨rfl, rfl⟩ ⟨by show _ ≤ 1; (try dsimp only); omega, by show _ ≤ 700; (try dsimp only); omega⟩ dJ4_append_cf468_2 ?_
  intro w0 Λ2 I2 J2 hv
  obtain ⟨rfl, hv⟩ := hv
  show am_K G X _ _ _ _ _ _ _ _ _ (.ref b :: [])
  refine k_pop C rfl dJ4_append_cf468_5 ?_
  refine k_aload_n C (f := 0) (i := 0) (p := 0) rfl rfl dJ4_append_cf468_6 ?_
  exact k_aret C (by first | exact Or.inl ⟨_, rfl⟩ | exact Or.inr ⟨_, rfl⟩) (by show _ ≤ 1; (try dsimp only); omega) (by show _ ≤ 700; (try dsimp only); omega) (⟨rfl, hv⟩) dJ4_append_cf468_7
