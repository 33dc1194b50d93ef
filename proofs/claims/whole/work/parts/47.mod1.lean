/-! ===== the model: its rows, its questions to a row ===== -/
def MRow (I : am_I) (s o : Nat) (r : Nat → Int32) : Prop := ∀ k : Nat, k < 220 → I s (o + k) = r k
theorem MR {I : am_I} {s k : Nat} {r : Nat → Int32} (h : MRow I s 0 r) (hk : k < 220) : I s k = r k := by
  have h1 := h k hk
  rw [Nat.zero_add] at h1
  exact h1
theorem MRx {I : am_I} {s k i : Nat} {r : Nat → Int32} (h : MRow I s 0 r) (e : k = i) (hi : i < 220) : I s k = r i := by
  subst e
  exact MR h hi
theorem MR_up {I : am_I} {s k i : Nat} {r : Nat → Int32} {x : Int32} (h : MRow I s 0 r) (e : k = i) : MRow (am_up I s k x) s 0 (upd r i x) := fun m hm => by
  subst e
  rw [Nat.zero_add]
  by_cases g : m = k
  · rw [g, am_up_eq, upd_eq]
  · rw [am_up_n2 (fun z => g z.2), upd_ne g, MR h hm]
theorem MR_ne {I I' : am_I} {s o : Nat} {r : Nat → Int32} (h : MRow I s o r) (e : I' s = I s) : MRow I' s o r := fun m hm => by rw [e]; exact h m hm
def RowB (r : Nat → Int32) : Prop := (r 6 = nI (sp_nc r) ∧ r 7 = nI (sp_nw r) ∧ r 8 = nI (sp_ns r) ∧ r 9 = nI (sp_nl r)) ∧ sp_nc r ≤ 10 ∧ sp_nw r ≤ 8 ∧ sp_ns r ≤ 6 ∧ sp_nl r ≤ 20
def RowD (r : Nat → Int32) : Prop := ∀ k : Nat, k < sp_nc r → r (17 + 8 * k) = if r (16 + 8 * k) < nI 3 then nI 0 else nI 1
theorem RowOk.B {r : Nat → Int32} (h : RowOk r) : RowB r := ⟨⟨h.1, h.2.1, h.2.2.1, h.2.2.2.1⟩, h.2.2.2.2.1.2⟩
theorem RowOk.D {r : Nat → Int32} (h : RowOk r) : RowD r := fun k hk => (h.2.2.2.2.2.2.2.2.2.1 k hk).2.2.2.2
theorem nI_mul (a b : Nat) : nI a * nI b = nI (a * b) := by
  have h : nI a = Int32.ofNat a ∧ nI b = Int32.ofNat b ∧ nI (a * b) = Int32.ofNat (a * b) := ⟨rfl, rfl, rfl⟩
  rw [h.1, h.2.1, h.2.2]
  exact (Int32.ofNat_mul a b).symm
theorem md_at (b m j f : Nat) : nI b + nI m * nI j + nI f = nI (b + m * j + f) := by rw [nI_mul, nI_add, nI_add]
theorem md_max {a b : Int32} : (if b < a then a else b) = sp_max a b := by
  unfold sp_max
  by_cases h : b < a
  · rw [if_pos h, if_neg (fun g => Int32.lt_asymm h g)]
  · rw [if_neg h]
    by_cases g : a < b
    · rw [if_pos g]
    · rw [if_neg g]
      exact Int32.le_antisymm (Int32.not_lt.mp g) (Int32.not_lt.mp h)
theorem md_min {a b : Int32} : (if a < b then a else b) = sp_min a b := by
  unfold sp_min
  by_cases h : a < b
  · rw [if_pos h, if_neg (fun g => Int32.lt_asymm h g)]
  · rw [if_neg h]
    by_cases g : b < a
    · rw [if_pos g]
    · rw [if_neg g]
      exact Int32.le_antisymm (Int32.not_lt.mp h) (Int32.not_lt.mp g)
theorem md_dead {r : Nat → Int32} (hD : RowD r) {j : Nat} (hj : j < sp_nc r) : r (17 + 8 * j) = 0 ↔ r (16 + 8 * j) < nI 3 := by
  rw [hD j hj]
  by_cases h : r (16 + 8 * j) < nI 3
  · simp only [h, if_true, iff_true]
    rfl
  · simp only [h, if_false, iff_false]
    decide
set_option maxHeartbeats 4000000 in
set_option maxRecDepth 100000 in
theorem ct_X6_camelAt {G : am_G} {Λ : am_L} {I : am_I} {J : am_J} {j f : Nat}  : am_Ct G yX6_camelAt cX6_camelAt 2 (some .int) { frames := 0, cells := 0, slots := 0, locals := 0 } [.int (nI j), .int (nI f)] Λ I J (am_pure (.int (nI (10 + 8 * j + f))) Λ I J) am_never := by
  refine am_ct_of (own := RX6) rfl (by decide) (Nat.le_of_ble_eq_true rfl) (fun X C => ?_)
  change am_K G X { frames := 0, cells := 0, slots := 0, locals := 0 } 2 Λ I J 0 0 0 [(0, .int (nI j)), (1, .int (nI f))] []
  refine k_bipush C bc_10 dX6_camelAt_0 ?_
  refine k_bipush C bc_8 dX6_camelAt_2 ?_
  refine k_iload_n C (f := 0) (i := 0) (p := 0) rfl rfl dX6_camelAt_4 ?_
  refine k_imul C dX6_camelAt_5 ?_
  refine k_iadd C dX6_camelAt_6 ?_
  refine k_iload_n C (f := 1) (i := 1) (p := 1) rfl rfl dX6_camelAt_7 ?_
  refine k_iadd C dX6_camelAt_8 ?_
  exact k_iret C (Nat.le_of_ble_eq_true rfl) (Nat.le_of_ble_eq_true rfl) (⟨congrArg (fun z => some (Value.int z)) (md_at 10 8 j f), rfl, rfl, rfl⟩) dX6_camelAt_9
set_option maxHeartbeats 4000000 in
set_option maxRecDepth 100000 in
theorem ct_X6_wellAt {G : am_G} {Λ : am_L} {I : am_I} {J : am_J} {j f : Nat}  : am_Ct G yX6_wellAt cX6_wellAt 2 (some .int) { frames := 0, cells := 0, slots := 0, locals := 0 } [.int (nI j), .int (nI f)] Λ I J (am_pure (.int (nI (90 + 4 * j + f))) Λ I J) am_never := by
  refine am_ct_of (own := RX6) rfl (by decide) (Nat.le_of_ble_eq_true rfl) (fun X C => ?_)
  change am_K G X { frames := 0, cells := 0, slots := 0, locals := 0 } 2 Λ I J 0 0 0 [(0, .int (nI j)), (1, .int (nI f))] []
  refine k_bipush C bc_90 dX6_wellAt_0 ?_
  refine k_iconst C ic_4 dX6_wellAt_2 ?_
  refine k_iload_n C (f := 0) (i := 0) (p := 0) rfl rfl dX6_wellAt_3 ?_
  refine k_imul C dX6_wellAt_4 ?_
  refine k_iadd C dX6_wellAt_5 ?_
  refine k_iload_n C (f := 1) (i := 1) (p := 1) rfl rfl dX6_wellAt_6 ?_
  refine k_iadd C dX6_wellAt_7 ?_
  exact k_iret C (Nat.le_of_ble_eq_true rfl) (Nat.le_of_ble_eq_true rfl) (⟨congrArg (fun z => some (Value.int z)) (md_at 90 4 j f), rfl, rfl, rfl⟩) dX6_wellAt_8
set_option maxHeartbeats 4000000 in
set_option maxRecDepth 100000 in
theorem ct_X6_stormAt {G : am_G} {Λ : am_L} {I : am_I} {J : am_J} {j f : Nat}  : am_Ct G yX6_stormAt cX6_stormAt 2 (some .int) { frames := 0, cells := 0, slots := 0, locals := 0 } [.int (nI j), .int (nI f)] Λ I J (am_pure (.int (nI (122 + 3 * j + f))) Λ I J) am_never := by
  refine am_ct_of (own := RX6) rfl (by decide) (Nat.le_of_ble_eq_true rfl) (fun X C => ?_)
  change am_K G X { frames := 0, cells := 0, slots := 0, locals := 0 } 2 Λ I J 0 0 0 [(0, .int (nI j)), (1, .int (nI f))] []
  refine k_bipush C bc_122 dX6_stormAt_0 ?_
  refine k_iconst C ic_3 dX6_stormAt_2 ?_
  refine k_iload_n C (f := 0) (i := 0) (p := 0) rfl rfl dX6_stormAt_3 ?_
  refine k_imul C dX6_stormAt_4 ?_
  refine k_iadd C dX6_stormAt_5 ?_
  refine k_iload_n C (f := 1) (i := 1) (p := 1) rfl rfl dX6_stormAt_6 ?_
  refine k_iadd C dX6_stormAt_7 ?_
  exact k_iret C (Nat.le_of_ble_eq_true rfl) (Nat.le_of_ble_eq_true rfl) (⟨congrArg (fun z => some (Value.int z)) (md_at 122 3 j f), rfl, rfl, rfl⟩) dX6_stormAt_8
set_option maxHeartbeats 4000000 in
set_option maxRecDepth 100000 in
theorem ct_X6_loadAt {G : am_G} {Λ : am_L} {I : am_I} {J : am_J} {j f : Nat}  : am_Ct G yX6_loadAt cX6_loadAt 2 (some .int) { frames := 0, cells := 0, slots := 0, locals := 0 } [.int (nI j), .int (nI f)] Λ I J (am_pure (.int (nI (140 + 4 * j + f))) Λ I J) am_never := by
  refine am_ct_of (own := RX6) rfl (by decide) (Nat.le_of_ble_eq_true rfl) (fun X C => ?_)
  change am_K G X { frames := 0, cells := 0, slots := 0, locals := 0 } 2 Λ I J 0 0 0 [(0, .int (nI j)), (1, .int (nI f))] []
  refine k_sipush C sc_140 dX6_loadAt_0 ?_
  refine k_iconst C ic_4 dX6_loadAt_3 ?_
  refine k_iload_n C (f := 0) (i := 0) (p := 0) rfl rfl dX6_loadAt_4 ?_
  refine k_imul C dX6_loadAt_5 ?_
  refine k_iadd C dX6_loadAt_6 ?_
  refine k_iload_n C (f := 1) (i := 1) (p := 1) rfl rfl dX6_loadAt_7 ?_
  refine k_iadd C dX6_loadAt_8 ?_
  exact k_iret C (Nat.le_of_ble_eq_true rfl) (Nat.le_of_ble_eq_true rfl) (⟨congrArg (fun z => some (Value.int z)) (md_at 140 4 j f), rfl, rfl, rfl⟩) dX6_loadAt_9
set_option maxHeartbeats 4000000 in
set_option maxRecDepth 100000 in
theorem ct_X6_in {G : am_G} {Λ : am_L} {I : am_I} {J : am_J} {x lo hi : Int32}  : am_Ct G yX6_in cX6_in 3 (some .boolean) { frames := 0, cells := 0, slots := 0, locals := 0 } [.int x, .int lo, .int hi] Λ I J (am_pure (.int (am_b (lo ≤ x ∧ x ≤ hi))) Λ I J) am_never := by
  refine am_ct_of (own := RX6) rfl (by decide) (Nat.le_of_ble_eq_true rfl) (fun X C => ?_)
  change am_K G X { frames := 0, cells := 0, slots := 0, locals := 0 } 3 Λ I J 0 0 0 [(0, .int x), (1, .int lo), (2, .int hi)] []
  refine k_iload_n C (f := 1) (i := 1) (p := 1) rfl rfl dX6_in_0 ?_
  refine k_iload_n C (f := 0) (i := 0) (p := 0) rfl rfl dX6_in_1 ?_
  refine k_icmp_gt C (tgt := 14) (by decide) dX6_in_2 (fun hc2 => ?_) (fun hc2 => ?_)
  · skip
    refine k_iconst C ic_0 dX6_in_14 ?_
    exact k_zret C (by first | rfl | exact am_bz) (Nat.le_of_ble_eq_true rfl) (Nat.le_of_ble_eq_true rfl) (⟨congrArg (fun z => some (Value.int z)) (am_bf (by first | exact ⟨Int32.not_lt.mp hc2, Int32.not_lt.mp hc7⟩ | (intro h; exact absurd h.1 (Int32.not_le.mpr hc2)) | (intro h; exact absurd h.2 (Int32.not_le.mpr hc7)))), rfl, rfl, rfl⟩) dX6_in_15
  · skip
    refine k_iload_n C (f := 0) (i := 0) (p := 0) rfl rfl dX6_in_5 ?_
    refine k_iload_n C (f := 2) (i := 2) (p := 2) rfl rfl dX6_in_6 ?_
    refine k_icmp_gt C (tgt := 14) (by decide) dX6_in_7 (fun hc7 => ?_) (fun hc7 => ?_)
    · skip
      refine k_iconst C ic_0 dX6_in_14 ?_
      exact k_zret C (by first | rfl | exact am_bz) (Nat.le_of_ble_eq_true rfl) (Nat.le_of_ble_eq_true rfl) (⟨congrArg (fun z => some (Value.int z)) (am_bf (by first | exact ⟨Int32.not_lt.mp hc2, Int32.not_lt.mp hc7⟩ | (intro h; exact absurd h.1 (Int32.not_le.mpr hc2)) | (intro h; exact absurd h.2 (Int32.not_le.mpr hc7)))), rfl, rfl, rfl⟩) dX6_in_15
    · skip
      refine k_iconst C ic_1 dX6_in_10 ?_
      refine k_goto C (tgt := 15) (by decide) dX6_in_11 ?_
      exact k_zret C (by first | rfl | exact am_bz) (Nat.le_of_ble_eq_true rfl) (Nat.le_of_ble_eq_true rfl) (⟨congrArg (fun z => some (Value.int z)) (am_bt (by first | exact ⟨Int32.not_lt.mp hc2, Int32.not_lt.mp hc7⟩ | (intro h; exact absurd h.1 (Int32.not_le.mpr hc2)) | (intro h; exact absurd h.2 (Int32.not_le.mpr hc7)))), rfl, rfl, rfl⟩) dX6_in_15
set_option maxHeartbeats 4000000 in
set_option maxRecDepth 100000 in
theorem ct_X6_less {G : am_G} {Λ : am_L} {I : am_I} {J : am_J} {a b : Int32}  : am_Ct G yX6_less cX6_less 2 (some .int) { frames := 0, cells := 0, slots := 0, locals := 0 } [.int a, .int b] Λ I J (am_pure (.int (sp_min a b)) Λ I J) am_never := by
  refine am_ct_of (own := RX6) rfl (by decide) (Nat.le_of_ble_eq_true rfl) (fun X C => ?_)
  change am_K G X { frames := 0, cells := 0, slots := 0, locals := 0 } 2 Λ I J 0 0 0 [(0, .int a), (1, .int b)] []
  refine k_iload_n C (f := 0) (i := 0) (p := 0) rfl rfl dX6_less_0 ?_
  refine k_iload_n C (f := 1) (i := 1) (p := 1) rfl rfl dX6_less_1 ?_
  refine k_icmp_ge C (tgt := 7) (by decide) dX6_less_2 (fun hc2 => ?_) (fun hc2 => ?_)
  · skip
    refine k_iload_n C (f := 1) (i := 1) (p := 1) rfl rfl dX6_less_7 ?_
    exact k_iret C (Nat.le_of_ble_eq_true rfl) (Nat.le_of_ble_eq_true rfl) (⟨by rw [← md_min]; first | (rw [if_pos hc2]; done) | (rw [if_neg (Int32.not_lt.mpr hc2)]; done) | (rw [if_pos (Int32.not_le.mp hc2)]; done) | (rw [if_neg hc2]; done), rfl, rfl, rfl⟩) dX6_less_8
  · skip
    refine k_iload_n C (f := 0) (i := 0) (p := 0) rfl rfl dX6_less_5 ?_
    exact k_iret C (Nat.le_of_ble_eq_true rfl) (Nat.le_of_ble_eq_true rfl) (⟨by rw [← md_min]; first | (rw [if_pos hc2]; done) | (rw [if_neg (Int32.not_lt.mpr hc2)]; done) | (rw [if_pos (Int32.not_le.mp hc2)]; done) | (rw [if_neg hc2]; done), rfl, rfl, rfl⟩) dX6_less_6
set_option maxHeartbeats 4000000 in
set_option maxRecDepth 100000 in
theorem ct_X6_more {G : am_G} {Λ : am_L} {I : am_I} {J : am_J} {a b : Int32}  : am_Ct G yX6_more cX6_more 2 (some .int) { frames := 0, cells := 0, slots := 0, locals := 0 } [.int a, .int b] Λ I J (am_pure (.int (sp_max a b)) Λ I J) am_never := by
  refine am_ct_of (own := RX6) rfl (by decide) (Nat.le_of_ble_eq_true rfl) (fun X C => ?_)
  change am_K G X { frames := 0, cells := 0, slots := 0, locals := 0 } 2 Λ I J 0 0 0 [(0, .int a), (1, .int b)] []
  refine k_iload_n C (f := 0) (i := 0) (p := 0) rfl rfl dX6_more_0 ?_
  refine k_iload_n C (f := 1) (i := 1) (p := 1) rfl rfl dX6_more_1 ?_
  refine k_icmp_le C (tgt := 7) (by decide) dX6_more_2 (fun hc2 => ?_) (fun hc2 => ?_)
  · skip
    refine k_iload_n C (f := 1) (i := 1) (p := 1) rfl rfl dX6_more_7 ?_
    exact k_iret C (Nat.le_of_ble_eq_true rfl) (Nat.le_of_ble_eq_true rfl) (⟨by rw [← md_max]; first | (rw [if_pos hc2]; done) | (rw [if_neg (Int32.not_lt.mpr hc2)]; done) | (rw [if_pos (Int32.not_le.mp hc2)]; done) | (rw [if_neg hc2]; done), rfl, rfl, rfl⟩) dX6_more_8
  · skip
    refine k_iload_n C (f := 0) (i := 0) (p := 0) rfl rfl dX6_more_5 ?_
    exact k_iret C (Nat.le_of_ble_eq_true rfl) (Nat.le_of_ble_eq_true rfl) (⟨by rw [← md_max]; first | (rw [if_pos hc2]; done) | (rw [if_neg (Int32.not_lt.mpr hc2)]; done) | (rw [if_pos (Int32.not_le.mp hc2)]; done) | (rw [if_neg hc2]; done), rfl, rfl, rfl⟩) dX6_more_6
set_option maxHeartbeats 4000000 in
set_option maxRecDepth 100000 in
theorem ct_X6_stormOf {G : am_G} {Λ : am_L} {I : am_I} {J : am_J} {s : Nat} {r : Nat → Int32} {d : Int32} (hs : Λ.1 s = (2, 220)) (hm : MRow I s 0 r) (hB : RowB r) : am_Ct G yX6_stormOf cX6_stormOf 4 (some .int) { frames := 1, cells := 0, slots := 0, locals := 22 } [.ref s, .int d] Λ I J (am_pure (.int (sp_storm r d)) Λ I J) am_never := by
  refine am_ct_of (own := RX6) rfl (by decide) (Nat.le_of_ble_eq_true rfl) (fun X C => ?_)
  change am_K G X { frames := 1, cells := 0, slots := 0, locals := 22 } 4 Λ I J 0 0 0 [(0, .ref s), (1, .int d)] []
  have hB9 := hB
  obtain ⟨⟨h6, h7, h8, h9⟩, hnc, hnw, hns, hnl⟩ := hB9
  refine k_iconst C ic_0 dX6_stormOf_0 ?_
  refine k_istore_n C (f := 2) (i := 2) (lv := [(2, _), (0, _), (1, _)]) rfl (Nat.le_of_ble_eq_true rfl) rfl dX6_stormOf_1 ?_
  refine k_iconst C ic_0 dX6_stormOf_2 ?_
  refine k_istore_n C (f := 3) (i := 3) (lv := [(3, _), (2, _), (0, _), (1, _)]) rfl (Nat.le_of_ble_eq_true rfl) rfl dX6_stormOf_3 ?_
  have loop4 : ∀ (f : Nat) (k : Nat) (acc : Int32), (k ≤ sp_ns r) → (acc = sp_stormTo r d k) → (sp_ns r - k) < f → am_K G X { frames := 1, cells := 0, slots := 0, locals := 22 } 4 Λ I J 0 0 4 [(0, .ref s), (1, .int d), (2, .int acc), (3, .int (nI k))] [] := by
    intro f
    induction f with
    | zero => intro k acc hk ha hf; exact absurd hf (Nat.not_lt_zero _)
    | succ f ih4 =>
      intro k acc hk ha hf
      refine k_iload_n C (f := 3) (i := 3) (p := 3) rfl rfl dX6_stormOf_4 ?_
      refine k_aload_n C (f := 0) (i := 0) (p := 0) rfl rfl dX6_stormOf_5 ?_
      refine k_bipush C bc_8 dX6_stormOf_6 ?_
      refine k_iald C (by assumption) (by first | rfl | assumption) (by omega) (by decide) ((MR hm (by decide)).trans h8) dX6_stormOf_8 ?_
      first
      | refine k_icmpN_ge C (tgt := 51) (by omega) (by omega) (by decide) dX6_stormOf_9 (fun hc9 => ?_) (fun hc9 => ?_)
      | refine k_icmp_ge C (tgt := 51) (by decide) dX6_stormOf_9 (fun hc9 => ?_) (fun hc9 => ?_)
      · skip
        refine k_iload_n C (f := 2) (i := 2) (p := 2) rfl rfl dX6_stormOf_51 ?_
        exact k_iret C (Nat.le_of_ble_eq_true rfl) (Nat.le_of_ble_eq_true rfl) (⟨by rw [ha, sp_storm, show k = sp_ns r by omega], rfl, rfl, rfl⟩) dX6_stormOf_52
      · skip
        refine k_iload_n C (f := 1) (i := 1) (p := 1) rfl rfl dX6_stormOf_12 ?_
        refine k_aload_n C (f := 0) (i := 0) (p := 0) rfl rfl dX6_stormOf_13 ?_
        refine k_iload_n C (f := 3) (i := 3) (p := 3) rfl rfl dX6_stormOf_14 ?_
        refine k_iconst C ic_0 dX6_stormOf_15 ?_
        refine k_callSp C s_X6_77 h_X6_stormAt (ct_X6_stormAt ) rfl rfl (Nat.le_of_ble_eq_true rfl) ⟨Nat.le_of_ble_eq_true rfl, Nat.le_of_ble_eq_true rfl⟩ ⟨Nat.le_of_ble_eq_true rfl, Nat.le_of_ble_eq_true rfl⟩ ⟨rfl, rfl⟩ dX6_stormOf_16 ?_
        refine k_iald C (by assumption) (by first | rfl | assumption) (by omega) (by decide) (MRx (i := 122 + 3 * k) hm (by omega) (by omega)) dX6_stormOf_19 ?_
        refine k_aload_n C (f := 0) (i := 0) (p := 0) rfl rfl dX6_stormOf_20 ?_
        refine k_iload_n C (f := 3) (i := 3) (p := 3) rfl rfl dX6_stormOf_21 ?_
        refine k_iconst C ic_1 dX6_stormOf_22 ?_
        refine k_callSp C s_X6_77 h_X6_stormAt (ct_X6_stormAt ) rfl rfl (Nat.le_of_ble_eq_true rfl) ⟨Nat.le_of_ble_eq_true rfl, Nat.le_of_ble_eq_true rfl⟩ ⟨Nat.le_of_ble_eq_true rfl, Nat.le_of_ble_eq_true rfl⟩ ⟨rfl, rfl⟩ dX6_stormOf_23 ?_
        refine k_iald C (by assumption) (by first | rfl | assumption) (by omega) (by decide) (MRx (i := 123 + 3 * k) hm (by omega) (by omega)) dX6_stormOf_26 ?_
        refine k_callSp C s_X6_67 h_X6_in (ct_X6_in ) rfl rfl (Nat.le_of_ble_eq_true rfl) ⟨Nat.le_of_ble_eq_true rfl, Nat.le_of_ble_eq_true rfl⟩ ⟨Nat.le_of_ble_eq_true rfl, Nat.le_of_ble_eq_true rfl⟩ ⟨rfl, rfl⟩ dX6_stormOf_27 ?_
        first
        | refine k_ifb_eq C (tgt := 45) (by decide) dX6_stormOf_30 (fun hc30 => ?_) (fun hc30 => ?_)
        | refine k_if_eq C (tgt := 45) (by decide) dX6_stormOf_30 (fun hc30 => ?_) (fun hc30 => ?_)
        · skip
          refine k_iinc C (i := 3) (p := 3) (lv := [(3, _), (0, _), (1, _), (2, _)]) (Nat.le_of_ble_eq_true rfl) rfl (by first | exact am_inc1 _ | rfl) rfl dX6_stormOf_45 ?_
          refine k_goto C (tgt := 4) (by decide) dX6_stormOf_48 ?_
          refine k_sub [1, 2, 3, 0] rfl ?_
          first
          | exact ih4 (k + 1) _ (by omega) (by rw [ha]; exact (sp_stormTo_t hc30).symm) (by omega)
          | exact ih4 (k + 1) _ (by omega) (by rw [ha]; exact (sp_stormTo_f hc30).symm) (by omega)
        · skip
          refine k_iload_n C (f := 2) (i := 2) (p := 2) rfl rfl dX6_stormOf_33 ?_
          refine k_aload_n C (f := 0) (i := 0) (p := 0) rfl rfl dX6_stormOf_34 ?_
          refine k_iload_n C (f := 3) (i := 3) (p := 3) rfl rfl dX6_stormOf_35 ?_
          refine k_iconst C ic_2 dX6_stormOf_36 ?_
          refine k_callSp C s_X6_77 h_X6_stormAt (ct_X6_stormAt ) rfl rfl (Nat.le_of_ble_eq_true rfl) ⟨Nat.le_of_ble_eq_true rfl, Nat.le_of_ble_eq_true rfl⟩ ⟨Nat.le_of_ble_eq_true rfl, Nat.le_of_ble_eq_true rfl⟩ ⟨rfl, rfl⟩ dX6_stormOf_37 ?_
          refine k_iald C (by assumption) (by first | rfl | assumption) (by omega) (by decide) (MRx (i := 124 + 3 * k) hm (by omega) (by omega)) dX6_stormOf_40 ?_
          refine k_callSp C s_X6_80 h_X6_more (ct_X6_more ) rfl rfl (Nat.le_of_ble_eq_true rfl) ⟨Nat.le_of_ble_eq_true rfl, Nat.le_of_ble_eq_true rfl⟩ ⟨Nat.le_of_ble_eq_true rfl, Nat.le_of_ble_eq_true rfl⟩ ⟨rfl, rfl⟩ dX6_stormOf_41 ?_
          refine k_istore_n C (f := 2) (i := 2) (lv := [(2, _), (0, _), (1, _), (3, _)]) rfl (Nat.le_of_ble_eq_true rfl) rfl dX6_stormOf_44 ?_
          refine k_iinc C (i := 3) (p := 3) (lv := [(3, _), (2, _), (0, _), (1, _)]) (Nat.le_of_ble_eq_true rfl) rfl (by first | exact am_inc1 _ | rfl) rfl dX6_stormOf_45 ?_
          refine k_goto C (tgt := 4) (by decide) dX6_stormOf_48 ?_
          refine k_sub [2, 3, 1, 0] rfl ?_
          first
          | exact ih4 (k + 1) _ (by omega) (by rw [ha]; exact (sp_stormTo_t hc30).symm) (by omega)
          | exact ih4 (k + 1) _ (by omega) (by rw [ha]; exact (sp_stormTo_f hc30).symm) (by omega)
  refine k_sub [2, 3, 1, 0] rfl ?_
  exact loop4 (sp_ns r + 1) 0 (nI 0) (Nat.zero_le _) rfl (by omega)
set_option maxHeartbeats 4000000 in
set_option maxRecDepth 100000 in
theorem ct_X6_wellOn {G : am_G} {Λ : am_L} {I : am_I} {J : am_J} {s : Nat} {r : Nat → Int32} {x : Int32} (hs : Λ.1 s = (2, 220)) (hm : MRow I s 0 r) (hB : RowB r) : am_Ct G yX6_wellOn cX6_wellOn 3 (some .int) { frames := 1, cells := 0, slots := 0, locals := 21 } [.ref s, .int x] Λ I J (am_pure (.int (sp_wellOn r x)) Λ I J) am_never := by
  refine am_ct_of (own := RX6) rfl (by decide) (Nat.le_of_ble_eq_true rfl) (fun X C => ?_)
  change am_K G X { frames := 1, cells := 0, slots := 0, locals := 21 } 3 Λ I J 0 0 0 [(0, .ref s), (1, .int x)] []
  have hB9 := hB
  obtain ⟨⟨h6, h7, h8, h9⟩, hnc, hnw, hns, hnl⟩ := hB9
  refine k_iconst C ic_0 dX6_wellOn_0 ?_
  refine k_istore_n C (f := 2) (i := 2) (lv := [(2, _), (0, _), (1, _)]) rfl (Nat.le_of_ble_eq_true rfl) rfl dX6_wellOn_1 ?_
  have loop2 : ∀ (f : Nat) (k : Nat), (k ≤ sp_nw r) → (sp_wellOn r x = sp_wellFrom r x k (sp_nw r - k)) → (sp_nw r - k) < f → am_K G X { frames := 1, cells := 0, slots := 0, locals := 21 } 3 Λ I J 0 0 2 [(0, .ref s), (1, .int x), (2, .int (nI k))] [] := by
    intro f
    induction f with
    | zero => intro k hk ha hf; exact absurd hf (Nat.not_lt_zero _)
    | succ f ih2 =>
      intro k hk ha hf
      refine k_iload_n C (f := 2) (i := 2) (p := 2) rfl rfl dX6_wellOn_2 ?_
      refine k_aload_n C (f := 0) (i := 0) (p := 0) rfl rfl dX6_wellOn_3 ?_
      refine k_bipush C bc_7 dX6_wellOn_4 ?_
      refine k_iald C (by assumption) (by first | rfl | assumption) (by omega) (by decide) ((MR hm (by decide)).trans h7) dX6_wellOn_6 ?_
      first
      | refine k_icmpN_ge C (tgt := 29) (by omega) (by omega) (by decide) dX6_wellOn_7 (fun hc7 => ?_) (fun hc7 => ?_)
      | refine k_icmp_ge C (tgt := 29) (by decide) dX6_wellOn_7 (fun hc7 => ?_) (fun hc7 => ?_)
      · skip
        refine k_iconst C ic_m1 dX6_wellOn_29 ?_
        exact k_iret C (Nat.le_of_ble_eq_true rfl) (Nat.le_of_ble_eq_true rfl) (⟨by rw [ha, show sp_nw r - k = 0 by omega]; rfl, rfl, rfl, rfl⟩) dX6_wellOn_30
      · skip
        refine k_aload_n C (f := 0) (i := 0) (p := 0) rfl rfl dX6_wellOn_10 ?_
        refine k_iload_n C (f := 2) (i := 2) (p := 2) rfl rfl dX6_wellOn_11 ?_
        refine k_iconst C ic_0 dX6_wellOn_12 ?_
        refine k_callSp C s_X6_74 h_X6_wellAt (ct_X6_wellAt ) rfl rfl (Nat.le_of_ble_eq_true rfl) ⟨Nat.le_of_ble_eq_true rfl, Nat.le_of_ble_eq_true rfl⟩ ⟨Nat.le_of_ble_eq_true rfl, Nat.le_of_ble_eq_true rfl⟩ ⟨rfl, rfl⟩ dX6_wellOn_13 ?_
        refine k_iald C (by assumption) (by first | rfl | assumption) (by omega) (by decide) (MRx (i := 90 + 4 * k) hm (by omega) (by omega)) dX6_wellOn_16 ?_
        refine k_iload_n C (f := 1) (i := 1) (p := 1) rfl rfl dX6_wellOn_17 ?_
        refine k_icmp_ne C (tgt := 23) (by decide) dX6_wellOn_18 (fun hc18 => ?_) (fun hc18 => ?_)
        · skip
          refine k_iinc C (i := 2) (p := 2) (lv := [(2, _), (0, _), (1, _)]) (Nat.le_of_ble_eq_true rfl) rfl (by first | exact am_inc1 _ | rfl) rfl dX6_wellOn_23 ?_
          refine k_goto C (tgt := 2) (by decide) dX6_wellOn_26 ?_
          refine k_sub [1, 2, 0] rfl ?_
          exact ih2 (k + 1) (by omega) (by rw [ha, show sp_nw r - k = (sp_nw r - (k + 1)) + 1 by omega]; exact sp_wellFrom_f hc18) (by omega)
        · skip
          refine k_iload_n C (f := 2) (i := 2) (p := 2) rfl rfl dX6_wellOn_21 ?_
          exact k_iret C (Nat.le_of_ble_eq_true rfl) (Nat.le_of_ble_eq_true rfl) (⟨by rw [ha, show sp_nw r - k = (sp_nw r - (k + 1)) + 1 by omega]; rw [sp_wellFrom_t hc18], rfl, rfl, rfl⟩) dX6_wellOn_22
  refine k_sub [1, 2, 0] rfl ?_
  exact loop2 (sp_nw r + 1) 0 (Nat.zero_le _) rfl (by omega)
set_option maxHeartbeats 4000000 in
set_option maxRecDepth 100000 in
theorem ct_X6_wellBehind {G : am_G} {Λ : am_L} {I : am_I} {J : am_J} {s : Nat} {r : Nat → Int32} {x : Int32} (hs : Λ.1 s = (2, 220)) (hm : MRow I s 0 r) (hB : RowB r) : am_Ct G yX6_wellBehind cX6_wellBehind 4 (some .int) { frames := 1, cells := 0, slots := 0, locals := 21 } [.ref s, .int x] Λ I J (am_pure (.int (sp_behind r x)) Λ I J) am_never := by
  refine am_ct_of (own := RX6) rfl (by decide) (Nat.le_of_ble_eq_true rfl) (fun X C => ?_)
  change am_K G X { frames := 1, cells := 0, slots := 0, locals := 21 } 4 Λ I J 0 0 0 [(0, .ref s), (1, .int x)] []
  have hB9 := hB
  obtain ⟨⟨h6, h7, h8, h9⟩, hnc, hnw, hns, hnl⟩ := hB9
  refine k_iconst C ic_m1 dX6_wellBehind_0 ?_
  refine k_istore_n C (f := 2) (i := 2) (lv := [(2, _), (0, _), (1, _)]) rfl (Nat.le_of_ble_eq_true rfl) rfl dX6_wellBehind_1 ?_
  refine k_iconst C ic_0 dX6_wellBehind_2 ?_
  refine k_istore_n C (f := 3) (i := 3) (lv := [(3, _), (2, _), (0, _), (1, _)]) rfl (Nat.le_of_ble_eq_true rfl) rfl dX6_wellBehind_3 ?_
  have loop4 : ∀ (f : Nat) (k : Nat) (acc : Int32), (k ≤ sp_nw r) → (acc = sp_behindTo r x k) → (sp_nw r - k) < f → am_K G X { frames := 1, cells := 0, slots := 0, locals := 21 } 4 Λ I J 0 0 4 [(0, .ref s), (1, .int x), (2, .int acc), (3, .int (nI k))] [] := by
    intro f
    induction f with
    | zero => intro k acc hk ha hf; exact absurd hf (Nat.not_lt_zero _)
    | succ f ih4 =>
      intro k acc hk ha hf
      refine k_iload_n C (f := 3) (i := 3) (p := 3) rfl rfl dX6_wellBehind_4 ?_
      refine k_aload_n C (f := 0) (i := 0) (p := 0) rfl rfl dX6_wellBehind_5 ?_
      refine k_bipush C bc_7 dX6_wellBehind_6 ?_
      refine k_iald C (by assumption) (by first | rfl | assumption) (by omega) (by decide) ((MR hm (by decide)).trans h7) dX6_wellBehind_8 ?_
      first
      | refine k_icmpN_ge C (tgt := 55) (by omega) (by omega) (by decide) dX6_wellBehind_9 (fun hc9 => ?_) (fun hc9 => ?_)
      | refine k_icmp_ge C (tgt := 55) (by decide) dX6_wellBehind_9 (fun hc9 => ?_) (fun hc9 => ?_)
      · skip
        refine k_iload_n C (f := 2) (i := 2) (p := 2) rfl rfl dX6_wellBehind_55 ?_
        exact k_iret C (Nat.le_of_ble_eq_true rfl) (Nat.le_of_ble_eq_true rfl) (⟨by rw [ha, sp_behind, show k = sp_nw r by omega], rfl, rfl, rfl⟩) dX6_wellBehind_56
      · skip
        refine k_aload_n C (f := 0) (i := 0) (p := 0) rfl rfl dX6_wellBehind_12 ?_
        refine k_iload_n C (f := 3) (i := 3) (p := 3) rfl rfl dX6_wellBehind_13 ?_
        refine k_iconst C ic_0 dX6_wellBehind_14 ?_
        refine k_callSp C s_X6_74 h_X6_wellAt (ct_X6_wellAt ) rfl rfl (Nat.le_of_ble_eq_true rfl) ⟨Nat.le_of_ble_eq_true rfl, Nat.le_of_ble_eq_true rfl⟩ ⟨Nat.le_of_ble_eq_true rfl, Nat.le_of_ble_eq_true rfl⟩ ⟨rfl, rfl⟩ dX6_wellBehind_15 ?_
        refine k_iald C (by assumption) (by first | rfl | assumption) (by omega) (by decide) (MRx (i := 90 + 4 * k) hm (by omega) (by omega)) dX6_wellBehind_18 ?_
        refine k_iload_n C (f := 1) (i := 1) (p := 1) rfl rfl dX6_wellBehind_19 ?_
        refine k_icmp_gt C (tgt := 26) (by decide) dX6_wellBehind_20 (fun hc20 => ?_) (fun hc20 => ?_)
        · skip
          refine k_iload_n C (f := 2) (i := 2) (p := 2) rfl rfl dX6_wellBehind_26 ?_
          refine k_if_lt C (tgt := 47) (by decide) dX6_wellBehind_27 (fun hc27 => ?_) (fun hc27 => ?_)
          · skip
            refine k_iload_n C (f := 3) (i := 3) (p := 3) rfl rfl dX6_wellBehind_47 ?_
            refine k_istore_n C (f := 2) (i := 2) (lv := [(2, _), (0, _), (1, _), (3, _)]) rfl (Nat.le_of_ble_eq_true rfl) rfl dX6_wellBehind_48 ?_
            refine k_iinc C (i := 3) (p := 3) (lv := [(3, _), (2, _), (0, _), (1, _)]) (Nat.le_of_ble_eq_true rfl) rfl (by first | exact am_inc1 _ | rfl) rfl dX6_wellBehind_49 ?_
            refine k_goto C (tgt := 4) (by decide) dX6_wellBehind_52 ?_
            refine k_sub [2, 3, 1, 0] rfl ?_
            first
            | exact ih4 (k + 1) _ (by omega) (by rw [ha]; exact (sp_behindTo_f (fun h => hc20 h.1)).symm) (by omega)
            | exact ih4 (k + 1) _ (by omega) (sp_behindTo_t ⟨hc20, Or.inl (by rw [← ha]; exact hc27)⟩).symm (by omega)
            | exact ih4 (k + 1) _ (by omega) (by rw [← hm9, ha]; exact (sp_behindTo_f (fun h => h.2.elim (fun z => absurd z (by rw [← ha]; exact hc27)) (fun z => absurd z (by rw [← ha, hm9, nI_clamp (by omega)]; exact Int32.not_lt.mpr hc44)))).symm) (by omega)
            | exact ih4 (k + 1) _ (by omega) (sp_behindTo_t ⟨hc20, Or.inr (by rw [← ha, hm9, nI_clamp (by omega)]; exact Int32.not_le.mp hc44)⟩).symm (by omega)
          · skip
            obtain ⟨m, hm9, hmk⟩ : ∃ m : Nat, acc = nI m ∧ m < k := by
              obtain ⟨m, hm9, hmk, -⟩ := (sp_behindTo_or r x k).resolve_left (fun e => hc27 (by rw [ha, e]; decide))
              exact ⟨m, ha.trans hm9, hmk⟩
            rw [hm9]
            refine k_aload_n C (f := 0) (i := 0) (p := 0) rfl rfl dX6_wellBehind_30 ?_
            refine k_iload_n C (f := 3) (i := 3) (p := 3) rfl rfl dX6_wellBehind_31 ?_
            refine k_iconst C ic_0 dX6_wellBehind_32 ?_
            refine k_callSp C s_X6_74 h_X6_wellAt (ct_X6_wellAt ) rfl rfl (Nat.le_of_ble_eq_true rfl) ⟨Nat.le_of_ble_eq_true rfl, Nat.le_of_ble_eq_true rfl⟩ ⟨Nat.le_of_ble_eq_true rfl, Nat.le_of_ble_eq_true rfl⟩ ⟨rfl, rfl⟩ dX6_wellBehind_33 ?_
            refine k_iald C (by assumption) (by first | rfl | assumption) (by omega) (by decide) (MRx (i := 90 + 4 * k) hm (by omega) (by omega)) dX6_wellBehind_36 ?_
            refine k_aload_n C (f := 0) (i := 0) (p := 0) rfl rfl dX6_wellBehind_37 ?_
            refine k_iload_n C (f := 2) (i := 2) (p := 2) rfl rfl dX6_wellBehind_38 ?_
            refine k_iconst C ic_0 dX6_wellBehind_39 ?_
            refine k_callSp C s_X6_74 h_X6_wellAt (ct_X6_wellAt ) rfl rfl (Nat.le_of_ble_eq_true rfl) ⟨Nat.le_of_ble_eq_true rfl, Nat.le_of_ble_eq_true rfl⟩ ⟨Nat.le_of_ble_eq_true rfl, Nat.le_of_ble_eq_true rfl⟩ ⟨rfl, rfl⟩ dX6_wellBehind_40 ?_
            refine k_iald C (by assumption) (by first | rfl | assumption) (by omega) (by decide) (MRx (i := 90 + 4 * m) hm (by omega) (by omega)) dX6_wellBehind_43 ?_
            refine k_icmp_ge C (tgt := 49) (by decide) dX6_wellBehind_44 (fun hc44 => ?_) (fun hc44 => ?_)
            · skip
              refine k_iinc C (i := 3) (p := 3) (lv := [(3, _), (0, _), (1, _), (2, _)]) (Nat.le_of_ble_eq_true rfl) rfl (by first | exact am_inc1 _ | rfl) rfl dX6_wellBehind_49 ?_
              refine k_goto C (tgt := 4) (by decide) dX6_wellBehind_52 ?_
              refine k_sub [1, 2, 3, 0] rfl ?_
              first
              | exact ih4 (k + 1) _ (by omega) (by rw [ha]; exact (sp_behindTo_f (fun h => hc20 h.1)).symm) (by omega)
              | exact ih4 (k + 1) _ (by omega) (sp_behindTo_t ⟨hc20, Or.inl (by rw [← ha]; exact hc27)⟩).symm (by omega)
              | exact ih4 (k + 1) _ (by omega) (by rw [← hm9, ha]; exact (sp_behindTo_f (fun h => h.2.elim (fun z => absurd z (by rw [← ha]; exact hc27)) (fun z => absurd z (by rw [← ha, hm9, nI_clamp (by omega)]; exact Int32.not_lt.mpr hc44)))).symm) (by omega)
              | exact ih4 (k + 1) _ (by omega) (sp_behindTo_t ⟨hc20, Or.inr (by rw [← ha, hm9, nI_clamp (by omega)]; exact Int32.not_le.mp hc44)⟩).symm (by omega)
            · skip
              refine k_iload_n C (f := 3) (i := 3) (p := 3) rfl rfl dX6_wellBehind_47 ?_
              refine k_istore_n C (f := 2) (i := 2) (lv := [(2, _), (0, _), (1, _), (3, _)]) rfl (Nat.le_of_ble_eq_true rfl) rfl dX6_wellBehind_48 ?_
              refine k_iinc C (i := 3) (p := 3) (lv := [(3, _), (2, _), (0, _), (1, _)]) (Nat.le_of_ble_eq_true rfl) rfl (by first | exact am_inc1 _ | rfl) rfl dX6_wellBehind_49 ?_
              refine k_goto C (tgt := 4) (by decide) dX6_wellBehind_52 ?_
              refine k_sub [2, 3, 1, 0] rfl ?_
              first
              | exact ih4 (k + 1) _ (by omega) (by rw [ha]; exact (sp_behindTo_f (fun h => hc20 h.1)).symm) (by omega)
              | exact ih4 (k + 1) _ (by omega) (sp_behindTo_t ⟨hc20, Or.inl (by rw [← ha]; exact hc27)⟩).symm (by omega)
              | exact ih4 (k + 1) _ (by omega) (by rw [← hm9, ha]; exact (sp_behindTo_f (fun h => h.2.elim (fun z => absurd z (by rw [← ha]; exact hc27)) (fun z => absurd z (by rw [← ha, hm9, nI_clamp (by omega)]; exact Int32.not_lt.mpr hc44)))).symm) (by omega)
              | exact ih4 (k + 1) _ (by omega) (sp_behindTo_t ⟨hc20, Or.inr (by rw [← ha, hm9, nI_clamp (by omega)]; exact Int32.not_le.mp hc44)⟩).symm (by omega)
        · skip
          refine k_goto C (tgt := 49) (by decide) dX6_wellBehind_23 ?_
          refine k_iinc C (i := 3) (p := 3) (lv := [(3, _), (0, _), (1, _), (2, _)]) (Nat.le_of_ble_eq_true rfl) rfl (by first | exact am_inc1 _ | rfl) rfl dX6_wellBehind_49 ?_
          refine k_goto C (tgt := 4) (by decide) dX6_wellBehind_52 ?_
          refine k_sub [1, 2, 3, 0] rfl ?_
          first
          | exact ih4 (k + 1) _ (by omega) (by rw [ha]; exact (sp_behindTo_f (fun h => hc20 h.1)).symm) (by omega)
          | exact ih4 (k + 1) _ (by omega) (sp_behindTo_t ⟨hc20, Or.inl (by rw [← ha]; exact hc27)⟩).symm (by omega)
          | exact ih4 (k + 1) _ (by omega) (by rw [← hm9, ha]; exact (sp_behindTo_f (fun h => h.2.elim (fun z => absurd z (by rw [← ha]; exact hc27)) (fun z => absurd z (by rw [← ha, hm9, nI_clamp (by omega)]; exact Int32.not_lt.mpr hc44)))).symm) (by omega)
          | exact ih4 (k + 1) _ (by omega) (sp_behindTo_t ⟨hc20, Or.inr (by rw [← ha, hm9, nI_clamp (by omega)]; exact Int32.not_le.mp hc44)⟩).symm (by omega)
  refine k_sub [2, 3, 1, 0] rfl ?_
  exact loop4 (sp_nw r + 1) 0 (-1) (Nat.zero_le _) rfl (by omega)
set_option maxHeartbeats 4000000 in
set_option maxRecDepth 100000 in
theorem ct_X6_lives {G : am_G} {Λ : am_L} {I : am_I} {J : am_J} {s : Nat} {r : Nat → Int32} {j : Nat} (hs : Λ.1 s = (2, 220)) (hm : MRow I s 0 r) (hB : RowB r) (hD : RowD r) (hj : j < sp_nc r) : am_Ct G yX6_lives cX6_lives 2 (some .boolean) { frames := 1, cells := 0, slots := 0, locals := 21 } [.ref s, .int (nI j)] Λ I J (am_pure (.int (am_b (r (16 + 8 * j) < nI 3))) Λ I J) am_never := by
  refine am_ct_of (own := RX6) rfl (by decide) (Nat.le_of_ble_eq_true rfl) (fun X C => ?_)
  change am_K G X { frames := 1, cells := 0, slots := 0, locals := 21 } 2 Λ I J 0 0 0 [(0, .ref s), (1, .int (nI j))] []
  have hB9 := hB
  obtain ⟨⟨h6, h7, h8, h9⟩, hnc, hnw, hns, hnl⟩ := hB9
  refine k_aload_n C (f := 0) (i := 0) (p := 0) rfl rfl dX6_lives_0 ?_
  refine k_iload_n C (f := 1) (i := 1) (p := 1) rfl rfl dX6_lives_1 ?_
  refine k_bipush C bc_7 dX6_lives_2 ?_
  refine k_callSp C s_X6_71 h_X6_camelAt (ct_X6_camelAt ) rfl rfl (Nat.le_of_ble_eq_true rfl) ⟨Nat.le_of_ble_eq_true rfl, Nat.le_of_ble_eq_true rfl⟩ ⟨Nat.le_of_ble_eq_true rfl, Nat.le_of_ble_eq_true rfl⟩ ⟨rfl, rfl⟩ dX6_lives_4 ?_
  refine k_iald C (by assumption) (by first | rfl | assumption) (by omega) (by decide) (MRx (i := 17 + 8 * j) hm (by omega) (by omega)) dX6_lives_7 ?_
  refine k_if_ne C (tgt := 15) (by decide) dX6_lives_8 (fun hc8 => ?_) (fun hc8 => ?_)
  · skip
    refine k_iconst C ic_0 dX6_lives_15 ?_
    exact k_zret C (by first | rfl | exact am_bz) (Nat.le_of_ble_eq_true rfl) (Nat.le_of_ble_eq_true rfl) (⟨congrArg (fun z => some (Value.int z)) (am_bf (by first | exact (md_dead hD hj).mp hc8 | exact fun h => hc8 ((md_dead hD hj).mpr h))), rfl, rfl, rfl⟩) dX6_lives_16
  · skip
    refine k_iconst C ic_1 dX6_lives_11 ?_
    refine k_goto C (tgt := 16) (by decide) dX6_lives_12 ?_
    exact k_zret C (by first | rfl | exact am_bz) (Nat.le_of_ble_eq_true rfl) (Nat.le_of_ble_eq_true rfl) (⟨congrArg (fun z => some (Value.int z)) (am_bt (by first | exact (md_dead hD hj).mp hc8 | exact fun h => hc8 ((md_dead hD hj).mpr h))), rfl, rfl, rfl⟩) dX6_lives_16
set_option maxHeartbeats 4000000 in
set_option maxRecDepth 100000 in
theorem ct_X6_livingOf {G : am_G} {Λ : am_L} {I : am_I} {J : am_J} {s : Nat} {r : Nat → Int32}  (hs : Λ.1 s = (2, 220)) (hm : MRow I s 0 r) (hB : RowB r) (hD : RowD r) : am_Ct G yX6_livingOf cX6_livingOf 3 (some .int) { frames := 2, cells := 0, slots := 0, locals := 42 } [.ref s] Λ I J (am_pure (.int (nI (sp_living r))) Λ I J) am_never := by
  refine am_ct_of (own := RX6) rfl (by decide) (Nat.le_of_ble_eq_true rfl) (fun X C => ?_)
  change am_K G X { frames := 2, cells := 0, slots := 0, locals := 42 } 3 Λ I J 0 0 0 [(0, .ref s)] []
  have hB9 := hB
  obtain ⟨⟨h6, h7, h8, h9⟩, hnc, hnw, hns, hnl⟩ := hB9
  refine k_iconst C ic_0 dX6_livingOf_0 ?_
  refine k_istore_n C (f := 1) (i := 1) (lv := [(1, _), (0, _)]) rfl (Nat.le_of_ble_eq_true rfl) rfl dX6_livingOf_1 ?_
  refine k_iconst C ic_0 dX6_livingOf_2 ?_
  refine k_istore_n C (f := 2) (i := 2) (lv := [(2, _), (1, _), (0, _)]) rfl (Nat.le_of_ble_eq_true rfl) rfl dX6_livingOf_3 ?_
  have loop4 : ∀ (f : Nat) (k : Nat) (acc : Nat), (k ≤ sp_nc r) → (acc = sp_livingTo r k) → (sp_nc r - k) < f → am_K G X { frames := 2, cells := 0, slots := 0, locals := 42 } 3 Λ I J 0 0 4 [(0, .ref s), (1, .int (nI acc)), (2, .int (nI k))] [] := by
    intro f
    induction f with
    | zero => intro k acc hk ha hf; exact absurd hf (Nat.not_lt_zero _)
    | succ f ih4 =>
      intro k acc hk ha hf
      refine k_iload_n C (f := 2) (i := 2) (p := 2) rfl rfl dX6_livingOf_4 ?_
      refine k_aload_n C (f := 0) (i := 0) (p := 0) rfl rfl dX6_livingOf_5 ?_
      refine k_bipush C bc_6 dX6_livingOf_6 ?_
      refine k_iald C (by assumption) (by first | rfl | assumption) (by omega) (by decide) ((MR hm (by decide)).trans h6) dX6_livingOf_8 ?_
      first
      | refine k_icmpN_ge C (tgt := 29) (by omega) (by omega) (by decide) dX6_livingOf_9 (fun hc9 => ?_) (fun hc9 => ?_)
      | refine k_icmp_ge C (tgt := 29) (by decide) dX6_livingOf_9 (fun hc9 => ?_) (fun hc9 => ?_)
      · skip
        refine k_iload_n C (f := 1) (i := 1) (p := 1) rfl rfl dX6_livingOf_29 ?_
        exact k_iret C (Nat.le_of_ble_eq_true rfl) (Nat.le_of_ble_eq_true rfl) (⟨by rw [ha, sp_living, show k = sp_nc r by omega], rfl, rfl, rfl⟩) dX6_livingOf_30
      · skip
        refine k_aload_n C (f := 0) (i := 0) (p := 0) rfl rfl dX6_livingOf_12 ?_
        refine k_iload_n C (f := 2) (i := 2) (p := 2) rfl rfl dX6_livingOf_13 ?_
        refine k_callSp C s_X6_83 h_X6_lives (ct_X6_lives (by first | assumption | omega) (by first | assumption | omega) (by first | assumption | omega) (by first | assumption | omega) (by first | assumption | omega)) rfl rfl (Nat.le_of_ble_eq_true rfl) ⟨Nat.le_of_ble_eq_true rfl, Nat.le_of_ble_eq_true rfl⟩ ⟨Nat.le_of_ble_eq_true rfl, Nat.le_of_ble_eq_true rfl⟩ ⟨rfl, rfl⟩ dX6_livingOf_14 ?_
        first
        | refine k_ifb_eq C (tgt := 23) (by decide) dX6_livingOf_17 (fun hc17 => ?_) (fun hc17 => ?_)
        | refine k_if_eq C (tgt := 23) (by decide) dX6_livingOf_17 (fun hc17 => ?_) (fun hc17 => ?_)
        · skip
          refine k_iinc C (i := 2) (p := 2) (lv := [(2, _), (0, _), (1, _)]) (Nat.le_of_ble_eq_true rfl) rfl (by first | exact am_inc1 _ | rfl) rfl dX6_livingOf_23 ?_
          refine k_goto C (tgt := 4) (by decide) dX6_livingOf_26 ?_
          refine k_sub [1, 2, 0] rfl ?_
          first
          | exact ih4 (k + 1) (acc + 1) (by omega) (by rw [ha]; exact (sp_livingTo_t hc17).symm) (by omega)
          | exact ih4 (k + 1) acc (by omega) (by rw [ha]; exact (sp_livingTo_f hc17).symm) (by omega)
        · skip
          refine k_iinc C (i := 1) (p := 1) (lv := [(1, _), (0, _), (2, _)]) (Nat.le_of_ble_eq_true rfl) rfl (by first | exact am_inc1 _ | rfl) rfl dX6_livingOf_20 ?_
          refine k_iinc C (i := 2) (p := 2) (lv := [(2, _), (1, _), (0, _)]) (Nat.le_of_ble_eq_true rfl) rfl (by first | exact am_inc1 _ | rfl) rfl dX6_livingOf_23 ?_
          refine k_goto C (tgt := 4) (by decide) dX6_livingOf_26 ?_
          refine k_sub [2, 1, 0] rfl ?_
          first
          | exact ih4 (k + 1) (acc + 1) (by omega) (by rw [ha]; exact (sp_livingTo_t hc17).symm) (by omega)
          | exact ih4 (k + 1) acc (by omega) (by rw [ha]; exact (sp_livingTo_f hc17).symm) (by omega)
  refine k_sub [2, 1, 0] rfl ?_
  exact loop4 (sp_nc r + 1) 0 0 (Nat.zero_le _) rfl (by omega)
set_option maxHeartbeats 4000000 in
set_option maxRecDepth 100000 in
theorem ct_X6_carriedBy {G : am_G} {Λ : am_L} {I : am_I} {J : am_J} {s : Nat} {r : Nat → Int32} {c : Int32} (hs : Λ.1 s = (2, 220)) (hm : MRow I s 0 r) (hB : RowB r) : am_Ct G yX6_carriedBy cX6_carriedBy 4 (some .int) { frames := 1, cells := 0, slots := 0, locals := 21 } [.ref s, .int c] Λ I J (am_pure (.int (sp_carTo r c (sp_nl r))) Λ I J) am_never := by
  refine am_ct_of (own := RX6) rfl (by decide) (Nat.le_of_ble_eq_true rfl) (fun X C => ?_)
  change am_K G X { frames := 1, cells := 0, slots := 0, locals := 21 } 4 Λ I J 0 0 0 [(0, .ref s), (1, .int c)] []
  have hB9 := hB
  obtain ⟨⟨h6, h7, h8, h9⟩, hnc, hnw, hns, hnl⟩ := hB9
  refine k_iconst C ic_0 dX6_carriedBy_0 ?_
  refine k_istore_n C (f := 2) (i := 2) (lv := [(2, _), (0, _), (1, _)]) rfl (Nat.le_of_ble_eq_true rfl) rfl dX6_carriedBy_1 ?_
  refine k_iconst C ic_0 dX6_carriedBy_2 ?_
  refine k_istore_n C (f := 3) (i := 3) (lv := [(3, _), (2, _), (0, _), (1, _)]) rfl (Nat.le_of_ble_eq_true rfl) rfl dX6_carriedBy_3 ?_
  have loop4 : ∀ (f : Nat) (k : Nat) (acc : Int32), (k ≤ sp_nl r) → (acc = sp_carTo r c k) → (sp_nl r - k) < f → am_K G X { frames := 1, cells := 0, slots := 0, locals := 21 } 4 Λ I J 0 0 4 [(0, .ref s), (1, .int c), (2, .int acc), (3, .int (nI k))] [] := by
    intro f
    induction f with
    | zero => intro k acc hk ha hf; exact absurd hf (Nat.not_lt_zero _)
    | succ f ih4 =>
      intro k acc hk ha hf
      refine k_iload_n C (f := 3) (i := 3) (p := 3) rfl rfl dX6_carriedBy_4 ?_
      refine k_aload_n C (f := 0) (i := 0) (p := 0) rfl rfl dX6_carriedBy_5 ?_
      refine k_bipush C bc_9 dX6_carriedBy_6 ?_
      refine k_iald C (by assumption) (by first | rfl | assumption) (by omega) (by decide) ((MR hm (by decide)).trans h9) dX6_carriedBy_8 ?_
      first
      | refine k_icmpN_ge C (tgt := 39) (by omega) (by omega) (by decide) dX6_carriedBy_9 (fun hc9 => ?_) (fun hc9 => ?_)
      | refine k_icmp_ge C (tgt := 39) (by decide) dX6_carriedBy_9 (fun hc9 => ?_) (fun hc9 => ?_)
      · skip
        refine k_iload_n C (f := 2) (i := 2) (p := 2) rfl rfl dX6_carriedBy_39 ?_
        exact k_iret C (Nat.le_of_ble_eq_true rfl) (Nat.le_of_ble_eq_true rfl) (⟨by rw [ha, show k = sp_nl r by omega], rfl, rfl, rfl⟩) dX6_carriedBy_40
      · skip
        refine k_aload_n C (f := 0) (i := 0) (p := 0) rfl rfl dX6_carriedBy_12 ?_
        refine k_iload_n C (f := 3) (i := 3) (p := 3) rfl rfl dX6_carriedBy_13 ?_
        refine k_iconst C ic_2 dX6_carriedBy_14 ?_
        refine k_callSp C s_X6_56 h_X6_loadAt (ct_X6_loadAt ) rfl rfl (Nat.le_of_ble_eq_true rfl) ⟨Nat.le_of_ble_eq_true rfl, Nat.le_of_ble_eq_true rfl⟩ ⟨Nat.le_of_ble_eq_true rfl, Nat.le_of_ble_eq_true rfl⟩ ⟨rfl, rfl⟩ dX6_carriedBy_15 ?_
        refine k_iald C (by assumption) (by first | rfl | assumption) (by omega) (by decide) (MRx (i := 142 + 4 * k) hm (by omega) (by omega)) dX6_carriedBy_18 ?_
        refine k_iload_n C (f := 1) (i := 1) (p := 1) rfl rfl dX6_carriedBy_19 ?_
        refine k_icmp_ne C (tgt := 33) (by decide) dX6_carriedBy_20 (fun hc20 => ?_) (fun hc20 => ?_)
        · skip
          refine k_iinc C (i := 3) (p := 3) (lv := [(3, _), (0, _), (1, _), (2, _)]) (Nat.le_of_ble_eq_true rfl) rfl (by first | exact am_inc1 _ | rfl) rfl dX6_carriedBy_33 ?_
          refine k_goto C (tgt := 4) (by decide) dX6_carriedBy_36 ?_
          refine k_sub [1, 2, 3, 0] rfl ?_
          first
          | exact ih4 (k + 1) _ (by omega) (by rw [ha]; exact (sp_carTo_t hc20).symm) (by omega)
          | exact ih4 (k + 1) _ (by omega) (by rw [ha]; exact (sp_carTo_f hc20).symm) (by omega)
        · skip
          refine k_iload_n C (f := 2) (i := 2) (p := 2) rfl rfl dX6_carriedBy_23 ?_
          refine k_aload_n C (f := 0) (i := 0) (p := 0) rfl rfl dX6_carriedBy_24 ?_
          refine k_iload_n C (f := 3) (i := 3) (p := 3) rfl rfl dX6_carriedBy_25 ?_
          refine k_iconst C ic_0 dX6_carriedBy_26 ?_
          refine k_callSp C s_X6_56 h_X6_loadAt (ct_X6_loadAt ) rfl rfl (Nat.le_of_ble_eq_true rfl) ⟨Nat.le_of_ble_eq_true rfl, Nat.le_of_ble_eq_true rfl⟩ ⟨Nat.le_of_ble_eq_true rfl, Nat.le_of_ble_eq_true rfl⟩ ⟨rfl, rfl⟩ dX6_carriedBy_27 ?_
          refine k_iald C (by assumption) (by first | rfl | assumption) (by omega) (by decide) (MRx (i := 140 + 4 * k) hm (by omega) (by omega)) dX6_carriedBy_30 ?_
          refine k_iadd C dX6_carriedBy_31 ?_
          refine k_istore_n C (f := 2) (i := 2) (lv := [(2, _), (0, _), (1, _), (3, _)]) rfl (Nat.le_of_ble_eq_true rfl) rfl dX6_carriedBy_32 ?_
          refine k_iinc C (i := 3) (p := 3) (lv := [(3, _), (2, _), (0, _), (1, _)]) (Nat.le_of_ble_eq_true rfl) rfl (by first | exact am_inc1 _ | rfl) rfl dX6_carriedBy_33 ?_
          refine k_goto C (tgt := 4) (by decide) dX6_carriedBy_36 ?_
          refine k_sub [2, 3, 1, 0] rfl ?_
          first
          | exact ih4 (k + 1) _ (by omega) (by rw [ha]; exact (sp_carTo_t hc20).symm) (by omega)
          | exact ih4 (k + 1) _ (by omega) (by rw [ha]; exact (sp_carTo_f hc20).symm) (by omega)
  refine k_sub [2, 3, 1, 0] rfl ?_
  exact loop4 (sp_nl r + 1) 0 (nI 0) (Nat.zero_le _) rfl (by omega)
set_option maxHeartbeats 4000000 in
set_option maxRecDepth 100000 in
theorem ct_X6_freeOf {G : am_G} {Λ : am_L} {I : am_I} {J : am_J} {s : Nat} {r : Nat → Int32} {j : Nat} (hs : Λ.1 s = (2, 220)) (hm : MRow I s 0 r) (hB : RowB r) (hj : j < 10) : am_Ct G yX6_freeOf cX6_freeOf 2 (some .int) { frames := 2, cells := 0, slots := 0, locals := 44 } [.ref s, .int (nI j)] Λ I J (am_pure (.int (sp_free r j)) Λ I J) am_never := by
  refine am_ct_of (own := RX6) rfl (by decide) (Nat.le_of_ble_eq_true rfl) (fun X C => ?_)
  change am_K G X { frames := 2, cells := 0, slots := 0, locals := 44 } 2 Λ I J 0 0 0 [(0, .ref s), (1, .int (nI j))] []
  have hB9 := hB
  obtain ⟨⟨h6, h7, h8, h9⟩, hnc, hnw, hns, hnl⟩ := hB9
  refine k_bipush C bc_20 dX6_freeOf_0 ?_
  refine k_aload_n C (f := 0) (i := 0) (p := 0) rfl rfl dX6_freeOf_2 ?_
  refine k_iload_n C (f := 1) (i := 1) (p := 1) rfl rfl dX6_freeOf_3 ?_
  refine k_iconst C ic_1 dX6_freeOf_4 ?_
  refine k_callSp C s_X6_71 h_X6_camelAt (ct_X6_camelAt ) rfl rfl (Nat.le_of_ble_eq_true rfl) ⟨Nat.le_of_ble_eq_true rfl, Nat.le_of_ble_eq_true rfl⟩ ⟨Nat.le_of_ble_eq_true rfl, Nat.le_of_ble_eq_true rfl⟩ ⟨rfl, rfl⟩ dX6_freeOf_5 ?_
  refine k_iald C (by assumption) (by first | rfl | assumption) (by omega) (by decide) (MRx (i := 11 + 8 * j) hm (by omega) (by omega)) dX6_freeOf_8 ?_
  refine k_imul C dX6_freeOf_9 ?_
  refine k_aload_n C (f := 0) (i := 0) (p := 0) rfl rfl dX6_freeOf_10 ?_
  refine k_iload_n C (f := 1) (i := 1) (p := 1) rfl rfl dX6_freeOf_11 ?_
  refine k_callSp C s_X6_87 h_X6_carriedBy (ct_X6_carriedBy (by first | assumption | omega) (by first | assumption | omega) (by first | assumption | omega)) rfl rfl (Nat.le_of_ble_eq_true rfl) ⟨Nat.le_of_ble_eq_true rfl, Nat.le_of_ble_eq_true rfl⟩ ⟨Nat.le_of_ble_eq_true rfl, Nat.le_of_ble_eq_true rfl⟩ ⟨rfl, rfl⟩ dX6_freeOf_12 ?_
  refine k_isub C dX6_freeOf_15 ?_
  exact k_iret C (Nat.le_of_ble_eq_true rfl) (Nat.le_of_ble_eq_true rfl) (⟨by rw [Int32.mul_comm]; rfl, rfl, rfl, rfl⟩) dX6_freeOf_16
set_option maxHeartbeats 4000000 in
set_option maxRecDepth 100000 in
theorem ct_X6_speedOf {G : am_G} {Λ : am_L} {I : am_I} {J : am_J} {s : Nat} {r : Nat → Int32} {j : Nat} (hs : Λ.1 s = (2, 220)) (hm : MRow I s 0 r) (hB : RowB r) (hj : j < sp_nc r) : am_Ct G yX6_speedOf cX6_speedOf 3 (some .int) { frames := 2, cells := 0, slots := 0, locals := 44 } [.ref s, .int (nI j)] Λ I J (am_pure (.int (sp_speed r j)) Λ I J) am_never := by
  refine am_ct_of (own := RX6) rfl (by decide) (Nat.le_of_ble_eq_true rfl) (fun X C => ?_)
  change am_K G X { frames := 2, cells := 0, slots := 0, locals := 44 } 3 Λ I J 0 0 0 [(0, .ref s), (1, .int (nI j))] []
  have hB9 := hB
  obtain ⟨⟨h6, h7, h8, h9⟩, hnc, hnw, hns, hnl⟩ := hB9
  refine k_aload_n C (f := 0) (i := 0) (p := 0) rfl rfl dX6_speedOf_0 ?_
  refine k_iload_n C (f := 1) (i := 1) (p := 1) rfl rfl dX6_speedOf_1 ?_
  refine k_iconst C ic_0 dX6_speedOf_2 ?_
  refine k_callSp C s_X6_71 h_X6_camelAt (ct_X6_camelAt ) rfl rfl (Nat.le_of_ble_eq_true rfl) ⟨Nat.le_of_ble_eq_true rfl, Nat.le_of_ble_eq_true rfl⟩ ⟨Nat.le_of_ble_eq_true rfl, Nat.le_of_ble_eq_true rfl⟩ ⟨rfl, rfl⟩ dX6_speedOf_3 ?_
  refine k_iald C (by assumption) (by first | rfl | assumption) (by omega) (by decide) (MRx (i := 10 + 8 * j) hm (by omega) (by omega)) dX6_speedOf_6 ?_
  refine k_istore_n C (f := 2) (i := 2) (lv := [(2, _), (0, _), (1, _)]) rfl (Nat.le_of_ble_eq_true rfl) rfl dX6_speedOf_7 ?_
  refine k_aload_n C (f := 0) (i := 0) (p := 1) rfl rfl dX6_speedOf_8 ?_
  refine k_iload_n C (f := 1) (i := 1) (p := 2) rfl rfl dX6_speedOf_9 ?_
  refine k_iconst C ic_5 dX6_speedOf_10 ?_
  refine k_callSp C s_X6_71 h_X6_camelAt (ct_X6_camelAt ) rfl rfl (Nat.le_of_ble_eq_true rfl) ⟨Nat.le_of_ble_eq_true rfl, Nat.le_of_ble_eq_true rfl⟩ ⟨Nat.le_of_ble_eq_true rfl, Nat.le_of_ble_eq_true rfl⟩ ⟨rfl, rfl⟩ dX6_speedOf_11 ?_
  refine k_iald C (by assumption) (by first | rfl | assumption) (by omega) (by decide) (MRx (i := 15 + 8 * j) hm (by omega) (by omega)) dX6_speedOf_14 ?_
  refine k_if_le C (tgt := 22) (by decide) dX6_speedOf_15 (fun hc15 => ?_) (fun hc15 => ?_)
  · skip
    refine k_iconst C ic_5 dX6_speedOf_22 ?_
    refine k_iload_n C (f := 2) (i := 2) (p := 0) rfl rfl dX6_speedOf_23 ?_
    refine k_aload_n C (f := 0) (i := 0) (p := 1) rfl rfl dX6_speedOf_24 ?_
    refine k_iload_n C (f := 1) (i := 1) (p := 2) rfl rfl dX6_speedOf_25 ?_
    refine k_callSp C s_X6_87 h_X6_carriedBy (ct_X6_carriedBy (by first | assumption | omega) (by first | assumption | omega) (by first | assumption | omega)) rfl rfl (Nat.le_of_ble_eq_true rfl) ⟨Nat.le_of_ble_eq_true rfl, Nat.le_of_ble_eq_true rfl⟩ ⟨Nat.le_of_ble_eq_true rfl, Nat.le_of_ble_eq_true rfl⟩ ⟨rfl, rfl⟩ dX6_speedOf_26 ?_
    refine k_bipush C bc_10 dX6_speedOf_29 ?_
    refine k_idiv C (by decide) dX6_speedOf_31 ?_
    refine k_isub C dX6_speedOf_32 ?_
    refine k_callSp C s_X6_80 h_X6_more (ct_X6_more ) rfl rfl (Nat.le_of_ble_eq_true rfl) ⟨Nat.le_of_ble_eq_true rfl, Nat.le_of_ble_eq_true rfl⟩ ⟨Nat.le_of_ble_eq_true rfl, Nat.le_of_ble_eq_true rfl⟩ ⟨rfl, rfl⟩ dX6_speedOf_33 ?_
    exact k_iret C (Nat.le_of_ble_eq_true rfl) (Nat.le_of_ble_eq_true rfl) (⟨by first | (rw [sp_speed_t hc15]; rfl) | (rw [sp_speed_f hc15]; rfl), rfl, rfl, rfl⟩) dX6_speedOf_36
  · skip
    refine k_iload_n C (f := 2) (i := 2) (p := 0) rfl rfl dX6_speedOf_18 ?_
    refine k_iconst C ic_2 dX6_speedOf_19 ?_
    refine k_idiv C (by decide) dX6_speedOf_20 ?_
    refine k_istore_n C (f := 2) (i := 2) (lv := [(2, _), (0, _), (1, _)]) rfl (Nat.le_of_ble_eq_true rfl) rfl dX6_speedOf_21 ?_
    refine k_iconst C ic_5 dX6_speedOf_22 ?_
    refine k_iload_n C (f := 2) (i := 2) (p := 0) rfl rfl dX6_speedOf_23 ?_
    refine k_aload_n C (f := 0) (i := 0) (p := 1) rfl rfl dX6_speedOf_24 ?_
    refine k_iload_n C (f := 1) (i := 1) (p := 2) rfl rfl dX6_speedOf_25 ?_
    refine k_callSp C s_X6_87 h_X6_carriedBy (ct_X6_carriedBy (by first | assumption | omega) (by first | assumption | omega) (by first | assumption | omega)) rfl rfl (Nat.le_of_ble_eq_true rfl) ⟨Nat.le_of_ble_eq_true rfl, Nat.le_of_ble_eq_true rfl⟩ ⟨Nat.le_of_ble_eq_true rfl, Nat.le_of_ble_eq_true rfl⟩ ⟨rfl, rfl⟩ dX6_speedOf_26 ?_
    refine k_bipush C bc_10 dX6_speedOf_29 ?_
    refine k_idiv C (by decide) dX6_speedOf_31 ?_
    refine k_isub C dX6_speedOf_32 ?_
    refine k_callSp C s_X6_80 h_X6_more (ct_X6_more ) rfl rfl (Nat.le_of_ble_eq_true rfl) ⟨Nat.le_of_ble_eq_true rfl, Nat.le_of_ble_eq_true rfl⟩ ⟨Nat.le_of_ble_eq_true rfl, Nat.le_of_ble_eq_true rfl⟩ ⟨rfl, rfl⟩ dX6_speedOf_33 ?_
    exact k_iret C (Nat.le_of_ble_eq_true rfl) (Nat.le_of_ble_eq_true rfl) (⟨by first | (rw [sp_speed_t hc15]; rfl) | (rw [sp_speed_f hc15]; rfl), rfl, rfl, rfl⟩) dX6_speedOf_36
set_option maxHeartbeats 4000000 in
set_option maxRecDepth 100000 in
theorem ct_X6_fastestOf {G : am_G} {Λ : am_L} {I : am_I} {J : am_J} {s : Nat} {r : Nat → Int32}  (hs : Λ.1 s = (2, 220)) (hm : MRow I s 0 r) (hB : RowB r) (hD : RowD r) : am_Ct G yX6_fastestOf cX6_fastestOf 3 (some .int) { frames := 3, cells := 0, slots := 0, locals := 66 } [.ref s] Λ I J (am_pure (.int (sp_fast r)) Λ I J) am_never := by
  refine am_ct_of (own := RX6) rfl (by decide) (Nat.le_of_ble_eq_true rfl) (fun X C => ?_)
  change am_K G X { frames := 3, cells := 0, slots := 0, locals := 66 } 3 Λ I J 0 0 0 [(0, .ref s)] []
  have hB9 := hB
  obtain ⟨⟨h6, h7, h8, h9⟩, hnc, hnw, hns, hnl⟩ := hB9
  refine k_iconst C ic_m1 dX6_fastestOf_0 ?_
  refine k_istore_n C (f := 1) (i := 1) (lv := [(1, _), (0, _)]) rfl (Nat.le_of_ble_eq_true rfl) rfl dX6_fastestOf_1 ?_
  refine k_iconst C ic_0 dX6_fastestOf_2 ?_
  refine k_istore_n C (f := 2) (i := 2) (lv := [(2, _), (1, _), (0, _)]) rfl (Nat.le_of_ble_eq_true rfl) rfl dX6_fastestOf_3 ?_
  have loop4 : ∀ (f : Nat) (k : Nat) (acc : Int32), (k ≤ sp_nc r) → (acc = sp_fastTo r k) → (sp_nc r - k) < f → am_K G X { frames := 3, cells := 0, slots := 0, locals := 66 } 3 Λ I J 0 0 4 [(0, .ref s), (1, .int acc), (2, .int (nI k))] [] := by
    intro f
    induction f with
    | zero => intro k acc hk ha hf; exact absurd hf (Nat.not_lt_zero _)
    | succ f ih4 =>
      intro k acc hk ha hf
      refine k_iload_n C (f := 2) (i := 2) (p := 2) rfl rfl dX6_fastestOf_4 ?_
      refine k_aload_n C (f := 0) (i := 0) (p := 0) rfl rfl dX6_fastestOf_5 ?_
      refine k_bipush C bc_6 dX6_fastestOf_6 ?_
      refine k_iald C (by assumption) (by first | rfl | assumption) (by omega) (by decide) ((MR hm (by decide)).trans h6) dX6_fastestOf_8 ?_
      first
      | refine k_icmpN_ge C (tgt := 48) (by omega) (by omega) (by decide) dX6_fastestOf_9 (fun hc9 => ?_) (fun hc9 => ?_)
      | refine k_icmp_ge C (tgt := 48) (by decide) dX6_fastestOf_9 (fun hc9 => ?_) (fun hc9 => ?_)
      · skip
        refine k_iload_n C (f := 1) (i := 1) (p := 1) rfl rfl dX6_fastestOf_48 ?_
        exact k_iret C (Nat.le_of_ble_eq_true rfl) (Nat.le_of_ble_eq_true rfl) (⟨by rw [ha, sp_fast, show k = sp_nc r by omega], rfl, rfl, rfl⟩) dX6_fastestOf_49
      · skip
        refine k_aload_n C (f := 0) (i := 0) (p := 0) rfl rfl dX6_fastestOf_12 ?_
        refine k_iload_n C (f := 2) (i := 2) (p := 2) rfl rfl dX6_fastestOf_13 ?_
        refine k_callSp C s_X6_83 h_X6_lives (ct_X6_lives (by first | assumption | omega) (by first | assumption | omega) (by first | assumption | omega) (by first | assumption | omega) (by first | assumption | omega)) rfl rfl (Nat.le_of_ble_eq_true rfl) ⟨Nat.le_of_ble_eq_true rfl, Nat.le_of_ble_eq_true rfl⟩ ⟨Nat.le_of_ble_eq_true rfl, Nat.le_of_ble_eq_true rfl⟩ ⟨rfl, rfl⟩ dX6_fastestOf_14 ?_
        first
        | refine k_ifb_ne C (tgt := 23) (by decide) dX6_fastestOf_17 (fun hc17 => ?_) (fun hc17 => ?_)
        | refine k_if_ne C (tgt := 23) (by decide) dX6_fastestOf_17 (fun hc17 => ?_) (fun hc17 => ?_)
        · skip
          refine k_iload_n C (f := 1) (i := 1) (p := 1) rfl rfl dX6_fastestOf_23 ?_
          refine k_if_lt C (tgt := 40) (by decide) dX6_fastestOf_24 (fun hc24 => ?_) (fun hc24 => ?_)
          · skip
            refine k_iload_n C (f := 2) (i := 2) (p := 2) rfl rfl dX6_fastestOf_40 ?_
            refine k_istore_n C (f := 1) (i := 1) (lv := [(1, _), (0, _), (2, _)]) rfl (Nat.le_of_ble_eq_true rfl) rfl dX6_fastestOf_41 ?_
            refine k_iinc C (i := 2) (p := 2) (lv := [(2, _), (1, _), (0, _)]) (Nat.le_of_ble_eq_true rfl) rfl (by first | exact am_inc1 _ | rfl) rfl dX6_fastestOf_42 ?_
            refine k_goto C (tgt := 4) (by decide) dX6_fastestOf_45 ?_
            refine k_sub [2, 1, 0] rfl ?_
            first
            | exact ih4 (k + 1) _ (by omega) (by rw [ha]; exact (sp_fastTo_f (fun h => hc17 h.1)).symm) (by omega)
            | exact ih4 (k + 1) _ (by omega) (sp_fastTo_t ⟨hc17, Or.inl (by rw [← ha]; exact hc24)⟩).symm (by omega)
            | exact ih4 (k + 1) _ (by omega) (by rw [← hm9, ha]; exact (sp_fastTo_f (fun h => h.2.elim (fun z => absurd z (by rw [← ha]; exact hc24)) (fun z => absurd z (by rw [← ha, hm9, nI_clamp (by omega)]; exact Int32.not_lt.mpr hc37)))).symm) (by omega)
            | exact ih4 (k + 1) _ (by omega) (sp_fastTo_t ⟨hc17, Or.inr (by rw [← ha, hm9, nI_clamp (by omega)]; exact Int32.not_le.mp hc37)⟩).symm (by omega)
          · skip
            obtain ⟨m, hm9, hmk⟩ : ∃ m : Nat, acc = nI m ∧ m < k := by
              obtain ⟨m, hm9, hmk, -⟩ := (sp_fastTo_or r k).resolve_left (fun e => hc24 (by rw [ha, e]; decide))
              exact ⟨m, ha.trans hm9, hmk⟩
            rw [hm9]
            refine k_aload_n C (f := 0) (i := 0) (p := 0) rfl rfl dX6_fastestOf_27 ?_
            refine k_iload_n C (f := 2) (i := 2) (p := 2) rfl rfl dX6_fastestOf_28 ?_
            refine k_callSp C s_X6_91 h_X6_speedOf (ct_X6_speedOf (by first | assumption | omega) (by first | assumption | omega) (by first | assumption | omega) (by first | assumption | omega)) rfl rfl (Nat.le_of_ble_eq_true rfl) ⟨Nat.le_of_ble_eq_true rfl, Nat.le_of_ble_eq_true rfl⟩ ⟨Nat.le_of_ble_eq_true rfl, Nat.le_of_ble_eq_true rfl⟩ ⟨rfl, rfl⟩ dX6_fastestOf_29 ?_
            refine k_aload_n C (f := 0) (i := 0) (p := 0) rfl rfl dX6_fastestOf_32 ?_
            refine k_iload_n C (f := 1) (i := 1) (p := 1) rfl rfl dX6_fastestOf_33 ?_
            refine k_callSp C s_X6_91 h_X6_speedOf (ct_X6_speedOf (by first | assumption | omega) (by first | assumption | omega) (by first | assumption | omega) (by first | assumption | omega)) rfl rfl (Nat.le_of_ble_eq_true rfl) ⟨Nat.le_of_ble_eq_true rfl, Nat.le_of_ble_eq_true rfl⟩ ⟨Nat.le_of_ble_eq_true rfl, Nat.le_of_ble_eq_true rfl⟩ ⟨rfl, rfl⟩ dX6_fastestOf_34 ?_
            refine k_icmp_le C (tgt := 42) (by decide) dX6_fastestOf_37 (fun hc37 => ?_) (fun hc37 => ?_)
            · skip
              refine k_iinc C (i := 2) (p := 2) (lv := [(2, _), (0, _), (1, _)]) (Nat.le_of_ble_eq_true rfl) rfl (by first | exact am_inc1 _ | rfl) rfl dX6_fastestOf_42 ?_
              refine k_goto C (tgt := 4) (by decide) dX6_fastestOf_45 ?_
              refine k_sub [1, 2, 0] rfl ?_
              first
              | exact ih4 (k + 1) _ (by omega) (by rw [ha]; exact (sp_fastTo_f (fun h => hc17 h.1)).symm) (by omega)
              | exact ih4 (k + 1) _ (by omega) (sp_fastTo_t ⟨hc17, Or.inl (by rw [← ha]; exact hc24)⟩).symm (by omega)
              | exact ih4 (k + 1) _ (by omega) (by rw [← hm9, ha]; exact (sp_fastTo_f (fun h => h.2.elim (fun z => absurd z (by rw [← ha]; exact hc24)) (fun z => absurd z (by rw [← ha, hm9, nI_clamp (by omega)]; exact Int32.not_lt.mpr hc37)))).symm) (by omega)
              | exact ih4 (k + 1) _ (by omega) (sp_fastTo_t ⟨hc17, Or.inr (by rw [← ha, hm9, nI_clamp (by omega)]; exact Int32.not_le.mp hc37)⟩).symm (by omega)
            · skip
              refine k_iload_n C (f := 2) (i := 2) (p := 2) rfl rfl dX6_fastestOf_40 ?_
              refine k_istore_n C (f := 1) (i := 1) (lv := [(1, _), (0, _), (2, _)]) rfl (Nat.le_of_ble_eq_true rfl) rfl dX6_fastestOf_41 ?_
              refine k_iinc C (i := 2) (p := 2) (lv := [(2, _), (1, _), (0, _)]) (Nat.le_of_ble_eq_true rfl) rfl (by first | exact am_inc1 _ | rfl) rfl dX6_fastestOf_42 ?_
              refine k_goto C (tgt := 4) (by decide) dX6_fastestOf_45 ?_
              refine k_sub [2, 1, 0] rfl ?_
              first
              | exact ih4 (k + 1) _ (by omega) (by rw [ha]; exact (sp_fastTo_f (fun h => hc17 h.1)).symm) (by omega)
              | exact ih4 (k + 1) _ (by omega) (sp_fastTo_t ⟨hc17, Or.inl (by rw [← ha]; exact hc24)⟩).symm (by omega)
              | exact ih4 (k + 1) _ (by omega) (by rw [← hm9, ha]; exact (sp_fastTo_f (fun h => h.2.elim (fun z => absurd z (by rw [← ha]; exact hc24)) (fun z => absurd z (by rw [← ha, hm9, nI_clamp (by omega)]; exact Int32.not_lt.mpr hc37)))).symm) (by omega)
              | exact ih4 (k + 1) _ (by omega) (sp_fastTo_t ⟨hc17, Or.inr (by rw [← ha, hm9, nI_clamp (by omega)]; exact Int32.not_le.mp hc37)⟩).symm (by omega)
        · skip
          refine k_goto C (tgt := 42) (by decide) dX6_fastestOf_20 ?_
          refine k_iinc C (i := 2) (p := 2) (lv := [(2, _), (0, _), (1, _)]) (Nat.le_of_ble_eq_true rfl) rfl (by first | exact am_inc1 _ | rfl) rfl dX6_fastestOf_42 ?_
          refine k_goto C (tgt := 4) (by decide) dX6_fastestOf_45 ?_
          refine k_sub [1, 2, 0] rfl ?_
          first
          | exact ih4 (k + 1) _ (by omega) (by rw [ha]; exact (sp_fastTo_f (fun h => hc17 h.1)).symm) (by omega)
          | exact ih4 (k + 1) _ (by omega) (sp_fastTo_t ⟨hc17, Or.inl (by rw [← ha]; exact hc24)⟩).symm (by omega)
          | exact ih4 (k + 1) _ (by omega) (by rw [← hm9, ha]; exact (sp_fastTo_f (fun h => h.2.elim (fun z => absurd z (by rw [← ha]; exact hc24)) (fun z => absurd z (by rw [← ha, hm9, nI_clamp (by omega)]; exact Int32.not_lt.mpr hc37)))).symm) (by omega)
          | exact ih4 (k + 1) _ (by omega) (sp_fastTo_t ⟨hc17, Or.inr (by rw [← ha, hm9, nI_clamp (by omega)]; exact Int32.not_le.mp hc37)⟩).symm (by omega)
  refine k_sub [2, 1, 0] rfl ?_
  exact loop4 (sp_nc r + 1) 0 (-1) (Nat.zero_le _) rfl (by omega)
set_option maxHeartbeats 4000000 in
set_option maxRecDepth 100000 in
theorem ct_X6_thirstiestOf {G : am_G} {Λ : am_L} {I : am_I} {J : am_J} {s : Nat} {r : Nat → Int32}  (hs : Λ.1 s = (2, 220)) (hm : MRow I s 0 r) (hB : RowB r) (hD : RowD r) : am_Ct G yX6_thirstiestOf cX6_thirstiestOf 3 (some .int) { frames := 2, cells := 0, slots := 0, locals := 42 } [.ref s] Λ I J (am_pure (.int (sp_thirst r)) Λ I J) am_never := by
  refine am_ct_of (own := RX6) rfl (by decide) (Nat.le_of_ble_eq_true rfl) (fun X C => ?_)
  change am_K G X { frames := 2, cells := 0, slots := 0, locals := 42 } 3 Λ I J 0 0 0 [(0, .ref s)] []
  have hB9 := hB
  obtain ⟨⟨h6, h7, h8, h9⟩, hnc, hnw, hns, hnl⟩ := hB9
  refine k_iconst C ic_m1 dX6_thirstiestOf_0 ?_
  refine k_istore_n C (f := 1) (i := 1) (lv := [(1, _), (0, _)]) rfl (Nat.le_of_ble_eq_true rfl) rfl dX6_thirstiestOf_1 ?_
  refine k_iconst C ic_0 dX6_thirstiestOf_2 ?_
  refine k_istore_n C (f := 2) (i := 2) (lv := [(2, _), (1, _), (0, _)]) rfl (Nat.le_of_ble_eq_true rfl) rfl dX6_thirstiestOf_3 ?_
  have loop4 : ∀ (f : Nat) (k : Nat) (acc : Int32), (k ≤ sp_nc r) → (acc = sp_thirstTo r k) → (sp_nc r - k) < f → am_K G X { frames := 2, cells := 0, slots := 0, locals := 42 } 3 Λ I J 0 0 4 [(0, .ref s), (1, .int acc), (2, .int (nI k))] [] := by
    intro f
    induction f with
    | zero => intro k acc hk ha hf; exact absurd hf (Nat.not_lt_zero _)
    | succ f ih4 =>
      intro k acc hk ha hf
      refine k_iload_n C (f := 2) (i := 2) (p := 2) rfl rfl dX6_thirstiestOf_4 ?_
      refine k_aload_n C (f := 0) (i := 0) (p := 0) rfl rfl dX6_thirstiestOf_5 ?_
      refine k_bipush C bc_6 dX6_thirstiestOf_6 ?_
      refine k_iald C (by assumption) (by first | rfl | assumption) (by omega) (by decide) ((MR hm (by decide)).trans h6) dX6_thirstiestOf_8 ?_
      first
      | refine k_icmpN_ge C (tgt := 52) (by omega) (by omega) (by decide) dX6_thirstiestOf_9 (fun hc9 => ?_) (fun hc9 => ?_)
      | refine k_icmp_ge C (tgt := 52) (by decide) dX6_thirstiestOf_9 (fun hc9 => ?_) (fun hc9 => ?_)
      · skip
        refine k_iload_n C (f := 1) (i := 1) (p := 1) rfl rfl dX6_thirstiestOf_52 ?_
        exact k_iret C (Nat.le_of_ble_eq_true rfl) (Nat.le_of_ble_eq_true rfl) (⟨by rw [ha, sp_thirst, show k = sp_nc r by omega], rfl, rfl, rfl⟩) dX6_thirstiestOf_53
      · skip
        refine k_aload_n C (f := 0) (i := 0) (p := 0) rfl rfl dX6_thirstiestOf_12 ?_
        refine k_iload_n C (f := 2) (i := 2) (p := 2) rfl rfl dX6_thirstiestOf_13 ?_
        refine k_callSp C s_X6_83 h_X6_lives (ct_X6_lives (by first | assumption | omega) (by first | assumption | omega) (by first | assumption | omega) (by first | assumption | omega) (by first | assumption | omega)) rfl rfl (Nat.le_of_ble_eq_true rfl) ⟨Nat.le_of_ble_eq_true rfl, Nat.le_of_ble_eq_true rfl⟩ ⟨Nat.le_of_ble_eq_true rfl, Nat.le_of_ble_eq_true rfl⟩ ⟨rfl, rfl⟩ dX6_thirstiestOf_14 ?_
        first
        | refine k_ifb_ne C (tgt := 23) (by decide) dX6_thirstiestOf_17 (fun hc17 => ?_) (fun hc17 => ?_)
        | refine k_if_ne C (tgt := 23) (by decide) dX6_thirstiestOf_17 (fun hc17 => ?_) (fun hc17 => ?_)
        · skip
          refine k_iload_n C (f := 1) (i := 1) (p := 1) rfl rfl dX6_thirstiestOf_23 ?_
          refine k_if_lt C (tgt := 44) (by decide) dX6_thirstiestOf_24 (fun hc24 => ?_) (fun hc24 => ?_)
          · skip
            refine k_iload_n C (f := 2) (i := 2) (p := 2) rfl rfl dX6_thirstiestOf_44 ?_
            refine k_istore_n C (f := 1) (i := 1) (lv := [(1, _), (0, _), (2, _)]) rfl (Nat.le_of_ble_eq_true rfl) rfl dX6_thirstiestOf_45 ?_
            refine k_iinc C (i := 2) (p := 2) (lv := [(2, _), (1, _), (0, _)]) (Nat.le_of_ble_eq_true rfl) rfl (by first | exact am_inc1 _ | rfl) rfl dX6_thirstiestOf_46 ?_
            refine k_goto C (tgt := 4) (by decide) dX6_thirstiestOf_49 ?_
            refine k_sub [2, 1, 0] rfl ?_
            first
            | exact ih4 (k + 1) _ (by omega) (by rw [ha]; exact (sp_thirstTo_f (fun h => hc17 h.1)).symm) (by omega)
            | exact ih4 (k + 1) _ (by omega) (sp_thirstTo_t ⟨hc17, Or.inl (by rw [← ha]; exact hc24)⟩).symm (by omega)
            | exact ih4 (k + 1) _ (by omega) (by rw [← hm9, ha]; exact (sp_thirstTo_f (fun h => h.2.elim (fun z => absurd z (by rw [← ha]; exact hc24)) (fun z => absurd z (by rw [← ha, hm9, nI_clamp (by omega)]; exact Int32.not_lt.mpr hc41)))).symm) (by omega)
            | exact ih4 (k + 1) _ (by omega) (sp_thirstTo_t ⟨hc17, Or.inr (by rw [← ha, hm9, nI_clamp (by omega)]; exact Int32.not_le.mp hc41)⟩).symm (by omega)
          · skip
            obtain ⟨m, hm9, hmk⟩ : ∃ m : Nat, acc = nI m ∧ m < k := by
              obtain ⟨m, hm9, hmk⟩ := (sp_thirstTo_or r k).resolve_left (fun e => hc24 (by rw [ha, e]; decide))
              exact ⟨m, ha.trans hm9, hmk⟩
            rw [hm9]
            refine k_aload_n C (f := 0) (i := 0) (p := 0) rfl rfl dX6_thirstiestOf_27 ?_
            refine k_iload_n C (f := 2) (i := 2) (p := 2) rfl rfl dX6_thirstiestOf_28 ?_
            refine k_iconst C ic_3 dX6_thirstiestOf_29 ?_
            refine k_callSp C s_X6_71 h_X6_camelAt (ct_X6_camelAt ) rfl rfl (Nat.le_of_ble_eq_true rfl) ⟨Nat.le_of_ble_eq_true rfl, Nat.le_of_ble_eq_true rfl⟩ ⟨Nat.le_of_ble_eq_true rfl, Nat.le_of_ble_eq_true rfl⟩ ⟨rfl, rfl⟩ dX6_thirstiestOf_30 ?_
            refine k_iald C (by assumption) (by first | rfl | assumption) (by omega) (by decide) (MRx (i := 13 + 8 * k) hm (by omega) (by omega)) dX6_thirstiestOf_33 ?_
            refine k_aload_n C (f := 0) (i := 0) (p := 0) rfl rfl dX6_thirstiestOf_34 ?_
            refine k_iload_n C (f := 1) (i := 1) (p := 1) rfl rfl dX6_thirstiestOf_35 ?_
            refine k_iconst C ic_3 dX6_thirstiestOf_36 ?_
            refine k_callSp C s_X6_71 h_X6_camelAt (ct_X6_camelAt ) rfl rfl (Nat.le_of_ble_eq_true rfl) ⟨Nat.le_of_ble_eq_true rfl, Nat.le_of_ble_eq_true rfl⟩ ⟨Nat.le_of_ble_eq_true rfl, Nat.le_of_ble_eq_true rfl⟩ ⟨rfl, rfl⟩ dX6_thirstiestOf_37 ?_
            refine k_iald C (by assumption) (by first | rfl | assumption) (by omega) (by decide) (MRx (i := 13 + 8 * m) hm (by omega) (by omega)) dX6_thirstiestOf_40 ?_
            refine k_icmp_ge C (tgt := 46) (by decide) dX6_thirstiestOf_41 (fun hc41 => ?_) (fun hc41 => ?_)
            · skip
              refine k_iinc C (i := 2) (p := 2) (lv := [(2, _), (0, _), (1, _)]) (Nat.le_of_ble_eq_true rfl) rfl (by first | exact am_inc1 _ | rfl) rfl dX6_thirstiestOf_46 ?_
              refine k_goto C (tgt := 4) (by decide) dX6_thirstiestOf_49 ?_
              refine k_sub [1, 2, 0] rfl ?_
              first
              | exact ih4 (k + 1) _ (by omega) (by rw [ha]; exact (sp_thirstTo_f (fun h => hc17 h.1)).symm) (by omega)
              | exact ih4 (k + 1) _ (by omega) (sp_thirstTo_t ⟨hc17, Or.inl (by rw [← ha]; exact hc24)⟩).symm (by omega)
              | exact ih4 (k + 1) _ (by omega) (by rw [← hm9, ha]; exact (sp_thirstTo_f (fun h => h.2.elim (fun z => absurd z (by rw [← ha]; exact hc24)) (fun z => absurd z (by rw [← ha, hm9, nI_clamp (by omega)]; exact Int32.not_lt.mpr hc41)))).symm) (by omega)
              | exact ih4 (k + 1) _ (by omega) (sp_thirstTo_t ⟨hc17, Or.inr (by rw [← ha, hm9, nI_clamp (by omega)]; exact Int32.not_le.mp hc41)⟩).symm (by omega)
            · skip
              refine k_iload_n C (f := 2) (i := 2) (p := 2) rfl rfl dX6_thirstiestOf_44 ?_
              refine k_istore_n C (f := 1) (i := 1) (lv := [(1, _), (0, _), (2, _)]) rfl (Nat.le_of_ble_eq_true rfl) rfl dX6_thirstiestOf_45 ?_
              refine k_iinc C (i := 2) (p := 2) (lv := [(2, _), (1, _), (0, _)]) (Nat.le_of_ble_eq_true rfl) rfl (by first | exact am_inc1 _ | rfl) rfl dX6_thirstiestOf_46 ?_
              refine k_goto C (tgt := 4) (by decide) dX6_thirstiestOf_49 ?_
              refine k_sub [2, 1, 0] rfl ?_
              first
              | exact ih4 (k + 1) _ (by omega) (by rw [ha]; exact (sp_thirstTo_f (fun h => hc17 h.1)).symm) (by omega)
              | exact ih4 (k + 1) _ (by omega) (sp_thirstTo_t ⟨hc17, Or.inl (by rw [← ha]; exact hc24)⟩).symm (by omega)
              | exact ih4 (k + 1) _ (by omega) (by rw [← hm9, ha]; exact (sp_thirstTo_f (fun h => h.2.elim (fun z => absurd z (by rw [← ha]; exact hc24)) (fun z => absurd z (by rw [← ha, hm9, nI_clamp (by omega)]; exact Int32.not_lt.mpr hc41)))).symm) (by omega)
              | exact ih4 (k + 1) _ (by omega) (sp_thirstTo_t ⟨hc17, Or.inr (by rw [← ha, hm9, nI_clamp (by omega)]; exact Int32.not_le.mp hc41)⟩).symm (by omega)
        · skip
          refine k_goto C (tgt := 46) (by decide) dX6_thirstiestOf_20 ?_
          refine k_iinc C (i := 2) (p := 2) (lv := [(2, _), (0, _), (1, _)]) (Nat.le_of_ble_eq_true rfl) rfl (by first | exact am_inc1 _ | rfl) rfl dX6_thirstiestOf_46 ?_
          refine k_goto C (tgt := 4) (by decide) dX6_thirstiestOf_49 ?_
          refine k_sub [1, 2, 0] rfl ?_
          first
          | exact ih4 (k + 1) _ (by omega) (by rw [ha]; exact (sp_thirstTo_f (fun h => hc17 h.1)).symm) (by omega)
          | exact ih4 (k + 1) _ (by omega) (sp_thirstTo_t ⟨hc17, Or.inl (by rw [← ha]; exact hc24)⟩).symm (by omega)
          | exact ih4 (k + 1) _ (by omega) (by rw [← hm9, ha]; exact (sp_thirstTo_f (fun h => h.2.elim (fun z => absurd z (by rw [← ha]; exact hc24)) (fun z => absurd z (by rw [← ha, hm9, nI_clamp (by omega)]; exact Int32.not_lt.mpr hc41)))).symm) (by omega)
          | exact ih4 (k + 1) _ (by omega) (sp_thirstTo_t ⟨hc17, Or.inr (by rw [← ha, hm9, nI_clamp (by omega)]; exact Int32.not_le.mp hc41)⟩).symm (by omega)
  refine k_sub [2, 1, 0] rfl ?_
  exact loop4 (sp_nc r + 1) 0 (-1) (Nat.zero_le _) rfl (by omega)
set_option maxHeartbeats 4000000 in
set_option maxRecDepth 100000 in
theorem ct_X6_needOf {G : am_G} {Λ : am_L} {I : am_I} {J : am_J} {s : Nat} {r : Nat → Int32} {j : Nat} (hs : Λ.1 s = (2, 220)) (hm : MRow I s 0 r) (hB : RowB r) : am_Ct G yX6_needOf cX6_needOf 2 (some .int) { frames := 2, cells := 0, slots := 0, locals := 45 } [.ref s, .int (nI j)] Λ I J (am_pure (.int (sp_need r j (sp_storm r (r 2)))) Λ I J) am_never := by
  refine am_ct_of (own := RX6) rfl (by decide) (Nat.le_of_ble_eq_true rfl) (fun X C => ?_)
  change am_K G X { frames := 2, cells := 0, slots := 0, locals := 45 } 2 Λ I J 0 0 0 [(0, .ref s), (1, .int (nI j))] []
  have hB9 := hB
  obtain ⟨⟨h6, h7, h8, h9⟩, hnc, hnw, hns, hnl⟩ := hB9
  refine k_iconst C ic_5 dX6_needOf_0 ?_
  refine k_aload_n C (f := 0) (i := 0) (p := 0) rfl rfl dX6_needOf_1 ?_
  refine k_iload_n C (f := 1) (i := 1) (p := 1) rfl rfl dX6_needOf_2 ?_
  refine k_callSp C s_X6_87 h_X6_carriedBy (ct_X6_carriedBy (by first | assumption | omega) (by first | assumption | omega) (by first | assumption | omega)) rfl rfl (Nat.le_of_ble_eq_true rfl) ⟨Nat.le_of_ble_eq_true rfl, Nat.le_of_ble_eq_true rfl⟩ ⟨Nat.le_of_ble_eq_true rfl, Nat.le_of_ble_eq_true rfl⟩ ⟨rfl, rfl⟩ dX6_needOf_3 ?_
  refine k_bipush C bc_25 dX6_needOf_6 ?_
  refine k_idiv C (by decide) dX6_needOf_8 ?_
  refine k_iadd C dX6_needOf_9 ?_
  refine k_aload_n C (f := 0) (i := 0) (p := 0) rfl rfl dX6_needOf_10 ?_
  refine k_aload_n C (f := 0) (i := 0) (p := 0) rfl rfl dX6_needOf_11 ?_
  refine k_iconst C ic_2 dX6_needOf_12 ?_
  refine k_iald C (by assumption) (by first | rfl | assumption) (by omega) (by decide) (MR hm (by decide)) dX6_needOf_13 ?_
  refine k_callSp C s_X6_94 h_X6_stormOf (ct_X6_stormOf (by first | assumption | omega) (by first | assumption | omega) (by first | assumption | omega)) rfl rfl (Nat.le_of_ble_eq_true rfl) ⟨Nat.le_of_ble_eq_true rfl, Nat.le_of_ble_eq_true rfl⟩ ⟨Nat.le_of_ble_eq_true rfl, Nat.le_of_ble_eq_true rfl⟩ ⟨rfl, rfl⟩ dX6_needOf_14 ?_
  refine k_iadd C dX6_needOf_17 ?_
  exact k_iret C (Nat.le_of_ble_eq_true rfl) (Nat.le_of_ble_eq_true rfl) (⟨rfl, rfl, rfl, rfl⟩) dX6_needOf_18
set_option maxHeartbeats 4000000 in
set_option maxRecDepth 100000 in
theorem ct_X6_isAtEnd {G : am_G} {Λ : am_L} {I : am_I} {J : am_J} {s : Nat} {r : Nat → Int32}  (hs : Λ.1 s = (2, 220)) (hm : MRow I s 0 r) (hB : RowB r) : am_Ct G yX6_isAtEnd cX6_isAtEnd 1 (some .boolean) { frames := 0, cells := 0, slots := 0, locals := 0 } [.ref s] Λ I J (am_pure (.int (am_b (r 1 = r 0))) Λ I J) am_never := by
  refine am_ct_of (own := RX6) rfl (by decide) (Nat.le_of_ble_eq_true rfl) (fun X C => ?_)
  change am_K G X { frames := 0, cells := 0, slots := 0, locals := 0 } 1 Λ I J 0 0 0 [(0, .ref s)] []
  have hB9 := hB
  obtain ⟨⟨h6, h7, h8, h9⟩, hnc, hnw, hns, hnl⟩ := hB9
  refine k_aload_n C (f := 0) (i := 0) (p := 0) rfl rfl dX6_isAtEnd_0 ?_
  refine k_iconst C ic_1 dX6_isAtEnd_1 ?_
  refine k_iald C (by assumption) (by first | rfl | assumption) (by omega) (by decide) (MR hm (by decide)) dX6_isAtEnd_2 ?_
  refine k_aload_n C (f := 0) (i := 0) (p := 0) rfl rfl dX6_isAtEnd_3 ?_
  refine k_iconst C ic_0 dX6_isAtEnd_4 ?_
  refine k_iald C (by assumption) (by first | rfl | assumption) (by omega) (by decide) (MR hm (by decide)) dX6_isAtEnd_5 ?_
  first
  | refine k_icmpN_ne C (tgt := 13) (by omega) (by omega) (by decide) dX6_isAtEnd_6 (fun hc6 => ?_) (fun hc6 => ?_)
  | refine k_icmp_ne C (tgt := 13) (by decide) dX6_isAtEnd_6 (fun hc6 => ?_) (fun hc6 => ?_)
  · skip
    refine k_iconst C ic_0 dX6_isAtEnd_13 ?_
    exact k_zret C (by first | rfl | exact am_bz) (Nat.le_of_ble_eq_true rfl) (Nat.le_of_ble_eq_true rfl) (⟨congrArg (fun z => some (Value.int z)) (am_bf (by first | exact hc8 | exact hc6 | assumption)), rfl, rfl, rfl⟩) dX6_isAtEnd_14
  · skip
    refine k_iconst C ic_1 dX6_isAtEnd_9 ?_
    refine k_goto C (tgt := 14) (by decide) dX6_isAtEnd_10 ?_
    exact k_zret C (by first | rfl | exact am_bz) (Nat.le_of_ble_eq_true rfl) (Nat.le_of_ble_eq_true rfl) (⟨congrArg (fun z => some (Value.int z)) (am_bt (by first | exact hc8 | exact hc6 | assumption)), rfl, rfl, rfl⟩) dX6_isAtEnd_14
