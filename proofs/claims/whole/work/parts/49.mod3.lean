/-! ===== the model: the whole object, its questions ===== -/
theorem am_up_up {I : am_I} {a k : Nat} {x z : Int32} : am_up (am_up I a k x) a k z = am_up I a k z := by
  funext b j
  by_cases h : b = a ∧ j = k <;> simp [am_up, h]
theorem am_up_id {I : am_I} {a k : Nat} {x : Int32} (h : I a k = x) : am_up I a k x = I := by
  funext b j
  by_cases q : b = a ∧ j = k
  · obtain ⟨rfl, rfl⟩ := q
    rw [am_up_eq, h]
  · exact am_up_n2 q
def MQx (I : am_I) (y cd : Nat) (val v : Option Value) (I' : am_I) : Prop := (∃ b : Int32, v = some (.int b)) ∧ (cd = 0 → v = val) ∧ I' = am_up I y 10 (nI cd)
theorem MQx_ok {I I1 : am_I} {y cd : Nat} {val : Option Value} {b : Int32} (h : I1 = am_up I y 10 (nI 0)) (hc : cd = 0) (hv : some (.int b) = val) : MQx I y cd val (some (.int b)) I1 := by
  subst hc
  exact ⟨⟨b, rfl⟩, fun _ => hv, h⟩
theorem MQx_no {I I1 I2 : am_I} {y cd c : Nat} {val : Option Value} {b : Int32} (h1 : I1 = am_up I y 10 (nI 0)) (h2 : I2 = am_up I1 y 10 (nI c)) (hc : cd = c) (h0 : c ≠ 0) : MQx I y cd val (some (.int b)) I2 := by
  subst hc
  exact ⟨⟨b, rfl⟩, fun z => absurd z h0, by rw [h2, h1, am_up_up]⟩
theorem MQx_re {I I1 I2 : am_I} {y cd : Nat} {val val' v : Option Value} (h : MQx I1 y cd val v I2) (h1 : I1 = am_up I y 10 (nI 0)) (e : val = val') : MQx I y cd val' v I2 := by
  obtain ⟨a, b, c⟩ := h
  exact ⟨a, fun z => (b z).trans e, by rw [c, h1, am_up_up]⟩
theorem cdI_1 {n : Nat} {c : Int32} (h : ¬ cdI n c = 0) : cdI n c = 1 := by
  unfold cdI at h ⊢
  by_cases q : 0 ≤ c ∧ c < nI n
  · rw [if_pos q] at h; exact absurd rfl h
  · rw [if_neg q]
theorem am_b_iff {P Q : Prop} [dp : Decidable P] [dq : Decidable Q] (h : P ↔ Q) : am_b P = am_b Q := by
  by_cases p : P
  · rw [← am_bt p, ← am_bt (h.mp p)]
  · rw [← am_bf p, ← am_bf (fun q => p (h.mpr q))]
theorem md_dec {n : Nat} {c : Int32} (hn : n < 2 ^ 30) : c ≤ nI n - nI 1 ↔ c < nI n := by
  rw [Int32.le_iff_toInt_le, Int32.lt_iff_toInt_lt, pk_sub_toInt hn (by decide), nI_toInt (by omega)]
  omega
theorem md_cd {n : Nat} {c : Int32} (hn : n < 2 ^ 30) : (nI 0 ≤ c ∧ c ≤ nI n - nI 1) ↔ cdI n c = 0 := by
  rw [md_dec hn, nI_0]
  unfold cdI
  by_cases q : 0 ≤ c ∧ c < nI n
  · rw [if_pos q]; exact ⟨fun _ => rfl, fun _ => q⟩
  · rw [if_neg q]; exact ⟨fun z => absurd z q, fun z => by cases z⟩
def MTxt (I : am_I) (y : Nat) (tb : Nat → Nat) (n : Nat) : Prop := I y 8 = nI n ∧ n ≤ 700 ∧ ∀ j : Nat, j < n → I (y + 7) j = nI (tb j) ∧ tb j < 256
def ModRel (I : am_I) (y : Nat) (tb : Nat → Nat) (n : Nat) (err : Int32) (r : Nat → Int32) (ct : Nat) (hs : Nat → Nat → Int32) (kp : Nat → Bool) (sn : Nat → Nat → Int32) (w : Nat × (Nat → Int32)) : Prop :=
  MTxt I y tb n ∧ I y 9 = err ∧ MRow I (y + 1) 0 r ∧ (I y 6 = nI ct ∧ ct ≤ 8 ∧ ∀ s : Nat, s < ct → MRow I (y + 4) (220 * (ct - 1 - s)) (hs s)) ∧ (∀ j : Nat, j < 2 → I (y + 6) j = am_b (kp j = true) ∧ (kp j = true → MRow I (y + 5) (220 * j) (sn j))) ∧ I y 19 = nI w.1 ∧ w.1 ≤ 140 ∧ TxtAt I (y + 9) w
def MFr (y : Nat) (I I' : am_I) : Prop := ∀ b : Nat, (b < y ∨ y + 10 ≤ b) → I' b = I b
theorem MFr.rf {y : Nat} {I : am_I} : MFr y I I := fun _ _ => rfl
theorem MFr.tr {y : Nat} {I I1 I2 : am_I} (h : MFr y I I1) (h2 : MFr y I1 I2) : MFr y I I2 := fun b hb => (h2 b hb).trans (h b hb)
theorem MFr.up {y a k : Nat} {x : Int32} {I I1 : am_I} (h : MFr y I I1) (ha : y ≤ a ∧ a < y + 10) : MFr y I (am_up I1 a k x) := fun b hb => (am_up_ne (by omega)).trans (h b hb)
section MM
variable {I I' : am_I} {y n ct : Nat} {tb : Nat → Nat} {err : Int32} {r r' : Nat → Int32} {hs hs' : Nat → Nat → Int32} {kp : Nat → Bool} {sn : Nat → Nat → Int32} {w : Nat × (Nat → Int32)}
theorem MM_x (h : ModRel I y tb n err r ct hs kp sn w) : MTxt I y tb n := h.1
theorem MM_e (h : ModRel I y tb n err r ct hs kp sn w) : I y 9 = err := h.2.1
theorem MM_r (h : ModRel I y tb n err r ct hs kp sn w) : MRow I (y + 1) 0 r := h.2.2.1
theorem MM_h (h : ModRel I y tb n err r ct hs kp sn w) : I y 6 = nI ct ∧ ct ≤ 8 ∧ ∀ s : Nat, s < ct → MRow I (y + 4) (220 * (ct - 1 - s)) (hs s) := h.2.2.2.1
theorem MM_s (h : ModRel I y tb n err r ct hs kp sn w) : ∀ j : Nat, j < 2 → I (y + 6) j = am_b (kp j = true) ∧ (kp j = true → MRow I (y + 5) (220 * j) (sn j)) := h.2.2.2.2.1
theorem MM_w (h : ModRel I y tb n err r ct hs kp sn w) : I y 19 = nI w.1 ∧ w.1 ≤ 140 ∧ TxtAt I (y + 9) w := h.2.2.2.2.2
/-- cells that no part of the object speaks of have changed -/
theorem MM_agree (h : ModRel I y tb n err r ct hs kp sn w) (h6 : I' y 6 = I y 6) (h8 : I' y 8 = I y 8) (h9 : I' y 9 = I y 9) (h19 : I' y 19 = I y 19) (a1 : I' (y + 1) = I (y + 1)) (a4 : I' (y + 4) = I (y + 4)) (a5 : I' (y + 5) = I (y + 5)) (a6 : I' (y + 6) = I (y + 6)) (a7 : I' (y + 7) = I (y + 7)) (a9 : I' (y + 9) = I (y + 9)) : ModRel I' y tb n err r ct hs kp sn w := by
  unfold ModRel MTxt MRow TxtAt at h ⊢
  rw [h6, h8, h9, h19, a1, a4, a5, a6, a7, a9]
  exact h
theorem MM_up {k : Nat} {x : Int32} (h : ModRel I y tb n err r ct hs kp sn w) (hk : k ≠ 6 ∧ k ≠ 8 ∧ k ≠ 9 ∧ k ≠ 19) : ModRel (am_up I y k x) y tb n err r ct hs kp sn w :=
  MM_agree h (am_up_n2 (by omega)) (am_up_n2 (by omega)) (am_up_n2 (by omega)) (am_up_n2 (by omega)) (am_up_ne (by omega)) (am_up_ne (by omega)) (am_up_ne (by omega)) (am_up_ne (by omega)) (am_up_ne (by omega)) (am_up_ne (by omega))
/-- the row of now has changed -/
theorem MM_row (h : ModRel I y tb n err r ct hs kp sn w) (hr : MRow I' (y + 1) 0 r') (hf : am_f1 (y + 1) I I') : ModRel I' y tb n err r' ct hs kp sn w := by
  obtain ⟨b1, b2, b3, b4, b5, b6⟩ := h
  refine ⟨?_, ?_, hr, ?_, ?_, ?_⟩
  · unfold MTxt; rw [hf y (by omega), hf (y + 7) (by omega)]; exact b1
  · rw [hf y (by omega)]; exact b2
  · unfold MRow; rw [hf y (by omega), hf (y + 4) (by omega)]; exact b4
  · unfold MRow; rw [hf (y + 6) (by omega), hf (y + 5) (by omega)]; exact b5
  · unfold TxtAt; rw [hf y (by omega), hf (y + 9) (by omega)]; exact b6
end MM
theorem md_behind_or (r : Nat → Int32) (x : Int32) : sp_behind r x = -1 ∨ ∃ j : Nat, sp_behind r x = nI j ∧ j < sp_nw r := by
  rcases sp_behindTo_or r x (sp_nw r) with h | ⟨m, h1, h2, -⟩
  · exact Or.inl h
  · exact Or.inr ⟨m, h1, h2⟩
theorem md_thirst_or (r : Nat → Int32) : sp_thirst r = -1 ∨ ∃ j : Nat, sp_thirst r = nI j ∧ j < sp_nc r := by
  rcases sp_thirstTo_or r (sp_nc r) with h | ⟨m, h1, h2⟩
  · exact Or.inl h
  · exact Or.inr ⟨m, h1, h2⟩
theorem md_fast_or (r : Nat → Int32) : sp_fast r = -1 ∨ ∃ j : Nat, sp_fast r = nI j ∧ j < sp_nc r := by
  rcases sp_fastTo_or r (sp_nc r) with h | ⟨m, h1, h2, -⟩
  · exact Or.inl h
  · exact Or.inr ⟨m, h1, h2⟩
set_option maxHeartbeats 4000000 in
set_option maxRecDepth 100000 in
theorem ct_X6_fails {G : am_G} {Λ : am_L} {I : am_I} {J : am_J} {y : Nat} {c : Int32} (hx : ModLay Λ y) : am_Ct G yX6_fails cX6_fails 2 (some .int) { frames := 0, cells := 0, slots := 0, locals := 0 } [.ref y, .int c] Λ I J (am_gen Λ J (fun v I' => v = some (.int (nI 0)) ∧ I' = am_up I y 10 c)) am_never := by
  refine am_ct_of (own := RX6) rfl (by decide) (Nat.le_of_ble_eq_true rfl) (fun X C => ?_)
  change am_K G X { frames := 0, cells := 0, slots := 0, locals := 0 } 2 Λ I J 0 0 0 [(0, .ref y), (1, .int c)] []
  refine k_aload_n C (f := 0) (i := 0) (p := 0) rfl rfl dX6_fails_0 ?_
  refine k_iload_n C (f := 1) (i := 1) (p := 1) rfl rfl dX6_fails_1 ?_
  refine k_putI C f_X6_60 (L6_s (by assumption)) rfl rfl dX6_fails_2 ?_
  refine k_iconst C ic_0 dX6_fails_5 ?_
  exact k_iret C (Nat.le_of_ble_eq_true rfl) (Nat.le_of_ble_eq_true rfl) (⟨rfl, rfl, ⟨rfl, rfl⟩⟩) dX6_fails_6
set_option maxHeartbeats 4000000 in
set_option maxRecDepth 100000 in
theorem ct_X6_isFailed {G : am_G} {Λ : am_L} {I : am_I} {J : am_J} {y : Nat} {c : Int32} (hx : ModLay Λ y) : am_Ct G yX6_isFailed cX6_isFailed 2 (some .boolean) { frames := 0, cells := 0, slots := 0, locals := 0 } [.ref y, .int c] Λ I J (am_gen Λ J (fun v I' => v = some (.int (nI 0)) ∧ I' = am_up I y 10 c)) am_never := by
  refine am_ct_of (own := RX6) rfl (by decide) (Nat.le_of_ble_eq_true rfl) (fun X C => ?_)
  change am_K G X { frames := 0, cells := 0, slots := 0, locals := 0 } 2 Λ I J 0 0 0 [(0, .ref y), (1, .int c)] []
  refine k_aload_n C (f := 0) (i := 0) (p := 0) rfl rfl dX6_isFailed_0 ?_
  refine k_iload_n C (f := 1) (i := 1) (p := 1) rfl rfl dX6_isFailed_1 ?_
  refine k_putI C f_X6_60 (L6_s (by assumption)) rfl rfl dX6_isFailed_2 ?_
  refine k_iconst C ic_0 dX6_isFailed_5 ?_
  exact k_zret C (by first | rfl | exact am_bz) (Nat.le_of_ble_eq_true rfl) (Nat.le_of_ble_eq_true rfl) (⟨rfl, rfl, ⟨rfl, rfl⟩⟩) dX6_isFailed_6
set_option maxHeartbeats 4000000 in
set_option maxRecDepth 100000 in
theorem ct_X6_thrown {G : am_G} {Λ : am_L} {I : am_I} {J : am_J} {y : Nat} (hx : ModLay Λ y) : am_Ct G yX6_thrown cX6_thrown 1 (some .int) { frames := 0, cells := 0, slots := 0, locals := 0 } [.ref y] Λ I J (am_pure (.int (I y 10)) Λ I J) am_never := by
  refine am_ct_of (own := RX6) rfl (by decide) (Nat.le_of_ble_eq_true rfl) (fun X C => ?_)
  change am_K G X { frames := 0, cells := 0, slots := 0, locals := 0 } 1 Λ I J 0 0 0 [(0, .ref y)] []
  refine k_aload_n C (f := 0) (i := 0) (p := 0) rfl rfl dX6_thrown_0 ?_
  refine k_getI C f_X6_60 (L6_s (by assumption)) (fun _ _ _ => rfl) (by first | assumption | rfl) dX6_thrown_1 ?_
  exact k_iret C (Nat.le_of_ble_eq_true rfl) (Nat.le_of_ble_eq_true rfl) (⟨rfl, rfl, rfl, rfl⟩) dX6_thrown_4
set_option maxHeartbeats 4000000 in
set_option maxRecDepth 100000 in
theorem ct_X6_isCamel {G : am_G} {Λ : am_L} {I : am_I} {J : am_J} {y : Nat} {r : Nat → Int32} {c : Int32} (hx : ModLay Λ y) (hm : MRow I (y + 1) 0 r) (hok : RowOk r) : am_Ct G yX6_isCamel cX6_isCamel 2 (some .boolean) { frames := 1, cells := 0, slots := 0, locals := 22 } [.ref y, .int c] Λ I J (am_pure (.int (am_b (cdI (sp_nc r) c = 0))) Λ I J) am_never := by
  refine am_ct_of (own := RX6) rfl (by decide) (Nat.le_of_ble_eq_true rfl) (fun X C => ?_)
  change am_K G X { frames := 1, cells := 0, slots := 0, locals := 22 } 2 Λ I J 0 0 0 [(0, .ref y), (1, .int c)] []
  have hs := A6_0 hx
  have hB := hok.B
  have hD := hok.D
  have hB9 := hB
  obtain ⟨⟨h6, h7, h8, h9⟩, hnc, hnw, hns, hnl⟩ := hB9
  refine k_iload_n C (f := 1) (i := 1) (p := 1) rfl rfl dX6_isCamel_0 ?_
  refine k_iconst C ic_0 dX6_isCamel_1 ?_
  refine k_aload_n C (f := 0) (i := 0) (p := 0) rfl rfl dX6_isCamel_2 ?_
  refine k_getR C f_X6_7 (L6_s (by assumption)) (fun _ _ _ => rfl) (L6_0 (by assumption)) dX6_isCamel_3 ?_
  refine k_bipush C bc_6 dX6_isCamel_6 ?_
  refine k_iald C (A6_0 (by assumption)) (by first | rfl | assumption) (by omega) (by decide) ((MR hm (by decide)).trans h6) dX6_isCamel_8 ?_
  refine k_iconst C ic_1 dX6_isCamel_9 ?_
  refine k_isub C dX6_isCamel_10 ?_
  refine k_callSp C s_X6_67 h_X6_in (ct_X6_in ) rfl rfl (Nat.le_of_ble_eq_true rfl) ⟨Nat.le_of_ble_eq_true rfl, Nat.le_of_ble_eq_true rfl⟩ ⟨Nat.le_of_ble_eq_true rfl, Nat.le_of_ble_eq_true rfl⟩ ⟨rfl, rfl⟩ dX6_isCamel_11 ?_
  exact k_zret C (by first | rfl | exact am_bz) (Nat.le_of_ble_eq_true rfl) (Nat.le_of_ble_eq_true rfl) (⟨congrArg (fun z => some (Value.int z)) (am_b_iff (md_cd (by omega))), rfl, rfl, rfl⟩) dX6_isCamel_14
set_option maxHeartbeats 4000000 in
set_option maxRecDepth 100000 in
theorem ct_X6_isWell {G : am_G} {Λ : am_L} {I : am_I} {J : am_J} {y : Nat} {r : Nat → Int32} {c : Int32} (hx : ModLay Λ y) (hm : MRow I (y + 1) 0 r) (hok : RowOk r) : am_Ct G yX6_isWell cX6_isWell 2 (some .boolean) { frames := 1, cells := 0, slots := 0, locals := 22 } [.ref y, .int c] Λ I J (am_pure (.int (am_b (cdI (sp_nw r) c = 0))) Λ I J) am_never := by
  refine am_ct_of (own := RX6) rfl (by decide) (Nat.le_of_ble_eq_true rfl) (fun X C => ?_)
  change am_K G X { frames := 1, cells := 0, slots := 0, locals := 22 } 2 Λ I J 0 0 0 [(0, .ref y), (1, .int c)] []
  have hs := A6_0 hx
  have hB := hok.B
  have hD := hok.D
  have hB9 := hB
  obtain ⟨⟨h6, h7, h8, h9⟩, hnc, hnw, hns, hnl⟩ := hB9
  refine k_iload_n C (f := 1) (i := 1) (p := 1) rfl rfl dX6_isWell_0 ?_
  refine k_iconst C ic_0 dX6_isWell_1 ?_
  refine k_aload_n C (f := 0) (i := 0) (p := 0) rfl rfl dX6_isWell_2 ?_
  refine k_getR C f_X6_7 (L6_s (by assumption)) (fun _ _ _ => rfl) (L6_0 (by assumption)) dX6_isWell_3 ?_
  refine k_bipush C bc_7 dX6_isWell_6 ?_
  refine k_iald C (A6_0 (by assumption)) (by first | rfl | assumption) (by omega) (by decide) ((MR hm (by decide)).trans h7) dX6_isWell_8 ?_
  refine k_iconst C ic_1 dX6_isWell_9 ?_
  refine k_isub C dX6_isWell_10 ?_
  refine k_callSp C s_X6_67 h_X6_in (ct_X6_in ) rfl rfl (Nat.le_of_ble_eq_true rfl) ⟨Nat.le_of_ble_eq_true rfl, Nat.le_of_ble_eq_true rfl⟩ ⟨Nat.le_of_ble_eq_true rfl, Nat.le_of_ble_eq_true rfl⟩ ⟨rfl, rfl⟩ dX6_isWell_11 ?_
  exact k_zret C (by first | rfl | exact am_bz) (Nat.le_of_ble_eq_true rfl) (Nat.le_of_ble_eq_true rfl) (⟨congrArg (fun z => some (Value.int z)) (am_b_iff (md_cd (by omega))), rfl, rfl, rfl⟩) dX6_isWell_14
set_option maxHeartbeats 4000000 in
set_option maxRecDepth 100000 in
theorem ct_X6_isLoad {G : am_G} {Λ : am_L} {I : am_I} {J : am_J} {y : Nat} {r : Nat → Int32} {c : Int32} (hx : ModLay Λ y) (hm : MRow I (y + 1) 0 r) (hok : RowOk r) : am_Ct G yX6_isLoad cX6_isLoad 2 (some .boolean) { frames := 1, cells := 0, slots := 0, locals := 22 } [.ref y, .int c] Λ I J (am_pure (.int (am_b (cdI (sp_nl r) c = 0))) Λ I J) am_never := by
  refine am_ct_of (own := RX6) rfl (by decide) (Nat.le_of_ble_eq_true rfl) (fun X C => ?_)
  change am_K G X { frames := 1, cells := 0, slots := 0, locals := 22 } 2 Λ I J 0 0 0 [(0, .ref y), (1, .int c)] []
  have hs := A6_0 hx
  have hB := hok.B
  have hD := hok.D
  have hB9 := hB
  obtain ⟨⟨h6, h7, h8, h9⟩, hnc, hnw, hns, hnl⟩ := hB9
  refine k_iload_n C (f := 1) (i := 1) (p := 1) rfl rfl dX6_isLoad_0 ?_
  refine k_iconst C ic_0 dX6_isLoad_1 ?_
  refine k_aload_n C (f := 0) (i := 0) (p := 0) rfl rfl dX6_isLoad_2 ?_
  refine k_getR C f_X6_7 (L6_s (by assumption)) (fun _ _ _ => rfl) (L6_0 (by assumption)) dX6_isLoad_3 ?_
  refine k_bipush C bc_9 dX6_isLoad_6 ?_
  refine k_iald C (A6_0 (by assumption)) (by first | rfl | assumption) (by omega) (by decide) ((MR hm (by decide)).trans h9) dX6_isLoad_8 ?_
  refine k_iconst C ic_1 dX6_isLoad_9 ?_
  refine k_isub C dX6_isLoad_10 ?_
  refine k_callSp C s_X6_67 h_X6_in (ct_X6_in ) rfl rfl (Nat.le_of_ble_eq_true rfl) ⟨Nat.le_of_ble_eq_true rfl, Nat.le_of_ble_eq_true rfl⟩ ⟨Nat.le_of_ble_eq_true rfl, Nat.le_of_ble_eq_true rfl⟩ ⟨rfl, rfl⟩ dX6_isLoad_11 ?_
  exact k_zret C (by first | rfl | exact am_bz) (Nat.le_of_ble_eq_true rfl) (Nat.le_of_ble_eq_true rfl) (⟨congrArg (fun z => some (Value.int z)) (am_b_iff (md_cd (by omega))), rfl, rfl, rfl⟩) dX6_isLoad_14
set_option maxHeartbeats 4000000 in
set_option maxRecDepth 100000 in
theorem ct_X6_camelNumber {G : am_G} {Λ : am_L} {I : am_I} {J : am_J} {y : Nat} {r : Nat → Int32} {c : Int32} {f : Nat} (hx : ModLay Λ y) (hm : MRow I (y + 1) 0 r) (hok : RowOk r) (h10 : I y 10 = nI 0) (hf : f < 8) : am_Ct G yX6_camelNumber cX6_camelNumber 3 (some .int) { frames := 2, cells := 0, slots := 0, locals := 43 } [.ref y, .int c, .int (nI f)] Λ I J (am_gen Λ J (fun v I' => MQx I y (cdI (sp_nc r) c) (some (.int (r (10 + 8 * c.toNatClampNeg + f)))) v I')) am_never := by
  refine am_ct_of (own := RX6) rfl (by decide) (Nat.le_of_ble_eq_true rfl) (fun X C => ?_)
  change am_K G X { frames := 2, cells := 0, slots := 0, locals := 43 } 3 Λ I J 0 0 0 [(0, .ref y), (1, .int c), (2, .int (nI f))] []
  have hs := A6_0 hx
  have hB := hok.B
  have hD := hok.D
  have hB9 := hB
  obtain ⟨⟨h6, h7, h8, h9⟩, hnc, hnw, hns, hnl⟩ := hB9
  refine k_aload_n C (f := 0) (i := 0) (p := 0) rfl rfl dX6_camelNumber_0 ?_
  refine k_iload_n C (f := 1) (i := 1) (p := 1) rfl rfl dX6_camelNumber_1 ?_
  refine k_callVp C s_X6_244 h_X6_isCamel (L6_s (by assumption)) rfl (ct_X6_isCamel hx hm hok) rfl rfl (Nat.le_of_ble_eq_true rfl) ⟨Nat.le_of_ble_eq_true rfl, Nat.le_of_ble_eq_true rfl⟩ ⟨Nat.le_of_ble_eq_true rfl, Nat.le_of_ble_eq_true rfl⟩ ⟨rfl, rfl⟩ dX6_camelNumber_2 ?_
  first
  | refine k_ifb_eq C (tgt := 19) (by decide) dX6_camelNumber_5 (fun hc5 => ?_) (fun hc5 => ?_)
  | refine k_if_eq C (tgt := 19) (by decide) dX6_camelNumber_5 (fun hc5 => ?_) (fun hc5 => ?_)
  · skip
    refine k_aload_n C (f := 0) (i := 0) (p := 0) rfl rfl dX6_camelNumber_19 ?_
    refine k_iconst C ic_1 dX6_camelNumber_20 ?_
    refine k_callVg C s_X6_147 h_X6_fails (L6_s (by assumption)) rfl (ct_X6_fails hx) rfl rfl (Nat.le_of_ble_eq_true rfl) ⟨Nat.le_of_ble_eq_true rfl, Nat.le_of_ble_eq_true rfl⟩ ⟨Nat.le_of_ble_eq_true rfl, Nat.le_of_ble_eq_true rfl⟩ ⟨rfl, rfl⟩ dX6_camelNumber_21 ?_
    intro v21 I2 hv
    obtain ⟨rfl, hI2⟩ := hv
    exact k_iret C (Nat.le_of_ble_eq_true rfl) (Nat.le_of_ble_eq_true rfl) (⟨rfl, rfl, MQx_no (am_up_id h10).symm hI2 (cdI_1 hc5) (by decide)⟩) dX6_camelNumber_24
  · skip
    have hc5b : cdI (sp_nc r) c = 0 := hc5
    obtain ⟨j, hj, rfl⟩ := cdI_0 hc5b (by omega)
    refine k_aload_n C (f := 0) (i := 0) (p := 0) rfl rfl dX6_camelNumber_8 ?_
    refine k_getR C f_X6_7 (L6_s (by assumption)) (fun _ _ _ => rfl) (L6_0 (by assumption)) dX6_camelNumber_9 ?_
    refine k_iload_n C (f := 1) (i := 1) (p := 1) rfl rfl dX6_camelNumber_12 ?_
    refine k_iload_n C (f := 2) (i := 2) (p := 2) rfl rfl dX6_camelNumber_13 ?_
    refine k_callSp C s_X6_71 h_X6_camelAt (ct_X6_camelAt ) rfl rfl (Nat.le_of_ble_eq_true rfl) ⟨Nat.le_of_ble_eq_true rfl, Nat.le_of_ble_eq_true rfl⟩ ⟨Nat.le_of_ble_eq_true rfl, Nat.le_of_ble_eq_true rfl⟩ ⟨rfl, rfl⟩ dX6_camelNumber_14 ?_
    refine k_iald C (A6_0 (by assumption)) (by first | rfl | assumption) (by omega) (by decide) (MRx (i := 10 + 8 * j + f) hm (by omega) (by omega)) dX6_camelNumber_17 ?_
    exact k_iret C (Nat.le_of_ble_eq_true rfl) (Nat.le_of_ble_eq_true rfl) (⟨rfl, rfl, MQx_ok (am_up_id h10).symm hc5b (by rw [nI_clamp (by omega)])⟩) dX6_camelNumber_18
set_option maxHeartbeats 4000000 in
set_option maxRecDepth 100000 in
theorem ct_X6_wellNumber {G : am_G} {Λ : am_L} {I : am_I} {J : am_J} {y : Nat} {r : Nat → Int32} {c : Int32} {f : Nat} (hx : ModLay Λ y) (hm : MRow I (y + 1) 0 r) (hok : RowOk r) (h10 : I y 10 = nI 0) (hf : f < 4) : am_Ct G yX6_wellNumber cX6_wellNumber 3 (some .int) { frames := 2, cells := 0, slots := 0, locals := 43 } [.ref y, .int c, .int (nI f)] Λ I J (am_gen Λ J (fun v I' => MQx I y (cdI (sp_nw r) c) (some (.int (r (90 + 4 * c.toNatClampNeg + f)))) v I')) am_never := by
  refine am_ct_of (own := RX6) rfl (by decide) (Nat.le_of_ble_eq_true rfl) (fun X C => ?_)
  change am_K G X { frames := 2, cells := 0, slots := 0, locals := 43 } 3 Λ I J 0 0 0 [(0, .ref y), (1, .int c), (2, .int (nI f))] []
  have hs := A6_0 hx
  have hB := hok.B
  have hD := hok.D
  have hB9 := hB
  obtain ⟨⟨h6, h7, h8, h9⟩, hnc, hnw, hns, hnl⟩ := hB9
  refine k_aload_n C (f := 0) (i := 0) (p := 0) rfl rfl dX6_wellNumber_0 ?_
  refine k_iload_n C (f := 1) (i := 1) (p := 1) rfl rfl dX6_wellNumber_1 ?_
  refine k_callVp C s_X6_238 h_X6_isWell (L6_s (by assumption)) rfl (ct_X6_isWell hx hm hok) rfl rfl (Nat.le_of_ble_eq_true rfl) ⟨Nat.le_of_ble_eq_true rfl, Nat.le_of_ble_eq_true rfl⟩ ⟨Nat.le_of_ble_eq_true rfl, Nat.le_of_ble_eq_true rfl⟩ ⟨rfl, rfl⟩ dX6_wellNumber_2 ?_
  first
  | refine k_ifb_eq C (tgt := 19) (by decide) dX6_wellNumber_5 (fun hc5 => ?_) (fun hc5 => ?_)
  | refine k_if_eq C (tgt := 19) (by decide) dX6_wellNumber_5 (fun hc5 => ?_) (fun hc5 => ?_)
  · skip
    refine k_aload_n C (f := 0) (i := 0) (p := 0) rfl rfl dX6_wellNumber_19 ?_
    refine k_iconst C ic_1 dX6_wellNumber_20 ?_
    refine k_callVg C s_X6_147 h_X6_fails (L6_s (by assumption)) rfl (ct_X6_fails hx) rfl rfl (Nat.le_of_ble_eq_true rfl) ⟨Nat.le_of_ble_eq_true rfl, Nat.le_of_ble_eq_true rfl⟩ ⟨Nat.le_of_ble_eq_true rfl, Nat.le_of_ble_eq_true rfl⟩ ⟨rfl, rfl⟩ dX6_wellNumber_21 ?_
    intro v21 I2 hv
    obtain ⟨rfl, hI2⟩ := hv
    exact k_iret C (Nat.le_of_ble_eq_true rfl) (Nat.le_of_ble_eq_true rfl) (⟨rfl, rfl, MQx_no (am_up_id h10).symm hI2 (cdI_1 hc5) (by decide)⟩) dX6_wellNumber_24
  · skip
    have hc5b : cdI (sp_nw r) c = 0 := hc5
    obtain ⟨j, hj, rfl⟩ := cdI_0 hc5b (by omega)
    refine k_aload_n C (f := 0) (i := 0) (p := 0) rfl rfl dX6_wellNumber_8 ?_
    refine k_getR C f_X6_7 (L6_s (by assumption)) (fun _ _ _ => rfl) (L6_0 (by assumption)) dX6_wellNumber_9 ?_
    refine k_iload_n C (f := 1) (i := 1) (p := 1) rfl rfl dX6_wellNumber_12 ?_
    refine k_iload_n C (f := 2) (i := 2) (p := 2) rfl rfl dX6_wellNumber_13 ?_
    refine k_callSp C s_X6_74 h_X6_wellAt (ct_X6_wellAt ) rfl rfl (Nat.le_of_ble_eq_true rfl) ⟨Nat.le_of_ble_eq_true rfl, Nat.le_of_ble_eq_true rfl⟩ ⟨Nat.le_of_ble_eq_true rfl, Nat.le_of_ble_eq_true rfl⟩ ⟨rfl, rfl⟩ dX6_wellNumber_14 ?_
    refine k_iald C (A6_0 (by assumption)) (by first | rfl | assumption) (by omega) (by decide) (MRx (i := 90 + 4 * j + f) hm (by omega) (by omega)) dX6_wellNumber_17 ?_
    exact k_iret C (Nat.le_of_ble_eq_true rfl) (Nat.le_of_ble_eq_true rfl) (⟨rfl, rfl, MQx_ok (am_up_id h10).symm hc5b (by rw [nI_clamp (by omega)])⟩) dX6_wellNumber_18
set_option maxHeartbeats 4000000 in
set_option maxRecDepth 100000 in
theorem ct_X6_loadNumber {G : am_G} {Λ : am_L} {I : am_I} {J : am_J} {y : Nat} {r : Nat → Int32} {c : Int32} {f : Nat} (hx : ModLay Λ y) (hm : MRow I (y + 1) 0 r) (hok : RowOk r) (h10 : I y 10 = nI 0) (hf : f < 4) : am_Ct G yX6_loadNumber cX6_loadNumber 3 (some .int) { frames := 2, cells := 0, slots := 0, locals := 43 } [.ref y, .int c, .int (nI f)] Λ I J (am_gen Λ J (fun v I' => MQx I y (cdI (sp_nl r) c) (some (.int (r (140 + 4 * c.toNatClampNeg + f)))) v I')) am_never := by
  refine am_ct_of (own := RX6) rfl (by decide) (Nat.le_of_ble_eq_true rfl) (fun X C => ?_)
  change am_K G X { frames := 2, cells := 0, slots := 0, locals := 43 } 3 Λ I J 0 0 0 [(0, .ref y), (1, .int c), (2, .int (nI f))] []
  have hs := A6_0 hx
  have hB := hok.B
  have hD := hok.D
  have hB9 := hB
  obtain ⟨⟨h6, h7, h8, h9⟩, hnc, hnw, hns, hnl⟩ := hB9
  refine k_aload_n C (f := 0) (i := 0) (p := 0) rfl rfl dX6_loadNumber_0 ?_
  refine k_iload_n C (f := 1) (i := 1) (p := 1) rfl rfl dX6_loadNumber_1 ?_
  refine k_callVp C s_X6_253 h_X6_isLoad (L6_s (by assumption)) rfl (ct_X6_isLoad hx hm hok) rfl rfl (Nat.le_of_ble_eq_true rfl) ⟨Nat.le_of_ble_eq_true rfl, Nat.le_of_ble_eq_true rfl⟩ ⟨Nat.le_of_ble_eq_true rfl, Nat.le_of_ble_eq_true rfl⟩ ⟨rfl, rfl⟩ dX6_loadNumber_2 ?_
  first
  | refine k_ifb_eq C (tgt := 19) (by decide) dX6_loadNumber_5 (fun hc5 => ?_) (fun hc5 => ?_)
  | refine k_if_eq C (tgt := 19) (by decide) dX6_loadNumber_5 (fun hc5 => ?_) (fun hc5 => ?_)
  · skip
    refine k_aload_n C (f := 0) (i := 0) (p := 0) rfl rfl dX6_loadNumber_19 ?_
    refine k_iconst C ic_1 dX6_loadNumber_20 ?_
    refine k_callVg C s_X6_147 h_X6_fails (L6_s (by assumption)) rfl (ct_X6_fails hx) rfl rfl (Nat.le_of_ble_eq_true rfl) ⟨Nat.le_of_ble_eq_true rfl, Nat.le_of_ble_eq_true rfl⟩ ⟨Nat.le_of_ble_eq_true rfl, Nat.le_of_ble_eq_true rfl⟩ ⟨rfl, rfl⟩ dX6_loadNumber_21 ?_
    intro v21 I2 hv
    obtain ⟨rfl, hI2⟩ := hv
    exact k_iret C (Nat.le_of_ble_eq_true rfl) (Nat.le_of_ble_eq_true rfl) (⟨rfl, rfl, MQx_no (am_up_id h10).symm hI2 (cdI_1 hc5) (by decide)⟩) dX6_loadNumber_24
  · skip
    have hc5b : cdI (sp_nl r) c = 0 := hc5
    obtain ⟨j, hj, rfl⟩ := cdI_0 hc5b (by omega)
    refine k_aload_n C (f := 0) (i := 0) (p := 0) rfl rfl dX6_loadNumber_8 ?_
    refine k_getR C f_X6_7 (L6_s (by assumption)) (fun _ _ _ => rfl) (L6_0 (by assumption)) dX6_loadNumber_9 ?_
    refine k_iload_n C (f := 1) (i := 1) (p := 1) rfl rfl dX6_loadNumber_12 ?_
    refine k_iload_n C (f := 2) (i := 2) (p := 2) rfl rfl dX6_loadNumber_13 ?_
    refine k_callSp C s_X6_56 h_X6_loadAt (ct_X6_loadAt ) rfl rfl (Nat.le_of_ble_eq_true rfl) ⟨Nat.le_of_ble_eq_true rfl, Nat.le_of_ble_eq_true rfl⟩ ⟨Nat.le_of_ble_eq_true rfl, Nat.le_of_ble_eq_true rfl⟩ ⟨rfl, rfl⟩ dX6_loadNumber_14 ?_
    refine k_iald C (A6_0 (by assumption)) (by first | rfl | assumption) (by omega) (by decide) (MRx (i := 140 + 4 * j + f) hm (by omega) (by omega)) dX6_loadNumber_17 ?_
    exact k_iret C (Nat.le_of_ble_eq_true rfl) (Nat.le_of_ble_eq_true rfl) (⟨rfl, rfl, MQx_ok (am_up_id h10).symm hc5b (by rw [nI_clamp (by omega)])⟩) dX6_loadNumber_18
set_option maxHeartbeats 4000000 in
set_option maxRecDepth 100000 in
theorem ct_X6_pace {G : am_G} {Λ : am_L} {I : am_I} {J : am_J} {y : Nat} {r : Nat → Int32} {c : Int32} (hx : ModLay Λ y) (hm : MRow I (y + 1) 0 r) (hok : RowOk r) : am_Ct G yX6_pace cX6_pace 2 (some .int) { frames := 3, cells := 0, slots := 0, locals := 65 } [.ref y, .int c] Λ I J (am_gen Λ J (fun v I' => MQx I y (cdI (sp_nc r) c) (some (.int (r (10 + 8 * c.toNatClampNeg)))) v I')) am_never := by
  refine am_ct_of (own := RX6) rfl (by decide) (Nat.le_of_ble_eq_true rfl) (fun X C => ?_)
  change am_K G X { frames := 3, cells := 0, slots := 0, locals := 65 } 2 Λ I J 0 0 0 [(0, .ref y), (1, .int c)] []
  have hs := A6_0 hx
  have hB := hok.B
  have hD := hok.D
  have hB9 := hB
  obtain ⟨⟨h6, h7, h8, h9⟩, hnc, hnw, hns, hnl⟩ := hB9
  refine k_aload_n C (f := 0) (i := 0) (p := 0) rfl rfl dX6_pace_0 ?_
  refine k_iconst C ic_0 dX6_pace_1 ?_
  refine k_putI C f_X6_60 (L6_s (by assumption)) rfl rfl dX6_pace_2 ?_
  obtain ⟨I1, hI1⟩ : ∃ z : am_I, z = am_up I y 10 (nI 0) := ⟨_, rfl⟩
  rw [← hI1]
  have hm1 : MRow I1 (y + 1) 0 r := MR_ne hm (by rw [hI1]; exact am_up_ne (by omega))
  have h10 : I1 y 10 = nI 0 := by rw [hI1, am_up_eq]
  refine k_aload_n C (f := 0) (i := 0) (p := 0) rfl rfl dX6_pace_5 ?_
  refine k_iload_n C (f := 1) (i := 1) (p := 1) rfl rfl dX6_pace_6 ?_
  refine k_iconst C ic_0 dX6_pace_7 ?_
  refine k_callVg C s_X6_247 h_X6_camelNumber (L6_s (by assumption)) rfl (ct_X6_camelNumber hx hm1 hok h10 (by decide)) rfl rfl (Nat.le_of_ble_eq_true rfl) ⟨Nat.le_of_ble_eq_true rfl, Nat.le_of_ble_eq_true rfl⟩ ⟨Nat.le_of_ble_eq_true rfl, Nat.le_of_ble_eq_true rfl⟩ ⟨rfl, rfl⟩ dX6_pace_8 ?_
  intro v8 I2 hv
  obtain ⟨⟨b, rfl⟩, hv2, hv3⟩ := hv
  exact k_iret C (Nat.le_of_ble_eq_true rfl) (Nat.le_of_ble_eq_true rfl) (⟨rfl, rfl, MQx_re ⟨⟨b, rfl⟩, hv2, hv3⟩ hI1 (congrArg (fun z => some (Value.int (r z))) (by omega))⟩) dX6_pace_11
set_option maxHeartbeats 4000000 in
set_option maxRecDepth 100000 in
theorem ct_X6_water {G : am_G} {Λ : am_L} {I : am_I} {J : am_J} {y : Nat} {r : Nat → Int32} {c : Int32} (hx : ModLay Λ y) (hm : MRow I (y + 1) 0 r) (hok : RowOk r) : am_Ct G yX6_water cX6_water 2 (some .int) { frames := 3, cells := 0, slots := 0, locals := 65 } [.ref y, .int c] Λ I J (am_gen Λ J (fun v I' => MQx I y (cdI (sp_nc r) c) (some (.int (r (13 + 8 * c.toNatClampNeg)))) v I')) am_never := by
  refine am_ct_of (own := RX6) rfl (by decide) (Nat.le_of_ble_eq_true rfl) (fun X C => ?_)
  change am_K G X { frames := 3, cells := 0, slots := 0, locals := 65 } 2 Λ I J 0 0 0 [(0, .ref y), (1, .int c)] []
  have hs := A6_0 hx
  have hB := hok.B
  have hD := hok.D
  have hB9 := hB
  obtain ⟨⟨h6, h7, h8, h9⟩, hnc, hnw, hns, hnl⟩ := hB9
  refine k_aload_n C (f := 0) (i := 0) (p := 0) rfl rfl dX6_water_0 ?_
  refine k_iconst C ic_0 dX6_water_1 ?_
  refine k_putI C f_X6_60 (L6_s (by assumption)) rfl rfl dX6_water_2 ?_
  obtain ⟨I1, hI1⟩ : ∃ z : am_I, z = am_up I y 10 (nI 0) := ⟨_, rfl⟩
  rw [← hI1]
  have hm1 : MRow I1 (y + 1) 0 r := MR_ne hm (by rw [hI1]; exact am_up_ne (by omega))
  have h10 : I1 y 10 = nI 0 := by rw [hI1, am_up_eq]
  refine k_aload_n C (f := 0) (i := 0) (p := 0) rfl rfl dX6_water_5 ?_
  refine k_iload_n C (f := 1) (i := 1) (p := 1) rfl rfl dX6_water_6 ?_
  refine k_iconst C ic_3 dX6_water_7 ?_
  refine k_callVg C s_X6_247 h_X6_camelNumber (L6_s (by assumption)) rfl (ct_X6_camelNumber hx hm1 hok h10 (by decide)) rfl rfl (Nat.le_of_ble_eq_true rfl) ⟨Nat.le_of_ble_eq_true rfl, Nat.le_of_ble_eq_true rfl⟩ ⟨Nat.le_of_ble_eq_true rfl, Nat.le_of_ble_eq_true rfl⟩ ⟨rfl, rfl⟩ dX6_water_8 ?_
  intro v8 I2 hv
  obtain ⟨⟨b, rfl⟩, hv2, hv3⟩ := hv
  exact k_iret C (Nat.le_of_ble_eq_true rfl) (Nat.le_of_ble_eq_true rfl) (⟨rfl, rfl, MQx_re ⟨⟨b, rfl⟩, hv2, hv3⟩ hI1 (congrArg (fun z => some (Value.int (r z))) (by omega))⟩) dX6_water_11
set_option maxHeartbeats 4000000 in
set_option maxRecDepth 100000 in
theorem ct_X6_tank {G : am_G} {Λ : am_L} {I : am_I} {J : am_J} {y : Nat} {r : Nat → Int32} {c : Int32} (hx : ModLay Λ y) (hm : MRow I (y + 1) 0 r) (hok : RowOk r) : am_Ct G yX6_tank cX6_tank 2 (some .int) { frames := 3, cells := 0, slots := 0, locals := 65 } [.ref y, .int c] Λ I J (am_gen Λ J (fun v I' => MQx I y (cdI (sp_nc r) c) (some (.int (r (12 + 8 * c.toNatClampNeg)))) v I')) am_never := by
  refine am_ct_of (own := RX6) rfl (by decide) (Nat.le_of_ble_eq_true rfl) (fun X C => ?_)
  change am_K G X { frames := 3, cells := 0, slots := 0, locals := 65 } 2 Λ I J 0 0 0 [(0, .ref y), (1, .int c)] []
  have hs := A6_0 hx
  have hB := hok.B
  have hD := hok.D
  have hB9 := hB
  obtain ⟨⟨h6, h7, h8, h9⟩, hnc, hnw, hns, hnl⟩ := hB9
  refine k_aload_n C (f := 0) (i := 0) (p := 0) rfl rfl dX6_tank_0 ?_
  refine k_iconst C ic_0 dX6_tank_1 ?_
  refine k_putI C f_X6_60 (L6_s (by assumption)) rfl rfl dX6_tank_2 ?_
  obtain ⟨I1, hI1⟩ : ∃ z : am_I, z = am_up I y 10 (nI 0) := ⟨_, rfl⟩
  rw [← hI1]
  have hm1 : MRow I1 (y + 1) 0 r := MR_ne hm (by rw [hI1]; exact am_up_ne (by omega))
  have h10 : I1 y 10 = nI 0 := by rw [hI1, am_up_eq]
  refine k_aload_n C (f := 0) (i := 0) (p := 0) rfl rfl dX6_tank_5 ?_
  refine k_iload_n C (f := 1) (i := 1) (p := 1) rfl rfl dX6_tank_6 ?_
  refine k_iconst C ic_2 dX6_tank_7 ?_
  refine k_callVg C s_X6_247 h_X6_camelNumber (L6_s (by assumption)) rfl (ct_X6_camelNumber hx hm1 hok h10 (by decide)) rfl rfl (Nat.le_of_ble_eq_true rfl) ⟨Nat.le_of_ble_eq_true rfl, Nat.le_of_ble_eq_true rfl⟩ ⟨Nat.le_of_ble_eq_true rfl, Nat.le_of_ble_eq_true rfl⟩ ⟨rfl, rfl⟩ dX6_tank_8 ?_
  intro v8 I2 hv
  obtain ⟨⟨b, rfl⟩, hv2, hv3⟩ := hv
  exact k_iret C (Nat.le_of_ble_eq_true rfl) (Nat.le_of_ble_eq_true rfl) (⟨rfl, rfl, MQx_re ⟨⟨b, rfl⟩, hv2, hv3⟩ hI1 (congrArg (fun z => some (Value.int (r z))) (by omega))⟩) dX6_tank_11
set_option maxHeartbeats 4000000 in
set_option maxRecDepth 100000 in
theorem ct_X6_strain {G : am_G} {Λ : am_L} {I : am_I} {J : am_J} {y : Nat} {r : Nat → Int32} {c : Int32} (hx : ModLay Λ y) (hm : MRow I (y + 1) 0 r) (hok : RowOk r) : am_Ct G yX6_strain cX6_strain 2 (some .int) { frames := 3, cells := 0, slots := 0, locals := 65 } [.ref y, .int c] Λ I J (am_gen Λ J (fun v I' => MQx I y (cdI (sp_nc r) c) (some (.int (r (14 + 8 * c.toNatClampNeg)))) v I')) am_never := by
  refine am_ct_of (own := RX6) rfl (by decide) (Nat.le_of_ble_eq_true rfl) (fun X C => ?_)
  change am_K G X { frames := 3, cells := 0, slots := 0, locals := 65 } 2 Λ I J 0 0 0 [(0, .ref y), (1, .int c)] []
  have hs := A6_0 hx
  have hB := hok.B
  have hD := hok.D
  have hB9 := hB
  obtain ⟨⟨h6, h7, h8, h9⟩, hnc, hnw, hns, hnl⟩ := hB9
  refine k_aload_n C (f := 0) (i := 0) (p := 0) rfl rfl dX6_strain_0 ?_
  refine k_iconst C ic_0 dX6_strain_1 ?_
  refine k_putI C f_X6_60 (L6_s (by assumption)) rfl rfl dX6_strain_2 ?_
  obtain ⟨I1, hI1⟩ : ∃ z : am_I, z = am_up I y 10 (nI 0) := ⟨_, rfl⟩
  rw [← hI1]
  have hm1 : MRow I1 (y + 1) 0 r := MR_ne hm (by rw [hI1]; exact am_up_ne (by omega))
  have h10 : I1 y 10 = nI 0 := by rw [hI1, am_up_eq]
  refine k_aload_n C (f := 0) (i := 0) (p := 0) rfl rfl dX6_strain_5 ?_
  refine k_iload_n C (f := 1) (i := 1) (p := 1) rfl rfl dX6_strain_6 ?_
  refine k_iconst C ic_4 dX6_strain_7 ?_
  refine k_callVg C s_X6_247 h_X6_camelNumber (L6_s (by assumption)) rfl (ct_X6_camelNumber hx hm1 hok h10 (by decide)) rfl rfl (Nat.le_of_ble_eq_true rfl) ⟨Nat.le_of_ble_eq_true rfl, Nat.le_of_ble_eq_true rfl⟩ ⟨Nat.le_of_ble_eq_true rfl, Nat.le_of_ble_eq_true rfl⟩ ⟨rfl, rfl⟩ dX6_strain_8 ?_
  intro v8 I2 hv
  obtain ⟨⟨b, rfl⟩, hv2, hv3⟩ := hv
  exact k_iret C (Nat.le_of_ble_eq_true rfl) (Nat.le_of_ble_eq_true rfl) (⟨rfl, rfl, MQx_re ⟨⟨b, rfl⟩, hv2, hv3⟩ hI1 (congrArg (fun z => some (Value.int (r z))) (by omega))⟩) dX6_strain_11
set_option maxHeartbeats 4000000 in
set_option maxRecDepth 100000 in
theorem ct_X6_lameDays {G : am_G} {Λ : am_L} {I : am_I} {J : am_J} {y : Nat} {r : Nat → Int32} {c : Int32} (hx : ModLay Λ y) (hm : MRow I (y + 1) 0 r) (hok : RowOk r) : am_Ct G yX6_lameDays cX6_lameDays 2 (some .int) { frames := 3, cells := 0, slots := 0, locals := 65 } [.ref y, .int c] Λ I J (am_gen Λ J (fun v I' => MQx I y (cdI (sp_nc r) c) (some (.int (r (15 + 8 * c.toNatClampNeg)))) v I')) am_never := by
  refine am_ct_of (own := RX6) rfl (by decide) (Nat.le_of_ble_eq_true rfl) (fun X C => ?_)
  change am_K G X { frames := 3, cells := 0, slots := 0, locals := 65 } 2 Λ I J 0 0 0 [(0, .ref y), (1, .int c)] []
  have hs := A6_0 hx
  have hB := hok.B
  have hD := hok.D
  have hB9 := hB
  obtain ⟨⟨h6, h7, h8, h9⟩, hnc, hnw, hns, hnl⟩ := hB9
  refine k_aload_n C (f := 0) (i := 0) (p := 0) rfl rfl dX6_lameDays_0 ?_
  refine k_iconst C ic_0 dX6_lameDays_1 ?_
  refine k_putI C f_X6_60 (L6_s (by assumption)) rfl rfl dX6_lameDays_2 ?_
  obtain ⟨I1, hI1⟩ : ∃ z : am_I, z = am_up I y 10 (nI 0) := ⟨_, rfl⟩
  rw [← hI1]
  have hm1 : MRow I1 (y + 1) 0 r := MR_ne hm (by rw [hI1]; exact am_up_ne (by omega))
  have h10 : I1 y 10 = nI 0 := by rw [hI1, am_up_eq]
  refine k_aload_n C (f := 0) (i := 0) (p := 0) rfl rfl dX6_lameDays_5 ?_
  refine k_iload_n C (f := 1) (i := 1) (p := 1) rfl rfl dX6_lameDays_6 ?_
  refine k_iconst C ic_5 dX6_lameDays_7 ?_
  refine k_callVg C s_X6_247 h_X6_camelNumber (L6_s (by assumption)) rfl (ct_X6_camelNumber hx hm1 hok h10 (by decide)) rfl rfl (Nat.le_of_ble_eq_true rfl) ⟨Nat.le_of_ble_eq_true rfl, Nat.le_of_ble_eq_true rfl⟩ ⟨Nat.le_of_ble_eq_true rfl, Nat.le_of_ble_eq_true rfl⟩ ⟨rfl, rfl⟩ dX6_lameDays_8 ?_
  intro v8 I2 hv
  obtain ⟨⟨b, rfl⟩, hv2, hv3⟩ := hv
  exact k_iret C (Nat.le_of_ble_eq_true rfl) (Nat.le_of_ble_eq_true rfl) (⟨rfl, rfl, MQx_re ⟨⟨b, rfl⟩, hv2, hv3⟩ hI1 (congrArg (fun z => some (Value.int (r z))) (by omega))⟩) dX6_lameDays_11
set_option maxHeartbeats 4000000 in
set_option maxRecDepth 100000 in
theorem ct_X6_dryDays {G : am_G} {Λ : am_L} {I : am_I} {J : am_J} {y : Nat} {r : Nat → Int32} {c : Int32} (hx : ModLay Λ y) (hm : MRow I (y + 1) 0 r) (hok : RowOk r) : am_Ct G yX6_dryDays cX6_dryDays 2 (some .int) { frames := 3, cells := 0, slots := 0, locals := 65 } [.ref y, .int c] Λ I J (am_gen Λ J (fun v I' => MQx I y (cdI (sp_nc r) c) (some (.int (r (16 + 8 * c.toNatClampNeg)))) v I')) am_never := by
  refine am_ct_of (own := RX6) rfl (by decide) (Nat.le_of_ble_eq_true rfl) (fun X C => ?_)
  change am_K G X { frames := 3, cells := 0, slots := 0, locals := 65 } 2 Λ I J 0 0 0 [(0, .ref y), (1, .int c)] []
  have hs := A6_0 hx
  have hB := hok.B
  have hD := hok.D
  have hB9 := hB
  obtain ⟨⟨h6, h7, h8, h9⟩, hnc, hnw, hns, hnl⟩ := hB9
  refine k_aload_n C (f := 0) (i := 0) (p := 0) rfl rfl dX6_dryDays_0 ?_
  refine k_iconst C ic_0 dX6_dryDays_1 ?_
  refine k_putI C f_X6_60 (L6_s (by assumption)) rfl rfl dX6_dryDays_2 ?_
  obtain ⟨I1, hI1⟩ : ∃ z : am_I, z = am_up I y 10 (nI 0) := ⟨_, rfl⟩
  rw [← hI1]
  have hm1 : MRow I1 (y + 1) 0 r := MR_ne hm (by rw [hI1]; exact am_up_ne (by omega))
  have h10 : I1 y 10 = nI 0 := by rw [hI1, am_up_eq]
  refine k_aload_n C (f := 0) (i := 0) (p := 0) rfl rfl dX6_dryDays_5 ?_
  refine k_iload_n C (f := 1) (i := 1) (p := 1) rfl rfl dX6_dryDays_6 ?_
  refine k_bipush C bc_6 dX6_dryDays_7 ?_
  refine k_callVg C s_X6_247 h_X6_camelNumber (L6_s (by assumption)) rfl (ct_X6_camelNumber hx hm1 hok h10 (by decide)) rfl rfl (Nat.le_of_ble_eq_true rfl) ⟨Nat.le_of_ble_eq_true rfl, Nat.le_of_ble_eq_true rfl⟩ ⟨Nat.le_of_ble_eq_true rfl, Nat.le_of_ble_eq_true rfl⟩ ⟨rfl, rfl⟩ dX6_dryDays_9 ?_
  intro v9 I2 hv
  obtain ⟨⟨b, rfl⟩, hv2, hv3⟩ := hv
  exact k_iret C (Nat.le_of_ble_eq_true rfl) (Nat.le_of_ble_eq_true rfl) (⟨rfl, rfl, MQx_re ⟨⟨b, rfl⟩, hv2, hv3⟩ hI1 (congrArg (fun z => some (Value.int (r z))) (by omega))⟩) dX6_dryDays_12
set_option maxHeartbeats 4000000 in
set_option maxRecDepth 100000 in
theorem ct_X6_wellKilometre {G : am_G} {Λ : am_L} {I : am_I} {J : am_J} {y : Nat} {r : Nat → Int32} {c : Int32} (hx : ModLay Λ y) (hm : MRow I (y + 1) 0 r) (hok : RowOk r) : am_Ct G yX6_wellKilometre cX6_wellKilometre 2 (some .int) { frames := 3, cells := 0, slots := 0, locals := 65 } [.ref y, .int c] Λ I J (am_gen Λ J (fun v I' => MQx I y (cdI (sp_nw r) c) (some (.int (r (90 + 4 * c.toNatClampNeg)))) v I')) am_never := by
  refine am_ct_of (own := RX6) rfl (by decide) (Nat.le_of_ble_eq_true rfl) (fun X C => ?_)
  change am_K G X { frames := 3, cells := 0, slots := 0, locals := 65 } 2 Λ I J 0 0 0 [(0, .ref y), (1, .int c)] []
  have hs := A6_0 hx
  have hB := hok.B
  have hD := hok.D
  have hB9 := hB
  obtain ⟨⟨h6, h7, h8, h9⟩, hnc, hnw, hns, hnl⟩ := hB9
  refine k_aload_n C (f := 0) (i := 0) (p := 0) rfl rfl dX6_wellKilometre_0 ?_
  refine k_iconst C ic_0 dX6_wellKilometre_1 ?_
  refine k_putI C f_X6_60 (L6_s (by assumption)) rfl rfl dX6_wellKilometre_2 ?_
  obtain ⟨I1, hI1⟩ : ∃ z : am_I, z = am_up I y 10 (nI 0) := ⟨_, rfl⟩
  rw [← hI1]
  have hm1 : MRow I1 (y + 1) 0 r := MR_ne hm (by rw [hI1]; exact am_up_ne (by omega))
  have h10 : I1 y 10 = nI 0 := by rw [hI1, am_up_eq]
  refine k_aload_n C (f := 0) (i := 0) (p := 0) rfl rfl dX6_wellKilometre_5 ?_
  refine k_iload_n C (f := 1) (i := 1) (p := 1) rfl rfl dX6_wellKilometre_6 ?_
  refine k_iconst C ic_0 dX6_wellKilometre_7 ?_
  refine k_callVg C s_X6_241 h_X6_wellNumber (L6_s (by assumption)) rfl (ct_X6_wellNumber hx hm1 hok h10 (by decide)) rfl rfl (Nat.le_of_ble_eq_true rfl) ⟨Nat.le_of_ble_eq_true rfl, Nat.le_of_ble_eq_true rfl⟩ ⟨Nat.le_of_ble_eq_true rfl, Nat.le_of_ble_eq_true rfl⟩ ⟨rfl, rfl⟩ dX6_wellKilometre_8 ?_
  intro v8 I2 hv
  obtain ⟨⟨b, rfl⟩, hv2, hv3⟩ := hv
  exact k_iret C (Nat.le_of_ble_eq_true rfl) (Nat.le_of_ble_eq_true rfl) (⟨rfl, rfl, MQx_re ⟨⟨b, rfl⟩, hv2, hv3⟩ hI1 (congrArg (fun z => some (Value.int (r z))) (by omega))⟩) dX6_wellKilometre_11
set_option maxHeartbeats 4000000 in
set_option maxRecDepth 100000 in
theorem ct_X6_wellLevel {G : am_G} {Λ : am_L} {I : am_I} {J : am_J} {y : Nat} {r : Nat → Int32} {c : Int32} (hx : ModLay Λ y) (hm : MRow I (y + 1) 0 r) (hok : RowOk r) : am_Ct G yX6_wellLevel cX6_wellLevel 2 (some .int) { frames := 3, cells := 0, slots := 0, locals := 65 } [.ref y, .int c] Λ I J (am_gen Λ J (fun v I' => MQx I y (cdI (sp_nw r) c) (some (.int (r (93 + 4 * c.toNatClampNeg)))) v I')) am_never := by
  refine am_ct_of (own := RX6) rfl (by decide) (Nat.le_of_ble_eq_true rfl) (fun X C => ?_)
  change am_K G X { frames := 3, cells := 0, slots := 0, locals := 65 } 2 Λ I J 0 0 0 [(0, .ref y), (1, .int c)] []
  have hs := A6_0 hx
  have hB := hok.B
  have hD := hok.D
  have hB9 := hB
  obtain ⟨⟨h6, h7, h8, h9⟩, hnc, hnw, hns, hnl⟩ := hB9
  refine k_aload_n C (f := 0) (i := 0) (p := 0) rfl rfl dX6_wellLevel_0 ?_
  refine k_iconst C ic_0 dX6_wellLevel_1 ?_
  refine k_putI C f_X6_60 (L6_s (by assumption)) rfl rfl dX6_wellLevel_2 ?_
  obtain ⟨I1, hI1⟩ : ∃ z : am_I, z = am_up I y 10 (nI 0) := ⟨_, rfl⟩
  rw [← hI1]
  have hm1 : MRow I1 (y + 1) 0 r := MR_ne hm (by rw [hI1]; exact am_up_ne (by omega))
  have h10 : I1 y 10 = nI 0 := by rw [hI1, am_up_eq]
  refine k_aload_n C (f := 0) (i := 0) (p := 0) rfl rfl dX6_wellLevel_5 ?_
  refine k_iload_n C (f := 1) (i := 1) (p := 1) rfl rfl dX6_wellLevel_6 ?_
  refine k_iconst C ic_3 dX6_wellLevel_7 ?_
  refine k_callVg C s_X6_241 h_X6_wellNumber (L6_s (by assumption)) rfl (ct_X6_wellNumber hx hm1 hok h10 (by decide)) rfl rfl (Nat.le_of_ble_eq_true rfl) ⟨Nat.le_of_ble_eq_true rfl, Nat.le_of_ble_eq_true rfl⟩ ⟨Nat.le_of_ble_eq_true rfl, Nat.le_of_ble_eq_true rfl⟩ ⟨rfl, rfl⟩ dX6_wellLevel_8 ?_
  intro v8 I2 hv
  obtain ⟨⟨b, rfl⟩, hv2, hv3⟩ := hv
  exact k_iret C (Nat.le_of_ble_eq_true rfl) (Nat.le_of_ble_eq_true rfl) (⟨rfl, rfl, MQx_re ⟨⟨b, rfl⟩, hv2, hv3⟩ hI1 (congrArg (fun z => some (Value.int (r z))) (by omega))⟩) dX6_wellLevel_11
set_option maxHeartbeats 4000000 in
set_option maxRecDepth 100000 in
theorem ct_X6_wellCapacity {G : am_G} {Λ : am_L} {I : am_I} {J : am_J} {y : Nat} {r : Nat → Int32} {c : Int32} (hx : ModLay Λ y) (hm : MRow I (y + 1) 0 r) (hok : RowOk r) : am_Ct G yX6_wellCapacity cX6_wellCapacity 2 (some .int) { frames := 3, cells := 0, slots := 0, locals := 65 } [.ref y, .int c] Λ I J (am_gen Λ J (fun v I' => MQx I y (cdI (sp_nw r) c) (some (.int (r (91 + 4 * c.toNatClampNeg)))) v I')) am_never := by
  refine am_ct_of (own := RX6) rfl (by decide) (Nat.le_of_ble_eq_true rfl) (fun X C => ?_)
  change am_K G X { frames := 3, cells := 0, slots := 0, locals := 65 } 2 Λ I J 0 0 0 [(0, .ref y), (1, .int c)] []
  have hs := A6_0 hx
  have hB := hok.B
  have hD := hok.D
  have hB9 := hB
  obtain ⟨⟨h6, h7, h8, h9⟩, hnc, hnw, hns, hnl⟩ := hB9
  refine k_aload_n C (f := 0) (i := 0) (p := 0) rfl rfl dX6_wellCapacity_0 ?_
  refine k_iconst C ic_0 dX6_wellCapacity_1 ?_
  refine k_putI C f_X6_60 (L6_s (by assumption)) rfl rfl dX6_wellCapacity_2 ?_
  obtain ⟨I1, hI1⟩ : ∃ z : am_I, z = am_up I y 10 (nI 0) := ⟨_, rfl⟩
  rw [← hI1]
  have hm1 : MRow I1 (y + 1) 0 r := MR_ne hm (by rw [hI1]; exact am_up_ne (by omega))
  have h10 : I1 y 10 = nI 0 := by rw [hI1, am_up_eq]
  refine k_aload_n C (f := 0) (i := 0) (p := 0) rfl rfl dX6_wellCapacity_5 ?_
  refine k_iload_n C (f := 1) (i := 1) (p := 1) rfl rfl dX6_wellCapacity_6 ?_
  refine k_iconst C ic_1 dX6_wellCapacity_7 ?_
  refine k_callVg C s_X6_241 h_X6_wellNumber (L6_s (by assumption)) rfl (ct_X6_wellNumber hx hm1 hok h10 (by decide)) rfl rfl (Nat.le_of_ble_eq_true rfl) ⟨Nat.le_of_ble_eq_true rfl, Nat.le_of_ble_eq_true rfl⟩ ⟨Nat.le_of_ble_eq_true rfl, Nat.le_of_ble_eq_true rfl⟩ ⟨rfl, rfl⟩ dX6_wellCapacity_8 ?_
  intro v8 I2 hv
  obtain ⟨⟨b, rfl⟩, hv2, hv3⟩ := hv
  exact k_iret C (Nat.le_of_ble_eq_true rfl) (Nat.le_of_ble_eq_true rfl) (⟨rfl, rfl, MQx_re ⟨⟨b, rfl⟩, hv2, hv3⟩ hI1 (congrArg (fun z => some (Value.int (r z))) (by omega))⟩) dX6_wellCapacity_11
set_option maxHeartbeats 4000000 in
set_option maxRecDepth 100000 in
theorem ct_X6_weightOf {G : am_G} {Λ : am_L} {I : am_I} {J : am_J} {y : Nat} {r : Nat → Int32} {c : Int32} (hx : ModLay Λ y) (hm : MRow I (y + 1) 0 r) (hok : RowOk r) : am_Ct G yX6_weightOf cX6_weightOf 2 (some .int) { frames := 3, cells := 0, slots := 0, locals := 65 } [.ref y, .int c] Λ I J (am_gen Λ J (fun v I' => MQx I y (cdI (sp_nl r) c) (some (.int (r (140 + 4 * c.toNatClampNeg)))) v I')) am_never := by
  refine am_ct_of (own := RX6) rfl (by decide) (Nat.le_of_ble_eq_true rfl) (fun X C => ?_)
  change am_K G X { frames := 3, cells := 0, slots := 0, locals := 65 } 2 Λ I J 0 0 0 [(0, .ref y), (1, .int c)] []
  have hs := A6_0 hx
  have hB := hok.B
  have hD := hok.D
  have hB9 := hB
  obtain ⟨⟨h6, h7, h8, h9⟩, hnc, hnw, hns, hnl⟩ := hB9
  refine k_aload_n C (f := 0) (i := 0) (p := 0) rfl rfl dX6_weightOf_0 ?_
  refine k_iconst C ic_0 dX6_weightOf_1 ?_
  refine k_putI C f_X6_60 (L6_s (by assumption)) rfl rfl dX6_weightOf_2 ?_
  obtain ⟨I1, hI1⟩ : ∃ z : am_I, z = am_up I y 10 (nI 0) := ⟨_, rfl⟩
  rw [← hI1]
  have hm1 : MRow I1 (y + 1) 0 r := MR_ne hm (by rw [hI1]; exact am_up_ne (by omega))
  have h10 : I1 y 10 = nI 0 := by rw [hI1, am_up_eq]
  refine k_aload_n C (f := 0) (i := 0) (p := 0) rfl rfl dX6_weightOf_5 ?_
  refine k_iload_n C (f := 1) (i := 1) (p := 1) rfl rfl dX6_weightOf_6 ?_
  refine k_iconst C ic_0 dX6_weightOf_7 ?_
  refine k_callVg C s_X6_256 h_X6_loadNumber (L6_s (by assumption)) rfl (ct_X6_loadNumber hx hm1 hok h10 (by decide)) rfl rfl (Nat.le_of_ble_eq_true rfl) ⟨Nat.le_of_ble_eq_true rfl, Nat.le_of_ble_eq_true rfl⟩ ⟨Nat.le_of_ble_eq_true rfl, Nat.le_of_ble_eq_true rfl⟩ ⟨rfl, rfl⟩ dX6_weightOf_8 ?_
  intro v8 I2 hv
  obtain ⟨⟨b, rfl⟩, hv2, hv3⟩ := hv
  exact k_iret C (Nat.le_of_ble_eq_true rfl) (Nat.le_of_ble_eq_true rfl) (⟨rfl, rfl, MQx_re ⟨⟨b, rfl⟩, hv2, hv3⟩ hI1 (congrArg (fun z => some (Value.int (r z))) (by omega))⟩) dX6_weightOf_11
set_option maxHeartbeats 4000000 in
set_option maxRecDepth 100000 in
theorem ct_X6_valueOf {G : am_G} {Λ : am_L} {I : am_I} {J : am_J} {y : Nat} {r : Nat → Int32} {c : Int32} (hx : ModLay Λ y) (hm : MRow I (y + 1) 0 r) (hok : RowOk r) : am_Ct G yX6_valueOf cX6_valueOf 2 (some .int) { frames := 3, cells := 0, slots := 0, locals := 65 } [.ref y, .int c] Λ I J (am_gen Λ J (fun v I' => MQx I y (cdI (sp_nl r) c) (some (.int (r (141 + 4 * c.toNatClampNeg)))) v I')) am_never := by
  refine am_ct_of (own := RX6) rfl (by decide) (Nat.le_of_ble_eq_true rfl) (fun X C => ?_)
  change am_K G X { frames := 3, cells := 0, slots := 0, locals := 65 } 2 Λ I J 0 0 0 [(0, .ref y), (1, .int c)] []
  have hs := A6_0 hx
  have hB := hok.B
  have hD := hok.D
  have hB9 := hB
  obtain ⟨⟨h6, h7, h8, h9⟩, hnc, hnw, hns, hnl⟩ := hB9
  refine k_aload_n C (f := 0) (i := 0) (p := 0) rfl rfl dX6_valueOf_0 ?_
  refine k_iconst C ic_0 dX6_valueOf_1 ?_
  refine k_putI C f_X6_60 (L6_s (by assumption)) rfl rfl dX6_valueOf_2 ?_
  obtain ⟨I1, hI1⟩ : ∃ z : am_I, z = am_up I y 10 (nI 0) := ⟨_, rfl⟩
  rw [← hI1]
  have hm1 : MRow I1 (y + 1) 0 r := MR_ne hm (by rw [hI1]; exact am_up_ne (by omega))
  have h10 : I1 y 10 = nI 0 := by rw [hI1, am_up_eq]
  refine k_aload_n C (f := 0) (i := 0) (p := 0) rfl rfl dX6_valueOf_5 ?_
  refine k_iload_n C (f := 1) (i := 1) (p := 1) rfl rfl dX6_valueOf_6 ?_
  refine k_iconst C ic_1 dX6_valueOf_7 ?_
  refine k_callVg C s_X6_256 h_X6_loadNumber (L6_s (by assumption)) rfl (ct_X6_loadNumber hx hm1 hok h10 (by decide)) rfl rfl (Nat.le_of_ble_eq_true rfl) ⟨Nat.le_of_ble_eq_true rfl, Nat.le_of_ble_eq_true rfl⟩ ⟨Nat.le_of_ble_eq_true rfl, Nat.le_of_ble_eq_true rfl⟩ ⟨rfl, rfl⟩ dX6_valueOf_8 ?_
  intro v8 I2 hv
  obtain ⟨⟨b, rfl⟩, hv2, hv3⟩ := hv
  exact k_iret C (Nat.le_of_ble_eq_true rfl) (Nat.le_of_ble_eq_true rfl) (⟨rfl, rfl, MQx_re ⟨⟨b, rfl⟩, hv2, hv3⟩ hI1 (congrArg (fun z => some (Value.int (r z))) (by omega))⟩) dX6_valueOf_11
set_option maxHeartbeats 4000000 in
set_option maxRecDepth 100000 in
theorem ct_X6_isDead {G : am_G} {Λ : am_L} {I : am_I} {J : am_J} {y : Nat} {r : Nat → Int32} {c : Int32} (hx : ModLay Λ y) (hm : MRow I (y + 1) 0 r) (hok : RowOk r) : am_Ct G yX6_isDead cX6_isDead 2 (some .boolean) { frames := 3, cells := 0, slots := 0, locals := 65 } [.ref y, .int c] Λ I J (am_gen Λ J (fun v I' => MQx I y (cdI (sp_nc r) c) (some (.int (am_b (¬ r (16 + 8 * c.toNatClampNeg) < nI 3)))) v I')) am_never := by
  refine am_ct_of (own := RX6) rfl (by decide) (Nat.le_of_ble_eq_true rfl) (fun X C => ?_)
  change am_K G X { frames := 3, cells := 0, slots := 0, locals := 65 } 2 Λ I J 0 0 0 [(0, .ref y), (1, .int c)] []
  have hs := A6_0 hx
  have hB := hok.B
  have hD := hok.D
  have hB9 := hB
  obtain ⟨⟨h6, h7, h8, h9⟩, hnc, hnw, hns, hnl⟩ := hB9
  refine k_aload_n C (f := 0) (i := 0) (p := 0) rfl rfl dX6_isDead_0 ?_
  refine k_iconst C ic_0 dX6_isDead_1 ?_
  refine k_putI C f_X6_60 (L6_s (by assumption)) rfl rfl dX6_isDead_2 ?_
  obtain ⟨I1, hI1⟩ : ∃ z : am_I, z = am_up I y 10 (nI 0) := ⟨_, rfl⟩
  rw [← hI1]
  have hm1 : MRow I1 (y + 1) 0 r := MR_ne hm (by rw [hI1]; exact am_up_ne (by omega))
  have h10 : I1 y 10 = nI 0 := by rw [hI1, am_up_eq]
  refine k_aload_n C (f := 0) (i := 0) (p := 0) rfl rfl dX6_isDead_5 ?_
  refine k_iload_n C (f := 1) (i := 1) (p := 1) rfl rfl dX6_isDead_6 ?_
  refine k_bipush C bc_7 dX6_isDead_7 ?_
  refine k_callVg C s_X6_247 h_X6_camelNumber (L6_s (by assumption)) rfl (ct_X6_camelNumber hx hm1 hok h10 (by decide)) rfl rfl (Nat.le_of_ble_eq_true rfl) ⟨Nat.le_of_ble_eq_true rfl, Nat.le_of_ble_eq_true rfl⟩ ⟨Nat.le_of_ble_eq_true rfl, Nat.le_of_ble_eq_true rfl⟩ ⟨rfl, rfl⟩ dX6_isDead_9 ?_
  intro v9 I2 hv
  obtain ⟨⟨b, rfl⟩, hv2, hv3⟩ := hv
  refine k_iconst C ic_1 dX6_isDead_12 ?_
  refine k_icmp_ne C (tgt := 20) (by decide) dX6_isDead_13 (fun hc13 => ?_) (fun hc13 => ?_)
  · skip
    refine k_iconst C ic_0 dX6_isDead_20 ?_
    exact k_zret C (by first | rfl | exact am_bz) (Nat.le_of_ble_eq_true rfl) (Nat.le_of_ble_eq_true rfl) (⟨rfl, rfl, ⟨⟨_, rfl⟩, fun z => by
        obtain ⟨j, hj, rfl⟩ := cdI_0 z (by omega)
        have e := hv2 z
        rw [nI_clamp (by omega)] at e ⊢
        have e2 : b = r (17 + 8 * j) := by
          have e3 : b = r (10 + 8 * j + 7) := Value.int.inj (Option.some.inj e)
          rw [e3, show 10 + 8 * j + 7 = 17 + 8 * j by omega]
        have e4 := hD j hj
        by_cases g : r (16 + 8 * j) < nI 3
        · rw [if_pos g] at e4
          first
          | exact congrArg (fun z => some (Value.int z)) (am_bf (fun q => q g))
          | exact absurd (e2.trans e4) (fun q => by rw [q] at hc13; exact absurd hc13 (by decide))
        · rw [if_neg g] at e4
          first
          | exact congrArg (fun z => some (Value.int z)) (am_bt g)
          | exact absurd (e2.trans e4) hc13, by rw [hv3, hI1, am_up_up]⟩⟩) dX6_isDead_21
  · skip
    refine k_iconst C ic_1 dX6_isDead_16 ?_
    refine k_goto C (tgt := 21) (by decide) dX6_isDead_17 ?_
    exact k_zret C (by first | rfl | exact am_bz) (Nat.le_of_ble_eq_true rfl) (Nat.le_of_ble_eq_true rfl) (⟨rfl, rfl, ⟨⟨_, rfl⟩, fun z => by
        obtain ⟨j, hj, rfl⟩ := cdI_0 z (by omega)
        have e := hv2 z
        rw [nI_clamp (by omega)] at e ⊢
        have e2 : b = r (17 + 8 * j) := by
          have e3 : b = r (10 + 8 * j + 7) := Value.int.inj (Option.some.inj e)
          rw [e3, show 10 + 8 * j + 7 = 17 + 8 * j by omega]
        have e4 := hD j hj
        by_cases g : r (16 + 8 * j) < nI 3
        · rw [if_pos g] at e4
          first
          | exact congrArg (fun z => some (Value.int z)) (am_bf (fun q => q g))
          | exact absurd (e2.trans e4) (fun q => by rw [q] at hc13; exact absurd hc13 (by decide))
        · rw [if_neg g] at e4
          first
          | exact congrArg (fun z => some (Value.int z)) (am_bt g)
          | exact absurd (e2.trans e4) hc13, by rw [hv3, hI1, am_up_up]⟩⟩) dX6_isDead_21
set_option maxHeartbeats 4000000 in
set_option maxRecDepth 100000 in
theorem ct_X6_speed {G : am_G} {Λ : am_L} {I : am_I} {J : am_J} {y : Nat} {r : Nat → Int32} {c : Int32} (hx : ModLay Λ y) (hm : MRow I (y + 1) 0 r) (hok : RowOk r) : am_Ct G yX6_speed cX6_speed 2 (some .int) { frames := 3, cells := 0, slots := 0, locals := 66 } [.ref y, .int c] Λ I J (am_gen Λ J (fun v I' => MQx I y (cdI (sp_nc r) c) (some (.int (sp_speed r c.toNatClampNeg))) v I')) am_never := by
  refine am_ct_of (own := RX6) rfl (by decide) (Nat.le_of_ble_eq_true rfl) (fun X C => ?_)
  change am_K G X { frames := 3, cells := 0, slots := 0, locals := 66 } 2 Λ I J 0 0 0 [(0, .ref y), (1, .int c)] []
  have hs := A6_0 hx
  have hB := hok.B
  have hD := hok.D
  have hB9 := hB
  obtain ⟨⟨h6, h7, h8, h9⟩, hnc, hnw, hns, hnl⟩ := hB9
  refine k_aload_n C (f := 0) (i := 0) (p := 0) rfl rfl dX6_speed_0 ?_
  refine k_iconst C ic_0 dX6_speed_1 ?_
  refine k_putI C f_X6_60 (L6_s (by assumption)) rfl rfl dX6_speed_2 ?_
  obtain ⟨I1, hI1⟩ : ∃ z : am_I, z = am_up I y 10 (nI 0) := ⟨_, rfl⟩
  rw [← hI1]
  have hm1 : MRow I1 (y + 1) 0 r := MR_ne hm (by rw [hI1]; exact am_up_ne (by omega))
  have h10 : I1 y 10 = nI 0 := by rw [hI1, am_up_eq]
  refine k_aload_n C (f := 0) (i := 0) (p := 0) rfl rfl dX6_speed_5 ?_
  refine k_iload_n C (f := 1) (i := 1) (p := 1) rfl rfl dX6_speed_6 ?_
  refine k_callVp C s_X6_244 h_X6_isCamel (L6_s (by assumption)) rfl (ct_X6_isCamel hx hm1 hok) rfl rfl (Nat.le_of_ble_eq_true rfl) ⟨Nat.le_of_ble_eq_true rfl, Nat.le_of_ble_eq_true rfl⟩ ⟨Nat.le_of_ble_eq_true rfl, Nat.le_of_ble_eq_true rfl⟩ ⟨rfl, rfl⟩ dX6_speed_7 ?_
  first
  | refine k_ifb_eq C (tgt := 22) (by decide) dX6_speed_10 (fun hc10 => ?_) (fun hc10 => ?_)
  | refine k_if_eq C (tgt := 22) (by decide) dX6_speed_10 (fun hc10 => ?_) (fun hc10 => ?_)
  · skip
    refine k_aload_n C (f := 0) (i := 0) (p := 0) rfl rfl dX6_speed_22 ?_
    refine k_iconst C ic_1 dX6_speed_23 ?_
    refine k_callVg C s_X6_147 h_X6_fails (L6_s (by assumption)) rfl (ct_X6_fails hx) rfl rfl (Nat.le_of_ble_eq_true rfl) ⟨Nat.le_of_ble_eq_true rfl, Nat.le_of_ble_eq_true rfl⟩ ⟨Nat.le_of_ble_eq_true rfl, Nat.le_of_ble_eq_true rfl⟩ ⟨rfl, rfl⟩ dX6_speed_24 ?_
    intro v24 I2 hv
    obtain ⟨rfl, hI2⟩ := hv
    exact k_iret C (Nat.le_of_ble_eq_true rfl) (Nat.le_of_ble_eq_true rfl) (⟨rfl, rfl, MQx_no hI1 hI2 (cdI_1 hc10) (by decide)⟩) dX6_speed_27
  · skip
    have hcd : cdI (sp_nc r) c = 0 := hc10
    obtain ⟨j, hj, rfl⟩ := cdI_0 hcd (by omega)
    refine k_aload_n C (f := 0) (i := 0) (p := 0) rfl rfl dX6_speed_13 ?_
    refine k_getR C f_X6_7 (L6_s (by assumption)) (fun _ _ _ => rfl) (L6_0 (by assumption)) dX6_speed_14 ?_
    refine k_iload_n C (f := 1) (i := 1) (p := 1) rfl rfl dX6_speed_17 ?_
    refine k_callSp C s_X6_91 h_X6_speedOf (ct_X6_speedOf hs hm1 hB hj) rfl rfl (Nat.le_of_ble_eq_true rfl) ⟨Nat.le_of_ble_eq_true rfl, Nat.le_of_ble_eq_true rfl⟩ ⟨Nat.le_of_ble_eq_true rfl, Nat.le_of_ble_eq_true rfl⟩ ⟨rfl, rfl⟩ dX6_speed_18 ?_
    exact k_iret C (Nat.le_of_ble_eq_true rfl) (Nat.le_of_ble_eq_true rfl) (⟨rfl, rfl, MQx_ok hI1 hcd (by first | (rw [nI_clamp (by omega)]; done) | (rw [nI_clamp (by omega)]; rfl))⟩) dX6_speed_21
set_option maxHeartbeats 4000000 in
set_option maxRecDepth 100000 in
theorem ct_X6_carried {G : am_G} {Λ : am_L} {I : am_I} {J : am_J} {y : Nat} {r : Nat → Int32} {c : Int32} (hx : ModLay Λ y) (hm : MRow I (y + 1) 0 r) (hok : RowOk r) : am_Ct G yX6_carried cX6_carried 2 (some .int) { frames := 2, cells := 0, slots := 0, locals := 44 } [.ref y, .int c] Λ I J (am_gen Λ J (fun v I' => MQx I y (cdI (sp_nc r) c) (some (.int (sp_car r c.toNatClampNeg))) v I')) am_never := by
  refine am_ct_of (own := RX6) rfl (by decide) (Nat.le_of_ble_eq_true rfl) (fun X C => ?_)
  change am_K G X { frames := 2, cells := 0, slots := 0, locals := 44 } 2 Λ I J 0 0 0 [(0, .ref y), (1, .int c)] []
  have hs := A6_0 hx
  have hB := hok.B
  have hD := hok.D
  have hB9 := hB
  obtain ⟨⟨h6, h7, h8, h9⟩, hnc, hnw, hns, hnl⟩ := hB9
  refine k_aload_n C (f := 0) (i := 0) (p := 0) rfl rfl dX6_carried_0 ?_
  refine k_iconst C ic_0 dX6_carried_1 ?_
  refine k_putI C f_X6_60 (L6_s (by assumption)) rfl rfl dX6_carried_2 ?_
  obtain ⟨I1, hI1⟩ : ∃ z : am_I, z = am_up I y 10 (nI 0) := ⟨_, rfl⟩
  rw [← hI1]
  have hm1 : MRow I1 (y + 1) 0 r := MR_ne hm (by rw [hI1]; exact am_up_ne (by omega))
  have h10 : I1 y 10 = nI 0 := by rw [hI1, am_up_eq]
  refine k_aload_n C (f := 0) (i := 0) (p := 0) rfl rfl dX6_carried_5 ?_
  refine k_iload_n C (f := 1) (i := 1) (p := 1) rfl rfl dX6_carried_6 ?_
  refine k_callVp C s_X6_244 h_X6_isCamel (L6_s (by assumption)) rfl (ct_X6_isCamel hx hm1 hok) rfl rfl (Nat.le_of_ble_eq_true rfl) ⟨Nat.le_of_ble_eq_true rfl, Nat.le_of_ble_eq_true rfl⟩ ⟨Nat.le_of_ble_eq_true rfl, Nat.le_of_ble_eq_true rfl⟩ ⟨rfl, rfl⟩ dX6_carried_7 ?_
  first
  | refine k_ifb_eq C (tgt := 22) (by decide) dX6_carried_10 (fun hc10 => ?_) (fun hc10 => ?_)
  | refine k_if_eq C (tgt := 22) (by decide) dX6_carried_10 (fun hc10 => ?_) (fun hc10 => ?_)
  · skip
    refine k_aload_n C (f := 0) (i := 0) (p := 0) rfl rfl dX6_carried_22 ?_
    refine k_iconst C ic_1 dX6_carried_23 ?_
    refine k_callVg C s_X6_147 h_X6_fails (L6_s (by assumption)) rfl (ct_X6_fails hx) rfl rfl (Nat.le_of_ble_eq_true rfl) ⟨Nat.le_of_ble_eq_true rfl, Nat.le_of_ble_eq_true rfl⟩ ⟨Nat.le_of_ble_eq_true rfl, Nat.le_of_ble_eq_true rfl⟩ ⟨rfl, rfl⟩ dX6_carried_24 ?_
    intro v24 I2 hv
    obtain ⟨rfl, hI2⟩ := hv
    exact k_iret C (Nat.le_of_ble_eq_true rfl) (Nat.le_of_ble_eq_true rfl) (⟨rfl, rfl, MQx_no hI1 hI2 (cdI_1 hc10) (by decide)⟩) dX6_carried_27
  · skip
    have hcd : cdI (sp_nc r) c = 0 := hc10
    obtain ⟨j, hj, rfl⟩ := cdI_0 hcd (by omega)
    refine k_aload_n C (f := 0) (i := 0) (p := 0) rfl rfl dX6_carried_13 ?_
    refine k_getR C f_X6_7 (L6_s (by assumption)) (fun _ _ _ => rfl) (L6_0 (by assumption)) dX6_carried_14 ?_
    refine k_iload_n C (f := 1) (i := 1) (p := 1) rfl rfl dX6_carried_17 ?_
    refine k_callSp C s_X6_87 h_X6_carriedBy (ct_X6_carriedBy hs hm1 hB) rfl rfl (Nat.le_of_ble_eq_true rfl) ⟨Nat.le_of_ble_eq_true rfl, Nat.le_of_ble_eq_true rfl⟩ ⟨Nat.le_of_ble_eq_true rfl, Nat.le_of_ble_eq_true rfl⟩ ⟨rfl, rfl⟩ dX6_carried_18 ?_
    exact k_iret C (Nat.le_of_ble_eq_true rfl) (Nat.le_of_ble_eq_true rfl) (⟨rfl, rfl, MQx_ok hI1 hcd (by first | (rw [nI_clamp (by omega)]; done) | (rw [nI_clamp (by omega)]; rfl))⟩) dX6_carried_21
set_option maxHeartbeats 4000000 in
set_option maxRecDepth 100000 in
theorem ct_X6_freeWeight {G : am_G} {Λ : am_L} {I : am_I} {J : am_J} {y : Nat} {r : Nat → Int32} {c : Int32} (hx : ModLay Λ y) (hm : MRow I (y + 1) 0 r) (hok : RowOk r) : am_Ct G yX6_freeWeight cX6_freeWeight 2 (some .int) { frames := 3, cells := 0, slots := 0, locals := 65 } [.ref y, .int c] Λ I J (am_gen Λ J (fun v I' => MQx I y (cdI (sp_nc r) c) (some (.int (sp_free r c.toNatClampNeg))) v I')) am_never := by
  refine am_ct_of (own := RX6) rfl (by decide) (Nat.le_of_ble_eq_true rfl) (fun X C => ?_)
  change am_K G X { frames := 3, cells := 0, slots := 0, locals := 65 } 2 Λ I J 0 0 0 [(0, .ref y), (1, .int c)] []
  have hs := A6_0 hx
  have hB := hok.B
  have hD := hok.D
  have hB9 := hB
  obtain ⟨⟨h6, h7, h8, h9⟩, hnc, hnw, hns, hnl⟩ := hB9
  refine k_aload_n C (f := 0) (i := 0) (p := 0) rfl rfl dX6_freeWeight_0 ?_
  refine k_iconst C ic_0 dX6_freeWeight_1 ?_
  refine k_putI C f_X6_60 (L6_s (by assumption)) rfl rfl dX6_freeWeight_2 ?_
  obtain ⟨I1, hI1⟩ : ∃ z : am_I, z = am_up I y 10 (nI 0) := ⟨_, rfl⟩
  rw [← hI1]
  have hm1 : MRow I1 (y + 1) 0 r := MR_ne hm (by rw [hI1]; exact am_up_ne (by omega))
  have h10 : I1 y 10 = nI 0 := by rw [hI1, am_up_eq]
  refine k_aload_n C (f := 0) (i := 0) (p := 0) rfl rfl dX6_freeWeight_5 ?_
  refine k_iload_n C (f := 1) (i := 1) (p := 1) rfl rfl dX6_freeWeight_6 ?_
  refine k_callVp C s_X6_244 h_X6_isCamel (L6_s (by assumption)) rfl (ct_X6_isCamel hx hm1 hok) rfl rfl (Nat.le_of_ble_eq_true rfl) ⟨Nat.le_of_ble_eq_true rfl, Nat.le_of_ble_eq_true rfl⟩ ⟨Nat.le_of_ble_eq_true rfl, Nat.le_of_ble_eq_true rfl⟩ ⟨rfl, rfl⟩ dX6_freeWeight_7 ?_
  first
  | refine k_ifb_eq C (tgt := 22) (by decide) dX6_freeWeight_10 (fun hc10 => ?_) (fun hc10 => ?_)
  | refine k_if_eq C (tgt := 22) (by decide) dX6_freeWeight_10 (fun hc10 => ?_) (fun hc10 => ?_)
  · skip
    refine k_aload_n C (f := 0) (i := 0) (p := 0) rfl rfl dX6_freeWeight_22 ?_
    refine k_iconst C ic_1 dX6_freeWeight_23 ?_
    refine k_callVg C s_X6_147 h_X6_fails (L6_s (by assumption)) rfl (ct_X6_fails hx) rfl rfl (Nat.le_of_ble_eq_true rfl) ⟨Nat.le_of_ble_eq_true rfl, Nat.le_of_ble_eq_true rfl⟩ ⟨Nat.le_of_ble_eq_true rfl, Nat.le_of_ble_eq_true rfl⟩ ⟨rfl, rfl⟩ dX6_freeWeight_24 ?_
    intro v24 I2 hv
    obtain ⟨rfl, hI2⟩ := hv
    exact k_iret C (Nat.le_of_ble_eq_true rfl) (Nat.le_of_ble_eq_true rfl) (⟨rfl, rfl, MQx_no hI1 hI2 (cdI_1 hc10) (by decide)⟩) dX6_freeWeight_27
  · skip
    have hcd : cdI (sp_nc r) c = 0 := hc10
    obtain ⟨j, hj, rfl⟩ := cdI_0 hcd (by omega)
    refine k_aload_n C (f := 0) (i := 0) (p := 0) rfl rfl dX6_freeWeight_13 ?_
    refine k_getR C f_X6_7 (L6_s (by assumption)) (fun _ _ _ => rfl) (L6_0 (by assumption)) dX6_freeWeight_14 ?_
    refine k_iload_n C (f := 1) (i := 1) (p := 1) rfl rfl dX6_freeWeight_17 ?_
    refine k_callSp C s_X6_209 h_X6_freeOf (ct_X6_freeOf hs hm1 hB (by omega)) rfl rfl (Nat.le_of_ble_eq_true rfl) ⟨Nat.le_of_ble_eq_true rfl, Nat.le_of_ble_eq_true rfl⟩ ⟨Nat.le_of_ble_eq_true rfl, Nat.le_of_ble_eq_true rfl⟩ ⟨rfl, rfl⟩ dX6_freeWeight_18 ?_
    exact k_iret C (Nat.le_of_ble_eq_true rfl) (Nat.le_of_ble_eq_true rfl) (⟨rfl, rfl, MQx_ok hI1 hcd (by first | (rw [nI_clamp (by omega)]; done) | (rw [nI_clamp (by omega)]; rfl))⟩) dX6_freeWeight_21
set_option maxHeartbeats 4000000 in
set_option maxRecDepth 100000 in
theorem ct_X6_needToday {G : am_G} {Λ : am_L} {I : am_I} {J : am_J} {y : Nat} {r : Nat → Int32} {c : Int32} (hx : ModLay Λ y) (hm : MRow I (y + 1) 0 r) (hok : RowOk r) : am_Ct G yX6_needToday cX6_needToday 2 (some .int) { frames := 3, cells := 0, slots := 0, locals := 66 } [.ref y, .int c] Λ I J (am_gen Λ J (fun v I' => MQx I y (cdI (sp_nc r) c) (some (.int (if r (16 + 8 * c.toNatClampNeg) < nI 3 then sp_need r c.toNatClampNeg (sp_storm r (r 2)) else nI 0))) v I')) am_never := by
  refine am_ct_of (own := RX6) rfl (by decide) (Nat.le_of_ble_eq_true rfl) (fun X C => ?_)
  change am_K G X { frames := 3, cells := 0, slots := 0, locals := 66 } 2 Λ I J 0 0 0 [(0, .ref y), (1, .int c)] []
  have hs := A6_0 hx
  have hB := hok.B
  have hD := hok.D
  have hB9 := hB
  obtain ⟨⟨h6, h7, h8, h9⟩, hnc, hnw, hns, hnl⟩ := hB9
  refine k_aload_n C (f := 0) (i := 0) (p := 0) rfl rfl dX6_needToday_0 ?_
  refine k_iconst C ic_0 dX6_needToday_1 ?_
  refine k_putI C f_X6_60 (L6_s (by assumption)) rfl rfl dX6_needToday_2 ?_
  obtain ⟨I1, hI1⟩ : ∃ z : am_I, z = am_up I y 10 (nI 0) := ⟨_, rfl⟩
  rw [← hI1]
  have hm1 : MRow I1 (y + 1) 0 r := MR_ne hm (by rw [hI1]; exact am_up_ne (by omega))
  have h10 : I1 y 10 = nI 0 := by rw [hI1, am_up_eq]
  refine k_aload_n C (f := 0) (i := 0) (p := 0) rfl rfl dX6_needToday_5 ?_
  refine k_iload_n C (f := 1) (i := 1) (p := 1) rfl rfl dX6_needToday_6 ?_
  refine k_callVp C s_X6_244 h_X6_isCamel (L6_s (by assumption)) rfl (ct_X6_isCamel hx hm1 hok) rfl rfl (Nat.le_of_ble_eq_true rfl) ⟨Nat.le_of_ble_eq_true rfl, Nat.le_of_ble_eq_true rfl⟩ ⟨Nat.le_of_ble_eq_true rfl, Nat.le_of_ble_eq_true rfl⟩ ⟨rfl, rfl⟩ dX6_needToday_7 ?_
  first
  | refine k_ifb_ne C (tgt := 19) (by decide) dX6_needToday_10 (fun hc10 => ?_) (fun hc10 => ?_)
  | refine k_if_ne C (tgt := 19) (by decide) dX6_needToday_10 (fun hc10 => ?_) (fun hc10 => ?_)
  · skip
    have hcd : cdI (sp_nc r) c = 0 := hc10
    obtain ⟨j, hj, rfl⟩ := cdI_0 hcd (by omega)
    refine k_aload_n C (f := 0) (i := 0) (p := 0) rfl rfl dX6_needToday_19 ?_
    refine k_getR C f_X6_7 (L6_s (by assumption)) (fun _ _ _ => rfl) (L6_0 (by assumption)) dX6_needToday_20 ?_
    refine k_iload_n C (f := 1) (i := 1) (p := 1) rfl rfl dX6_needToday_23 ?_
    refine k_callSp C s_X6_83 h_X6_lives (ct_X6_lives hs hm1 hB hD hj) rfl rfl (Nat.le_of_ble_eq_true rfl) ⟨Nat.le_of_ble_eq_true rfl, Nat.le_of_ble_eq_true rfl⟩ ⟨Nat.le_of_ble_eq_true rfl, Nat.le_of_ble_eq_true rfl⟩ ⟨rfl, rfl⟩ dX6_needToday_24 ?_
    refine k_ifb_eq C (tgt := 39) (by decide) dX6_needToday_27 (fun hc27 => ?_) (fun hc27 => ?_)
    · skip
      refine k_iconst C ic_0 dX6_needToday_39 ?_
      exact k_iret C (Nat.le_of_ble_eq_true rfl) (Nat.le_of_ble_eq_true rfl) (⟨rfl, rfl, MQx_ok hI1 hcd (by rw [nI_clamp (by omega), if_neg hc27])⟩) dX6_needToday_40
    · skip
      refine k_aload_n C (f := 0) (i := 0) (p := 0) rfl rfl dX6_needToday_30 ?_
      refine k_getR C f_X6_7 (L6_s (by assumption)) (fun _ _ _ => rfl) (L6_0 (by assumption)) dX6_needToday_31 ?_
      refine k_iload_n C (f := 1) (i := 1) (p := 1) rfl rfl dX6_needToday_34 ?_
      refine k_callSp C s_X6_124 h_X6_needOf (ct_X6_needOf hs hm1 hB) rfl rfl (Nat.le_of_ble_eq_true rfl) ⟨Nat.le_of_ble_eq_true rfl, Nat.le_of_ble_eq_true rfl⟩ ⟨Nat.le_of_ble_eq_true rfl, Nat.le_of_ble_eq_true rfl⟩ ⟨rfl, rfl⟩ dX6_needToday_35 ?_
      exact k_iret C (Nat.le_of_ble_eq_true rfl) (Nat.le_of_ble_eq_true rfl) (⟨rfl, rfl, MQx_ok hI1 hcd (by rw [nI_clamp (by omega), if_pos hc27])⟩) dX6_needToday_38
  · skip
    refine k_aload_n C (f := 0) (i := 0) (p := 0) rfl rfl dX6_needToday_13 ?_
    refine k_iconst C ic_1 dX6_needToday_14 ?_
    refine k_callVg C s_X6_147 h_X6_fails (L6_s (by assumption)) rfl (ct_X6_fails hx) rfl rfl (Nat.le_of_ble_eq_true rfl) ⟨Nat.le_of_ble_eq_true rfl, Nat.le_of_ble_eq_true rfl⟩ ⟨Nat.le_of_ble_eq_true rfl, Nat.le_of_ble_eq_true rfl⟩ ⟨rfl, rfl⟩ dX6_needToday_15 ?_
    intro v15 I2 hv
    obtain ⟨rfl, hI2⟩ := hv
    exact k_iret C (Nat.le_of_ble_eq_true rfl) (Nat.le_of_ble_eq_true rfl) (⟨rfl, rfl, MQx_no hI1 hI2 (cdI_1 hc10) (by decide)⟩) dX6_needToday_18
set_option maxHeartbeats 4000000 in
set_option maxRecDepth 100000 in
theorem ct_X6_isCarried {G : am_G} {Λ : am_L} {I : am_I} {J : am_J} {y : Nat} {r : Nat → Int32} {c : Int32} (hx : ModLay Λ y) (hm : MRow I (y + 1) 0 r) (hok : RowOk r) : am_Ct G yX6_isCarried cX6_isCarried 2 (some .boolean) { frames := 2, cells := 0, slots := 0, locals := 43 } [.ref y, .int c] Λ I J (am_gen Λ J (fun v I' => MQx I y (cdI (sp_nl r) c) (some (.int (am_b (¬ r (142 + 4 * c.toNatClampNeg) = -1)))) v I')) am_never := by
  refine am_ct_of (own := RX6) rfl (by decide) (Nat.le_of_ble_eq_true rfl) (fun X C => ?_)
  change am_K G X { frames := 2, cells := 0, slots := 0, locals := 43 } 2 Λ I J 0 0 0 [(0, .ref y), (1, .int c)] []
  have hs := A6_0 hx
  have hB := hok.B
  have hD := hok.D
  have hB9 := hB
  obtain ⟨⟨h6, h7, h8, h9⟩, hnc, hnw, hns, hnl⟩ := hB9
  refine k_aload_n C (f := 0) (i := 0) (p := 0) rfl rfl dX6_isCarried_0 ?_
  refine k_iconst C ic_0 dX6_isCarried_1 ?_
  refine k_putI C f_X6_60 (L6_s (by assumption)) rfl rfl dX6_isCarried_2 ?_
  obtain ⟨I1, hI1⟩ : ∃ z : am_I, z = am_up I y 10 (nI 0) := ⟨_, rfl⟩
  rw [← hI1]
  have hm1 : MRow I1 (y + 1) 0 r := MR_ne hm (by rw [hI1]; exact am_up_ne (by omega))
  have h10 : I1 y 10 = nI 0 := by rw [hI1, am_up_eq]
  refine k_aload_n C (f := 0) (i := 0) (p := 0) rfl rfl dX6_isCarried_5 ?_
  refine k_iload_n C (f := 1) (i := 1) (p := 1) rfl rfl dX6_isCarried_6 ?_
  refine k_callVp C s_X6_253 h_X6_isLoad (L6_s (by assumption)) rfl (ct_X6_isLoad hx hm1 hok) rfl rfl (Nat.le_of_ble_eq_true rfl) ⟨Nat.le_of_ble_eq_true rfl, Nat.le_of_ble_eq_true rfl⟩ ⟨Nat.le_of_ble_eq_true rfl, Nat.le_of_ble_eq_true rfl⟩ ⟨rfl, rfl⟩ dX6_isCarried_7 ?_
  first
  | refine k_ifb_eq C (tgt := 32) (by decide) dX6_isCarried_10 (fun hc10 => ?_) (fun hc10 => ?_)
  | refine k_if_eq C (tgt := 32) (by decide) dX6_isCarried_10 (fun hc10 => ?_) (fun hc10 => ?_)
  · skip
    refine k_aload_n C (f := 0) (i := 0) (p := 0) rfl rfl dX6_isCarried_32 ?_
    refine k_iconst C ic_1 dX6_isCarried_33 ?_
    refine k_callVg C s_X6_259 h_X6_isFailed (L6_s (by assumption)) rfl (ct_X6_isFailed hx) rfl rfl (Nat.le_of_ble_eq_true rfl) ⟨Nat.le_of_ble_eq_true rfl, Nat.le_of_ble_eq_true rfl⟩ ⟨Nat.le_of_ble_eq_true rfl, Nat.le_of_ble_eq_true rfl⟩ ⟨rfl, rfl⟩ dX6_isCarried_34 ?_
    intro v34 I2 hv
    obtain ⟨rfl, hI2⟩ := hv
    exact k_zret C (by first | rfl | exact am_bz) (Nat.le_of_ble_eq_true rfl) (Nat.le_of_ble_eq_true rfl) (⟨rfl, rfl, MQx_no hI1 hI2 (cdI_1 hc10) (by decide)⟩) dX6_isCarried_37
  · skip
    have hcd : cdI (sp_nl r) c = 0 := hc10
    obtain ⟨j, hj, rfl⟩ := cdI_0 hcd (by omega)
    obtain ⟨-, hcr⟩ := RK_lo hok j hj
    refine k_aload_n C (f := 0) (i := 0) (p := 0) rfl rfl dX6_isCarried_13 ?_
    refine k_getR C f_X6_7 (L6_s (by assumption)) (fun _ _ _ => rfl) (L6_0 (by assumption)) dX6_isCarried_14 ?_
    refine k_iload_n C (f := 1) (i := 1) (p := 1) rfl rfl dX6_isCarried_17 ?_
    refine k_iconst C ic_2 dX6_isCarried_18 ?_
    refine k_callSp C s_X6_56 h_X6_loadAt (ct_X6_loadAt ) rfl rfl (Nat.le_of_ble_eq_true rfl) ⟨Nat.le_of_ble_eq_true rfl, Nat.le_of_ble_eq_true rfl⟩ ⟨Nat.le_of_ble_eq_true rfl, Nat.le_of_ble_eq_true rfl⟩ ⟨rfl, rfl⟩ dX6_isCarried_19 ?_
    refine k_iald C (A6_0 (by assumption)) (by first | rfl | assumption) (by omega) (by decide) (MRx (i := 142 + 4 * j) hm1 (by omega) (by omega)) dX6_isCarried_22 ?_
    refine k_if_lt C (tgt := 30) (by decide) dX6_isCarried_23 (fun hc23 => ?_) (fun hc23 => ?_)
    · skip
      refine k_iconst C ic_0 dX6_isCarried_30 ?_
      exact k_zret C (by first | rfl | exact am_bz) (Nat.le_of_ble_eq_true rfl) (Nat.le_of_ble_eq_true rfl) (⟨rfl, rfl, MQx_ok hI1 hcd (by
          rw [nI_clamp (by omega)]
          first
          | exact congrArg (fun z => some (Value.int z)) (am_bf (fun q => q (hcr.resolve_right (fun ⟨i, e, hi⟩ => by rw [e] at hc23; exact nI_neg (by omega) hc23))))
          | exact congrArg (fun z => some (Value.int z)) (am_bt (fun q => by rw [q] at hc23; exact hc23 (by decide))))⟩) dX6_isCarried_31
    · skip
      refine k_iconst C ic_1 dX6_isCarried_26 ?_
      refine k_goto C (tgt := 31) (by decide) dX6_isCarried_27 ?_
      exact k_zret C (by first | rfl | exact am_bz) (Nat.le_of_ble_eq_true rfl) (Nat.le_of_ble_eq_true rfl) (⟨rfl, rfl, MQx_ok hI1 hcd (by
          rw [nI_clamp (by omega)]
          first
          | exact congrArg (fun z => some (Value.int z)) (am_bf (fun q => q (hcr.resolve_right (fun ⟨i, e, hi⟩ => by rw [e] at hc23; exact nI_neg (by omega) hc23))))
          | exact congrArg (fun z => some (Value.int z)) (am_bt (fun q => by rw [q] at hc23; exact hc23 (by decide))))⟩) dX6_isCarried_31
set_option maxHeartbeats 4000000 in
set_option maxRecDepth 100000 in
theorem ct_X6_placeOf {G : am_G} {Λ : am_L} {I : am_I} {J : am_J} {y : Nat} {r : Nat → Int32} {c : Int32} (hx : ModLay Λ y) (hm : MRow I (y + 1) 0 r) (hok : RowOk r) : am_Ct G yX6_placeOf cX6_placeOf 2 (some .int) { frames := 2, cells := 0, slots := 0, locals := 43 } [.ref y, .int c] Λ I J (am_gen Λ J (fun v I' => MQx I y (cdI (sp_nl r) c) (some (.int (if r (142 + 4 * c.toNatClampNeg) = -1 then r (143 + 4 * c.toNatClampNeg) else r 1))) v I')) am_never := by
  refine am_ct_of (own := RX6) rfl (by decide) (Nat.le_of_ble_eq_true rfl) (fun X C => ?_)
  change am_K G X { frames := 2, cells := 0, slots := 0, locals := 43 } 2 Λ I J 0 0 0 [(0, .ref y), (1, .int c)] []
  have hs := A6_0 hx
  have hB := hok.B
  have hD := hok.D
  have hB9 := hB
  obtain ⟨⟨h6, h7, h8, h9⟩, hnc, hnw, hns, hnl⟩ := hB9
  refine k_aload_n C (f := 0) (i := 0) (p := 0) rfl rfl dX6_placeOf_0 ?_
  refine k_iconst C ic_0 dX6_placeOf_1 ?_
  refine k_putI C f_X6_60 (L6_s (by assumption)) rfl rfl dX6_placeOf_2 ?_
  obtain ⟨I1, hI1⟩ : ∃ z : am_I, z = am_up I y 10 (nI 0) := ⟨_, rfl⟩
  rw [← hI1]
  have hm1 : MRow I1 (y + 1) 0 r := MR_ne hm (by rw [hI1]; exact am_up_ne (by omega))
  have h10 : I1 y 10 = nI 0 := by rw [hI1, am_up_eq]
  refine k_aload_n C (f := 0) (i := 0) (p := 0) rfl rfl dX6_placeOf_5 ?_
  refine k_iload_n C (f := 1) (i := 1) (p := 1) rfl rfl dX6_placeOf_6 ?_
  refine k_callVp C s_X6_253 h_X6_isLoad (L6_s (by assumption)) rfl (ct_X6_isLoad hx hm1 hok) rfl rfl (Nat.le_of_ble_eq_true rfl) ⟨Nat.le_of_ble_eq_true rfl, Nat.le_of_ble_eq_true rfl⟩ ⟨Nat.le_of_ble_eq_true rfl, Nat.le_of_ble_eq_true rfl⟩ ⟨rfl, rfl⟩ dX6_placeOf_7 ?_
  first
  | refine k_ifb_ne C (tgt := 19) (by decide) dX6_placeOf_10 (fun hc10 => ?_) (fun hc10 => ?_)
  | refine k_if_ne C (tgt := 19) (by decide) dX6_placeOf_10 (fun hc10 => ?_) (fun hc10 => ?_)
  · skip
    have hcd : cdI (sp_nl r) c = 0 := hc10
    obtain ⟨j, hj, rfl⟩ := cdI_0 hcd (by omega)
    obtain ⟨-, hcr⟩ := RK_lo hok j hj
    refine k_aload_n C (f := 0) (i := 0) (p := 0) rfl rfl dX6_placeOf_19 ?_
    refine k_getR C f_X6_7 (L6_s (by assumption)) (fun _ _ _ => rfl) (L6_0 (by assumption)) dX6_placeOf_20 ?_
    refine k_iload_n C (f := 1) (i := 1) (p := 1) rfl rfl dX6_placeOf_23 ?_
    refine k_iconst C ic_2 dX6_placeOf_24 ?_
    refine k_callSp C s_X6_56 h_X6_loadAt (ct_X6_loadAt ) rfl rfl (Nat.le_of_ble_eq_true rfl) ⟨Nat.le_of_ble_eq_true rfl, Nat.le_of_ble_eq_true rfl⟩ ⟨Nat.le_of_ble_eq_true rfl, Nat.le_of_ble_eq_true rfl⟩ ⟨rfl, rfl⟩ dX6_placeOf_25 ?_
    refine k_iald C (A6_0 (by assumption)) (by first | rfl | assumption) (by omega) (by decide) (MRx (i := 142 + 4 * j) hm1 (by omega) (by omega)) dX6_placeOf_28 ?_
    refine k_if_ge C (tgt := 43) (by decide) dX6_placeOf_29 (fun hc29 => ?_) (fun hc29 => ?_)
    · skip
      refine k_aload_n C (f := 0) (i := 0) (p := 0) rfl rfl dX6_placeOf_43 ?_
      refine k_getR C f_X6_7 (L6_s (by assumption)) (fun _ _ _ => rfl) (L6_0 (by assumption)) dX6_placeOf_44 ?_
      refine k_iconst C ic_1 dX6_placeOf_47 ?_
      refine k_iald C (A6_0 (by assumption)) (by first | rfl | assumption) (by omega) (by decide) (MR hm1 (by decide)) dX6_placeOf_48 ?_
      exact k_iret C (Nat.le_of_ble_eq_true rfl) (Nat.le_of_ble_eq_true rfl) (⟨rfl, rfl, MQx_ok hI1 hcd (by rw [nI_clamp (by omega), if_neg (fun q => by rw [q] at hc29; exact absurd hc29 (by decide))])⟩) dX6_placeOf_49
    · skip
      refine k_aload_n C (f := 0) (i := 0) (p := 0) rfl rfl dX6_placeOf_32 ?_
      refine k_getR C f_X6_7 (L6_s (by assumption)) (fun _ _ _ => rfl) (L6_0 (by assumption)) dX6_placeOf_33 ?_
      refine k_iload_n C (f := 1) (i := 1) (p := 1) rfl rfl dX6_placeOf_36 ?_
      refine k_iconst C ic_3 dX6_placeOf_37 ?_
      refine k_callSp C s_X6_56 h_X6_loadAt (ct_X6_loadAt ) rfl rfl (Nat.le_of_ble_eq_true rfl) ⟨Nat.le_of_ble_eq_true rfl, Nat.le_of_ble_eq_true rfl⟩ ⟨Nat.le_of_ble_eq_true rfl, Nat.le_of_ble_eq_true rfl⟩ ⟨rfl, rfl⟩ dX6_placeOf_38 ?_
      refine k_iald C (A6_0 (by assumption)) (by first | rfl | assumption) (by omega) (by decide) (MRx (i := 143 + 4 * j) hm1 (by omega) (by omega)) dX6_placeOf_41 ?_
      exact k_iret C (Nat.le_of_ble_eq_true rfl) (Nat.le_of_ble_eq_true rfl) (⟨rfl, rfl, MQx_ok hI1 hcd (by rw [nI_clamp (by omega), if_pos (hcr.resolve_right (fun ⟨i, e, hi⟩ => by rw [e] at hc29; exact hc29 (nI_pos' (by omega))))])⟩) dX6_placeOf_42
  · skip
    refine k_aload_n C (f := 0) (i := 0) (p := 0) rfl rfl dX6_placeOf_13 ?_
    refine k_iconst C ic_1 dX6_placeOf_14 ?_
    refine k_callVg C s_X6_147 h_X6_fails (L6_s (by assumption)) rfl (ct_X6_fails hx) rfl rfl (Nat.le_of_ble_eq_true rfl) ⟨Nat.le_of_ble_eq_true rfl, Nat.le_of_ble_eq_true rfl⟩ ⟨Nat.le_of_ble_eq_true rfl, Nat.le_of_ble_eq_true rfl⟩ ⟨rfl, rfl⟩ dX6_placeOf_15 ?_
    intro v15 I2 hv
    obtain ⟨rfl, hI2⟩ := hv
    exact k_iret C (Nat.le_of_ble_eq_true rfl) (Nat.le_of_ble_eq_true rfl) (⟨rfl, rfl, MQx_no hI1 hI2 (cdI_1 hc10) (by decide)⟩) dX6_placeOf_18
set_option maxHeartbeats 4000000 in
set_option maxRecDepth 100000 in
theorem ct_X6_carrierOf {G : am_G} {Λ : am_L} {I : am_I} {J : am_J} {y : Nat} {r : Nat → Int32} {c : Int32} (hx : ModLay Λ y) (hm : MRow I (y + 1) 0 r) (hok : RowOk r) : am_Ct G yX6_carrierOf cX6_carrierOf 3 (some .int) { frames := 2, cells := 0, slots := 0, locals := 43 } [.ref y, .int c] Λ I J (am_gen Λ J (fun v I' => MQx I y (if cdI (sp_nl r) c = 0 then (if r (142 + 4 * c.toNatClampNeg) = -1 then 2 else 0) else 1) (some (.int (r (142 + 4 * c.toNatClampNeg)))) v I')) am_never := by
  refine am_ct_of (own := RX6) rfl (by decide) (Nat.le_of_ble_eq_true rfl) (fun X C => ?_)
  change am_K G X { frames := 2, cells := 0, slots := 0, locals := 43 } 3 Λ I J 0 0 0 [(0, .ref y), (1, .int c)] []
  have hs := A6_0 hx
  have hB := hok.B
  have hD := hok.D
  have hB9 := hB
  obtain ⟨⟨h6, h7, h8, h9⟩, hnc, hnw, hns, hnl⟩ := hB9
  refine k_aload_n C (f := 0) (i := 0) (p := 0) rfl rfl dX6_carrierOf_0 ?_
  refine k_iconst C ic_0 dX6_carrierOf_1 ?_
  refine k_putI C f_X6_60 (L6_s (by assumption)) rfl rfl dX6_carrierOf_2 ?_
  obtain ⟨I1, hI1⟩ : ∃ z : am_I, z = am_up I y 10 (nI 0) := ⟨_, rfl⟩
  rw [← hI1]
  have hm1 : MRow I1 (y + 1) 0 r := MR_ne hm (by rw [hI1]; exact am_up_ne (by omega))
  have h10 : I1 y 10 = nI 0 := by rw [hI1, am_up_eq]
  refine k_aload_n C (f := 0) (i := 0) (p := 0) rfl rfl dX6_carrierOf_5 ?_
  refine k_iload_n C (f := 1) (i := 1) (p := 1) rfl rfl dX6_carrierOf_6 ?_
  refine k_callVp C s_X6_253 h_X6_isLoad (L6_s (by assumption)) rfl (ct_X6_isLoad hx hm1 hok) rfl rfl (Nat.le_of_ble_eq_true rfl) ⟨Nat.le_of_ble_eq_true rfl, Nat.le_of_ble_eq_true rfl⟩ ⟨Nat.le_of_ble_eq_true rfl, Nat.le_of_ble_eq_true rfl⟩ ⟨rfl, rfl⟩ dX6_carrierOf_7 ?_
  first
  | refine k_ifb_ne C (tgt := 19) (by decide) dX6_carrierOf_10 (fun hc10 => ?_) (fun hc10 => ?_)
  | refine k_if_ne C (tgt := 19) (by decide) dX6_carrierOf_10 (fun hc10 => ?_) (fun hc10 => ?_)
  · skip
    have hcd : cdI (sp_nl r) c = 0 := hc10
    obtain ⟨j, hj, rfl⟩ := cdI_0 hcd (by omega)
    obtain ⟨-, hcr⟩ := RK_lo hok j hj
    refine k_aload_n C (f := 0) (i := 0) (p := 0) rfl rfl dX6_carrierOf_19 ?_
    refine k_getR C f_X6_7 (L6_s (by assumption)) (fun _ _ _ => rfl) (L6_0 (by assumption)) dX6_carrierOf_20 ?_
    refine k_iload_n C (f := 1) (i := 1) (p := 1) rfl rfl dX6_carrierOf_23 ?_
    refine k_iconst C ic_2 dX6_carrierOf_24 ?_
    refine k_callSp C s_X6_56 h_X6_loadAt (ct_X6_loadAt ) rfl rfl (Nat.le_of_ble_eq_true rfl) ⟨Nat.le_of_ble_eq_true rfl, Nat.le_of_ble_eq_true rfl⟩ ⟨Nat.le_of_ble_eq_true rfl, Nat.le_of_ble_eq_true rfl⟩ ⟨rfl, rfl⟩ dX6_carrierOf_25 ?_
    refine k_iald C (A6_0 (by assumption)) (by first | rfl | assumption) (by omega) (by decide) (MRx (i := 142 + 4 * j) hm1 (by omega) (by omega)) dX6_carrierOf_28 ?_
    refine k_istore_n C (f := 2) (i := 2) (lv := [(2, _), (0, _), (1, _)]) rfl (Nat.le_of_ble_eq_true rfl) rfl dX6_carrierOf_29 ?_
    refine k_iload_n C (f := 2) (i := 2) (p := 0) rfl rfl dX6_carrierOf_30 ?_
    refine k_if_ge C (tgt := 40) (by decide) dX6_carrierOf_31 (fun hc31 => ?_) (fun hc31 => ?_)
    · skip
      refine k_iload_n C (f := 2) (i := 2) (p := 0) rfl rfl dX6_carrierOf_40 ?_
      exact k_iret C (Nat.le_of_ble_eq_true rfl) (Nat.le_of_ble_eq_true rfl) (⟨rfl, rfl, MQx_ok hI1 (by rw [if_pos hcd, nI_clamp (by omega), if_neg (fun q => by rw [q] at hc31; exact absurd hc31 (by decide))]) (by rw [nI_clamp (by omega)])⟩) dX6_carrierOf_41
    · skip
      refine k_aload_n C (f := 0) (i := 0) (p := 1) rfl rfl dX6_carrierOf_34 ?_
      refine k_iconst C ic_2 dX6_carrierOf_35 ?_
      refine k_callVg C s_X6_147 h_X6_fails (L6_s (by assumption)) rfl (ct_X6_fails hx) rfl rfl (Nat.le_of_ble_eq_true rfl) ⟨Nat.le_of_ble_eq_true rfl, Nat.le_of_ble_eq_true rfl⟩ ⟨Nat.le_of_ble_eq_true rfl, Nat.le_of_ble_eq_true rfl⟩ ⟨rfl, rfl⟩ dX6_carrierOf_36 ?_
      intro v36 I2 hv
      obtain ⟨rfl, hI2⟩ := hv
      exact k_iret C (Nat.le_of_ble_eq_true rfl) (Nat.le_of_ble_eq_true rfl) (⟨rfl, rfl, MQx_no hI1 hI2 (by rw [if_pos hcd, nI_clamp (by omega), if_pos (hcr.resolve_right (fun ⟨i, e, hi⟩ => by rw [e] at hc31; exact hc31 (nI_pos' (by omega))))]) (by decide)⟩) dX6_carrierOf_39
  · skip
    refine k_aload_n C (f := 0) (i := 0) (p := 0) rfl rfl dX6_carrierOf_13 ?_
    refine k_iconst C ic_1 dX6_carrierOf_14 ?_
    refine k_callVg C s_X6_147 h_X6_fails (L6_s (by assumption)) rfl (ct_X6_fails hx) rfl rfl (Nat.le_of_ble_eq_true rfl) ⟨Nat.le_of_ble_eq_true rfl, Nat.le_of_ble_eq_true rfl⟩ ⟨Nat.le_of_ble_eq_true rfl, Nat.le_of_ble_eq_true rfl⟩ ⟨rfl, rfl⟩ dX6_carrierOf_15 ?_
    intro v15 I2 hv
    obtain ⟨rfl, hI2⟩ := hv
    exact k_iret C (Nat.le_of_ble_eq_true rfl) (Nat.le_of_ble_eq_true rfl) (⟨rfl, rfl, MQx_no hI1 hI2 (if_neg hc10) (by decide)⟩) dX6_carrierOf_18
set_option maxHeartbeats 4000000 in
set_option maxRecDepth 100000 in
theorem ct_X6_length {G : am_G} {Λ : am_L} {I : am_I} {J : am_J} {y : Nat} {r : Nat → Int32}  (hx : ModLay Λ y) (hm : MRow I (y + 1) 0 r) (hok : RowOk r) : am_Ct G yX6_length cX6_length 1 (some .int) { frames := 0, cells := 0, slots := 0, locals := 0 } [.ref y] Λ I J (am_gen Λ J (fun v I' => MQx I y (0) (some (.int (r 0))) v I')) am_never := by
  refine am_ct_of (own := RX6) rfl (by decide) (Nat.le_of_ble_eq_true rfl) (fun X C => ?_)
  change am_K G X { frames := 0, cells := 0, slots := 0, locals := 0 } 1 Λ I J 0 0 0 [(0, .ref y)] []
  have hs := A6_0 hx
  have hB := hok.B
  have hD := hok.D
  have hB9 := hB
  obtain ⟨⟨h6, h7, h8, h9⟩, hnc, hnw, hns, hnl⟩ := hB9
  refine k_aload_n C (f := 0) (i := 0) (p := 0) rfl rfl dX6_length_0 ?_
  refine k_iconst C ic_0 dX6_length_1 ?_
  refine k_putI C f_X6_60 (L6_s (by assumption)) rfl rfl dX6_length_2 ?_
  obtain ⟨I1, hI1⟩ : ∃ z : am_I, z = am_up I y 10 (nI 0) := ⟨_, rfl⟩
  rw [← hI1]
  have hm1 : MRow I1 (y + 1) 0 r := MR_ne hm (by rw [hI1]; exact am_up_ne (by omega))
  have h10 : I1 y 10 = nI 0 := by rw [hI1, am_up_eq]
  refine k_aload_n C (f := 0) (i := 0) (p := 0) rfl rfl dX6_length_5 ?_
  refine k_getR C f_X6_7 (L6_s (by assumption)) (fun _ _ _ => rfl) (L6_0 (by assumption)) dX6_length_6 ?_
  refine k_iconst C ic_0 dX6_length_9 ?_
  refine k_iald C (A6_0 (by assumption)) (by first | rfl | assumption) (by omega) (by decide) (MR hm1 (by decide)) dX6_length_10 ?_
  exact k_iret C (Nat.le_of_ble_eq_true rfl) (Nat.le_of_ble_eq_true rfl) (⟨rfl, rfl, MQx_ok hI1 rfl rfl⟩) dX6_length_11
set_option maxHeartbeats 4000000 in
set_option maxRecDepth 100000 in
theorem ct_X6_kilometre {G : am_G} {Λ : am_L} {I : am_I} {J : am_J} {y : Nat} {r : Nat → Int32}  (hx : ModLay Λ y) (hm : MRow I (y + 1) 0 r) (hok : RowOk r) : am_Ct G yX6_kilometre cX6_kilometre 1 (some .int) { frames := 0, cells := 0, slots := 0, locals := 0 } [.ref y] Λ I J (am_gen Λ J (fun v I' => MQx I y (0) (some (.int (r 1))) v I')) am_never := by
  refine am_ct_of (own := RX6) rfl (by decide) (Nat.le_of_ble_eq_true rfl) (fun X C => ?_)
  change am_K G X { frames := 0, cells := 0, slots := 0, locals := 0 } 1 Λ I J 0 0 0 [(0, .ref y)] []
  have hs := A6_0 hx
  have hB := hok.B
  have hD := hok.D
  have hB9 := hB
  obtain ⟨⟨h6, h7, h8, h9⟩, hnc, hnw, hns, hnl⟩ := hB9
  refine k_aload_n C (f := 0) (i := 0) (p := 0) rfl rfl dX6_kilometre_0 ?_
  refine k_iconst C ic_0 dX6_kilometre_1 ?_
  refine k_putI C f_X6_60 (L6_s (by assumption)) rfl rfl dX6_kilometre_2 ?_
  obtain ⟨I1, hI1⟩ : ∃ z : am_I, z = am_up I y 10 (nI 0) := ⟨_, rfl⟩
  rw [← hI1]
  have hm1 : MRow I1 (y + 1) 0 r := MR_ne hm (by rw [hI1]; exact am_up_ne (by omega))
  have h10 : I1 y 10 = nI 0 := by rw [hI1, am_up_eq]
  refine k_aload_n C (f := 0) (i := 0) (p := 0) rfl rfl dX6_kilometre_5 ?_
  refine k_getR C f_X6_7 (L6_s (by assumption)) (fun _ _ _ => rfl) (L6_0 (by assumption)) dX6_kilometre_6 ?_
  refine k_iconst C ic_1 dX6_kilometre_9 ?_
  refine k_iald C (A6_0 (by assumption)) (by first | rfl | assumption) (by omega) (by decide) (MR hm1 (by decide)) dX6_kilometre_10 ?_
  exact k_iret C (Nat.le_of_ble_eq_true rfl) (Nat.le_of_ble_eq_true rfl) (⟨rfl, rfl, MQx_ok hI1 rfl rfl⟩) dX6_kilometre_11
set_option maxHeartbeats 4000000 in
set_option maxRecDepth 100000 in
theorem ct_X6_day {G : am_G} {Λ : am_L} {I : am_I} {J : am_J} {y : Nat} {r : Nat → Int32}  (hx : ModLay Λ y) (hm : MRow I (y + 1) 0 r) (hok : RowOk r) : am_Ct G yX6_day cX6_day 1 (some .int) { frames := 0, cells := 0, slots := 0, locals := 0 } [.ref y] Λ I J (am_gen Λ J (fun v I' => MQx I y (0) (some (.int (r 2))) v I')) am_never := by
  refine am_ct_of (own := RX6) rfl (by decide) (Nat.le_of_ble_eq_true rfl) (fun X C => ?_)
  change am_K G X { frames := 0, cells := 0, slots := 0, locals := 0 } 1 Λ I J 0 0 0 [(0, .ref y)] []
  have hs := A6_0 hx
  have hB := hok.B
  have hD := hok.D
  have hB9 := hB
  obtain ⟨⟨h6, h7, h8, h9⟩, hnc, hnw, hns, hnl⟩ := hB9
  refine k_aload_n C (f := 0) (i := 0) (p := 0) rfl rfl dX6_day_0 ?_
  refine k_iconst C ic_0 dX6_day_1 ?_
  refine k_putI C f_X6_60 (L6_s (by assumption)) rfl rfl dX6_day_2 ?_
  obtain ⟨I1, hI1⟩ : ∃ z : am_I, z = am_up I y 10 (nI 0) := ⟨_, rfl⟩
  rw [← hI1]
  have hm1 : MRow I1 (y + 1) 0 r := MR_ne hm (by rw [hI1]; exact am_up_ne (by omega))
  have h10 : I1 y 10 = nI 0 := by rw [hI1, am_up_eq]
  refine k_aload_n C (f := 0) (i := 0) (p := 0) rfl rfl dX6_day_5 ?_
  refine k_getR C f_X6_7 (L6_s (by assumption)) (fun _ _ _ => rfl) (L6_0 (by assumption)) dX6_day_6 ?_
  refine k_iconst C ic_2 dX6_day_9 ?_
  refine k_iald C (A6_0 (by assumption)) (by first | rfl | assumption) (by omega) (by decide) (MR hm1 (by decide)) dX6_day_10 ?_
  exact k_iret C (Nat.le_of_ble_eq_true rfl) (Nat.le_of_ble_eq_true rfl) (⟨rfl, rfl, MQx_ok hI1 rfl rfl⟩) dX6_day_11
set_option maxHeartbeats 4000000 in
set_option maxRecDepth 100000 in
theorem ct_X6_drunk {G : am_G} {Λ : am_L} {I : am_I} {J : am_J} {y : Nat} {r : Nat → Int32}  (hx : ModLay Λ y) (hm : MRow I (y + 1) 0 r) (hok : RowOk r) : am_Ct G yX6_drunk cX6_drunk 1 (some .int) { frames := 0, cells := 0, slots := 0, locals := 0 } [.ref y] Λ I J (am_gen Λ J (fun v I' => MQx I y (0) (some (.int (r 5))) v I')) am_never := by
  refine am_ct_of (own := RX6) rfl (by decide) (Nat.le_of_ble_eq_true rfl) (fun X C => ?_)
  change am_K G X { frames := 0, cells := 0, slots := 0, locals := 0 } 1 Λ I J 0 0 0 [(0, .ref y)] []
  have hs := A6_0 hx
  have hB := hok.B
  have hD := hok.D
  have hB9 := hB
  obtain ⟨⟨h6, h7, h8, h9⟩, hnc, hnw, hns, hnl⟩ := hB9
  refine k_aload_n C (f := 0) (i := 0) (p := 0) rfl rfl dX6_drunk_0 ?_
  refine k_iconst C ic_0 dX6_drunk_1 ?_
  refine k_putI C f_X6_60 (L6_s (by assumption)) rfl rfl dX6_drunk_2 ?_
  obtain ⟨I1, hI1⟩ : ∃ z : am_I, z = am_up I y 10 (nI 0) := ⟨_, rfl⟩
  rw [← hI1]
  have hm1 : MRow I1 (y + 1) 0 r := MR_ne hm (by rw [hI1]; exact am_up_ne (by omega))
  have h10 : I1 y 10 = nI 0 := by rw [hI1, am_up_eq]
  refine k_aload_n C (f := 0) (i := 0) (p := 0) rfl rfl dX6_drunk_5 ?_
  refine k_getR C f_X6_7 (L6_s (by assumption)) (fun _ _ _ => rfl) (L6_0 (by assumption)) dX6_drunk_6 ?_
  refine k_iconst C ic_5 dX6_drunk_9 ?_
  refine k_iald C (A6_0 (by assumption)) (by first | rfl | assumption) (by omega) (by decide) (MR hm1 (by decide)) dX6_drunk_10 ?_
  exact k_iret C (Nat.le_of_ble_eq_true rfl) (Nat.le_of_ble_eq_true rfl) (⟨rfl, rfl, MQx_ok hI1 rfl rfl⟩) dX6_drunk_11
set_option maxHeartbeats 4000000 in
set_option maxRecDepth 100000 in
theorem ct_X6_leader {G : am_G} {Λ : am_L} {I : am_I} {J : am_J} {y : Nat} {r : Nat → Int32}  (hx : ModLay Λ y) (hm : MRow I (y + 1) 0 r) (hok : RowOk r) : am_Ct G yX6_leader cX6_leader 1 (some .int) { frames := 0, cells := 0, slots := 0, locals := 0 } [.ref y] Λ I J (am_gen Λ J (fun v I' => MQx I y (0) (some (.int (r 4))) v I')) am_never := by
  refine am_ct_of (own := RX6) rfl (by decide) (Nat.le_of_ble_eq_true rfl) (fun X C => ?_)
  change am_K G X { frames := 0, cells := 0, slots := 0, locals := 0 } 1 Λ I J 0 0 0 [(0, .ref y)] []
  have hs := A6_0 hx
  have hB := hok.B
  have hD := hok.D
  have hB9 := hB
  obtain ⟨⟨h6, h7, h8, h9⟩, hnc, hnw, hns, hnl⟩ := hB9
  refine k_aload_n C (f := 0) (i := 0) (p := 0) rfl rfl dX6_leader_0 ?_
  refine k_iconst C ic_0 dX6_leader_1 ?_
  refine k_putI C f_X6_60 (L6_s (by assumption)) rfl rfl dX6_leader_2 ?_
  obtain ⟨I1, hI1⟩ : ∃ z : am_I, z = am_up I y 10 (nI 0) := ⟨_, rfl⟩
  rw [← hI1]
  have hm1 : MRow I1 (y + 1) 0 r := MR_ne hm (by rw [hI1]; exact am_up_ne (by omega))
  have h10 : I1 y 10 = nI 0 := by rw [hI1, am_up_eq]
  refine k_aload_n C (f := 0) (i := 0) (p := 0) rfl rfl dX6_leader_5 ?_
  refine k_getR C f_X6_7 (L6_s (by assumption)) (fun _ _ _ => rfl) (L6_0 (by assumption)) dX6_leader_6 ?_
  refine k_iconst C ic_4 dX6_leader_9 ?_
  refine k_iald C (A6_0 (by assumption)) (by first | rfl | assumption) (by omega) (by decide) (MR hm1 (by decide)) dX6_leader_10 ?_
  exact k_iret C (Nat.le_of_ble_eq_true rfl) (Nat.le_of_ble_eq_true rfl) (⟨rfl, rfl, MQx_ok hI1 rfl rfl⟩) dX6_leader_11
set_option maxHeartbeats 4000000 in
set_option maxRecDepth 100000 in
theorem ct_X6_wellCount {G : am_G} {Λ : am_L} {I : am_I} {J : am_J} {y : Nat} {r : Nat → Int32}  (hx : ModLay Λ y) (hm : MRow I (y + 1) 0 r) (hok : RowOk r) : am_Ct G yX6_wellCount cX6_wellCount 1 (some .int) { frames := 0, cells := 0, slots := 0, locals := 0 } [.ref y] Λ I J (am_gen Λ J (fun v I' => MQx I y (0) (some (.int (nI (sp_nw r)))) v I')) am_never := by
  refine am_ct_of (own := RX6) rfl (by decide) (Nat.le_of_ble_eq_true rfl) (fun X C => ?_)
  change am_K G X { frames := 0, cells := 0, slots := 0, locals := 0 } 1 Λ I J 0 0 0 [(0, .ref y)] []
  have hs := A6_0 hx
  have hB := hok.B
  have hD := hok.D
  have hB9 := hB
  obtain ⟨⟨h6, h7, h8, h9⟩, hnc, hnw, hns, hnl⟩ := hB9
  refine k_aload_n C (f := 0) (i := 0) (p := 0) rfl rfl dX6_wellCount_0 ?_
  refine k_iconst C ic_0 dX6_wellCount_1 ?_
  refine k_putI C f_X6_60 (L6_s (by assumption)) rfl rfl dX6_wellCount_2 ?_
  obtain ⟨I1, hI1⟩ : ∃ z : am_I, z = am_up I y 10 (nI 0) := ⟨_, rfl⟩
  rw [← hI1]
  have hm1 : MRow I1 (y + 1) 0 r := MR_ne hm (by rw [hI1]; exact am_up_ne (by omega))
  have h10 : I1 y 10 = nI 0 := by rw [hI1, am_up_eq]
  refine k_aload_n C (f := 0) (i := 0) (p := 0) rfl rfl dX6_wellCount_5 ?_
  refine k_getR C f_X6_7 (L6_s (by assumption)) (fun _ _ _ => rfl) (L6_0 (by assumption)) dX6_wellCount_6 ?_
  refine k_bipush C bc_7 dX6_wellCount_9 ?_
  refine k_iald C (A6_0 (by assumption)) (by first | rfl | assumption) (by omega) (by decide) ((MR hm1 (by decide)).trans h7) dX6_wellCount_11 ?_
  exact k_iret C (Nat.le_of_ble_eq_true rfl) (Nat.le_of_ble_eq_true rfl) (⟨rfl, rfl, MQx_ok hI1 rfl rfl⟩) dX6_wellCount_12
set_option maxHeartbeats 4000000 in
set_option maxRecDepth 100000 in
theorem ct_X6_camelCount {G : am_G} {Λ : am_L} {I : am_I} {J : am_J} {y : Nat} {r : Nat → Int32}  (hx : ModLay Λ y) (hm : MRow I (y + 1) 0 r) (hok : RowOk r) : am_Ct G yX6_camelCount cX6_camelCount 1 (some .int) { frames := 0, cells := 0, slots := 0, locals := 0 } [.ref y] Λ I J (am_gen Λ J (fun v I' => MQx I y (0) (some (.int (nI (sp_nc r)))) v I')) am_never := by
  refine am_ct_of (own := RX6) rfl (by decide) (Nat.le_of_ble_eq_true rfl) (fun X C => ?_)
  change am_K G X { frames := 0, cells := 0, slots := 0, locals := 0 } 1 Λ I J 0 0 0 [(0, .ref y)] []
  have hs := A6_0 hx
  have hB := hok.B
  have hD := hok.D
  have hB9 := hB
  obtain ⟨⟨h6, h7, h8, h9⟩, hnc, hnw, hns, hnl⟩ := hB9
  refine k_aload_n C (f := 0) (i := 0) (p := 0) rfl rfl dX6_camelCount_0 ?_
  refine k_iconst C ic_0 dX6_camelCount_1 ?_
  refine k_putI C f_X6_60 (L6_s (by assumption)) rfl rfl dX6_camelCount_2 ?_
  obtain ⟨I1, hI1⟩ : ∃ z : am_I, z = am_up I y 10 (nI 0) := ⟨_, rfl⟩
  rw [← hI1]
  have hm1 : MRow I1 (y + 1) 0 r := MR_ne hm (by rw [hI1]; exact am_up_ne (by omega))
  have h10 : I1 y 10 = nI 0 := by rw [hI1, am_up_eq]
  refine k_aload_n C (f := 0) (i := 0) (p := 0) rfl rfl dX6_camelCount_5 ?_
  refine k_getR C f_X6_7 (L6_s (by assumption)) (fun _ _ _ => rfl) (L6_0 (by assumption)) dX6_camelCount_6 ?_
  refine k_bipush C bc_6 dX6_camelCount_9 ?_
  refine k_iald C (A6_0 (by assumption)) (by first | rfl | assumption) (by omega) (by decide) ((MR hm1 (by decide)).trans h6) dX6_camelCount_11 ?_
  exact k_iret C (Nat.le_of_ble_eq_true rfl) (Nat.le_of_ble_eq_true rfl) (⟨rfl, rfl, MQx_ok hI1 rfl rfl⟩) dX6_camelCount_12
set_option maxHeartbeats 4000000 in
set_option maxRecDepth 100000 in
theorem ct_X6_loadCount {G : am_G} {Λ : am_L} {I : am_I} {J : am_J} {y : Nat} {r : Nat → Int32}  (hx : ModLay Λ y) (hm : MRow I (y + 1) 0 r) (hok : RowOk r) : am_Ct G yX6_loadCount cX6_loadCount 1 (some .int) { frames := 0, cells := 0, slots := 0, locals := 0 } [.ref y] Λ I J (am_gen Λ J (fun v I' => MQx I y (0) (some (.int (nI (sp_nl r)))) v I')) am_never := by
  refine am_ct_of (own := RX6) rfl (by decide) (Nat.le_of_ble_eq_true rfl) (fun X C => ?_)
  change am_K G X { frames := 0, cells := 0, slots := 0, locals := 0 } 1 Λ I J 0 0 0 [(0, .ref y)] []
  have hs := A6_0 hx
  have hB := hok.B
  have hD := hok.D
  have hB9 := hB
  obtain ⟨⟨h6, h7, h8, h9⟩, hnc, hnw, hns, hnl⟩ := hB9
  refine k_aload_n C (f := 0) (i := 0) (p := 0) rfl rfl dX6_loadCount_0 ?_
  refine k_iconst C ic_0 dX6_loadCount_1 ?_
  refine k_putI C f_X6_60 (L6_s (by assumption)) rfl rfl dX6_loadCount_2 ?_
  obtain ⟨I1, hI1⟩ : ∃ z : am_I, z = am_up I y 10 (nI 0) := ⟨_, rfl⟩
  rw [← hI1]
  have hm1 : MRow I1 (y + 1) 0 r := MR_ne hm (by rw [hI1]; exact am_up_ne (by omega))
  have h10 : I1 y 10 = nI 0 := by rw [hI1, am_up_eq]
  refine k_aload_n C (f := 0) (i := 0) (p := 0) rfl rfl dX6_loadCount_5 ?_
  refine k_getR C f_X6_7 (L6_s (by assumption)) (fun _ _ _ => rfl) (L6_0 (by assumption)) dX6_loadCount_6 ?_
  refine k_bipush C bc_9 dX6_loadCount_9 ?_
  refine k_iald C (A6_0 (by assumption)) (by first | rfl | assumption) (by omega) (by decide) ((MR hm1 (by decide)).trans h9) dX6_loadCount_11 ?_
  exact k_iret C (Nat.le_of_ble_eq_true rfl) (Nat.le_of_ble_eq_true rfl) (⟨rfl, rfl, MQx_ok hI1 rfl rfl⟩) dX6_loadCount_12
set_option maxHeartbeats 4000000 in
set_option maxRecDepth 100000 in
theorem ct_X6_hasArrived {G : am_G} {Λ : am_L} {I : am_I} {J : am_J} {y : Nat} {r : Nat → Int32}  (hx : ModLay Λ y) (hm : MRow I (y + 1) 0 r) (hok : RowOk r) : am_Ct G yX6_hasArrived cX6_hasArrived 1 (some .boolean) { frames := 1, cells := 0, slots := 0, locals := 20 } [.ref y] Λ I J (am_gen Λ J (fun v I' => MQx I y (0) (some (.int (am_b (r 0 ≤ r 1)))) v I')) am_never := by
  refine am_ct_of (own := RX6) rfl (by decide) (Nat.le_of_ble_eq_true rfl) (fun X C => ?_)
  change am_K G X { frames := 1, cells := 0, slots := 0, locals := 20 } 1 Λ I J 0 0 0 [(0, .ref y)] []
  have hs := A6_0 hx
  have hB := hok.B
  have hD := hok.D
  have hB9 := hB
  obtain ⟨⟨h6, h7, h8, h9⟩, hnc, hnw, hns, hnl⟩ := hB9
  obtain ⟨L, km, hL, hkm, -, hL9, hkL, -⟩ := hok.2.2.2.2.2.1
  refine k_aload_n C (f := 0) (i := 0) (p := 0) rfl rfl dX6_hasArrived_0 ?_
  refine k_iconst C ic_0 dX6_hasArrived_1 ?_
  refine k_putI C f_X6_60 (L6_s (by assumption)) rfl rfl dX6_hasArrived_2 ?_
  obtain ⟨I1, hI1⟩ : ∃ z : am_I, z = am_up I y 10 (nI 0) := ⟨_, rfl⟩
  rw [← hI1]
  have hm1 : MRow I1 (y + 1) 0 r := MR_ne hm (by rw [hI1]; exact am_up_ne (by omega))
  have h10 : I1 y 10 = nI 0 := by rw [hI1, am_up_eq]
  refine k_aload_n C (f := 0) (i := 0) (p := 0) rfl rfl dX6_hasArrived_5 ?_
  refine k_getR C f_X6_7 (L6_s (by assumption)) (fun _ _ _ => rfl) (L6_0 (by assumption)) dX6_hasArrived_6 ?_
  refine k_callSp C s_X6_137 h_X6_isAtEnd (ct_X6_isAtEnd hs hm1 hB) rfl rfl (Nat.le_of_ble_eq_true rfl) ⟨Nat.le_of_ble_eq_true rfl, Nat.le_of_ble_eq_true rfl⟩ ⟨Nat.le_of_ble_eq_true rfl, Nat.le_of_ble_eq_true rfl⟩ ⟨rfl, rfl⟩ dX6_hasArrived_9 ?_
  exact k_zret C (by first | rfl | exact am_bz) (Nat.le_of_ble_eq_true rfl) (Nat.le_of_ble_eq_true rfl) (⟨rfl, rfl, MQx_ok hI1 rfl (congrArg (fun z => some (Value.int z)) (am_b_iff (by rw [hL, hkm, nI_leI (by omega) (by omega), nI_eq (by omega) (by omega)]; omega)))⟩) dX6_hasArrived_12
set_option maxHeartbeats 4000000 in
set_option maxRecDepth 100000 in
theorem ct_X6_livingCamels {G : am_G} {Λ : am_L} {I : am_I} {J : am_J} {y : Nat} {r : Nat → Int32}  (hx : ModLay Λ y) (hm : MRow I (y + 1) 0 r) (hok : RowOk r) : am_Ct G yX6_livingCamels cX6_livingCamels 1 (some .int) { frames := 3, cells := 0, slots := 0, locals := 64 } [.ref y] Λ I J (am_gen Λ J (fun v I' => MQx I y (0) (some (.int (nI (sp_living r)))) v I')) am_never := by
  refine am_ct_of (own := RX6) rfl (by decide) (Nat.le_of_ble_eq_true rfl) (fun X C => ?_)
  change am_K G X { frames := 3, cells := 0, slots := 0, locals := 64 } 1 Λ I J 0 0 0 [(0, .ref y)] []
  have hs := A6_0 hx
  have hB := hok.B
  have hD := hok.D
  have hB9 := hB
  obtain ⟨⟨h6, h7, h8, h9⟩, hnc, hnw, hns, hnl⟩ := hB9
  refine k_aload_n C (f := 0) (i := 0) (p := 0) rfl rfl dX6_livingCamels_0 ?_
  refine k_iconst C ic_0 dX6_livingCamels_1 ?_
  refine k_putI C f_X6_60 (L6_s (by assumption)) rfl rfl dX6_livingCamels_2 ?_
  obtain ⟨I1, hI1⟩ : ∃ z : am_I, z = am_up I y 10 (nI 0) := ⟨_, rfl⟩
  rw [← hI1]
  have hm1 : MRow I1 (y + 1) 0 r := MR_ne hm (by rw [hI1]; exact am_up_ne (by omega))
  have h10 : I1 y 10 = nI 0 := by rw [hI1, am_up_eq]
  refine k_aload_n C (f := 0) (i := 0) (p := 0) rfl rfl dX6_livingCamels_5 ?_
  refine k_getR C f_X6_7 (L6_s (by assumption)) (fun _ _ _ => rfl) (L6_0 (by assumption)) dX6_livingCamels_6 ?_
  refine k_callSp C s_X6_134 h_X6_livingOf (ct_X6_livingOf hs hm1 hB hD) rfl rfl (Nat.le_of_ble_eq_true rfl) ⟨Nat.le_of_ble_eq_true rfl, Nat.le_of_ble_eq_true rfl⟩ ⟨Nat.le_of_ble_eq_true rfl, Nat.le_of_ble_eq_true rfl⟩ ⟨rfl, rfl⟩ dX6_livingCamels_9 ?_
  exact k_iret C (Nat.le_of_ble_eq_true rfl) (Nat.le_of_ble_eq_true rfl) (⟨rfl, rfl, MQx_ok hI1 rfl rfl⟩) dX6_livingCamels_12
set_option maxHeartbeats 4000000 in
set_option maxRecDepth 100000 in
theorem ct_X6_isStopping {G : am_G} {Λ : am_L} {I : am_I} {J : am_J} {y : Nat} {r : Nat → Int32}  (hx : ModLay Λ y) (hm : MRow I (y + 1) 0 r) (hok : RowOk r) : am_Ct G yX6_isStopping cX6_isStopping 1 (some .boolean) { frames := 0, cells := 0, slots := 0, locals := 0 } [.ref y] Λ I J (am_gen Λ J (fun v I' => MQx I y (0) (some (.int (am_b (r 3 = nI 1)))) v I')) am_never := by
  refine am_ct_of (own := RX6) rfl (by decide) (Nat.le_of_ble_eq_true rfl) (fun X C => ?_)
  change am_K G X { frames := 0, cells := 0, slots := 0, locals := 0 } 1 Λ I J 0 0 0 [(0, .ref y)] []
  have hs := A6_0 hx
  have hB := hok.B
  have hD := hok.D
  have hB9 := hB
  obtain ⟨⟨h6, h7, h8, h9⟩, hnc, hnw, hns, hnl⟩ := hB9
  refine k_aload_n C (f := 0) (i := 0) (p := 0) rfl rfl dX6_isStopping_0 ?_
  refine k_iconst C ic_0 dX6_isStopping_1 ?_
  refine k_putI C f_X6_60 (L6_s (by assumption)) rfl rfl dX6_isStopping_2 ?_
  obtain ⟨I1, hI1⟩ : ∃ z : am_I, z = am_up I y 10 (nI 0) := ⟨_, rfl⟩
  rw [← hI1]
  have hm1 : MRow I1 (y + 1) 0 r := MR_ne hm (by rw [hI1]; exact am_up_ne (by omega))
  have h10 : I1 y 10 = nI 0 := by rw [hI1, am_up_eq]
  refine k_aload_n C (f := 0) (i := 0) (p := 0) rfl rfl dX6_isStopping_5 ?_
  refine k_getR C f_X6_7 (L6_s (by assumption)) (fun _ _ _ => rfl) (L6_0 (by assumption)) dX6_isStopping_6 ?_
  refine k_iconst C ic_3 dX6_isStopping_9 ?_
  refine k_iald C (A6_0 (by assumption)) (by first | rfl | assumption) (by omega) (by decide) (MR hm1 (by decide)) dX6_isStopping_10 ?_
  refine k_iconst C ic_1 dX6_isStopping_11 ?_
  refine k_icmp_ne C (tgt := 19) (by decide) dX6_isStopping_12 (fun hc12 => ?_) (fun hc12 => ?_)
  · skip
    refine k_iconst C ic_0 dX6_isStopping_19 ?_
    exact k_zret C (by first | rfl | exact am_bz) (Nat.le_of_ble_eq_true rfl) (Nat.le_of_ble_eq_true rfl) (⟨rfl, rfl, MQx_ok hI1 rfl (congrArg (fun z => some (Value.int z)) (by first | exact am_bt hc12 | exact am_bf hc12))⟩) dX6_isStopping_20
  · skip
    refine k_iconst C ic_1 dX6_isStopping_15 ?_
    refine k_goto C (tgt := 20) (by decide) dX6_isStopping_16 ?_
    exact k_zret C (by first | rfl | exact am_bz) (Nat.le_of_ble_eq_true rfl) (Nat.le_of_ble_eq_true rfl) (⟨rfl, rfl, MQx_ok hI1 rfl (congrArg (fun z => some (Value.int z)) (by first | exact am_bt hc12 | exact am_bf hc12))⟩) dX6_isStopping_20
set_option maxHeartbeats 4000000 in
set_option maxRecDepth 100000 in
theorem ct_X6_distanceToday {G : am_G} {Λ : am_L} {I : am_I} {J : am_J} {y : Nat} {r : Nat → Int32} {ld : Nat}  (hx : ModLay Λ y) (hm : MRow I (y + 1) 0 r) (hok : RowOk r) (hld : r 4 = nI ld) (hlc : ld < sp_nc r) : am_Ct G yX6_distanceToday cX6_distanceToday 1 (some .int) { frames := 4, cells := 0, slots := 0, locals := 88 } [.ref y] Λ I J (am_gen Λ J (fun v I' => MQx I y (0) (some (.int (if sp_living r = 0 then nI 0 else sp_dist r ld))) v I')) am_never := by
  refine am_ct_of (own := RX6) rfl (by decide) (Nat.le_of_ble_eq_true rfl) (fun X C => ?_)
  change am_K G X { frames := 4, cells := 0, slots := 0, locals := 88 } 1 Λ I J 0 0 0 [(0, .ref y)] []
  have hs := A6_0 hx
  have hB := hok.B
  have hD := hok.D
  have hB9 := hB
  obtain ⟨⟨h6, h7, h8, h9⟩, hnc, hnw, hns, hnl⟩ := hB9
  obtain ⟨L, km, hL, hkm, -, hL9, hkL, -⟩ := hok.2.2.2.2.2.1
  obtain ⟨dd, hdd, hdL⟩ := dist_b hok hlc hL hkm hkL hL9
  have hlv2 : sp_living r ≤ sp_nc r := sp_livingTo_le r (sp_nc r)
  refine k_aload_n C (f := 0) (i := 0) (p := 0) rfl rfl dX6_distanceToday_0 ?_
  refine k_iconst C ic_0 dX6_distanceToday_1 ?_
  refine k_putI C f_X6_60 (L6_s (by assumption)) rfl rfl dX6_distanceToday_2 ?_
  obtain ⟨I1, hI1⟩ : ∃ z : am_I, z = am_up I y 10 (nI 0) := ⟨_, rfl⟩
  rw [← hI1]
  have hm1 : MRow I1 (y + 1) 0 r := MR_ne hm (by rw [hI1]; exact am_up_ne (by omega))
  have h10 : I1 y 10 = nI 0 := by rw [hI1, am_up_eq]
  refine k_aload_n C (f := 0) (i := 0) (p := 0) rfl rfl dX6_distanceToday_5 ?_
  refine k_getR C f_X6_7 (L6_s (by assumption)) (fun _ _ _ => rfl) (L6_0 (by assumption)) dX6_distanceToday_6 ?_
  refine k_callSp C s_X6_137 h_X6_isAtEnd (ct_X6_isAtEnd hs hm1 hB) rfl rfl (Nat.le_of_ble_eq_true rfl) ⟨Nat.le_of_ble_eq_true rfl, Nat.le_of_ble_eq_true rfl⟩ ⟨Nat.le_of_ble_eq_true rfl, Nat.le_of_ble_eq_true rfl⟩ ⟨rfl, rfl⟩ dX6_distanceToday_9 ?_
  refine k_ifb_eq C (tgt := 17) (by decide) dX6_distanceToday_12 (fun hc12 => ?_) (fun hc12 => ?_)
  · skip
    refine k_aload_n C (f := 0) (i := 0) (p := 0) rfl rfl dX6_distanceToday_17 ?_
    refine k_getR C f_X6_7 (L6_s (by assumption)) (fun _ _ _ => rfl) (L6_0 (by assumption)) dX6_distanceToday_18 ?_
    refine k_callSp C s_X6_134 h_X6_livingOf (ct_X6_livingOf hs hm1 hB hD) rfl rfl (Nat.le_of_ble_eq_true rfl) ⟨Nat.le_of_ble_eq_true rfl, Nat.le_of_ble_eq_true rfl⟩ ⟨Nat.le_of_ble_eq_true rfl, Nat.le_of_ble_eq_true rfl⟩ ⟨rfl, rfl⟩ dX6_distanceToday_21 ?_
    refine k_if_ne C (tgt := 29) (by decide) dX6_distanceToday_24 (fun hc24 => ?_) (fun hc24 => ?_)
    · skip
      refine k_aload_n C (f := 0) (i := 0) (p := 0) rfl rfl dX6_distanceToday_29 ?_
      refine k_getR C f_X6_7 (L6_s (by assumption)) (fun _ _ _ => rfl) (L6_0 (by assumption)) dX6_distanceToday_30 ?_
      refine k_callSp C s_X6_114 h_X6_distanceOf (ct_X6_distanceOf hs hm1 hB hld hlc) rfl rfl (Nat.le_of_ble_eq_true rfl) ⟨Nat.le_of_ble_eq_true rfl, Nat.le_of_ble_eq_true rfl⟩ ⟨Nat.le_of_ble_eq_true rfl, Nat.le_of_ble_eq_true rfl⟩ ⟨rfl, rfl⟩ dX6_distanceToday_33 ?_
      exact k_iret C (Nat.le_of_ble_eq_true rfl) (Nat.le_of_ble_eq_true rfl) (⟨rfl, rfl, MQx_ok hI1 rfl (by rw [if_neg (fun z => hc24 (by rw [z]; rfl))])⟩) dX6_distanceToday_36
    · skip
      refine k_iconst C ic_0 dX6_distanceToday_27 ?_
      exact k_iret C (Nat.le_of_ble_eq_true rfl) (Nat.le_of_ble_eq_true rfl) (⟨rfl, rfl, MQx_ok hI1 rfl (by rw [if_pos ((nI_eq (b := 0) (by omega) (by decide)).mp hc24)])⟩) dX6_distanceToday_28
  · skip
    refine k_iconst C ic_0 dX6_distanceToday_15 ?_
    exact k_iret C (Nat.le_of_ble_eq_true rfl) (Nat.le_of_ble_eq_true rfl) (⟨rfl, rfl, MQx_ok hI1 rfl (by
        have e : km = L := by rw [hL, hkm] at hc12; exact (nI_eq (by omega) (by omega)).mp hc12
        by_cases g : sp_living r = 0
        · rw [if_pos g]
        · rw [if_neg g, hdd, show dd = 0 by omega])⟩) dX6_distanceToday_16
set_option maxHeartbeats 4000000 in
set_option maxRecDepth 100000 in
theorem ct_X6_carriedValue {G : am_G} {Λ : am_L} {I : am_I} {J : am_J} {y : Nat} {r : Nat → Int32}  (hx : ModLay Λ y) (hm : MRow I (y + 1) 0 r) (hok : RowOk r) : am_Ct G yX6_carriedValue cX6_carriedValue 3 (some .int) { frames := 1, cells := 0, slots := 0, locals := 21 } [.ref y] Λ I J (am_gen Λ J (fun v I' => MQx I y (0) (some (.int (sp_cvalTo r (sp_nl r)))) v I')) am_never := by
  refine am_ct_of (own := RX6) rfl (by decide) (Nat.le_of_ble_eq_true rfl) (fun X C => ?_)
  change am_K G X { frames := 1, cells := 0, slots := 0, locals := 21 } 3 Λ I J 0 0 0 [(0, .ref y)] []
  have hs := A6_0 hx
  have hB := hok.B
  have hD := hok.D
  have hB9 := hB
  obtain ⟨⟨h6, h7, h8, h9⟩, hnc, hnw, hns, hnl⟩ := hB9
  refine k_aload_n C (f := 0) (i := 0) (p := 0) rfl rfl dX6_carriedValue_0 ?_
  refine k_iconst C ic_0 dX6_carriedValue_1 ?_
  refine k_putI C f_X6_60 (L6_s (by assumption)) rfl rfl dX6_carriedValue_2 ?_
  obtain ⟨I1, hI1⟩ : ∃ z : am_I, z = am_up I y 10 (nI 0) := ⟨_, rfl⟩
  rw [← hI1]
  have hm1 : MRow I1 (y + 1) 0 r := MR_ne hm (by rw [hI1]; exact am_up_ne (by omega))
  have h10 : I1 y 10 = nI 0 := by rw [hI1, am_up_eq]
  refine k_iconst C ic_0 dX6_carriedValue_5 ?_
  refine k_istore_n C (f := 1) (i := 1) (lv := [(1, _), (0, _)]) rfl (Nat.le_of_ble_eq_true rfl) rfl dX6_carriedValue_6 ?_
  refine k_iconst C ic_0 dX6_carriedValue_7 ?_
  refine k_istore_n C (f := 2) (i := 2) (lv := [(2, _), (1, _), (0, _)]) rfl (Nat.le_of_ble_eq_true rfl) rfl dX6_carriedValue_8 ?_
  have loop9 : ∀ (f : Nat) (k : Nat) (su : Int32), (k ≤ sp_nl r) → (su = sp_cvalTo r k) → (sp_nl r - k) < f → am_K G X { frames := 1, cells := 0, slots := 0, locals := 21 } 3 Λ I1 J 0 0 9 [(0, .ref y), (1, .int su), (2, .int (nI k))] [] := by
    intro f
    induction f with
    | zero => intro k su hk hs hf; exact absurd hf (Nat.not_lt_zero _)
    | succ f ih9 =>
      intro k su hk hs hf
      refine k_iload_n C (f := 2) (i := 2) (p := 2) rfl rfl dX6_carriedValue_9 ?_
      refine k_aload_n C (f := 0) (i := 0) (p := 0) rfl rfl dX6_carriedValue_10 ?_
      refine k_getR C f_X6_7 (L6_s (by assumption)) (fun _ _ _ => rfl) (L6_0 (by assumption)) dX6_carriedValue_11 ?_
      refine k_bipush C bc_9 dX6_carriedValue_14 ?_
      refine k_iald C (A6_0 (by assumption)) (by first | rfl | assumption) (by omega) (by decide) ((MR hm1 (by decide)).trans h9) dX6_carriedValue_16 ?_
      first
      | refine k_icmpN_ge C (tgt := 52) (by omega) (by omega) (by decide) dX6_carriedValue_17 (fun hc17 => ?_) (fun hc17 => ?_)
      | refine k_icmp_ge C (tgt := 52) (by decide) dX6_carriedValue_17 (fun hc17 => ?_) (fun hc17 => ?_)
      · skip
        refine k_iload_n C (f := 1) (i := 1) (p := 1) rfl rfl dX6_carriedValue_52 ?_
        exact k_iret C (Nat.le_of_ble_eq_true rfl) (Nat.le_of_ble_eq_true rfl) (⟨rfl, rfl, MQx_ok hI1 rfl (by rw [hs, show k = sp_nl r by omega])⟩) dX6_carriedValue_53
      · skip
        refine k_aload_n C (f := 0) (i := 0) (p := 0) rfl rfl dX6_carriedValue_20 ?_
        refine k_getR C f_X6_7 (L6_s (by assumption)) (fun _ _ _ => rfl) (L6_0 (by assumption)) dX6_carriedValue_21 ?_
        refine k_iload_n C (f := 2) (i := 2) (p := 2) rfl rfl dX6_carriedValue_24 ?_
        refine k_iconst C ic_2 dX6_carriedValue_25 ?_
        refine k_callSp C s_X6_56 h_X6_loadAt (ct_X6_loadAt ) rfl rfl (Nat.le_of_ble_eq_true rfl) ⟨Nat.le_of_ble_eq_true rfl, Nat.le_of_ble_eq_true rfl⟩ ⟨Nat.le_of_ble_eq_true rfl, Nat.le_of_ble_eq_true rfl⟩ ⟨rfl, rfl⟩ dX6_carriedValue_26 ?_
        refine k_iald C (A6_0 (by assumption)) (by first | rfl | assumption) (by omega) (by decide) (MRx (i := 142 + 4 * k) hm1 (by omega) (by omega)) dX6_carriedValue_29 ?_
        refine k_if_lt C (tgt := 46) (by decide) dX6_carriedValue_30 (fun hc30 => ?_) (fun hc30 => ?_)
        · skip
          refine k_iinc C (i := 2) (p := 2) (lv := [(2, _), (0, _), (1, _)]) (Nat.le_of_ble_eq_true rfl) rfl (by first | exact am_inc1 _ | rfl) rfl dX6_carriedValue_46 ?_
          refine k_goto C (tgt := 9) (by decide) dX6_carriedValue_49 ?_
          refine k_sub [1, 2, 0] rfl ?_
          first
          | exact ih9 (k + 1) _ (by omega) (by rw [sp_cvalTo_t ((RK_lo hok k (by omega)).2.resolve_right (fun ⟨i, e, hi⟩ => by rw [e] at hc30; exact nI_neg (by omega) hc30))]; exact hs) (by omega)
          | exact ih9 (k + 1) _ (by omega) (by rw [sp_cvalTo_f (fun q => by rw [q] at hc30; exact hc30 (by decide)), hs]) (by omega)
        · skip
          refine k_iload_n C (f := 1) (i := 1) (p := 1) rfl rfl dX6_carriedValue_33 ?_
          refine k_aload_n C (f := 0) (i := 0) (p := 0) rfl rfl dX6_carriedValue_34 ?_
          refine k_getR C f_X6_7 (L6_s (by assumption)) (fun _ _ _ => rfl) (L6_0 (by assumption)) dX6_carriedValue_35 ?_
          refine k_iload_n C (f := 2) (i := 2) (p := 2) rfl rfl dX6_carriedValue_38 ?_
          refine k_iconst C ic_1 dX6_carriedValue_39 ?_
          refine k_callSp C s_X6_56 h_X6_loadAt (ct_X6_loadAt ) rfl rfl (Nat.le_of_ble_eq_true rfl) ⟨Nat.le_of_ble_eq_true rfl, Nat.le_of_ble_eq_true rfl⟩ ⟨Nat.le_of_ble_eq_true rfl, Nat.le_of_ble_eq_true rfl⟩ ⟨rfl, rfl⟩ dX6_carriedValue_40 ?_
          refine k_iald C (A6_0 (by assumption)) (by first | rfl | assumption) (by omega) (by decide) (MRx (i := 141 + 4 * k) hm1 (by omega) (by omega)) dX6_carriedValue_43 ?_
          refine k_iadd C dX6_carriedValue_44 ?_
          refine k_istore_n C (f := 1) (i := 1) (lv := [(1, _), (0, _), (2, _)]) rfl (Nat.le_of_ble_eq_true rfl) rfl dX6_carriedValue_45 ?_
          refine k_iinc C (i := 2) (p := 2) (lv := [(2, _), (1, _), (0, _)]) (Nat.le_of_ble_eq_true rfl) rfl (by first | exact am_inc1 _ | rfl) rfl dX6_carriedValue_46 ?_
          refine k_goto C (tgt := 9) (by decide) dX6_carriedValue_49 ?_
          refine k_sub [2, 1, 0] rfl ?_
          first
          | exact ih9 (k + 1) _ (by omega) (by rw [sp_cvalTo_t ((RK_lo hok k (by omega)).2.resolve_right (fun ⟨i, e, hi⟩ => by rw [e] at hc30; exact nI_neg (by omega) hc30))]; exact hs) (by omega)
          | exact ih9 (k + 1) _ (by omega) (by rw [sp_cvalTo_f (fun q => by rw [q] at hc30; exact hc30 (by decide)), hs]) (by omega)
  refine k_sub [2, 1, 0] rfl ?_
  exact loop9 (sp_nl r + 1) 0 (nI 0) (Nat.zero_le _) rfl (by omega)
set_option maxHeartbeats 4000000 in
set_option maxRecDepth 100000 in
theorem ct_X6_hasError {G : am_G} {Λ : am_L} {I : am_I} {J : am_J} {y : Nat} {r : Nat → Int32} {e : Int32}  (hx : ModLay Λ y) (hm : MRow I (y + 1) 0 r) (hok : RowOk r) (he : I y 9 = e) (he2 : e = -1 ∨ ∃ k : Nat, e = nI k ∧ k ≤ 700) : am_Ct G yX6_hasError cX6_hasError 1 (some .boolean) { frames := 0, cells := 0, slots := 0, locals := 0 } [.ref y] Λ I J (am_gen Λ J (fun v I' => MQx I y (0) (some (.int (am_b (¬ e = -1)))) v I')) am_never := by
  refine am_ct_of (own := RX6) rfl (by decide) (Nat.le_of_ble_eq_true rfl) (fun X C => ?_)
  change am_K G X { frames := 0, cells := 0, slots := 0, locals := 0 } 1 Λ I J 0 0 0 [(0, .ref y)] []
  have hs := A6_0 hx
  have hB := hok.B
  have hD := hok.D
  have hB9 := hB
  obtain ⟨⟨h6, h7, h8, h9⟩, hnc, hnw, hns, hnl⟩ := hB9
  refine k_aload_n C (f := 0) (i := 0) (p := 0) rfl rfl dX6_hasError_0 ?_
  refine k_iconst C ic_0 dX6_hasError_1 ?_
  refine k_putI C f_X6_60 (L6_s (by assumption)) rfl rfl dX6_hasError_2 ?_
  obtain ⟨I1, hI1⟩ : ∃ z : am_I, z = am_up I y 10 (nI 0) := ⟨_, rfl⟩
  rw [← hI1]
  have hm1 : MRow I1 (y + 1) 0 r := MR_ne hm (by rw [hI1]; exact am_up_ne (by omega))
  have h10 : I1 y 10 = nI 0 := by rw [hI1, am_up_eq]
  refine k_aload_n C (f := 0) (i := 0) (p := 0) rfl rfl dX6_hasError_5 ?_
  refine k_getI C f_X6_32 (L6_s (by assumption)) (fun _ _ _ => rfl) (Eq.trans (by rw [hI1]; exact am_up_n2 (by omega)) he) dX6_hasError_6 ?_
  refine k_if_lt C (tgt := 16) (by decide) dX6_hasError_9 (fun hc9 => ?_) (fun hc9 => ?_)
  · skip
    refine k_iconst C ic_0 dX6_hasError_16 ?_
    exact k_zret C (by first | rfl | exact am_bz) (Nat.le_of_ble_eq_true rfl) (Nat.le_of_ble_eq_true rfl) (⟨rfl, rfl, MQx_ok hI1 rfl (congrArg (fun z => some (Value.int z)) (by
        first
        | exact am_bf (fun q => q (he2.resolve_right (fun ⟨k, z, hk⟩ => by rw [z] at hc9; exact nI_neg (by omega) hc9)))
        | exact am_bt (fun q => by rw [q] at hc9; exact hc9 (by decide))))⟩) dX6_hasError_17
  · skip
    refine k_iconst C ic_1 dX6_hasError_12 ?_
    refine k_goto C (tgt := 17) (by decide) dX6_hasError_13 ?_
    exact k_zret C (by first | rfl | exact am_bz) (Nat.le_of_ble_eq_true rfl) (Nat.le_of_ble_eq_true rfl) (⟨rfl, rfl, MQx_ok hI1 rfl (congrArg (fun z => some (Value.int z)) (by
        first
        | exact am_bf (fun q => q (he2.resolve_right (fun ⟨k, z, hk⟩ => by rw [z] at hc9; exact nI_neg (by omega) hc9)))
        | exact am_bt (fun q => by rw [q] at hc9; exact hc9 (by decide))))⟩) dX6_hasError_17
set_option maxHeartbeats 4000000 in
set_option maxRecDepth 100000 in
theorem ct_X6_errorOffset {G : am_G} {Λ : am_L} {I : am_I} {J : am_J} {y : Nat} {r : Nat → Int32} {e : Int32}  (hx : ModLay Λ y) (hm : MRow I (y + 1) 0 r) (hok : RowOk r) (he : I y 9 = e) (he2 : e = -1 ∨ ∃ k : Nat, e = nI k ∧ k ≤ 700) : am_Ct G yX6_errorOffset cX6_errorOffset 1 (some .int) { frames := 1, cells := 0, slots := 0, locals := 21 } [.ref y] Λ I J (am_gen Λ J (fun v I' => MQx I y (if e = -1 then 1 else 0) (some (.int e)) v I')) am_never := by
  refine am_ct_of (own := RX6) rfl (by decide) (Nat.le_of_ble_eq_true rfl) (fun X C => ?_)
  change am_K G X { frames := 1, cells := 0, slots := 0, locals := 21 } 1 Λ I J 0 0 0 [(0, .ref y)] []
  have hs := A6_0 hx
  have hB := hok.B
  have hD := hok.D
  have hB9 := hB
  obtain ⟨⟨h6, h7, h8, h9⟩, hnc, hnw, hns, hnl⟩ := hB9
  refine k_aload_n C (f := 0) (i := 0) (p := 0) rfl rfl dX6_errorOffset_0 ?_
  refine k_iconst C ic_0 dX6_errorOffset_1 ?_
  refine k_putI C f_X6_60 (L6_s (by assumption)) rfl rfl dX6_errorOffset_2 ?_
  obtain ⟨I1, hI1⟩ : ∃ z : am_I, z = am_up I y 10 (nI 0) := ⟨_, rfl⟩
  rw [← hI1]
  have hm1 : MRow I1 (y + 1) 0 r := MR_ne hm (by rw [hI1]; exact am_up_ne (by omega))
  have h10 : I1 y 10 = nI 0 := by rw [hI1, am_up_eq]
  refine k_aload_n C (f := 0) (i := 0) (p := 0) rfl rfl dX6_errorOffset_5 ?_
  refine k_getI C f_X6_32 (L6_s (by assumption)) (fun _ _ _ => rfl) (Eq.trans (by rw [hI1]; exact am_up_n2 (by omega)) he) dX6_errorOffset_6 ?_
  refine k_if_ge C (tgt := 18) (by decide) dX6_errorOffset_9 (fun hc9 => ?_) (fun hc9 => ?_)
  · skip
    refine k_aload_n C (f := 0) (i := 0) (p := 0) rfl rfl dX6_errorOffset_18 ?_
    refine k_getI C f_X6_32 (L6_s (by assumption)) (fun _ _ _ => rfl) (Eq.trans (by rw [hI1]; exact am_up_n2 (by omega)) he) dX6_errorOffset_19 ?_
    exact k_iret C (Nat.le_of_ble_eq_true rfl) (Nat.le_of_ble_eq_true rfl) (⟨rfl, rfl, MQx_ok hI1 (if_neg (fun q => by rw [q] at hc9; exact absurd hc9 (by decide))) rfl⟩) dX6_errorOffset_22
  · skip
    refine k_aload_n C (f := 0) (i := 0) (p := 0) rfl rfl dX6_errorOffset_12 ?_
    refine k_iconst C ic_1 dX6_errorOffset_13 ?_
    refine k_callVg C s_X6_147 h_X6_fails (L6_s (by assumption)) rfl (ct_X6_fails hx) rfl rfl (Nat.le_of_ble_eq_true rfl) ⟨Nat.le_of_ble_eq_true rfl, Nat.le_of_ble_eq_true rfl⟩ ⟨Nat.le_of_ble_eq_true rfl, Nat.le_of_ble_eq_true rfl⟩ ⟨rfl, rfl⟩ dX6_errorOffset_14 ?_
    intro v14 I2 hv
    obtain ⟨rfl, hI2⟩ := hv
    exact k_iret C (Nat.le_of_ble_eq_true rfl) (Nat.le_of_ble_eq_true rfl) (⟨rfl, rfl, MQx_no hI1 hI2 (if_pos (he2.resolve_right (fun ⟨k, z, hk⟩ => by rw [z] at hc9; exact hc9 (nI_pos' (by omega))))) (by decide)⟩) dX6_errorOffset_17
set_option maxHeartbeats 4000000 in
set_option maxRecDepth 100000 in
theorem ct_X6_wellHere {G : am_G} {Λ : am_L} {I : am_I} {J : am_J} {y : Nat} {r : Nat → Int32}  (hx : ModLay Λ y) (hm : MRow I (y + 1) 0 r) (hok : RowOk r) : am_Ct G yX6_wellHere cX6_wellHere 2 (some .int) { frames := 2, cells := 0, slots := 0, locals := 43 } [.ref y] Λ I J (am_gen Λ J (fun v I' => MQx I y (if sp_wellOn r (r 1) = -1 then 1 else 0) (some (.int (sp_wellOn r (r 1)))) v I')) am_never := by
  refine am_ct_of (own := RX6) rfl (by decide) (Nat.le_of_ble_eq_true rfl) (fun X C => ?_)
  change am_K G X { frames := 2, cells := 0, slots := 0, locals := 43 } 2 Λ I J 0 0 0 [(0, .ref y)] []
  have hs := A6_0 hx
  have hB := hok.B
  have hD := hok.D
  have hB9 := hB
  obtain ⟨⟨h6, h7, h8, h9⟩, hnc, hnw, hns, hnl⟩ := hB9
  have hor := wellOn_or r (r 1)
  refine k_aload_n C (f := 0) (i := 0) (p := 0) rfl rfl dX6_wellHere_0 ?_
  refine k_iconst C ic_0 dX6_wellHere_1 ?_
  refine k_putI C f_X6_60 (L6_s (by assumption)) rfl rfl dX6_wellHere_2 ?_
  obtain ⟨I1, hI1⟩ : ∃ z : am_I, z = am_up I y 10 (nI 0) := ⟨_, rfl⟩
  rw [← hI1]
  have hm1 : MRow I1 (y + 1) 0 r := MR_ne hm (by rw [hI1]; exact am_up_ne (by omega))
  have h10 : I1 y 10 = nI 0 := by rw [hI1, am_up_eq]
  refine k_aload_n C (f := 0) (i := 0) (p := 0) rfl rfl dX6_wellHere_5 ?_
  refine k_getR C f_X6_7 (L6_s (by assumption)) (fun _ _ _ => rfl) (L6_0 (by assumption)) dX6_wellHere_6 ?_
  refine k_aload_n C (f := 0) (i := 0) (p := 0) rfl rfl dX6_wellHere_9 ?_
  refine k_getR C f_X6_7 (L6_s (by assumption)) (fun _ _ _ => rfl) (L6_0 (by assumption)) dX6_wellHere_10 ?_
  refine k_iconst C ic_1 dX6_wellHere_13 ?_
  refine k_iald C (A6_0 (by assumption)) (by first | rfl | assumption) (by omega) (by decide) (MR hm1 (by decide)) dX6_wellHere_14 ?_
  refine k_callSp C s_X6_204 h_X6_wellOn (ct_X6_wellOn hs hm1 hB) rfl rfl (Nat.le_of_ble_eq_true rfl) ⟨Nat.le_of_ble_eq_true rfl, Nat.le_of_ble_eq_true rfl⟩ ⟨Nat.le_of_ble_eq_true rfl, Nat.le_of_ble_eq_true rfl⟩ ⟨rfl, rfl⟩ dX6_wellHere_15 ?_
  refine k_istore_n C (f := 1) (i := 1) (lv := [(1, _), (0, _)]) rfl (Nat.le_of_ble_eq_true rfl) rfl dX6_wellHere_18 ?_
  refine k_iload_n C (f := 1) (i := 1) (p := 0) rfl rfl dX6_wellHere_19 ?_
  refine k_if_ge C (tgt := 29) (by decide) dX6_wellHere_20 (fun hc20 => ?_) (fun hc20 => ?_)
  · skip
    refine k_iload_n C (f := 1) (i := 1) (p := 0) rfl rfl dX6_wellHere_29 ?_
    exact k_iret C (Nat.le_of_ble_eq_true rfl) (Nat.le_of_ble_eq_true rfl) (⟨rfl, rfl, MQx_ok hI1 (if_neg (fun q => by rw [q] at hc20; exact absurd hc20 (by decide))) rfl⟩) dX6_wellHere_30
  · skip
    refine k_aload_n C (f := 0) (i := 0) (p := 1) rfl rfl dX6_wellHere_23 ?_
    refine k_iconst C ic_1 dX6_wellHere_24 ?_
    refine k_callVg C s_X6_147 h_X6_fails (L6_s (by assumption)) rfl (ct_X6_fails hx) rfl rfl (Nat.le_of_ble_eq_true rfl) ⟨Nat.le_of_ble_eq_true rfl, Nat.le_of_ble_eq_true rfl⟩ ⟨Nat.le_of_ble_eq_true rfl, Nat.le_of_ble_eq_true rfl⟩ ⟨rfl, rfl⟩ dX6_wellHere_25 ?_
    intro v25 I2 hv
    obtain ⟨rfl, hI2⟩ := hv
    exact k_iret C (Nat.le_of_ble_eq_true rfl) (Nat.le_of_ble_eq_true rfl) (⟨rfl, rfl, MQx_no hI1 hI2 (if_pos (hor.resolve_right (fun ⟨k, z, hk⟩ => by rw [z] at hc20; exact hc20 (nI_pos' (by omega))))) (by decide)⟩) dX6_wellHere_28
set_option maxHeartbeats 4000000 in
set_option maxRecDepth 100000 in
theorem ct_X6_nextWell {G : am_G} {Λ : am_L} {I : am_I} {J : am_J} {y : Nat} {r : Nat → Int32}  (hx : ModLay Λ y) (hm : MRow I (y + 1) 0 r) (hok : RowOk r) : am_Ct G yX6_nextWell cX6_nextWell 2 (some .int) { frames := 2, cells := 0, slots := 0, locals := 44 } [.ref y] Λ I J (am_gen Λ J (fun v I' => MQx I y (if sp_behind r (r 1) = -1 then 1 else 0) (some (.int (sp_behind r (r 1)))) v I')) am_never := by
  refine am_ct_of (own := RX6) rfl (by decide) (Nat.le_of_ble_eq_true rfl) (fun X C => ?_)
  change am_K G X { frames := 2, cells := 0, slots := 0, locals := 44 } 2 Λ I J 0 0 0 [(0, .ref y)] []
  have hs := A6_0 hx
  have hB := hok.B
  have hD := hok.D
  have hB9 := hB
  obtain ⟨⟨h6, h7, h8, h9⟩, hnc, hnw, hns, hnl⟩ := hB9
  have hor := md_behind_or r (r 1)
  refine k_aload_n C (f := 0) (i := 0) (p := 0) rfl rfl dX6_nextWell_0 ?_
  refine k_iconst C ic_0 dX6_nextWell_1 ?_
  refine k_putI C f_X6_60 (L6_s (by assumption)) rfl rfl dX6_nextWell_2 ?_
  obtain ⟨I1, hI1⟩ : ∃ z : am_I, z = am_up I y 10 (nI 0) := ⟨_, rfl⟩
  rw [← hI1]
  have hm1 : MRow I1 (y + 1) 0 r := MR_ne hm (by rw [hI1]; exact am_up_ne (by omega))
  have h10 : I1 y 10 = nI 0 := by rw [hI1, am_up_eq]
  refine k_aload_n C (f := 0) (i := 0) (p := 0) rfl rfl dX6_nextWell_5 ?_
  refine k_getR C f_X6_7 (L6_s (by assumption)) (fun _ _ _ => rfl) (L6_0 (by assumption)) dX6_nextWell_6 ?_
  refine k_aload_n C (f := 0) (i := 0) (p := 0) rfl rfl dX6_nextWell_9 ?_
  refine k_getR C f_X6_7 (L6_s (by assumption)) (fun _ _ _ => rfl) (L6_0 (by assumption)) dX6_nextWell_10 ?_
  refine k_iconst C ic_1 dX6_nextWell_13 ?_
  refine k_iald C (A6_0 (by assumption)) (by first | rfl | assumption) (by omega) (by decide) (MR hm1 (by decide)) dX6_nextWell_14 ?_
  refine k_callSp C s_X6_100 h_X6_wellBehind (ct_X6_wellBehind hs hm1 hB) rfl rfl (Nat.le_of_ble_eq_true rfl) ⟨Nat.le_of_ble_eq_true rfl, Nat.le_of_ble_eq_true rfl⟩ ⟨Nat.le_of_ble_eq_true rfl, Nat.le_of_ble_eq_true rfl⟩ ⟨rfl, rfl⟩ dX6_nextWell_15 ?_
  refine k_istore_n C (f := 1) (i := 1) (lv := [(1, _), (0, _)]) rfl (Nat.le_of_ble_eq_true rfl) rfl dX6_nextWell_18 ?_
  refine k_iload_n C (f := 1) (i := 1) (p := 0) rfl rfl dX6_nextWell_19 ?_
  refine k_if_ge C (tgt := 29) (by decide) dX6_nextWell_20 (fun hc20 => ?_) (fun hc20 => ?_)
  · skip
    refine k_iload_n C (f := 1) (i := 1) (p := 0) rfl rfl dX6_nextWell_29 ?_
    exact k_iret C (Nat.le_of_ble_eq_true rfl) (Nat.le_of_ble_eq_true rfl) (⟨rfl, rfl, MQx_ok hI1 (if_neg (fun q => by rw [q] at hc20; exact absurd hc20 (by decide))) rfl⟩) dX6_nextWell_30
  · skip
    refine k_aload_n C (f := 0) (i := 0) (p := 1) rfl rfl dX6_nextWell_23 ?_
    refine k_iconst C ic_1 dX6_nextWell_24 ?_
    refine k_callVg C s_X6_147 h_X6_fails (L6_s (by assumption)) rfl (ct_X6_fails hx) rfl rfl (Nat.le_of_ble_eq_true rfl) ⟨Nat.le_of_ble_eq_true rfl, Nat.le_of_ble_eq_true rfl⟩ ⟨Nat.le_of_ble_eq_true rfl, Nat.le_of_ble_eq_true rfl⟩ ⟨rfl, rfl⟩ dX6_nextWell_25 ?_
    intro v25 I2 hv
    obtain ⟨rfl, hI2⟩ := hv
    exact k_iret C (Nat.le_of_ble_eq_true rfl) (Nat.le_of_ble_eq_true rfl) (⟨rfl, rfl, MQx_no hI1 hI2 (if_pos (hor.resolve_right (fun ⟨k, z, hk⟩ => by rw [z] at hc20; exact hc20 (nI_pos' (by omega))))) (by decide)⟩) dX6_nextWell_28
set_option maxHeartbeats 4000000 in
set_option maxRecDepth 100000 in
theorem ct_X6_thirstiest {G : am_G} {Λ : am_L} {I : am_I} {J : am_J} {y : Nat} {r : Nat → Int32}  (hx : ModLay Λ y) (hm : MRow I (y + 1) 0 r) (hok : RowOk r) : am_Ct G yX6_thirstiest cX6_thirstiest 2 (some .int) { frames := 3, cells := 0, slots := 0, locals := 64 } [.ref y] Λ I J (am_gen Λ J (fun v I' => MQx I y (if sp_thirst r = -1 then 1 else 0) (some (.int (sp_thirst r))) v I')) am_never := by
  refine am_ct_of (own := RX6) rfl (by decide) (Nat.le_of_ble_eq_true rfl) (fun X C => ?_)
  change am_K G X { frames := 3, cells := 0, slots := 0, locals := 64 } 2 Λ I J 0 0 0 [(0, .ref y)] []
  have hs := A6_0 hx
  have hB := hok.B
  have hD := hok.D
  have hB9 := hB
  obtain ⟨⟨h6, h7, h8, h9⟩, hnc, hnw, hns, hnl⟩ := hB9
  have hor := md_thirst_or r
  refine k_aload_n C (f := 0) (i := 0) (p := 0) rfl rfl dX6_thirstiest_0 ?_
  refine k_iconst C ic_0 dX6_thirstiest_1 ?_
  refine k_putI C f_X6_60 (L6_s (by assumption)) rfl rfl dX6_thirstiest_2 ?_
  obtain ⟨I1, hI1⟩ : ∃ z : am_I, z = am_up I y 10 (nI 0) := ⟨_, rfl⟩
  rw [← hI1]
  have hm1 : MRow I1 (y + 1) 0 r := MR_ne hm (by rw [hI1]; exact am_up_ne (by omega))
  have h10 : I1 y 10 = nI 0 := by rw [hI1, am_up_eq]
  refine k_aload_n C (f := 0) (i := 0) (p := 0) rfl rfl dX6_thirstiest_5 ?_
  refine k_getR C f_X6_7 (L6_s (by assumption)) (fun _ _ _ => rfl) (L6_0 (by assumption)) dX6_thirstiest_6 ?_
  refine k_callSp C s_X6_250 h_X6_thirstiestOf (ct_X6_thirstiestOf hs hm1 hB hD) rfl rfl (Nat.le_of_ble_eq_true rfl) ⟨Nat.le_of_ble_eq_true rfl, Nat.le_of_ble_eq_true rfl⟩ ⟨Nat.le_of_ble_eq_true rfl, Nat.le_of_ble_eq_true rfl⟩ ⟨rfl, rfl⟩ dX6_thirstiest_9 ?_
  refine k_istore_n C (f := 1) (i := 1) (lv := [(1, _), (0, _)]) rfl (Nat.le_of_ble_eq_true rfl) rfl dX6_thirstiest_12 ?_
  refine k_iload_n C (f := 1) (i := 1) (p := 0) rfl rfl dX6_thirstiest_13 ?_
  refine k_if_ge C (tgt := 23) (by decide) dX6_thirstiest_14 (fun hc14 => ?_) (fun hc14 => ?_)
  · skip
    refine k_iload_n C (f := 1) (i := 1) (p := 0) rfl rfl dX6_thirstiest_23 ?_
    exact k_iret C (Nat.le_of_ble_eq_true rfl) (Nat.le_of_ble_eq_true rfl) (⟨rfl, rfl, MQx_ok hI1 (if_neg (fun q => by rw [q] at hc14; exact absurd hc14 (by decide))) rfl⟩) dX6_thirstiest_24
  · skip
    refine k_aload_n C (f := 0) (i := 0) (p := 1) rfl rfl dX6_thirstiest_17 ?_
    refine k_iconst C ic_1 dX6_thirstiest_18 ?_
    refine k_callVg C s_X6_147 h_X6_fails (L6_s (by assumption)) rfl (ct_X6_fails hx) rfl rfl (Nat.le_of_ble_eq_true rfl) ⟨Nat.le_of_ble_eq_true rfl, Nat.le_of_ble_eq_true rfl⟩ ⟨Nat.le_of_ble_eq_true rfl, Nat.le_of_ble_eq_true rfl⟩ ⟨rfl, rfl⟩ dX6_thirstiest_19 ?_
    intro v19 I2 hv
    obtain ⟨rfl, hI2⟩ := hv
    exact k_iret C (Nat.le_of_ble_eq_true rfl) (Nat.le_of_ble_eq_true rfl) (⟨rfl, rfl, MQx_no hI1 hI2 (if_pos (hor.resolve_right (fun ⟨k, z, hk⟩ => by rw [z] at hc14; exact hc14 (nI_pos' (by omega))))) (by decide)⟩) dX6_thirstiest_22
set_option maxHeartbeats 4000000 in
set_option maxRecDepth 100000 in
theorem ct_X6_fastest {G : am_G} {Λ : am_L} {I : am_I} {J : am_J} {y : Nat} {r : Nat → Int32}  (hx : ModLay Λ y) (hm : MRow I (y + 1) 0 r) (hok : RowOk r) : am_Ct G yX6_fastest cX6_fastest 2 (some .int) { frames := 4, cells := 0, slots := 0, locals := 88 } [.ref y] Λ I J (am_gen Λ J (fun v I' => MQx I y (if sp_fast r = -1 then 1 else 0) (some (.int (sp_fast r))) v I')) am_never := by
  refine am_ct_of (own := RX6) rfl (by decide) (Nat.le_of_ble_eq_true rfl) (fun X C => ?_)
  change am_K G X { frames := 4, cells := 0, slots := 0, locals := 88 } 2 Λ I J 0 0 0 [(0, .ref y)] []
  have hs := A6_0 hx
  have hB := hok.B
  have hD := hok.D
  have hB9 := hB
  obtain ⟨⟨h6, h7, h8, h9⟩, hnc, hnw, hns, hnl⟩ := hB9
  have hor := md_fast_or r
  refine k_aload_n C (f := 0) (i := 0) (p := 0) rfl rfl dX6_fastest_0 ?_
  refine k_iconst C ic_0 dX6_fastest_1 ?_
  refine k_putI C f_X6_60 (L6_s (by assumption)) rfl rfl dX6_fastest_2 ?_
  obtain ⟨I1, hI1⟩ : ∃ z : am_I, z = am_up I y 10 (nI 0) := ⟨_, rfl⟩
  rw [← hI1]
  have hm1 : MRow I1 (y + 1) 0 r := MR_ne hm (by rw [hI1]; exact am_up_ne (by omega))
  have h10 : I1 y 10 = nI 0 := by rw [hI1, am_up_eq]
  refine k_aload_n C (f := 0) (i := 0) (p := 0) rfl rfl dX6_fastest_5 ?_
  refine k_getR C f_X6_7 (L6_s (by assumption)) (fun _ _ _ => rfl) (L6_0 (by assumption)) dX6_fastest_6 ?_
  refine k_callSp C s_X6_110 h_X6_fastestOf (ct_X6_fastestOf hs hm1 hB hD) rfl rfl (Nat.le_of_ble_eq_true rfl) ⟨Nat.le_of_ble_eq_true rfl, Nat.le_of_ble_eq_true rfl⟩ ⟨Nat.le_of_ble_eq_true rfl, Nat.le_of_ble_eq_true rfl⟩ ⟨rfl, rfl⟩ dX6_fastest_9 ?_
  refine k_istore_n C (f := 1) (i := 1) (lv := [(1, _), (0, _)]) rfl (Nat.le_of_ble_eq_true rfl) rfl dX6_fastest_12 ?_
  refine k_iload_n C (f := 1) (i := 1) (p := 0) rfl rfl dX6_fastest_13 ?_
  refine k_if_ge C (tgt := 23) (by decide) dX6_fastest_14 (fun hc14 => ?_) (fun hc14 => ?_)
  · skip
    refine k_iload_n C (f := 1) (i := 1) (p := 0) rfl rfl dX6_fastest_23 ?_
    exact k_iret C (Nat.le_of_ble_eq_true rfl) (Nat.le_of_ble_eq_true rfl) (⟨rfl, rfl, MQx_ok hI1 (if_neg (fun q => by rw [q] at hc14; exact absurd hc14 (by decide))) rfl⟩) dX6_fastest_24
  · skip
    refine k_aload_n C (f := 0) (i := 0) (p := 1) rfl rfl dX6_fastest_17 ?_
    refine k_iconst C ic_1 dX6_fastest_18 ?_
    refine k_callVg C s_X6_147 h_X6_fails (L6_s (by assumption)) rfl (ct_X6_fails hx) rfl rfl (Nat.le_of_ble_eq_true rfl) ⟨Nat.le_of_ble_eq_true rfl, Nat.le_of_ble_eq_true rfl⟩ ⟨Nat.le_of_ble_eq_true rfl, Nat.le_of_ble_eq_true rfl⟩ ⟨rfl, rfl⟩ dX6_fastest_19 ?_
    intro v19 I2 hv
    obtain ⟨rfl, hI2⟩ := hv
    exact k_iret C (Nat.le_of_ble_eq_true rfl) (Nat.le_of_ble_eq_true rfl) (⟨rfl, rfl, MQx_no hI1 hI2 (if_pos (hor.resolve_right (fun ⟨k, z, hk⟩ => by rw [z] at hc14; exact hc14 (nI_pos' (by omega))))) (by decide)⟩) dX6_fastest_22
set_option maxHeartbeats 4000000 in
set_option maxRecDepth 100000 in
theorem ct_X6_stormOn {G : am_G} {Λ : am_L} {I : am_I} {J : am_J} {y : Nat} {r : Nat → Int32} {d : Int32} (hx : ModLay Λ y) (hm : MRow I (y + 1) 0 r) (hok : RowOk r) : am_Ct G yX6_stormOn cX6_stormOn 2 (some .int) { frames := 2, cells := 0, slots := 0, locals := 45 } [.ref y, .int d] Λ I J (am_gen Λ J (fun v I' => MQx I y (if d < 0 ∨ nI 999 < d then 1 else 0) (some (.int (sp_storm r d))) v I')) am_never := by
  refine am_ct_of (own := RX6) rfl (by decide) (Nat.le_of_ble_eq_true rfl) (fun X C => ?_)
  change am_K G X { frames := 2, cells := 0, slots := 0, locals := 45 } 2 Λ I J 0 0 0 [(0, .ref y), (1, .int d)] []
  have hs := A6_0 hx
  have hB := hok.B
  have hD := hok.D
  have hB9 := hB
  obtain ⟨⟨h6, h7, h8, h9⟩, hnc, hnw, hns, hnl⟩ := hB9
  refine k_aload_n C (f := 0) (i := 0) (p := 0) rfl rfl dX6_stormOn_0 ?_
  refine k_iconst C ic_0 dX6_stormOn_1 ?_
  refine k_putI C f_X6_60 (L6_s (by assumption)) rfl rfl dX6_stormOn_2 ?_
  obtain ⟨I1, hI1⟩ : ∃ z : am_I, z = am_up I y 10 (nI 0) := ⟨_, rfl⟩
  rw [← hI1]
  have hm1 : MRow I1 (y + 1) 0 r := MR_ne hm (by rw [hI1]; exact am_up_ne (by omega))
  have h10 : I1 y 10 = nI 0 := by rw [hI1, am_up_eq]
  refine k_iload_n C (f := 1) (i := 1) (p := 1) rfl rfl dX6_stormOn_5 ?_
  refine k_iconst C ic_0 dX6_stormOn_6 ?_
  refine k_sipush C sc_999 dX6_stormOn_7 ?_
  refine k_callSp C s_X6_67 h_X6_in (ct_X6_in ) rfl rfl (Nat.le_of_ble_eq_true rfl) ⟨Nat.le_of_ble_eq_true rfl, Nat.le_of_ble_eq_true rfl⟩ ⟨Nat.le_of_ble_eq_true rfl, Nat.le_of_ble_eq_true rfl⟩ ⟨rfl, rfl⟩ dX6_stormOn_10 ?_
  refine k_ifb_eq C (tgt := 25) (by decide) dX6_stormOn_13 (fun hc13 => ?_) (fun hc13 => ?_)
  · skip
    refine k_aload_n C (f := 0) (i := 0) (p := 0) rfl rfl dX6_stormOn_25 ?_
    refine k_iconst C ic_1 dX6_stormOn_26 ?_
    refine k_callVg C s_X6_147 h_X6_fails (L6_s (by assumption)) rfl (ct_X6_fails hx) rfl rfl (Nat.le_of_ble_eq_true rfl) ⟨Nat.le_of_ble_eq_true rfl, Nat.le_of_ble_eq_true rfl⟩ ⟨Nat.le_of_ble_eq_true rfl, Nat.le_of_ble_eq_true rfl⟩ ⟨rfl, rfl⟩ dX6_stormOn_27 ?_
    intro v27 I2 hv
    obtain ⟨rfl, hI2⟩ := hv
    exact k_iret C (Nat.le_of_ble_eq_true rfl) (Nat.le_of_ble_eq_true rfl) (⟨rfl, rfl, MQx_no hI1 hI2 (if_pos (by
        by_cases q : d < 0
        · exact Or.inl q
        · exact Or.inr (Int32.not_le.mp (fun z => hc13 ⟨Int32.not_lt.mp q, z⟩)))) (by decide)⟩) dX6_stormOn_30
  · skip
    refine k_aload_n C (f := 0) (i := 0) (p := 0) rfl rfl dX6_stormOn_16 ?_
    refine k_getR C f_X6_7 (L6_s (by assumption)) (fun _ _ _ => rfl) (L6_0 (by assumption)) dX6_stormOn_17 ?_
    refine k_iload_n C (f := 1) (i := 1) (p := 1) rfl rfl dX6_stormOn_20 ?_
    refine k_callSp C s_X6_94 h_X6_stormOf (ct_X6_stormOf hs hm1 hB) rfl rfl (Nat.le_of_ble_eq_true rfl) ⟨Nat.le_of_ble_eq_true rfl, Nat.le_of_ble_eq_true rfl⟩ ⟨Nat.le_of_ble_eq_true rfl, Nat.le_of_ble_eq_true rfl⟩ ⟨rfl, rfl⟩ dX6_stormOn_21 ?_
    exact k_iret C (Nat.le_of_ble_eq_true rfl) (Nat.le_of_ble_eq_true rfl) (⟨rfl, rfl, MQx_ok hI1 (if_neg (fun z => z.elim (fun q => absurd hc13.1 (Int32.not_le.mpr q)) (fun q => absurd hc13.2 (Int32.not_le.mpr q)))) rfl⟩) dX6_stormOn_24
set_option maxHeartbeats 4000000 in
set_option maxRecDepth 100000 in
theorem ct_X6_writtenByte {G : am_G} {Λ : am_L} {I : am_I} {J : am_J} {y : Nat} {r : Nat → Int32} {i : Int32} {t : Nat × (Nat → Int32)}  (hx : ModLay Λ y) (hm : MRow I (y + 1) 0 r) (hok : RowOk r) (hw : I y 19 = nI t.1 ∧ t.1 ≤ 140 ∧ TxtAt I (y + 9) t) : am_Ct G yX6_writtenByte cX6_writtenByte 2 (some .int) { frames := 1, cells := 0, slots := 0, locals := 22 } [.ref y, .int i] Λ I J (am_gen Λ J (fun v I' => MQx I y (if i < 0 ∨ ¬ i < nI t.1 then 1 else 0) (some (.int (t.2 i.toNatClampNeg))) v I')) am_never := by
  refine am_ct_of (own := RX6) rfl (by decide) (Nat.le_of_ble_eq_true rfl) (fun X C => ?_)
  change am_K G X { frames := 1, cells := 0, slots := 0, locals := 22 } 2 Λ I J 0 0 0 [(0, .ref y), (1, .int i)] []
  have hs := A6_0 hx
  have hB := hok.B
  have hD := hok.D
  have hB9 := hB
  obtain ⟨⟨h6, h7, h8, h9⟩, hnc, hnw, hns, hnl⟩ := hB9
  refine k_aload_n C (f := 0) (i := 0) (p := 0) rfl rfl dX6_writtenByte_0 ?_
  refine k_iconst C ic_0 dX6_writtenByte_1 ?_
  refine k_putI C f_X6_60 (L6_s (by assumption)) rfl rfl dX6_writtenByte_2 ?_
  obtain ⟨I1, hI1⟩ : ∃ z : am_I, z = am_up I y 10 (nI 0) := ⟨_, rfl⟩
  rw [← hI1]
  have hm1 : MRow I1 (y + 1) 0 r := MR_ne hm (by rw [hI1]; exact am_up_ne (by omega))
  have h10 : I1 y 10 = nI 0 := by rw [hI1, am_up_eq]
  refine k_iload_n C (f := 1) (i := 1) (p := 1) rfl rfl dX6_writtenByte_5 ?_
  refine k_iconst C ic_0 dX6_writtenByte_6 ?_
  refine k_aload_n C (f := 0) (i := 0) (p := 0) rfl rfl dX6_writtenByte_7 ?_
  refine k_getI C f_X6_283 (L6_s (by assumption)) (fun _ _ _ => rfl) (Eq.trans (by rw [hI1]; exact am_up_n2 (by omega)) hw.1) dX6_writtenByte_8 ?_
  refine k_iconst C ic_1 dX6_writtenByte_11 ?_
  refine k_isub C dX6_writtenByte_12 ?_
  refine k_callSp C s_X6_67 h_X6_in (ct_X6_in ) rfl rfl (Nat.le_of_ble_eq_true rfl) ⟨Nat.le_of_ble_eq_true rfl, Nat.le_of_ble_eq_true rfl⟩ ⟨Nat.le_of_ble_eq_true rfl, Nat.le_of_ble_eq_true rfl⟩ ⟨rfl, rfl⟩ dX6_writtenByte_13 ?_
  refine k_ifb_eq C (tgt := 26) (by decide) dX6_writtenByte_16 (fun hc16 => ?_) (fun hc16 => ?_)
  · skip
    refine k_aload_n C (f := 0) (i := 0) (p := 0) rfl rfl dX6_writtenByte_26 ?_
    refine k_iconst C ic_1 dX6_writtenByte_27 ?_
    refine k_callVg C s_X6_147 h_X6_fails (L6_s (by assumption)) rfl (ct_X6_fails hx) rfl rfl (Nat.le_of_ble_eq_true rfl) ⟨Nat.le_of_ble_eq_true rfl, Nat.le_of_ble_eq_true rfl⟩ ⟨Nat.le_of_ble_eq_true rfl, Nat.le_of_ble_eq_true rfl⟩ ⟨rfl, rfl⟩ dX6_writtenByte_28 ?_
    intro v28 I2 hv
    obtain ⟨rfl, hI2⟩ := hv
    exact k_iret C (Nat.le_of_ble_eq_true rfl) (Nat.le_of_ble_eq_true rfl) (⟨rfl, rfl, MQx_no hI1 hI2 (if_pos (by
        have hw2 := hw.2.1
        by_cases q : i < 0
        · exact Or.inl q
        · exact Or.inr (fun z => hc16 ⟨Int32.not_lt.mp q, (md_dec (by omega)).mpr z⟩))) (by decide)⟩) dX6_writtenByte_31
  · skip
    have hw2 := hw.2.1
    obtain ⟨j, hj, hij⟩ : ∃ j : Nat, j < t.1 ∧ i = nI j := by
      have z := cdI_0 ((md_cd (by omega)).mp hc16) (by omega)
      obtain ⟨j, h1, h2⟩ := z
      exact ⟨j, h1, h2⟩
    refine k_aload_n C (f := 0) (i := 0) (p := 0) rfl rfl dX6_writtenByte_19 ?_
    refine k_getR C f_X6_39 (L6_s (by assumption)) (fun _ _ _ => rfl) (L6_18 (by assumption)) dX6_writtenByte_20 ?_
    refine k_iload_n C (f := 1) (i := 1) (p := 1) rfl rfl dX6_writtenByte_23 ?_
    refine k_iald C (A6_18 (by assumption)) (hij) (by omega) (by decide) (Eq.trans (by rw [hI1, am_up_ne (by omega)]) (hw.2.2 j hj)) dX6_writtenByte_24 ?_
    exact k_iret C (Nat.le_of_ble_eq_true rfl) (Nat.le_of_ble_eq_true rfl) (⟨rfl, rfl, MQx_ok hI1 (if_neg (fun z => z.elim (fun q => absurd hc16.1 (Int32.not_le.mpr q)) (fun q => q ((md_dec (by omega)).mp hc16.2)))) (by rw [hij, nI_clamp (by omega)])⟩) dX6_writtenByte_25
set_option maxHeartbeats 4000000 in
set_option maxRecDepth 100000 in
theorem ct_X6_meanWater {G : am_G} {Λ : am_L} {I : am_I} {J : am_J} {y : Nat} {r : Nat → Int32}  (hx : ModLay Λ y) (hm : MRow I (y + 1) 0 r) (hok : RowOk r) : am_Ct G yX6_meanWater cX6_meanWater 4 (some .double) { frames := 3, cells := 0, slots := 0, locals := 64 } [.ref y] Λ I J (am_gen Λ J (fun v I' => v = some (.double (if sp_living r = 0 then FP.dconst0 else FP.ddiv (FP.i2d (nI (sp_wsumTo r (sp_nc r)))) (FP.i2d (nI (sp_living r))))) ∧ I' = am_up I y 10 (nI 0))) am_never := by
  refine am_ct_of (own := RX6) rfl (by decide) (Nat.le_of_ble_eq_true rfl) (fun X C => ?_)
  change am_K G X { frames := 3, cells := 0, slots := 0, locals := 64 } 4 Λ I J 0 0 0 [(0, .ref y)] []
  have hs := A6_0 hx
  have hB := hok.B
  have hD := hok.D
  have hB9 := hB
  obtain ⟨⟨h6, h7, h8, h9⟩, hnc, hnw, hns, hnl⟩ := hB9
  have hlv2 : sp_living r ≤ sp_nc r := sp_livingTo_le r (sp_nc r)
  refine k_aload_n C (f := 0) (i := 0) (p := 0) rfl rfl dX6_meanWater_0 ?_
  refine k_iconst C ic_0 dX6_meanWater_1 ?_
  refine k_putI C f_X6_60 (L6_s (by assumption)) rfl rfl dX6_meanWater_2 ?_
  obtain ⟨I1, hI1⟩ : ∃ z : am_I, z = am_up I y 10 (nI 0) := ⟨_, rfl⟩
  rw [← hI1]
  have hm1 : MRow I1 (y + 1) 0 r := MR_ne hm (by rw [hI1]; exact am_up_ne (by omega))
  have h10 : I1 y 10 = nI 0 := by rw [hI1, am_up_eq]
  refine k_iconst C ic_0 dX6_meanWater_5 ?_
  refine k_istore_n C (f := 1) (i := 1) (lv := [(1, _), (0, _)]) rfl (Nat.le_of_ble_eq_true rfl) rfl dX6_meanWater_6 ?_
  refine k_aload_n C (f := 0) (i := 0) (p := 1) rfl rfl dX6_meanWater_7 ?_
  refine k_getR C f_X6_7 (L6_s (by assumption)) (fun _ _ _ => rfl) (L6_0 (by assumption)) dX6_meanWater_8 ?_
  refine k_callSp C s_X6_134 h_X6_livingOf (ct_X6_livingOf hs hm1 hB hD) rfl rfl (Nat.le_of_ble_eq_true rfl) ⟨Nat.le_of_ble_eq_true rfl, Nat.le_of_ble_eq_true rfl⟩ ⟨Nat.le_of_ble_eq_true rfl, Nat.le_of_ble_eq_true rfl⟩ ⟨rfl, rfl⟩ dX6_meanWater_11 ?_
  refine k_istore_n C (f := 2) (i := 2) (lv := [(2, _), (1, _), (0, _)]) rfl (Nat.le_of_ble_eq_true rfl) rfl dX6_meanWater_14 ?_
  refine k_iconst C ic_0 dX6_meanWater_15 ?_
  refine k_istore_n C (f := 3) (i := 3) (lv := [(3, _), (2, _), (1, _), (0, _)]) rfl (Nat.le_of_ble_eq_true rfl) rfl dX6_meanWater_16 ?_
  have loop17 : ∀ (f : Nat) (k : Nat) (su : Int32), (k ≤ sp_nc r) → (su = nI (sp_wsumTo r k)) → (sp_nc r - k) < f → am_K G X { frames := 3, cells := 0, slots := 0, locals := 64 } 4 Λ I1 J 0 0 17 [(0, .ref y), (2, .int (nI (sp_living r))), (1, .int su), (3, .int (nI k))] [] := by
    intro f
    induction f with
    | zero => intro k su hk hs hf; exact absurd hf (Nat.not_lt_zero _)
    | succ f ih17 =>
      intro k su hk hs hf
      subst hs
      refine k_iload_n C (f := 3) (i := 3) (p := 3) rfl rfl dX6_meanWater_17 ?_
      refine k_aload_n C (f := 0) (i := 0) (p := 0) rfl rfl dX6_meanWater_18 ?_
      refine k_getR C f_X6_7 (L6_s (by assumption)) (fun _ _ _ => rfl) (L6_0 (by assumption)) dX6_meanWater_19 ?_
      refine k_bipush C bc_6 dX6_meanWater_22 ?_
      refine k_iald C (A6_0 (by assumption)) (by first | rfl | assumption) (by omega) (by decide) ((MR hm1 (by decide)).trans h6) dX6_meanWater_24 ?_
      first
      | refine k_icmpN_ge C (tgt := 58) (by omega) (by omega) (by decide) dX6_meanWater_25 (fun hc25 => ?_) (fun hc25 => ?_)
      | refine k_icmp_ge C (tgt := 58) (by decide) dX6_meanWater_25 (fun hc25 => ?_) (fun hc25 => ?_)
      · skip
        refine k_iload_n C (f := 2) (i := 2) (p := 1) rfl rfl dX6_meanWater_58 ?_
        refine k_if_ne C (tgt := 64) (by decide) dX6_meanWater_59 (fun hc59 => ?_) (fun hc59 => ?_)
        · skip
          have hnz : ¬ sp_living r = 0 := fun z => hc59 (by rw [z]; rfl)
          refine k_iload_n C (f := 1) (i := 1) (p := 2) rfl rfl dX6_meanWater_64 ?_
          refine k_i2d C dX6_meanWater_65 ?_
          refine k_iload_n C (f := 2) (i := 2) (p := 1) rfl rfl dX6_meanWater_66 ?_
          refine k_i2d C dX6_meanWater_67 ?_
          refine k_ddiv C (fp_ddiv (by have z := sp_wsumTo_b hok k (by omega); omega) (by omega) (by omega)) dX6_meanWater_68 ?_
          exact k_dret C (Nat.le_of_ble_eq_true rfl) (Nat.le_of_ble_eq_true rfl) (⟨rfl, rfl, ⟨by rw [if_neg hnz, show k = sp_nc r by omega], hI1⟩⟩) dX6_meanWater_69
        · skip
          refine k_dconst0 C dX6_meanWater_62 ?_
          exact k_dret C (Nat.le_of_ble_eq_true rfl) (Nat.le_of_ble_eq_true rfl) (⟨rfl, rfl, ⟨by rw [if_pos ((nI_eq (b := 0) (by omega) (by decide)).mp hc59)], hI1⟩⟩) dX6_meanWater_63
      · skip
        refine k_aload_n C (f := 0) (i := 0) (p := 0) rfl rfl dX6_meanWater_28 ?_
        refine k_getR C f_X6_7 (L6_s (by assumption)) (fun _ _ _ => rfl) (L6_0 (by assumption)) dX6_meanWater_29 ?_
        refine k_iload_n C (f := 3) (i := 3) (p := 3) rfl rfl dX6_meanWater_32 ?_
        refine k_callSp C s_X6_83 h_X6_lives (ct_X6_lives (A6_0 hx) hm1 hB hD (by omega)) rfl rfl (Nat.le_of_ble_eq_true rfl) ⟨Nat.le_of_ble_eq_true rfl, Nat.le_of_ble_eq_true rfl⟩ ⟨Nat.le_of_ble_eq_true rfl, Nat.le_of_ble_eq_true rfl⟩ ⟨rfl, rfl⟩ dX6_meanWater_33 ?_
        refine k_ifb_eq C (tgt := 52) (by decide) dX6_meanWater_36 (fun hc36 => ?_) (fun hc36 => ?_)
        · skip
          refine k_iinc C (i := 3) (p := 3) (lv := [(3, _), (0, _), (2, _), (1, _)]) (Nat.le_of_ble_eq_true rfl) rfl (by first | exact am_inc1 _ | rfl) rfl dX6_meanWater_52 ?_
          refine k_goto C (tgt := 17) (by decide) dX6_meanWater_55 ?_
          refine k_sub [1, 2, 3, 0] rfl ?_
          first
          | exact ih17 (k + 1) _ (by omega) (by rw [sp_wsumTo_f hc36]) (by omega)
          | exact ih17 (k + 1) _ (by omega) (by rw [sp_wsumTo_t hc36]; obtain ⟨t, y, -, h4, h5, h6⟩ := RK_tk hok k (by omega); rw [h4, nI_clamp (by omega), nI_add]) (by omega)
        · skip
          refine k_iload_n C (f := 1) (i := 1) (p := 2) rfl rfl dX6_meanWater_39 ?_
          refine k_aload_n C (f := 0) (i := 0) (p := 0) rfl rfl dX6_meanWater_40 ?_
          refine k_getR C f_X6_7 (L6_s (by assumption)) (fun _ _ _ => rfl) (L6_0 (by assumption)) dX6_meanWater_41 ?_
          refine k_iload_n C (f := 3) (i := 3) (p := 3) rfl rfl dX6_meanWater_44 ?_
          refine k_iconst C ic_3 dX6_meanWater_45 ?_
          refine k_callSp C s_X6_71 h_X6_camelAt (ct_X6_camelAt ) rfl rfl (Nat.le_of_ble_eq_true rfl) ⟨Nat.le_of_ble_eq_true rfl, Nat.le_of_ble_eq_true rfl⟩ ⟨Nat.le_of_ble_eq_true rfl, Nat.le_of_ble_eq_true rfl⟩ ⟨rfl, rfl⟩ dX6_meanWater_46 ?_
          refine k_iald C (A6_0 (by assumption)) (by first | rfl | assumption) (by omega) (by decide) (MRx (i := 13 + 8 * k) hm1 (by omega) (by omega)) dX6_meanWater_49 ?_
          refine k_iadd C dX6_meanWater_50 ?_
          refine k_istore_n C (f := 1) (i := 1) (lv := [(1, _), (0, _), (2, _), (3, _)]) rfl (Nat.le_of_ble_eq_true rfl) rfl dX6_meanWater_51 ?_
          refine k_iinc C (i := 3) (p := 3) (lv := [(3, _), (1, _), (0, _), (2, _)]) (Nat.le_of_ble_eq_true rfl) rfl (by first | exact am_inc1 _ | rfl) rfl dX6_meanWater_52 ?_
          refine k_goto C (tgt := 17) (by decide) dX6_meanWater_55 ?_
          refine k_sub [2, 3, 1, 0] rfl ?_
          first
          | exact ih17 (k + 1) _ (by omega) (by rw [sp_wsumTo_f hc36]) (by omega)
          | exact ih17 (k + 1) _ (by omega) (by rw [sp_wsumTo_t hc36]; obtain ⟨t, y, -, h4, h5, h6⟩ := RK_tk hok k (by omega); rw [h4, nI_clamp (by omega), nI_add]) (by omega)
  refine k_sub [3, 1, 2, 0] rfl ?_
  exact loop17 (sp_nc r + 1) 0 (nI 0) (Nat.zero_le _) rfl (by omega)
set_option maxHeartbeats 4000000 in
set_option maxRecDepth 100000 in
theorem ct_X6_progress {G : am_G} {Λ : am_L} {I : am_I} {J : am_J} {y : Nat} {r : Nat → Int32} {L km : Nat}  (hx : ModLay Λ y) (hm : MRow I (y + 1) 0 r) (hok : RowOk r) (hL : r 0 = nI L) (hk : r 1 = nI km) (hL1 : 0 < L) (hL9 : L ≤ 999) (hkL : km ≤ L) : am_Ct G yX6_progress cX6_progress 1 (some .float) { frames := 0, cells := 0, slots := 0, locals := 0 } [.ref y] Λ I J (am_gen Λ J (fun v I' => v = some (.float (FP.fdiv (FP.i2f (nI km)) (FP.i2f (nI L)))) ∧ I' = am_up I y 10 (nI 0))) am_never := by
  refine am_ct_of (own := RX6) rfl (by decide) (Nat.le_of_ble_eq_true rfl) (fun X C => ?_)
  change am_K G X { frames := 0, cells := 0, slots := 0, locals := 0 } 1 Λ I J 0 0 0 [(0, .ref y)] []
  have hs := A6_0 hx
  have hB := hok.B
  have hD := hok.D
  have hB9 := hB
  obtain ⟨⟨h6, h7, h8, h9⟩, hnc, hnw, hns, hnl⟩ := hB9
  refine k_aload_n C (f := 0) (i := 0) (p := 0) rfl rfl dX6_progress_0 ?_
  refine k_iconst C ic_0 dX6_progress_1 ?_
  refine k_putI C f_X6_60 (L6_s (by assumption)) rfl rfl dX6_progress_2 ?_
  obtain ⟨I1, hI1⟩ : ∃ z : am_I, z = am_up I y 10 (nI 0) := ⟨_, rfl⟩
  rw [← hI1]
  have hm1 : MRow I1 (y + 1) 0 r := MR_ne hm (by rw [hI1]; exact am_up_ne (by omega))
  have h10 : I1 y 10 = nI 0 := by rw [hI1, am_up_eq]
  refine k_aload_n C (f := 0) (i := 0) (p := 0) rfl rfl dX6_progress_5 ?_
  refine k_getR C f_X6_7 (L6_s (by assumption)) (fun _ _ _ => rfl) (L6_0 (by assumption)) dX6_progress_6 ?_
  refine k_iconst C ic_1 dX6_progress_9 ?_
  refine k_iald C (A6_0 (by assumption)) (by first | rfl | assumption) (by omega) (by decide) ((MR hm1 (by decide)).trans hk) dX6_progress_10 ?_
  refine k_i2f C dX6_progress_11 ?_
  refine k_aload_n C (f := 0) (i := 0) (p := 0) rfl rfl dX6_progress_12 ?_
  refine k_getR C f_X6_7 (L6_s (by assumption)) (fun _ _ _ => rfl) (L6_0 (by assumption)) dX6_progress_13 ?_
  refine k_iconst C ic_0 dX6_progress_16 ?_
  refine k_iald C (A6_0 (by assumption)) (by first | rfl | assumption) (by omega) (by decide) ((MR hm1 (by decide)).trans hL) dX6_progress_17 ?_
  refine k_i2f C dX6_progress_18 ?_
  refine k_fdiv C ((fp_fdiv (by omega) (by omega) hL1).1) dX6_progress_19 ?_
  exact k_fret C (Nat.le_of_ble_eq_true rfl) (Nat.le_of_ble_eq_true rfl) (⟨rfl, rfl, ⟨rfl, hI1⟩⟩) dX6_progress_20
