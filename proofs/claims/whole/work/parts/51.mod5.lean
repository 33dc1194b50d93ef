/-! ===== the model: its public changes ===== -/
theorem f1_mfr {y a : Nat} {I I' : am_I} (h : am_f1 a I I') (ha : y ≤ a ∧ a < y + 10) : MFr y I I' := fun b hb => h b (by omega)
theorem MM_f1 {I I' : am_I} {y a n ct : Nat} {tb : Nat → Nat} {err : Int32} {r : Nat → Int32} {hs : Nat → Nat → Int32} {kp : Nat → Bool} {sn : Nat → Nat → Int32} {w : Nat × (Nat → Int32)} (h : ModRel I y tb n err r ct hs kp sn w) (hf : am_f1 a I I') (ha : a = y + 2 ∨ a = y + 3 ∨ a = y + 8) : ModRel I' y tb n err r ct hs kp sn w :=
  MM_agree h (congrFun (hf y (by omega)) 6) (congrFun (hf y (by omega)) 8) (congrFun (hf y (by omega)) 9) (congrFun (hf y (by omega)) 19) (hf _ (by omega)) (hf _ (by omega)) (hf _ (by omega)) (hf _ (by omega)) (hf _ (by omega)) (hf _ (by omega))
theorem hang_lay {r : Nat → Int32} {k j : Nat} : sp_hang (sp_lay r k) k j = upd (sp_hang r k j) (143 + 4 * k) (r 1) := by
  funext i
  unfold sp_hang sp_lay
  by_cases h : i = 142 + 4 * k
  · rw [h, upd_eq, upd_ne (by omega), upd_eq]
  · by_cases h2 : i = 143 + 4 * k
    · rw [h2, upd_ne (by omega), upd_eq, upd_eq]
    · rw [upd_ne h, upd_ne h2, upd_ne h, upd_ne h2, upd_ne h]
theorem hang_free {r : Nat → Int32} {k j c : Nat} (hc : c < 10) : sp_free (sp_hang (sp_lay r k) k j) c = sp_free (sp_hang r k j) c := by
  rw [hang_lay]
  unfold sp_free sp_car
  rw [upd_ne (by omega), sp_nl_upd (by omega), sp_carTo_upd _ (fun m _ => by omega)]
theorem md_byte {x : Int32} {k : Nat} (hk : k = 0 ∨ k = 8 ∨ k = 16 ∨ k = 24) : (x >>> (nI k &&& 31)) &&& nI 255 = nI (sp_byte x k) := by
  have e0 : nI k &&& 31 = nI k := by rcases hk with rfl | rfl | rfl | rfl <;> decide
  rw [e0, pk_and (x >>> nI k) 8 (by decide)]
  have h := pk_shr x (nI k) k (by rcases hk with rfl | rfl | rfl | rfl <;> decide)
  have e1 : (x >>> nI k).toInt = _ := BitVec.toInt_eq_toNat_cond (x >>> nI k).toBitVec
  have e2 : x.toInt = _ := BitVec.toInt_eq_toNat_cond x.toBitVec
  have b1 := (x >>> nI k).toBitVec.isLt
  have b2 := x.toBitVec.isLt
  rw [Int.shiftRight_eq_div_pow] at h
  unfold sp_byte
  congr 1
  generalize (x >>> nI k).toInt = A at h e1
  generalize (x >>> nI k).toBitVec.toNat = B at e1 b1 ⊢
  generalize x.toInt = C at h e2
  generalize x.toBitVec.toNat = D at e2 b2 ⊢
  rcases hk with rfl | rfl | rfl | rfl
  · rw [show ((2 ^ 0 : Nat) : Int) = 1 by decide] at h
    rw [show 2 ^ 0 = 1 by decide, show 2 ^ 8 = 256 by decide]
    split at e1 <;> split at e2 <;> omega
  · rw [show ((2 ^ 8 : Nat) : Int) = 256 by decide] at h
    rw [show 2 ^ 8 = 256 by decide]
    split at e1 <;> split at e2 <;> omega
  · rw [show ((2 ^ 16 : Nat) : Int) = 65536 by decide] at h
    rw [show 2 ^ 16 = 65536 by decide, show 2 ^ 8 = 256 by decide]
    split at e1 <;> split at e2 <;> omega
  · rw [show ((2 ^ 24 : Nat) : Int) = 16777216 by decide] at h
    rw [show 2 ^ 24 = 16777216 by decide, show 2 ^ 8 = 256 by decide]
    split at e1 <;> split at e2 <;> omega
theorem md_byteW {x w : Int32} {k : Nat} (hk : k = 0 ∨ k = 8 ∨ k = 16 ∨ k = 24) (e : w = x) : (x >>> (nI k &&& 31)) &&& nI 255 = nI (sp_byte w k) := by rw [e]; exact md_byte hk
def md_wd (a b c d e : Int32) (k : Nat) : Int32 := if k < 4 then a else if k < 8 then b else if k < 12 then c else if k < 16 then d else e
theorem md_w1 {a b c d e : Int32} {k : Nat} (h : k < 4) : md_wd a b c d e k = a := if_pos h
theorem md_w2 {a b c d e : Int32} {k : Nat} (h : 4 ≤ k) (h2 : k < 8) : md_wd a b c d e k = b := by unfold md_wd; rw [if_neg (by omega), if_pos h2]
theorem md_w3 {a b c d e : Int32} {k : Nat} (h : 8 ≤ k) (h2 : k < 12) : md_wd a b c d e k = c := by unfold md_wd; rw [if_neg (by omega), if_neg (by omega), if_pos h2]
theorem md_w4 {a b c d e : Int32} {k : Nat} (h : 12 ≤ k) (h2 : k < 16) : md_wd a b c d e k = d := by unfold md_wd; rw [if_neg (by omega), if_neg (by omega), if_neg (by omega), if_pos h2]
theorem md_w5 {a b c d e : Int32} {k : Nat} (h : 16 ≤ k) : md_wd a b c d e k = e := by unfold md_wd; rw [if_neg (by omega), if_neg (by omega), if_neg (by omega), if_neg (by omega)]
theorem md_tbs_lo {tb : Nat → Nat} {n : Nat} {x : Int32} {j : Nat} : ∀ k : Nat, j < n → sp_tbs tb n x k j = tb j := by
  intro k
  induction k with
  | zero => intro _; rfl
  | succ k ih => intro h; show sp_tbp _ _ _ j = _; rw [sp_tbp_ne (by omega), ih h]
theorem md_tbs_at {tb : Nat → Nat} {n : Nat} {x : Int32} {i : Nat} : ∀ k : Nat, i < k → sp_tbs tb n x k (n + i) = sp_byte x (24 - 8 * i) := by
  intro k
  induction k with
  | zero => intro h; omega
  | succ k ih =>
    intro h
    show sp_tbp _ _ _ (n + i) = _
    by_cases e : i = k
    · rw [e, sp_tbp_eq]
    · rw [sp_tbp_ne (by omega), ih (by omega)]
theorem md_app {tb : Nat → Nat} {n : Nat} {a b c d e : Int32} : (∀ j : Nat, j < n → sp_tbs (sp_tbs (sp_tbs (sp_tbs (sp_tbs tb n a 4) (n + 4) b 4) (n + 8) c 4) (n + 12) d 4) (n + 16) e 4 j = tb j) ∧ ∀ i : Nat, i < 20 → sp_tbs (sp_tbs (sp_tbs (sp_tbs (sp_tbs tb n a 4) (n + 4) b 4) (n + 8) c 4) (n + 12) d 4) (n + 16) e 4 (n + i) = sp_byte (md_wd a b c d e i) (24 - 8 * (i % 4)) := by
  refine ⟨fun j hj => by rw [md_tbs_lo _ (by omega), md_tbs_lo _ (by omega), md_tbs_lo _ (by omega), md_tbs_lo _ (by omega), md_tbs_lo _ (by omega)], fun i hi => ?_⟩
  rcases Nat.lt_or_ge i 4 with h | h
  · rw [md_tbs_lo _ (by omega), md_tbs_lo _ (by omega), md_tbs_lo _ (by omega), md_tbs_lo _ (by omega), md_tbs_at _ (by omega), md_w1 h, show i % 4 = i by omega]
  rcases Nat.lt_or_ge i 8 with h2 | h2
  · rw [md_tbs_lo _ (by omega), md_tbs_lo _ (by omega), md_tbs_lo _ (by omega), show n + i = n + 4 + (i - 4) by omega, md_tbs_at _ (by omega), md_w2 h h2, show i % 4 = i - 4 by omega]
  rcases Nat.lt_or_ge i 12 with h3 | h3
  · rw [md_tbs_lo _ (by omega), md_tbs_lo _ (by omega), show n + i = n + 8 + (i - 8) by omega, md_tbs_at _ (by omega), md_w3 h2 h3, show i % 4 = i - 8 by omega]
  rcases Nat.lt_or_ge i 16 with h4 | h4
  · rw [md_tbs_lo _ (by omega), show n + i = n + 12 + (i - 12) by omega, md_tbs_at _ (by omega), md_w4 h3 h4, show i % 4 = i - 12 by omega]
  · rw [show n + i = n + 16 + (i - 16) by omega, md_tbs_at _ (by omega), md_w5 h4, show i % 4 = i - 16 by omega]
theorem md_shift {k : Nat} : nI 24 - nI 8 * (nI k - nI k / nI 4 * nI 4) = nI (24 - 8 * (k % 4)) ∨ 2 ^ 31 ≤ k := by
  rcases Nat.lt_or_ge k (2 ^ 31) with h | h
  · rw [pk_rem h (by decide) (by decide), nI_mul, pk_sub (by omega)]
    exact Or.inl rfl
  · exact Or.inr h
set_option maxHeartbeats 4000000 in
set_option maxRecDepth 100000 in
theorem ct_X6_travel {G : am_G} {Λ : am_L} {I : am_I} {J : am_J} {y n ct : Nat} {tb : Nat → Nat} {err : Int32} {r : Nat → Int32} {hs : Nat → Nat → Int32} {kp : Nat → Bool} {sn : Nat → Nat → Int32} {w : Nat × (Nat → Int32)} {ld : Nat}  (hx : ModLay Λ y) (hR : ModRel I y tb n err r ct hs kp sn w) (hok : RowOk r) (hld : r 4 = nI ld) (hlc : ld < sp_nc r) : am_Ct G yX6_travel cX6_travel 1 (some .int) { frames := 6, cells := 0, slots := 0, locals := 132 } [.ref y] Λ I J (am_gen Λ J (fun v I' => MCx I y (if ¬ r 0 ≤ r 1 ∧ (r 2 < nI 200 ∧ 0 < sp_living r) then 0 else 1) (some (.int (sp_dist r ld))) v I' (fun I1 => ModRel I1 y tb n err r ct hs kp sn w) (fun I1 => ModRel I1 y (tb) (n) (err) (sp_travel r ld) ((min 8 (ct + 1))) ((sp_push r hs)) (kp) (sn) (w)))) am_never := by
  refine am_ct_of (own := RX6) rfl (by decide) (Nat.le_of_ble_eq_true rfl) (fun X C => ?_)
  change am_K G X { frames := 6, cells := 0, slots := 0, locals := 132 } 1 Λ I J 0 0 0 [(0, .ref y)] []
  obtain ⟨h6a, h6b, h6c⟩ := MM_h hR
  have hm := MM_r hR
  have hsl := A6_0 hx
  have hB := hok.B
  have hD := hok.D
  have hB9 := hB
  obtain ⟨⟨h6, h7, h8, h9⟩, hnc, hnw, hns, hnl⟩ := hB9
  refine k_aload_n C (f := 0) (i := 0) (p := 0) rfl rfl dX6_travel_0 ?_
  refine k_iconst C ic_0 dX6_travel_1 ?_
  refine k_putI C f_X6_60 (L6_s (by assumption)) rfl rfl dX6_travel_2 ?_
  obtain ⟨I1, hI1⟩ : ∃ z : am_I, z = am_up I y 10 (nI 0) := ⟨_, rfl⟩
  rw [← hI1]
  have hm1 : MRow I1 (y + 1) 0 r := MR_ne hm (by rw [hI1]; exact am_up_ne (by omega))
  have h10 : I1 y 10 = nI 0 := by rw [hI1, am_up_eq]
  have hR1 : ModRel I1 y tb n err r ct hs kp sn w := by rw [hI1]; exact MM_up hR (by decide)
  have F1 : MFr y I I1 := by rw [hI1]; exact MFr.rf.up ⟨Nat.le_refl _, by omega⟩
  refine k_aload_n C (f := 0) (i := 0) (p := 0) rfl rfl dX6_travel_5 ?_
  refine k_getR C f_X6_7 (L6_s (by assumption)) (fun _ _ _ => rfl) (L6_0 (by assumption)) dX6_travel_6 ?_
  refine k_callSp C s_X6_265 h_X6_canTravel (ct_X6_canTravel hsl hm1 hB hD hok) rfl rfl (Nat.le_of_ble_eq_true rfl) ⟨Nat.le_of_ble_eq_true rfl, Nat.le_of_ble_eq_true rfl⟩ ⟨Nat.le_of_ble_eq_true rfl, Nat.le_of_ble_eq_true rfl⟩ ⟨rfl, rfl⟩ dX6_travel_9 ?_
  refine k_ifb_ne C (tgt := 21) (by decide) dX6_travel_12 (fun hc12 => ?_) (fun hc12 => ?_)
  · skip
    refine k_aload_n C (f := 0) (i := 0) (p := 0) rfl rfl dX6_travel_21 ?_
    refine k_callVg C s_X6_274 h_X6_keepsForUndo (L6_s (by assumption)) rfl (ct_X6_keepsForUndo hx hR1) rfl rfl (Nat.le_of_ble_eq_true rfl) ⟨Nat.le_of_ble_eq_true rfl, Nat.le_of_ble_eq_true rfl⟩ ⟨Nat.le_of_ble_eq_true rfl, Nat.le_of_ble_eq_true rfl⟩ ⟨rfl, rfl⟩ dX6_travel_22 ?_
    intro v22 I3 hv
    obtain ⟨rfl, hR3, F3, k10⟩ := hv
    have hm3 := MM_r hR3
    have hm := hm3
    have hg : am_f1 (y + 1) I3 I3 := am_f1.rf
    have k11 := k10.trans h10
    refine k_aload_n C (f := 0) (i := 0) (p := 0) rfl rfl dX6_travel_25 ?_
    refine k_getR C f_X6_7 (L6_s (by assumption)) (fun _ _ _ => rfl) (L6_0 (by assumption)) dX6_travel_26 ?_
    refine k_callSg C s_X6_268 h_X6_travels (ct_X6_travels hsl hm3 hok hld hlc) rfl rfl (Nat.le_of_ble_eq_true rfl) ⟨Nat.le_of_ble_eq_true rfl, Nat.le_of_ble_eq_true rfl⟩ ⟨Nat.le_of_ble_eq_true rfl, Nat.le_of_ble_eq_true rfl⟩ ⟨rfl, rfl⟩ dX6_travel_29 ?_
    intro v29 I4 hv
    obtain ⟨rfl, hm4, g4⟩ := hv
    exact k_iret C (Nat.le_of_ble_eq_true rfl) (Nat.le_of_ble_eq_true rfl) (⟨rfl, rfl, MCx_ok ((congrFun (g4 y (by omega)) 10).trans k11) ((F1.tr F3).tr (f1_mfr g4 (by omega))) (if_pos hc12) rfl (MM_row hR3 hm4 g4)⟩) dX6_travel_32
  · skip
    refine k_aload_n C (f := 0) (i := 0) (p := 0) rfl rfl dX6_travel_15 ?_
    refine k_iconst C ic_1 dX6_travel_16 ?_
    refine k_callVg C s_X6_147 h_X6_fails (L6_s (by assumption)) rfl (ct_X6_fails hx) rfl rfl (Nat.le_of_ble_eq_true rfl) ⟨Nat.le_of_ble_eq_true rfl, Nat.le_of_ble_eq_true rfl⟩ ⟨Nat.le_of_ble_eq_true rfl, Nat.le_of_ble_eq_true rfl⟩ ⟨rfl, rfl⟩ dX6_travel_17 ?_
    intro v17 I2 hv
    obtain ⟨rfl, hI2⟩ := hv
    exact k_iret C (Nat.le_of_ble_eq_true rfl) (Nat.le_of_ble_eq_true rfl) (⟨rfl, rfl, MCx_no hI1 hI2 (if_neg hc12) (by decide) (by rw [hI2]; exact MM_up hR1 (by decide))⟩) dX6_travel_20
set_option maxHeartbeats 4000000 in
set_option maxRecDepth 100000 in
theorem ct_X6_rest {G : am_G} {Λ : am_L} {I : am_I} {J : am_J} {y n ct : Nat} {tb : Nat → Nat} {err : Int32} {r : Nat → Int32} {hs : Nat → Nat → Int32} {kp : Nat → Bool} {sn : Nat → Nat → Int32} {w : Nat × (Nat → Int32)} {ld : Nat}  (hx : ModLay Λ y) (hR : ModRel I y tb n err r ct hs kp sn w) (hok : RowOk r) (hld : r 4 = nI ld) (hlc : ld < sp_nc r) : am_Ct G yX6_rest cX6_rest 1 (some .int) { frames := 6, cells := 0, slots := 0, locals := 130 } [.ref y] Λ I J (am_gen Λ J (fun v I' => MCx I y (if r 2 < nI 200 ∧ 0 < sp_living r then 0 else 1) (some (.int (nI (sp_living (sp_rest r))))) v I' (fun I1 => ModRel I1 y tb n err r ct hs kp sn w) (fun I1 => ModRel I1 y (tb) (n) (err) (sp_rest r) ((min 8 (ct + 1))) ((sp_push r hs)) (kp) (sn) (w)))) am_never := by
  refine am_ct_of (own := RX6) rfl (by decide) (Nat.le_of_ble_eq_true rfl) (fun X C => ?_)
  change am_K G X { frames := 6, cells := 0, slots := 0, locals := 130 } 1 Λ I J 0 0 0 [(0, .ref y)] []
  obtain ⟨h6a, h6b, h6c⟩ := MM_h hR
  have hm := MM_r hR
  have hsl := A6_0 hx
  have hB := hok.B
  have hD := hok.D
  have hB9 := hB
  obtain ⟨⟨h6, h7, h8, h9⟩, hnc, hnw, hns, hnl⟩ := hB9
  have hlv2 : sp_living r ≤ sp_nc r := sp_livingTo_le r (sp_nc r)
  obtain ⟨dd, hdd, -, hd200⟩ := hok.2.2.2.2.2.2.1
  refine k_aload_n C (f := 0) (i := 0) (p := 0) rfl rfl dX6_rest_0 ?_
  refine k_iconst C ic_0 dX6_rest_1 ?_
  refine k_putI C f_X6_60 (L6_s (by assumption)) rfl rfl dX6_rest_2 ?_
  obtain ⟨I1, hI1⟩ : ∃ z : am_I, z = am_up I y 10 (nI 0) := ⟨_, rfl⟩
  rw [← hI1]
  have hm1 : MRow I1 (y + 1) 0 r := MR_ne hm (by rw [hI1]; exact am_up_ne (by omega))
  have h10 : I1 y 10 = nI 0 := by rw [hI1, am_up_eq]
  have hR1 : ModRel I1 y tb n err r ct hs kp sn w := by rw [hI1]; exact MM_up hR (by decide)
  have F1 : MFr y I I1 := by rw [hI1]; exact MFr.rf.up ⟨Nat.le_refl _, by omega⟩
  refine k_aload_n C (f := 0) (i := 0) (p := 0) rfl rfl dX6_rest_5 ?_
  refine k_getR C f_X6_7 (L6_s (by assumption)) (fun _ _ _ => rfl) (L6_0 (by assumption)) dX6_rest_6 ?_
  refine k_callSp C s_X6_134 h_X6_livingOf (ct_X6_livingOf hsl hm1 hB hD) rfl rfl (Nat.le_of_ble_eq_true rfl) ⟨Nat.le_of_ble_eq_true rfl, Nat.le_of_ble_eq_true rfl⟩ ⟨Nat.le_of_ble_eq_true rfl, Nat.le_of_ble_eq_true rfl⟩ ⟨rfl, rfl⟩ dX6_rest_9 ?_
  refine k_if_ne C (tgt := 21) (by decide) dX6_rest_12 (fun hc12 => ?_) (fun hc12 => ?_)
  · skip
    refine k_aload_n C (f := 0) (i := 0) (p := 0) rfl rfl dX6_rest_21 ?_
    refine k_getR C f_X6_7 (L6_s (by assumption)) (fun _ _ _ => rfl) (L6_0 (by assumption)) dX6_rest_22 ?_
    refine k_iconst C ic_2 dX6_rest_25 ?_
    refine k_iald C (A6_0 (by assumption)) (by first | rfl | assumption) (by omega) (by decide) (MR hm1 (by decide)) dX6_rest_26 ?_
    refine k_sipush C sc_200 dX6_rest_27 ?_
    refine k_icmp_ne C (tgt := 39) (by decide) dX6_rest_30 (fun hc30 => ?_) (fun hc30 => ?_)
    · skip
      have hday : r 2 < nI 200 := by
        rw [hdd] at hc30 ⊢
        exact (nI_ltI (by omega) (by omega)).mpr (by
          rcases Nat.lt_or_ge dd 200 with z | z
          · exact z
          · exact absurd (show nI dd = nI 200 by rw [show dd = 200 by omega]) hc30)
      have hlz : 0 < sp_living r := Nat.pos_of_ne_zero (fun z => hc12 (by rw [z]; rfl))
      refine k_aload_n C (f := 0) (i := 0) (p := 0) rfl rfl dX6_rest_39 ?_
      refine k_callVg C s_X6_274 h_X6_keepsForUndo (L6_s (by assumption)) rfl (ct_X6_keepsForUndo hx hR1) rfl rfl (Nat.le_of_ble_eq_true rfl) ⟨Nat.le_of_ble_eq_true rfl, Nat.le_of_ble_eq_true rfl⟩ ⟨Nat.le_of_ble_eq_true rfl, Nat.le_of_ble_eq_true rfl⟩ ⟨rfl, rfl⟩ dX6_rest_40 ?_
      intro v40 I3 hv
      obtain ⟨rfl, hR3, F3, k10⟩ := hv
      have hm3 := MM_r hR3
      have hm := hm3
      have hg : am_f1 (y + 1) I3 I3 := am_f1.rf
      have k11 := k10.trans h10
      refine k_aload_n C (f := 0) (i := 0) (p := 0) rfl rfl dX6_rest_43 ?_
      refine k_getR C f_X6_7 (L6_s (by assumption)) (fun _ _ _ => rfl) (L6_0 (by assumption)) dX6_rest_44 ?_
      refine k_callSg C s_X6_277 h_X6_rests (ct_X6_rests hsl hm3 hok hday) rfl rfl (Nat.le_of_ble_eq_true rfl) ⟨Nat.le_of_ble_eq_true rfl, Nat.le_of_ble_eq_true rfl⟩ ⟨Nat.le_of_ble_eq_true rfl, Nat.le_of_ble_eq_true rfl⟩ ⟨rfl, rfl⟩ dX6_rest_47 ?_
      intro v47 I4 hv
      obtain ⟨rfl, hm4, g4⟩ := hv
      exact k_iret C (Nat.le_of_ble_eq_true rfl) (Nat.le_of_ble_eq_true rfl) (⟨rfl, rfl, MCx_ok ((congrFun (g4 y (by omega)) 10).trans k11) ((F1.tr F3).tr (f1_mfr g4 (by omega))) (if_pos ⟨hday, hlz⟩) rfl (MM_row hR3 hm4 g4)⟩) dX6_rest_50
    · skip
      refine k_aload_n C (f := 0) (i := 0) (p := 0) rfl rfl dX6_rest_33 ?_
      refine k_iconst C ic_1 dX6_rest_34 ?_
      refine k_callVg C s_X6_147 h_X6_fails (L6_s (by assumption)) rfl (ct_X6_fails hx) rfl rfl (Nat.le_of_ble_eq_true rfl) ⟨Nat.le_of_ble_eq_true rfl, Nat.le_of_ble_eq_true rfl⟩ ⟨Nat.le_of_ble_eq_true rfl, Nat.le_of_ble_eq_true rfl⟩ ⟨rfl, rfl⟩ dX6_rest_35 ?_
      intro v35 I2 hv
      obtain ⟨rfl, hI2⟩ := hv
      exact k_iret C (Nat.le_of_ble_eq_true rfl) (Nat.le_of_ble_eq_true rfl) (⟨rfl, rfl, MCx_no hI1 hI2 (if_neg (fun z => by have z1 := z.1; rw [hc30] at z1; exact absurd z1 (by decide))) (by decide) (by rw [hI2]; exact MM_up hR1 (by decide))⟩) dX6_rest_38
  · skip
    refine k_aload_n C (f := 0) (i := 0) (p := 0) rfl rfl dX6_rest_15 ?_
    refine k_iconst C ic_1 dX6_rest_16 ?_
    refine k_callVg C s_X6_147 h_X6_fails (L6_s (by assumption)) rfl (ct_X6_fails hx) rfl rfl (Nat.le_of_ble_eq_true rfl) ⟨Nat.le_of_ble_eq_true rfl, Nat.le_of_ble_eq_true rfl⟩ ⟨Nat.le_of_ble_eq_true rfl, Nat.le_of_ble_eq_true rfl⟩ ⟨rfl, rfl⟩ dX6_rest_17 ?_
    intro v17 I2 hv
    obtain ⟨rfl, hI2⟩ := hv
    exact k_iret C (Nat.le_of_ble_eq_true rfl) (Nat.le_of_ble_eq_true rfl) (⟨rfl, rfl, MCx_no hI1 hI2 (if_neg (fun z => by have z2 := (nI_eq (b := 0) (by omega) (by decide)).mp hc12; omega)) (by decide) (by rw [hI2]; exact MM_up hR1 (by decide))⟩) dX6_rest_20
set_option maxHeartbeats 4000000 in
set_option maxRecDepth 100000 in
theorem ct_X6_setLeader {G : am_G} {Λ : am_L} {I : am_I} {J : am_J} {y n ct : Nat} {tb : Nat → Nat} {err : Int32} {r : Nat → Int32} {hs : Nat → Nat → Int32} {kp : Nat → Bool} {sn : Nat → Nat → Int32} {w : Nat × (Nat → Int32)} {c : Int32}  (hx : ModLay Λ y) (hR : ModRel I y tb n err r ct hs kp sn w) (hok : RowOk r) : am_Ct G yX6_setLeader cX6_setLeader 3 (some .int) { frames := 2, cells := 0, slots := 0, locals := 45 } [.ref y, .int c] Λ I J (am_gen Λ J (fun v I' => MCx I y (if cdI (sp_nc r) c = 0 then (if r (16 + 8 * c.toNatClampNeg) < nI 3 then 0 else 2) else 1) (some (.int (r 4))) v I' (fun I1 => ModRel I1 y tb n err r ct hs kp sn w) (fun I1 => ModRel I1 y (tb) (n) (err) (upd r 4 c) ((min 8 (ct + 1))) ((sp_push r hs)) (kp) (sn) (w)))) am_never := by
  refine am_ct_of (own := RX6) rfl (by decide) (Nat.le_of_ble_eq_true rfl) (fun X C => ?_)
  change am_K G X { frames := 2, cells := 0, slots := 0, locals := 45 } 3 Λ I J 0 0 0 [(0, .ref y), (1, .int c)] []
  obtain ⟨h6a, h6b, h6c⟩ := MM_h hR
  have hm := MM_r hR
  have hsl := A6_0 hx
  have hB := hok.B
  have hD := hok.D
  have hB9 := hB
  obtain ⟨⟨h6, h7, h8, h9⟩, hnc, hnw, hns, hnl⟩ := hB9
  refine k_aload_n C (f := 0) (i := 0) (p := 0) rfl rfl dX6_setLeader_0 ?_
  refine k_iconst C ic_0 dX6_setLeader_1 ?_
  refine k_putI C f_X6_60 (L6_s (by assumption)) rfl rfl dX6_setLeader_2 ?_
  obtain ⟨I1, hI1⟩ : ∃ z : am_I, z = am_up I y 10 (nI 0) := ⟨_, rfl⟩
  rw [← hI1]
  have hm1 : MRow I1 (y + 1) 0 r := MR_ne hm (by rw [hI1]; exact am_up_ne (by omega))
  have h10 : I1 y 10 = nI 0 := by rw [hI1, am_up_eq]
  have hR1 : ModRel I1 y tb n err r ct hs kp sn w := by rw [hI1]; exact MM_up hR (by decide)
  have F1 : MFr y I I1 := by rw [hI1]; exact MFr.rf.up ⟨Nat.le_refl _, by omega⟩
  refine k_aload_n C (f := 0) (i := 0) (p := 0) rfl rfl dX6_setLeader_5 ?_
  refine k_iload_n C (f := 1) (i := 1) (p := 1) rfl rfl dX6_setLeader_6 ?_
  refine k_callVp C s_X6_244 h_X6_isCamel (L6_s (by assumption)) rfl (ct_X6_isCamel hx hm1 hok) rfl rfl (Nat.le_of_ble_eq_true rfl) ⟨Nat.le_of_ble_eq_true rfl, Nat.le_of_ble_eq_true rfl⟩ ⟨Nat.le_of_ble_eq_true rfl, Nat.le_of_ble_eq_true rfl⟩ ⟨rfl, rfl⟩ dX6_setLeader_7 ?_
  first
  | refine k_ifb_ne C (tgt := 19) (by decide) dX6_setLeader_10 (fun hc10 => ?_) (fun hc10 => ?_)
  | refine k_if_ne C (tgt := 19) (by decide) dX6_setLeader_10 (fun hc10 => ?_) (fun hc10 => ?_)
  · skip
    have hcd : cdI (sp_nc r) c = 0 := hc10
    obtain ⟨j, hj, rfl⟩ := cdI_0 hcd (by omega)
    refine k_aload_n C (f := 0) (i := 0) (p := 0) rfl rfl dX6_setLeader_19 ?_
    refine k_getR C f_X6_7 (L6_s (by assumption)) (fun _ _ _ => rfl) (L6_0 (by assumption)) dX6_setLeader_20 ?_
    refine k_iload_n C (f := 1) (i := 1) (p := 1) rfl rfl dX6_setLeader_23 ?_
    refine k_callSp C s_X6_83 h_X6_lives (ct_X6_lives hsl hm1 hB hD hj) rfl rfl (Nat.le_of_ble_eq_true rfl) ⟨Nat.le_of_ble_eq_true rfl, Nat.le_of_ble_eq_true rfl⟩ ⟨Nat.le_of_ble_eq_true rfl, Nat.le_of_ble_eq_true rfl⟩ ⟨rfl, rfl⟩ dX6_setLeader_24 ?_
    refine k_ifb_ne C (tgt := 36) (by decide) dX6_setLeader_27 (fun hc27 => ?_) (fun hc27 => ?_)
    · skip
      refine k_aload_n C (f := 0) (i := 0) (p := 0) rfl rfl dX6_setLeader_36 ?_
      refine k_callVg C s_X6_274 h_X6_keepsForUndo (L6_s (by assumption)) rfl (ct_X6_keepsForUndo hx hR1) rfl rfl (Nat.le_of_ble_eq_true rfl) ⟨Nat.le_of_ble_eq_true rfl, Nat.le_of_ble_eq_true rfl⟩ ⟨Nat.le_of_ble_eq_true rfl, Nat.le_of_ble_eq_true rfl⟩ ⟨rfl, rfl⟩ dX6_setLeader_37 ?_
      intro v37 I3 hv
      obtain ⟨rfl, hR3, F3, k10⟩ := hv
      have hm3 := MM_r hR3
      have hm := hm3
      have hg : am_f1 (y + 1) I3 I3 := am_f1.rf
      have k11 := k10.trans h10
      refine k_aload_n C (f := 0) (i := 0) (p := 0) rfl rfl dX6_setLeader_40 ?_
      refine k_getR C f_X6_7 (L6_s (by assumption)) (fun _ _ _ => rfl) (L6_0 (by assumption)) dX6_setLeader_41 ?_
      refine k_iconst C ic_4 dX6_setLeader_44 ?_
      refine k_iald C (A6_0 (by assumption)) (by first | rfl | assumption) (by omega) (by decide) (MR hm3 (by decide)) dX6_setLeader_45 ?_
      refine k_istore_n C (f := 2) (i := 2) (lv := [(2, _), (0, _), (1, _)]) rfl (Nat.le_of_ble_eq_true rfl) rfl dX6_setLeader_46 ?_
      refine k_aload_n C (f := 0) (i := 0) (p := 1) rfl rfl dX6_setLeader_47 ?_
      refine k_getR C f_X6_7 (L6_s (by assumption)) (fun _ _ _ => rfl) (L6_0 (by assumption)) dX6_setLeader_48 ?_
      refine k_iconst C ic_4 dX6_setLeader_51 ?_
      refine k_iload_n C (f := 1) (i := 1) (p := 2) rfl rfl dX6_setLeader_52 ?_
      refine k_rst C (i := 4) (hsl) (by first | rfl | assumption) (by omega) (by omega) hm hg dX6_setLeader_53 (fun I9 hm hg => ?_)
      refine k_iload_n C (f := 2) (i := 2) (p := 0) rfl rfl dX6_setLeader_54 ?_
      exact k_iret C (Nat.le_of_ble_eq_true rfl) (Nat.le_of_ble_eq_true rfl) (⟨rfl, rfl, MCx_ok ((congrFun (hg y (by omega)) 10).trans k11) ((F1.tr F3).tr (f1_mfr hg (by omega))) (by rw [if_pos hcd, nI_clamp (by omega), if_pos hc27]) rfl (MM_row hR3 hm hg)⟩) dX6_setLeader_55
    · skip
      refine k_aload_n C (f := 0) (i := 0) (p := 0) rfl rfl dX6_setLeader_30 ?_
      refine k_iconst C ic_2 dX6_setLeader_31 ?_
      refine k_callVg C s_X6_147 h_X6_fails (L6_s (by assumption)) rfl (ct_X6_fails hx) rfl rfl (Nat.le_of_ble_eq_true rfl) ⟨Nat.le_of_ble_eq_true rfl, Nat.le_of_ble_eq_true rfl⟩ ⟨Nat.le_of_ble_eq_true rfl, Nat.le_of_ble_eq_true rfl⟩ ⟨rfl, rfl⟩ dX6_setLeader_32 ?_
      intro v32 I2 hv
      obtain ⟨rfl, hI2⟩ := hv
      exact k_iret C (Nat.le_of_ble_eq_true rfl) (Nat.le_of_ble_eq_true rfl) (⟨rfl, rfl, MCx_no hI1 hI2 (by rw [if_pos hcd, nI_clamp (by omega), if_neg hc27]) (by decide) (by rw [hI2]; exact MM_up hR1 (by decide))⟩) dX6_setLeader_35
  · skip
    refine k_aload_n C (f := 0) (i := 0) (p := 0) rfl rfl dX6_setLeader_13 ?_
    refine k_iconst C ic_1 dX6_setLeader_14 ?_
    refine k_callVg C s_X6_147 h_X6_fails (L6_s (by assumption)) rfl (ct_X6_fails hx) rfl rfl (Nat.le_of_ble_eq_true rfl) ⟨Nat.le_of_ble_eq_true rfl, Nat.le_of_ble_eq_true rfl⟩ ⟨Nat.le_of_ble_eq_true rfl, Nat.le_of_ble_eq_true rfl⟩ ⟨rfl, rfl⟩ dX6_setLeader_15 ?_
    intro v15 I2 hv
    obtain ⟨rfl, hI2⟩ := hv
    exact k_iret C (Nat.le_of_ble_eq_true rfl) (Nat.le_of_ble_eq_true rfl) (⟨rfl, rfl, MCx_no hI1 hI2 (if_neg hc10) (by decide) (by rw [hI2]; exact MM_up hR1 (by decide))⟩) dX6_setLeader_18
set_option maxHeartbeats 4000000 in
set_option maxRecDepth 100000 in
theorem ct_X6_setStopping {G : am_G} {Λ : am_L} {I : am_I} {J : am_J} {y n ct : Nat} {tb : Nat → Nat} {err : Int32} {r : Nat → Int32} {hs : Nat → Nat → Int32} {kp : Nat → Bool} {sn : Nat → Nat → Int32} {w : Nat × (Nat → Int32)} {b : Int32}  (hx : ModLay Λ y) (hR : ModRel I y tb n err r ct hs kp sn w) (hok : RowOk r) (hb : b = 0 ∨ b = 1) : am_Ct G yX6_setStopping cX6_setStopping 3 (some .boolean) { frames := 2, cells := 0, slots := 0, locals := 45 } [.ref y, .int b] Λ I J (am_gen Λ J (fun v I' => MCx I y (0) (some (.int (am_b (r 3 = nI 1)))) v I' (fun I1 => ModRel I1 y tb n err r ct hs kp sn w) (fun I1 => ModRel I1 y (tb) (n) (err) (upd r 3 b) ((min 8 (ct + 1))) ((sp_push r hs)) (kp) (sn) (w)))) am_never := by
  refine am_ct_of (own := RX6) rfl (by decide) (Nat.le_of_ble_eq_true rfl) (fun X C => ?_)
  change am_K G X { frames := 2, cells := 0, slots := 0, locals := 45 } 3 Λ I J 0 0 0 [(0, .ref y), (1, .int b)] []
  obtain ⟨h6a, h6b, h6c⟩ := MM_h hR
  have hm := MM_r hR
  have hsl := A6_0 hx
  have hB := hok.B
  have hD := hok.D
  have hB9 := hB
  obtain ⟨⟨h6, h7, h8, h9⟩, hnc, hnw, hns, hnl⟩ := hB9
  refine k_aload_n C (f := 0) (i := 0) (p := 0) rfl rfl dX6_setStopping_0 ?_
  refine k_iconst C ic_0 dX6_setStopping_1 ?_
  refine k_putI C f_X6_60 (L6_s (by assumption)) rfl rfl dX6_setStopping_2 ?_
  obtain ⟨I1, hI1⟩ : ∃ z : am_I, z = am_up I y 10 (nI 0) := ⟨_, rfl⟩
  rw [← hI1]
  have hm1 : MRow I1 (y + 1) 0 r := MR_ne hm (by rw [hI1]; exact am_up_ne (by omega))
  have h10 : I1 y 10 = nI 0 := by rw [hI1, am_up_eq]
  have hR1 : ModRel I1 y tb n err r ct hs kp sn w := by rw [hI1]; exact MM_up hR (by decide)
  have F1 : MFr y I I1 := by rw [hI1]; exact MFr.rf.up ⟨Nat.le_refl _, by omega⟩
  refine k_aload_n C (f := 0) (i := 0) (p := 0) rfl rfl dX6_setStopping_5 ?_
  refine k_callVg C s_X6_274 h_X6_keepsForUndo (L6_s (by assumption)) rfl (ct_X6_keepsForUndo hx hR1) rfl rfl (Nat.le_of_ble_eq_true rfl) ⟨Nat.le_of_ble_eq_true rfl, Nat.le_of_ble_eq_true rfl⟩ ⟨Nat.le_of_ble_eq_true rfl, Nat.le_of_ble_eq_true rfl⟩ ⟨rfl, rfl⟩ dX6_setStopping_6 ?_
  intro v6 I3 hv
  obtain ⟨rfl, hR3, F3, k10⟩ := hv
  have hm3 := MM_r hR3
  have hm := hm3
  have hg : am_f1 (y + 1) I3 I3 := am_f1.rf
  have k11 := k10.trans h10
  refine k_aload_n C (f := 0) (i := 0) (p := 0) rfl rfl dX6_setStopping_9 ?_
  refine k_getR C f_X6_7 (L6_s (by assumption)) (fun _ _ _ => rfl) (L6_0 (by assumption)) dX6_setStopping_10 ?_
  refine k_iconst C ic_3 dX6_setStopping_13 ?_
  refine k_iald C (A6_0 (by assumption)) (by first | rfl | assumption) (by omega) (by decide) (MR hm3 (by decide)) dX6_setStopping_14 ?_
  refine k_iconst C ic_1 dX6_setStopping_15 ?_
  refine k_icmp_ne C (tgt := 23) (by decide) dX6_setStopping_16 (fun hc16 => ?_) (fun hc16 => ?_)
  · skip
    refine k_iconst C ic_0 dX6_setStopping_23 ?_
    refine k_istore_n C (f := 2) (i := 2) (lv := [(2, _), (0, _), (1, _)]) rfl (Nat.le_of_ble_eq_true rfl) rfl dX6_setStopping_24 ?_
    refine k_aload_n C (f := 0) (i := 0) (p := 1) rfl rfl dX6_setStopping_25 ?_
    refine k_getR C f_X6_7 (L6_s (by assumption)) (fun _ _ _ => rfl) (L6_0 (by assumption)) dX6_setStopping_26 ?_
    refine k_iconst C ic_3 dX6_setStopping_29 ?_
    refine k_iconst C ic_0 dX6_setStopping_30 ?_
    refine k_rst C (i := 3) (hsl) (by first | rfl | assumption) (by omega) (by omega) hm hg dX6_setStopping_31 (fun I9 hm hg => ?_)
    refine k_iload_n C (f := 1) (i := 1) (p := 2) rfl rfl dX6_setStopping_32 ?_
    refine k_if_eq C (tgt := 43) (by decide) dX6_setStopping_33 (fun hc33 => ?_) (fun hc33 => ?_)
    · skip
      refine k_iload_n C (f := 2) (i := 2) (p := 0) rfl rfl dX6_setStopping_43 ?_
      exact k_zret C (rfl) (Nat.le_of_ble_eq_true rfl) (Nat.le_of_ble_eq_true rfl) (⟨rfl, rfl, MCx_ok ((congrFun (hg y (by omega)) 10).trans k11) ((F1.tr F3).tr (f1_mfr hg (by omega))) rfl (congrArg (fun z => some (Value.int z)) (by first | exact am_bt hc16 | exact am_bf hc16)) (MM_row hR3 (MR_eq hm (by first | (rw [upd_upd, hb.resolve_left hc33]; rfl) | (rw [hc33]; rfl))) hg)⟩) dX6_setStopping_44
    · skip
      refine k_aload_n C (f := 0) (i := 0) (p := 1) rfl rfl dX6_setStopping_36 ?_
      refine k_getR C f_X6_7 (L6_s (by assumption)) (fun _ _ _ => rfl) (L6_0 (by assumption)) dX6_setStopping_37 ?_
      refine k_iconst C ic_3 dX6_setStopping_40 ?_
      refine k_iconst C ic_1 dX6_setStopping_41 ?_
      refine k_rst C (i := 3) (hsl) (by first | rfl | assumption) (by omega) (by omega) hm hg dX6_setStopping_42 (fun I9 hm hg => ?_)
      refine k_iload_n C (f := 2) (i := 2) (p := 0) rfl rfl dX6_setStopping_43 ?_
      exact k_zret C (rfl) (Nat.le_of_ble_eq_true rfl) (Nat.le_of_ble_eq_true rfl) (⟨rfl, rfl, MCx_ok ((congrFun (hg y (by omega)) 10).trans k11) ((F1.tr F3).tr (f1_mfr hg (by omega))) rfl (congrArg (fun z => some (Value.int z)) (by first | exact am_bt hc16 | exact am_bf hc16)) (MM_row hR3 (MR_eq hm (by first | (rw [upd_upd, hb.resolve_left hc33]; rfl) | (rw [hc33]; rfl))) hg)⟩) dX6_setStopping_44
  · skip
    refine k_iconst C ic_1 dX6_setStopping_19 ?_
    refine k_goto C (tgt := 24) (by decide) dX6_setStopping_20 ?_
    refine k_istore_n C (f := 2) (i := 2) (lv := [(2, _), (0, _), (1, _)]) rfl (Nat.le_of_ble_eq_true rfl) rfl dX6_setStopping_24 ?_
    refine k_aload_n C (f := 0) (i := 0) (p := 1) rfl rfl dX6_setStopping_25 ?_
    refine k_getR C f_X6_7 (L6_s (by assumption)) (fun _ _ _ => rfl) (L6_0 (by assumption)) dX6_setStopping_26 ?_
    refine k_iconst C ic_3 dX6_setStopping_29 ?_
    refine k_iconst C ic_0 dX6_setStopping_30 ?_
    refine k_rst C (i := 3) (hsl) (by first | rfl | assumption) (by omega) (by omega) hm hg dX6_setStopping_31 (fun I9 hm hg => ?_)
    refine k_iload_n C (f := 1) (i := 1) (p := 2) rfl rfl dX6_setStopping_32 ?_
    refine k_if_eq C (tgt := 43) (by decide) dX6_setStopping_33 (fun hc33 => ?_) (fun hc33 => ?_)
    · skip
      refine k_iload_n C (f := 2) (i := 2) (p := 0) rfl rfl dX6_setStopping_43 ?_
      exact k_zret C (rfl) (Nat.le_of_ble_eq_true rfl) (Nat.le_of_ble_eq_true rfl) (⟨rfl, rfl, MCx_ok ((congrFun (hg y (by omega)) 10).trans k11) ((F1.tr F3).tr (f1_mfr hg (by omega))) rfl (congrArg (fun z => some (Value.int z)) (by first | exact am_bt hc16 | exact am_bf hc16)) (MM_row hR3 (MR_eq hm (by first | (rw [upd_upd, hb.resolve_left hc33]; rfl) | (rw [hc33]; rfl))) hg)⟩) dX6_setStopping_44
    · skip
      refine k_aload_n C (f := 0) (i := 0) (p := 1) rfl rfl dX6_setStopping_36 ?_
      refine k_getR C f_X6_7 (L6_s (by assumption)) (fun _ _ _ => rfl) (L6_0 (by assumption)) dX6_setStopping_37 ?_
      refine k_iconst C ic_3 dX6_setStopping_40 ?_
      refine k_iconst C ic_1 dX6_setStopping_41 ?_
      refine k_rst C (i := 3) (hsl) (by first | rfl | assumption) (by omega) (by omega) hm hg dX6_setStopping_42 (fun I9 hm hg => ?_)
      refine k_iload_n C (f := 2) (i := 2) (p := 0) rfl rfl dX6_setStopping_43 ?_
      exact k_zret C (rfl) (Nat.le_of_ble_eq_true rfl) (Nat.le_of_ble_eq_true rfl) (⟨rfl, rfl, MCx_ok ((congrFun (hg y (by omega)) 10).trans k11) ((F1.tr F3).tr (f1_mfr hg (by omega))) rfl (congrArg (fun z => some (Value.int z)) (by first | exact am_bt hc16 | exact am_bf hc16)) (MM_row hR3 (MR_eq hm (by first | (rw [upd_upd, hb.resolve_left hc33]; rfl) | (rw [hc33]; rfl))) hg)⟩) dX6_setStopping_44
set_option maxHeartbeats 4000000 in
set_option maxRecDepth 100000 in
theorem ct_X6_takeOff {G : am_G} {Λ : am_L} {I : am_I} {J : am_J} {y n ct : Nat} {tb : Nat → Nat} {err : Int32} {r : Nat → Int32} {hs : Nat → Nat → Int32} {kp : Nat → Bool} {sn : Nat → Nat → Int32} {w : Nat × (Nat → Int32)} {c : Int32}  (hx : ModLay Λ y) (hR : ModRel I y tb n err r ct hs kp sn w) (hok : RowOk r) : am_Ct G yX6_takeOff cX6_takeOff 3 (some .int) { frames := 2, cells := 0, slots := 0, locals := 45 } [.ref y, .int c] Λ I J (am_gen Λ J (fun v I' => MCx I y (if cdI (sp_nl r) c = 0 then (if r (142 + 4 * c.toNatClampNeg) = -1 then 2 else 0) else 1) (some (.int (r (142 + 4 * c.toNatClampNeg)))) v I' (fun I1 => ModRel I1 y tb n err r ct hs kp sn w) (fun I1 => ModRel I1 y (tb) (n) (err) (sp_lay r c.toNatClampNeg) ((min 8 (ct + 1))) ((sp_push r hs)) (kp) (sn) (w)))) am_never := by
  refine am_ct_of (own := RX6) rfl (by decide) (Nat.le_of_ble_eq_true rfl) (fun X C => ?_)
  change am_K G X { frames := 2, cells := 0, slots := 0, locals := 45 } 3 Λ I J 0 0 0 [(0, .ref y), (1, .int c)] []
  obtain ⟨h6a, h6b, h6c⟩ := MM_h hR
  have hm := MM_r hR
  have hsl := A6_0 hx
  have hB := hok.B
  have hD := hok.D
  have hB9 := hB
  obtain ⟨⟨h6, h7, h8, h9⟩, hnc, hnw, hns, hnl⟩ := hB9
  refine k_aload_n C (f := 0) (i := 0) (p := 0) rfl rfl dX6_takeOff_0 ?_
  refine k_iconst C ic_0 dX6_takeOff_1 ?_
  refine k_putI C f_X6_60 (L6_s (by assumption)) rfl rfl dX6_takeOff_2 ?_
  obtain ⟨I1, hI1⟩ : ∃ z : am_I, z = am_up I y 10 (nI 0) := ⟨_, rfl⟩
  rw [← hI1]
  have hm1 : MRow I1 (y + 1) 0 r := MR_ne hm (by rw [hI1]; exact am_up_ne (by omega))
  have h10 : I1 y 10 = nI 0 := by rw [hI1, am_up_eq]
  have hR1 : ModRel I1 y tb n err r ct hs kp sn w := by rw [hI1]; exact MM_up hR (by decide)
  have F1 : MFr y I I1 := by rw [hI1]; exact MFr.rf.up ⟨Nat.le_refl _, by omega⟩
  refine k_aload_n C (f := 0) (i := 0) (p := 0) rfl rfl dX6_takeOff_5 ?_
  refine k_iload_n C (f := 1) (i := 1) (p := 1) rfl rfl dX6_takeOff_6 ?_
  refine k_callVp C s_X6_253 h_X6_isLoad (L6_s (by assumption)) rfl (ct_X6_isLoad hx hm1 hok) rfl rfl (Nat.le_of_ble_eq_true rfl) ⟨Nat.le_of_ble_eq_true rfl, Nat.le_of_ble_eq_true rfl⟩ ⟨Nat.le_of_ble_eq_true rfl, Nat.le_of_ble_eq_true rfl⟩ ⟨rfl, rfl⟩ dX6_takeOff_7 ?_
  first
  | refine k_ifb_ne C (tgt := 19) (by decide) dX6_takeOff_10 (fun hc10 => ?_) (fun hc10 => ?_)
  | refine k_if_ne C (tgt := 19) (by decide) dX6_takeOff_10 (fun hc10 => ?_) (fun hc10 => ?_)
  · skip
    have hcd : cdI (sp_nl r) c = 0 := hc10
    obtain ⟨j, hj, rfl⟩ := cdI_0 hcd (by omega)
    obtain ⟨-, hcr⟩ := RK_lo hok j hj
    refine k_aload_n C (f := 0) (i := 0) (p := 0) rfl rfl dX6_takeOff_19 ?_
    refine k_getR C f_X6_7 (L6_s (by assumption)) (fun _ _ _ => rfl) (L6_0 (by assumption)) dX6_takeOff_20 ?_
    refine k_iload_n C (f := 1) (i := 1) (p := 1) rfl rfl dX6_takeOff_23 ?_
    refine k_iconst C ic_2 dX6_takeOff_24 ?_
    refine k_callSp C s_X6_56 h_X6_loadAt (ct_X6_loadAt ) rfl rfl (Nat.le_of_ble_eq_true rfl) ⟨Nat.le_of_ble_eq_true rfl, Nat.le_of_ble_eq_true rfl⟩ ⟨Nat.le_of_ble_eq_true rfl, Nat.le_of_ble_eq_true rfl⟩ ⟨rfl, rfl⟩ dX6_takeOff_25 ?_
    refine k_iald C (A6_0 (by assumption)) (by first | rfl | assumption) (by omega) (by decide) (MRx (i := 142 + 4 * j) hm1 (by omega) (by omega)) dX6_takeOff_28 ?_
    refine k_istore_n C (f := 2) (i := 2) (lv := [(2, _), (0, _), (1, _)]) rfl (Nat.le_of_ble_eq_true rfl) rfl dX6_takeOff_29 ?_
    refine k_iload_n C (f := 2) (i := 2) (p := 0) rfl rfl dX6_takeOff_30 ?_
    refine k_if_ge C (tgt := 40) (by decide) dX6_takeOff_31 (fun hc31 => ?_) (fun hc31 => ?_)
    · skip
      refine k_aload_n C (f := 0) (i := 0) (p := 1) rfl rfl dX6_takeOff_40 ?_
      refine k_callVg C s_X6_274 h_X6_keepsForUndo (L6_s (by assumption)) rfl (ct_X6_keepsForUndo hx hR1) rfl rfl (Nat.le_of_ble_eq_true rfl) ⟨Nat.le_of_ble_eq_true rfl, Nat.le_of_ble_eq_true rfl⟩ ⟨Nat.le_of_ble_eq_true rfl, Nat.le_of_ble_eq_true rfl⟩ ⟨rfl, rfl⟩ dX6_takeOff_41 ?_
      intro v41 I3 hv
      obtain ⟨rfl, hR3, F3, k10⟩ := hv
      have hm3 := MM_r hR3
      have hm := hm3
      have hg : am_f1 (y + 1) I3 I3 := am_f1.rf
      have k11 := k10.trans h10
      refine k_aload_n C (f := 0) (i := 0) (p := 1) rfl rfl dX6_takeOff_44 ?_
      refine k_getR C f_X6_7 (L6_s (by assumption)) (fun _ _ _ => rfl) (L6_0 (by assumption)) dX6_takeOff_45 ?_
      refine k_iload_n C (f := 1) (i := 1) (p := 2) rfl rfl dX6_takeOff_48 ?_
      refine k_iconst C ic_2 dX6_takeOff_49 ?_
      refine k_callSp C s_X6_56 h_X6_loadAt (ct_X6_loadAt ) rfl rfl (Nat.le_of_ble_eq_true rfl) ⟨Nat.le_of_ble_eq_true rfl, Nat.le_of_ble_eq_true rfl⟩ ⟨Nat.le_of_ble_eq_true rfl, Nat.le_of_ble_eq_true rfl⟩ ⟨rfl, rfl⟩ dX6_takeOff_50 ?_
      refine k_iconst C ic_m1 dX6_takeOff_53 ?_
      refine k_rst C (i := 142 + 4 * j) (hsl) (by first | rfl | assumption) (by omega) (by omega) hm hg dX6_takeOff_54 (fun I9 hm hg => ?_)
      refine k_aload_n C (f := 0) (i := 0) (p := 1) rfl rfl dX6_takeOff_55 ?_
      refine k_getR C f_X6_7 (L6_s (by assumption)) (fun _ _ _ => rfl) (L6_0 (by assumption)) dX6_takeOff_56 ?_
      refine k_iload_n C (f := 1) (i := 1) (p := 2) rfl rfl dX6_takeOff_59 ?_
      refine k_iconst C ic_3 dX6_takeOff_60 ?_
      refine k_callSp C s_X6_56 h_X6_loadAt (ct_X6_loadAt ) rfl rfl (Nat.le_of_ble_eq_true rfl) ⟨Nat.le_of_ble_eq_true rfl, Nat.le_of_ble_eq_true rfl⟩ ⟨Nat.le_of_ble_eq_true rfl, Nat.le_of_ble_eq_true rfl⟩ ⟨rfl, rfl⟩ dX6_takeOff_61 ?_
      refine k_aload_n C (f := 0) (i := 0) (p := 1) rfl rfl dX6_takeOff_64 ?_
      refine k_getR C f_X6_7 (L6_s (by assumption)) (fun _ _ _ => rfl) (L6_0 (by assumption)) dX6_takeOff_65 ?_
      refine k_iconst C ic_1 dX6_takeOff_68 ?_
      refine k_iald C (A6_0 (by assumption)) (by first | rfl | assumption) (by omega) (by decide) ((MR hm (by decide)).trans (upd_ne (by omega))) dX6_takeOff_69 ?_
      refine k_rst C (i := 143 + 4 * j) (hsl) (by first | rfl | assumption) (by omega) (by omega) hm hg dX6_takeOff_70 (fun I9 hm hg => ?_)
      refine k_iload_n C (f := 2) (i := 2) (p := 0) rfl rfl dX6_takeOff_71 ?_
      exact k_iret C (Nat.le_of_ble_eq_true rfl) (Nat.le_of_ble_eq_true rfl) (⟨rfl, rfl, MCx_ok ((congrFun (hg y (by omega)) 10).trans k11) ((F1.tr F3).tr (f1_mfr hg (by omega))) (by rw [if_pos hcd, nI_clamp (by omega), if_neg (fun q => by rw [q] at hc31; exact absurd hc31 (by decide))]) (by rw [nI_clamp (by omega)]) (by rw [nI_clamp (by omega)]; exact MM_row hR3 hm hg)⟩) dX6_takeOff_72
    · skip
      refine k_aload_n C (f := 0) (i := 0) (p := 1) rfl rfl dX6_takeOff_34 ?_
      refine k_iconst C ic_2 dX6_takeOff_35 ?_
      refine k_callVg C s_X6_147 h_X6_fails (L6_s (by assumption)) rfl (ct_X6_fails hx) rfl rfl (Nat.le_of_ble_eq_true rfl) ⟨Nat.le_of_ble_eq_true rfl, Nat.le_of_ble_eq_true rfl⟩ ⟨Nat.le_of_ble_eq_true rfl, Nat.le_of_ble_eq_true rfl⟩ ⟨rfl, rfl⟩ dX6_takeOff_36 ?_
      intro v36 I2 hv
      obtain ⟨rfl, hI2⟩ := hv
      exact k_iret C (Nat.le_of_ble_eq_true rfl) (Nat.le_of_ble_eq_true rfl) (⟨rfl, rfl, MCx_no hI1 hI2 (by rw [if_pos hcd, nI_clamp (by omega), if_pos (hcr.resolve_right (fun ⟨i, e, hi⟩ => by rw [e] at hc31; exact hc31 (nI_pos' (by omega))))]) (by decide) (by rw [hI2]; exact MM_up hR1 (by decide))⟩) dX6_takeOff_39
  · skip
    refine k_aload_n C (f := 0) (i := 0) (p := 0) rfl rfl dX6_takeOff_13 ?_
    refine k_iconst C ic_1 dX6_takeOff_14 ?_
    refine k_callVg C s_X6_147 h_X6_fails (L6_s (by assumption)) rfl (ct_X6_fails hx) rfl rfl (Nat.le_of_ble_eq_true rfl) ⟨Nat.le_of_ble_eq_true rfl, Nat.le_of_ble_eq_true rfl⟩ ⟨Nat.le_of_ble_eq_true rfl, Nat.le_of_ble_eq_true rfl⟩ ⟨rfl, rfl⟩ dX6_takeOff_15 ?_
    intro v15 I2 hv
    obtain ⟨rfl, hI2⟩ := hv
    exact k_iret C (Nat.le_of_ble_eq_true rfl) (Nat.le_of_ble_eq_true rfl) (⟨rfl, rfl, MCx_no hI1 hI2 (if_neg hc10) (by decide) (by rw [hI2]; exact MM_up hR1 (by decide))⟩) dX6_takeOff_18
set_option maxHeartbeats 4000000 in
set_option maxRecDepth 100000 in
theorem ct_X6_addLoad {G : am_G} {Λ : am_L} {I : am_I} {J : am_J} {y n ct : Nat} {tb : Nat → Nat} {err : Int32} {r : Nat → Int32} {hs : Nat → Nat → Int32} {kp : Nat → Bool} {sn : Nat → Nat → Int32} {w : Nat × (Nat → Int32)} {a b : Int32}  (hx : ModLay Λ y) (hR : ModRel I y tb n err r ct hs kp sn w) (hok : RowOk r) : am_Ct G yX6_addLoad cX6_addLoad 3 (some .int) { frames := 2, cells := 0, slots := 0, locals := 45 } [.ref y, .int a, .int b] Λ I J (am_gen Λ J (fun v I' => MCx I y (if (a < nI 1 ∨ nI 99 < a ∨ b < nI 1 ∨ nI 99 < b) then 1 else if 20 ≤ sp_nl r then 2 else 0) (some (.int (nI (sp_nl r)))) v I' (fun I1 => ModRel I1 y tb n err r ct hs kp sn w) (fun I1 => ModRel I1 y (tb) (n) (err) (sp_bring r a b) ((min 8 (ct + 1))) ((sp_push r hs)) (kp) (sn) (w)))) am_never := by
  refine am_ct_of (own := RX6) rfl (by decide) (Nat.le_of_ble_eq_true rfl) (fun X C => ?_)
  change am_K G X { frames := 2, cells := 0, slots := 0, locals := 45 } 3 Λ I J 0 0 0 [(0, .ref y), (1, .int a), (2, .int b)] []
  obtain ⟨h6a, h6b, h6c⟩ := MM_h hR
  have hm := MM_r hR
  have hsl := A6_0 hx
  have hB := hok.B
  have hD := hok.D
  have hB9 := hB
  obtain ⟨⟨h6, h7, h8, h9⟩, hnc, hnw, hns, hnl⟩ := hB9
  refine k_aload_n C (f := 0) (i := 0) (p := 0) rfl rfl dX6_addLoad_0 ?_
  refine k_iconst C ic_0 dX6_addLoad_1 ?_
  refine k_putI C f_X6_60 (L6_s (by assumption)) rfl rfl dX6_addLoad_2 ?_
  obtain ⟨I1, hI1⟩ : ∃ z : am_I, z = am_up I y 10 (nI 0) := ⟨_, rfl⟩
  rw [← hI1]
  have hm1 : MRow I1 (y + 1) 0 r := MR_ne hm (by rw [hI1]; exact am_up_ne (by omega))
  have h10 : I1 y 10 = nI 0 := by rw [hI1, am_up_eq]
  have hR1 : ModRel I1 y tb n err r ct hs kp sn w := by rw [hI1]; exact MM_up hR (by decide)
  have F1 : MFr y I I1 := by rw [hI1]; exact MFr.rf.up ⟨Nat.le_refl _, by omega⟩
  refine k_iload_n C (f := 1) (i := 1) (p := 1) rfl rfl dX6_addLoad_5 ?_
  refine k_iconst C ic_1 dX6_addLoad_6 ?_
  refine k_bipush C bc_99 dX6_addLoad_7 ?_
  refine k_callSp C s_X6_67 h_X6_in (ct_X6_in ) rfl rfl (Nat.le_of_ble_eq_true rfl) ⟨Nat.le_of_ble_eq_true rfl, Nat.le_of_ble_eq_true rfl⟩ ⟨Nat.le_of_ble_eq_true rfl, Nat.le_of_ble_eq_true rfl⟩ ⟨rfl, rfl⟩ dX6_addLoad_9 ?_
  refine k_ifb_ne C (tgt := 21) (by decide) dX6_addLoad_12 (fun hc12 => ?_) (fun hc12 => ?_)
  · skip
    refine k_iload_n C (f := 2) (i := 2) (p := 2) rfl rfl dX6_addLoad_21 ?_
    refine k_iconst C ic_1 dX6_addLoad_22 ?_
    refine k_bipush C bc_99 dX6_addLoad_23 ?_
    refine k_callSp C s_X6_67 h_X6_in (ct_X6_in ) rfl rfl (Nat.le_of_ble_eq_true rfl) ⟨Nat.le_of_ble_eq_true rfl, Nat.le_of_ble_eq_true rfl⟩ ⟨Nat.le_of_ble_eq_true rfl, Nat.le_of_ble_eq_true rfl⟩ ⟨rfl, rfl⟩ dX6_addLoad_25 ?_
    refine k_ifb_ne C (tgt := 37) (by decide) dX6_addLoad_28 (fun hc28 => ?_) (fun hc28 => ?_)
    · skip
      refine k_aload_n C (f := 0) (i := 0) (p := 0) rfl rfl dX6_addLoad_37 ?_
      refine k_getR C f_X6_7 (L6_s (by assumption)) (fun _ _ _ => rfl) (L6_0 (by assumption)) dX6_addLoad_38 ?_
      refine k_bipush C bc_9 dX6_addLoad_41 ?_
      refine k_iald C (A6_0 (by assumption)) (by first | rfl | assumption) (by omega) (by decide) ((MR hm1 (by decide)).trans h9) dX6_addLoad_43 ?_
      refine k_bipush C bc_20 dX6_addLoad_44 ?_
      first
      | refine k_icmpN_ne C (tgt := 55) (by omega) (by omega) (by decide) dX6_addLoad_46 (fun hc46 => ?_) (fun hc46 => ?_)
      | refine k_icmp_ne C (tgt := 55) (by decide) dX6_addLoad_46 (fun hc46 => ?_) (fun hc46 => ?_)
      · skip
        refine k_aload_n C (f := 0) (i := 0) (p := 0) rfl rfl dX6_addLoad_55 ?_
        refine k_callVg C s_X6_274 h_X6_keepsForUndo (L6_s (by assumption)) rfl (ct_X6_keepsForUndo hx hR1) rfl rfl (Nat.le_of_ble_eq_true rfl) ⟨Nat.le_of_ble_eq_true rfl, Nat.le_of_ble_eq_true rfl⟩ ⟨Nat.le_of_ble_eq_true rfl, Nat.le_of_ble_eq_true rfl⟩ ⟨rfl, rfl⟩ dX6_addLoad_56 ?_
        intro v56 I3 hv
        obtain ⟨rfl, hR3, F3, k10⟩ := hv
        have hm3 := MM_r hR3
        have hm := hm3
        have hg : am_f1 (y + 1) I3 I3 := am_f1.rf
        have k11 := k10.trans h10
        refine k_aload_n C (f := 0) (i := 0) (p := 0) rfl rfl dX6_addLoad_59 ?_
        refine k_getR C f_X6_7 (L6_s (by assumption)) (fun _ _ _ => rfl) (L6_0 (by assumption)) dX6_addLoad_60 ?_
        refine k_iload_n C (f := 1) (i := 1) (p := 1) rfl rfl dX6_addLoad_63 ?_
        refine k_iload_n C (f := 2) (i := 2) (p := 2) rfl rfl dX6_addLoad_64 ?_
        refine k_callSg C s_X6_52 h_X6_addsLoad (ct_X6_addsLoad hsl hm3 hB (by omega)) rfl rfl (Nat.le_of_ble_eq_true rfl) ⟨Nat.le_of_ble_eq_true rfl, Nat.le_of_ble_eq_true rfl⟩ ⟨Nat.le_of_ble_eq_true rfl, Nat.le_of_ble_eq_true rfl⟩ ⟨rfl, rfl⟩ dX6_addLoad_65 ?_
        intro v65 I4 hv
        obtain ⟨rfl, hm4, g4⟩ := hv
        exact k_iret C (Nat.le_of_ble_eq_true rfl) (Nat.le_of_ble_eq_true rfl) (⟨rfl, rfl, MCx_ok ((congrFun (g4 y (by omega)) 10).trans k11) ((F1.tr F3).tr (f1_mfr g4 (by omega))) (by rw [if_neg (fun z => by rcases z with z | z | z | z <;> first | exact absurd hc12.1 (Int32.not_le.mpr z) | exact absurd hc12.2 (Int32.not_le.mpr z) | exact absurd hc28.1 (Int32.not_le.mpr z) | exact absurd hc28.2 (Int32.not_le.mpr z)), if_neg (by omega)]) rfl (MM_row hR3 hm4 g4)⟩) dX6_addLoad_68
      · skip
        refine k_aload_n C (f := 0) (i := 0) (p := 0) rfl rfl dX6_addLoad_49 ?_
        refine k_iconst C ic_2 dX6_addLoad_50 ?_
        refine k_callVg C s_X6_147 h_X6_fails (L6_s (by assumption)) rfl (ct_X6_fails hx) rfl rfl (Nat.le_of_ble_eq_true rfl) ⟨Nat.le_of_ble_eq_true rfl, Nat.le_of_ble_eq_true rfl⟩ ⟨Nat.le_of_ble_eq_true rfl, Nat.le_of_ble_eq_true rfl⟩ ⟨rfl, rfl⟩ dX6_addLoad_51 ?_
        intro v51 I2 hv
        obtain ⟨rfl, hI2⟩ := hv
        exact k_iret C (Nat.le_of_ble_eq_true rfl) (Nat.le_of_ble_eq_true rfl) (⟨rfl, rfl, MCx_no hI1 hI2 (by rw [if_neg (fun z => by rcases z with z | z | z | z <;> first | exact absurd hc12.1 (Int32.not_le.mpr z) | exact absurd hc12.2 (Int32.not_le.mpr z) | exact absurd hc28.1 (Int32.not_le.mpr z) | exact absurd hc28.2 (Int32.not_le.mpr z)), if_pos (by omega)]) (by decide) (by rw [hI2]; exact MM_up hR1 (by decide))⟩) dX6_addLoad_54
    · skip
      refine k_aload_n C (f := 0) (i := 0) (p := 0) rfl rfl dX6_addLoad_31 ?_
      refine k_iconst C ic_1 dX6_addLoad_32 ?_
      refine k_callVg C s_X6_147 h_X6_fails (L6_s (by assumption)) rfl (ct_X6_fails hx) rfl rfl (Nat.le_of_ble_eq_true rfl) ⟨Nat.le_of_ble_eq_true rfl, Nat.le_of_ble_eq_true rfl⟩ ⟨Nat.le_of_ble_eq_true rfl, Nat.le_of_ble_eq_true rfl⟩ ⟨rfl, rfl⟩ dX6_addLoad_33 ?_
      intro v33 I2 hv
      obtain ⟨rfl, hI2⟩ := hv
      exact k_iret C (Nat.le_of_ble_eq_true rfl) (Nat.le_of_ble_eq_true rfl) (⟨rfl, rfl, MCx_no hI1 hI2 (if_pos (by
          by_cases q : b < nI 1
          · exact Or.inr (Or.inr (Or.inl q))
          · exact Or.inr (Or.inr (Or.inr (Int32.not_le.mp (fun z => hc28 ⟨Int32.not_lt.mp q, z⟩)))))) (by decide) (by rw [hI2]; exact MM_up hR1 (by decide))⟩) dX6_addLoad_36
  · skip
    refine k_aload_n C (f := 0) (i := 0) (p := 0) rfl rfl dX6_addLoad_15 ?_
    refine k_iconst C ic_1 dX6_addLoad_16 ?_
    refine k_callVg C s_X6_147 h_X6_fails (L6_s (by assumption)) rfl (ct_X6_fails hx) rfl rfl (Nat.le_of_ble_eq_true rfl) ⟨Nat.le_of_ble_eq_true rfl, Nat.le_of_ble_eq_true rfl⟩ ⟨Nat.le_of_ble_eq_true rfl, Nat.le_of_ble_eq_true rfl⟩ ⟨rfl, rfl⟩ dX6_addLoad_17 ?_
    intro v17 I2 hv
    obtain ⟨rfl, hI2⟩ := hv
    exact k_iret C (Nat.le_of_ble_eq_true rfl) (Nat.le_of_ble_eq_true rfl) (⟨rfl, rfl, MCx_no hI1 hI2 (if_pos (by
        by_cases q : a < nI 1
        · exact Or.inl q
        · exact Or.inr (Or.inl (Int32.not_le.mp (fun z => hc12 ⟨Int32.not_lt.mp q, z⟩))))) (by decide) (by rw [hI2]; exact MM_up hR1 (by decide))⟩) dX6_addLoad_20
set_option maxHeartbeats 4000000 in
set_option maxRecDepth 100000 in
theorem ct_X6_isReachable {G : am_G} {Λ : am_L} {I : am_I} {J : am_J} {y : Nat} {r : Nat → Int32} {j : Nat} (hx : ModLay Λ y) (hm : MRow I (y + 1) 0 r) (hok : RowOk r) (hj : j < sp_nl r) : am_Ct G yX6_isReachable cX6_isReachable 2 (some .boolean) { frames := 1, cells := 0, slots := 0, locals := 21 } [.ref y, .int (nI j)] Λ I J (am_pure (.int (am_b ((if r (142 + 4 * j) = -1 then r (143 + 4 * j) else r 1) = r 1))) Λ I J) am_never := by
  refine am_ct_of (own := RX6) rfl (by decide) (Nat.le_of_ble_eq_true rfl) (fun X C => ?_)
  change am_K G X { frames := 1, cells := 0, slots := 0, locals := 21 } 2 Λ I J 0 0 0 [(0, .ref y), (1, .int (nI j))] []
  have hs := A6_0 hx
  have hB := hok.B
  have hD := hok.D
  have hB9 := hB
  obtain ⟨⟨h6, h7, h8, h9⟩, hnc, hnw, hns, hnl⟩ := hB9
  obtain ⟨-, hcr⟩ := RK_lo hok j hj
  refine k_aload_n C (f := 0) (i := 0) (p := 0) rfl rfl dX6_isReachable_0 ?_
  refine k_getR C f_X6_7 (L6_s (by assumption)) (fun _ _ _ => rfl) (L6_0 (by assumption)) dX6_isReachable_1 ?_
  refine k_iload_n C (f := 1) (i := 1) (p := 1) rfl rfl dX6_isReachable_4 ?_
  refine k_iconst C ic_2 dX6_isReachable_5 ?_
  refine k_callSp C s_X6_56 h_X6_loadAt (ct_X6_loadAt ) rfl rfl (Nat.le_of_ble_eq_true rfl) ⟨Nat.le_of_ble_eq_true rfl, Nat.le_of_ble_eq_true rfl⟩ ⟨Nat.le_of_ble_eq_true rfl, Nat.le_of_ble_eq_true rfl⟩ ⟨rfl, rfl⟩ dX6_isReachable_6 ?_
  refine k_iald C (A6_0 (by assumption)) (by first | rfl | assumption) (by omega) (by decide) (MRx (i := 142 + 4 * j) hm (by omega) (by omega)) dX6_isReachable_9 ?_
  refine k_if_ge C (tgt := 32) (by decide) dX6_isReachable_10 (fun hc10 => ?_) (fun hc10 => ?_)
  · skip
    refine k_iconst C ic_1 dX6_isReachable_32 ?_
    refine k_goto C (tgt := 37) (by decide) dX6_isReachable_33 ?_
    exact k_zret C (by first | rfl | exact am_bz) (Nat.le_of_ble_eq_true rfl) (Nat.le_of_ble_eq_true rfl) (⟨congrArg (fun z => some (Value.int z)) (am_bt (by
      first
      | (rw [if_neg (fun q => by rw [q] at hc10; exact absurd hc10 (by decide))]; done)
      | (rw [if_pos (hcr.resolve_right (fun ⟨i, e, hi⟩ => by rw [e] at hc10; exact hc10 (nI_pos' (by omega))))]; exact hc29)
      | (rw [if_pos (hcr.resolve_right (fun ⟨i, e, hi⟩ => by rw [e] at hc10; exact hc10 (nI_pos' (by omega))))]; exact hc29))), rfl, rfl, rfl⟩) dX6_isReachable_37
  · skip
    refine k_aload_n C (f := 0) (i := 0) (p := 0) rfl rfl dX6_isReachable_13 ?_
    refine k_getR C f_X6_7 (L6_s (by assumption)) (fun _ _ _ => rfl) (L6_0 (by assumption)) dX6_isReachable_14 ?_
    refine k_iload_n C (f := 1) (i := 1) (p := 1) rfl rfl dX6_isReachable_17 ?_
    refine k_iconst C ic_3 dX6_isReachable_18 ?_
    refine k_callSp C s_X6_56 h_X6_loadAt (ct_X6_loadAt ) rfl rfl (Nat.le_of_ble_eq_true rfl) ⟨Nat.le_of_ble_eq_true rfl, Nat.le_of_ble_eq_true rfl⟩ ⟨Nat.le_of_ble_eq_true rfl, Nat.le_of_ble_eq_true rfl⟩ ⟨rfl, rfl⟩ dX6_isReachable_19 ?_
    refine k_iald C (A6_0 (by assumption)) (by first | rfl | assumption) (by omega) (by decide) (MRx (i := 143 + 4 * j) hm (by omega) (by omega)) dX6_isReachable_22 ?_
    refine k_aload_n C (f := 0) (i := 0) (p := 0) rfl rfl dX6_isReachable_23 ?_
    refine k_getR C f_X6_7 (L6_s (by assumption)) (fun _ _ _ => rfl) (L6_0 (by assumption)) dX6_isReachable_24 ?_
    refine k_iconst C ic_1 dX6_isReachable_27 ?_
    refine k_iald C (A6_0 (by assumption)) (by first | rfl | assumption) (by omega) (by decide) (MR hm (by decide)) dX6_isReachable_28 ?_
    refine k_icmp_ne C (tgt := 36) (by decide) dX6_isReachable_29 (fun hc29 => ?_) (fun hc29 => ?_)
    · skip
      refine k_iconst C ic_0 dX6_isReachable_36 ?_
      exact k_zret C (by first | rfl | exact am_bz) (Nat.le_of_ble_eq_true rfl) (Nat.le_of_ble_eq_true rfl) (⟨congrArg (fun z => some (Value.int z)) (am_bf (by
        first
        | (rw [if_neg (fun q => by rw [q] at hc10; exact absurd hc10 (by decide))]; done)
        | (rw [if_pos (hcr.resolve_right (fun ⟨i, e, hi⟩ => by rw [e] at hc10; exact hc10 (nI_pos' (by omega))))]; exact hc29)
        | (rw [if_pos (hcr.resolve_right (fun ⟨i, e, hi⟩ => by rw [e] at hc10; exact hc10 (nI_pos' (by omega))))]; exact hc29))), rfl, rfl, rfl⟩) dX6_isReachable_37
    · skip
      refine k_iconst C ic_1 dX6_isReachable_32 ?_
      refine k_goto C (tgt := 37) (by decide) dX6_isReachable_33 ?_
      exact k_zret C (by first | rfl | exact am_bz) (Nat.le_of_ble_eq_true rfl) (Nat.le_of_ble_eq_true rfl) (⟨congrArg (fun z => some (Value.int z)) (am_bt (by
        first
        | (rw [if_neg (fun q => by rw [q] at hc10; exact absurd hc10 (by decide))]; done)
        | (rw [if_pos (hcr.resolve_right (fun ⟨i, e, hi⟩ => by rw [e] at hc10; exact hc10 (nI_pos' (by omega))))]; exact hc29)
        | (rw [if_pos (hcr.resolve_right (fun ⟨i, e, hi⟩ => by rw [e] at hc10; exact hc10 (nI_pos' (by omega))))]; exact hc29))), rfl, rfl, rfl⟩) dX6_isReachable_37
set_option maxHeartbeats 4000000 in
set_option maxRecDepth 100000 in
theorem ct_X6_putOn {G : am_G} {Λ : am_L} {I : am_I} {J : am_J} {y n ct : Nat} {tb : Nat → Nat} {err : Int32} {r : Nat → Int32} {hs : Nat → Nat → Int32} {kp : Nat → Bool} {sn : Nat → Nat → Int32} {w : Nat × (Nat → Int32)} {a c : Int32}  (hx : ModLay Λ y) (hR : ModRel I y tb n err r ct hs kp sn w) (hok : RowOk r) : am_Ct G yX6_putOn cX6_putOn 3 (some .int) { frames := 3, cells := 0, slots := 0, locals := 65 } [.ref y, .int a, .int c] Λ I J (am_gen Λ J (fun v I' => MCx I y (if cdI (sp_nl r) a = 0 ∧ cdI (sp_nc r) c = 0 then (if (r (16 + 8 * c.toNatClampNeg) < nI 3 ∧ ¬ r (142 + 4 * a.toNatClampNeg) = c ∧ (if r (142 + 4 * a.toNatClampNeg) = -1 then r (143 + 4 * a.toNatClampNeg) else r 1) = r 1 ∧ ¬ sp_free r c.toNatClampNeg < r (140 + 4 * a.toNatClampNeg)) then 0 else 2) else 1) (some (.int (sp_free (sp_hang (sp_lay r a.toNatClampNeg) a.toNatClampNeg c.toNatClampNeg) c.toNatClampNeg))) v I' (fun I1 => ModRel I1 y tb n err r ct hs kp sn w) (fun I1 => ModRel I1 y (tb) (n) (err) (sp_hang r a.toNatClampNeg c.toNatClampNeg) ((min 8 (ct + 1))) ((sp_push r hs)) (kp) (sn) (w)))) am_never := by
  refine am_ct_of (own := RX6) rfl (by decide) (Nat.le_of_ble_eq_true rfl) (fun X C => ?_)
  change am_K G X { frames := 3, cells := 0, slots := 0, locals := 65 } 3 Λ I J 0 0 0 [(0, .ref y), (1, .int a), (2, .int c)] []
  obtain ⟨h6a, h6b, h6c⟩ := MM_h hR
  have hm := MM_r hR
  have hsl := A6_0 hx
  have hB := hok.B
  have hD := hok.D
  have hB9 := hB
  obtain ⟨⟨h6, h7, h8, h9⟩, hnc, hnw, hns, hnl⟩ := hB9
  refine k_aload_n C (f := 0) (i := 0) (p := 0) rfl rfl dX6_putOn_0 ?_
  refine k_iconst C ic_0 dX6_putOn_1 ?_
  refine k_putI C f_X6_60 (L6_s (by assumption)) rfl rfl dX6_putOn_2 ?_
  obtain ⟨I1, hI1⟩ : ∃ z : am_I, z = am_up I y 10 (nI 0) := ⟨_, rfl⟩
  rw [← hI1]
  have hm1 : MRow I1 (y + 1) 0 r := MR_ne hm (by rw [hI1]; exact am_up_ne (by omega))
  have h10 : I1 y 10 = nI 0 := by rw [hI1, am_up_eq]
  have hR1 : ModRel I1 y tb n err r ct hs kp sn w := by rw [hI1]; exact MM_up hR (by decide)
  have F1 : MFr y I I1 := by rw [hI1]; exact MFr.rf.up ⟨Nat.le_refl _, by omega⟩
  refine k_aload_n C (f := 0) (i := 0) (p := 0) rfl rfl dX6_putOn_5 ?_
  refine k_iload_n C (f := 1) (i := 1) (p := 1) rfl rfl dX6_putOn_6 ?_
  refine k_callVp C s_X6_253 h_X6_isLoad (L6_s (by assumption)) rfl (ct_X6_isLoad hx hm1 hok) rfl rfl (Nat.le_of_ble_eq_true rfl) ⟨Nat.le_of_ble_eq_true rfl, Nat.le_of_ble_eq_true rfl⟩ ⟨Nat.le_of_ble_eq_true rfl, Nat.le_of_ble_eq_true rfl⟩ ⟨rfl, rfl⟩ dX6_putOn_7 ?_
  first
  | refine k_ifb_ne C (tgt := 19) (by decide) dX6_putOn_10 (fun hc10 => ?_) (fun hc10 => ?_)
  | refine k_if_ne C (tgt := 19) (by decide) dX6_putOn_10 (fun hc10 => ?_) (fun hc10 => ?_)
  · skip
    have hcd : cdI (sp_nl r) a = 0 := hc10
    obtain ⟨j, hj, rfl⟩ := cdI_0 hcd (by omega)
    refine k_aload_n C (f := 0) (i := 0) (p := 0) rfl rfl dX6_putOn_19 ?_
    refine k_iload_n C (f := 2) (i := 2) (p := 2) rfl rfl dX6_putOn_20 ?_
    refine k_callVp C s_X6_244 h_X6_isCamel (L6_s (by assumption)) rfl (ct_X6_isCamel hx hm1 hok) rfl rfl (Nat.le_of_ble_eq_true rfl) ⟨Nat.le_of_ble_eq_true rfl, Nat.le_of_ble_eq_true rfl⟩ ⟨Nat.le_of_ble_eq_true rfl, Nat.le_of_ble_eq_true rfl⟩ ⟨rfl, rfl⟩ dX6_putOn_21 ?_
    first
    | refine k_ifb_ne C (tgt := 33) (by decide) dX6_putOn_24 (fun hc24 => ?_) (fun hc24 => ?_)
    | refine k_if_ne C (tgt := 33) (by decide) dX6_putOn_24 (fun hc24 => ?_) (fun hc24 => ?_)
    · skip
      have hcd2 : cdI (sp_nc r) c = 0 := hc24
      obtain ⟨j2, hj2, rfl⟩ := cdI_0 hcd2 (by omega)
      refine k_aload_n C (f := 0) (i := 0) (p := 0) rfl rfl dX6_putOn_33 ?_
      refine k_getR C f_X6_7 (L6_s (by assumption)) (fun _ _ _ => rfl) (L6_0 (by assumption)) dX6_putOn_34 ?_
      refine k_iload_n C (f := 2) (i := 2) (p := 2) rfl rfl dX6_putOn_37 ?_
      refine k_callSp C s_X6_83 h_X6_lives (ct_X6_lives hsl hm1 hB hD hj2) rfl rfl (Nat.le_of_ble_eq_true rfl) ⟨Nat.le_of_ble_eq_true rfl, Nat.le_of_ble_eq_true rfl⟩ ⟨Nat.le_of_ble_eq_true rfl, Nat.le_of_ble_eq_true rfl⟩ ⟨rfl, rfl⟩ dX6_putOn_38 ?_
      refine k_ifb_ne C (tgt := 50) (by decide) dX6_putOn_41 (fun hc41 => ?_) (fun hc41 => ?_)
      · skip
        refine k_aload_n C (f := 0) (i := 0) (p := 0) rfl rfl dX6_putOn_50 ?_
        refine k_getR C f_X6_7 (L6_s (by assumption)) (fun _ _ _ => rfl) (L6_0 (by assumption)) dX6_putOn_51 ?_
        refine k_iload_n C (f := 1) (i := 1) (p := 1) rfl rfl dX6_putOn_54 ?_
        refine k_iconst C ic_2 dX6_putOn_55 ?_
        refine k_callSp C s_X6_56 h_X6_loadAt (ct_X6_loadAt ) rfl rfl (Nat.le_of_ble_eq_true rfl) ⟨Nat.le_of_ble_eq_true rfl, Nat.le_of_ble_eq_true rfl⟩ ⟨Nat.le_of_ble_eq_true rfl, Nat.le_of_ble_eq_true rfl⟩ ⟨rfl, rfl⟩ dX6_putOn_56 ?_
        refine k_iald C (A6_0 (by assumption)) (by first | rfl | assumption) (by omega) (by decide) (MRx (i := 142 + 4 * j) hm1 (by omega) (by omega)) dX6_putOn_59 ?_
        refine k_iload_n C (f := 2) (i := 2) (p := 2) rfl rfl dX6_putOn_60 ?_
        refine k_icmp_ne C (tgt := 70) (by decide) dX6_putOn_61 (fun hc61 => ?_) (fun hc61 => ?_)
        · skip
          refine k_aload_n C (f := 0) (i := 0) (p := 0) rfl rfl dX6_putOn_70 ?_
          refine k_iload_n C (f := 1) (i := 1) (p := 1) rfl rfl dX6_putOn_71 ?_
          refine k_callVp C s_X6_280 h_X6_isReachable (L6_s (by assumption)) rfl (ct_X6_isReachable hx hm1 hok hj) rfl rfl (Nat.le_of_ble_eq_true rfl) ⟨Nat.le_of_ble_eq_true rfl, Nat.le_of_ble_eq_true rfl⟩ ⟨Nat.le_of_ble_eq_true rfl, Nat.le_of_ble_eq_true rfl⟩ ⟨rfl, rfl⟩ dX6_putOn_72 ?_
          refine k_ifb_ne C (tgt := 84) (by decide) dX6_putOn_75 (fun hc75 => ?_) (fun hc75 => ?_)
          · skip
            refine k_aload_n C (f := 0) (i := 0) (p := 0) rfl rfl dX6_putOn_84 ?_
            refine k_getR C f_X6_7 (L6_s (by assumption)) (fun _ _ _ => rfl) (L6_0 (by assumption)) dX6_putOn_85 ?_
            refine k_iload_n C (f := 1) (i := 1) (p := 1) rfl rfl dX6_putOn_88 ?_
            refine k_iconst C ic_0 dX6_putOn_89 ?_
            refine k_callSp C s_X6_56 h_X6_loadAt (ct_X6_loadAt ) rfl rfl (Nat.le_of_ble_eq_true rfl) ⟨Nat.le_of_ble_eq_true rfl, Nat.le_of_ble_eq_true rfl⟩ ⟨Nat.le_of_ble_eq_true rfl, Nat.le_of_ble_eq_true rfl⟩ ⟨rfl, rfl⟩ dX6_putOn_90 ?_
            refine k_iald C (A6_0 (by assumption)) (by first | rfl | assumption) (by omega) (by decide) (MRx (i := 140 + 4 * j) hm1 (by omega) (by omega)) dX6_putOn_93 ?_
            refine k_aload_n C (f := 0) (i := 0) (p := 0) rfl rfl dX6_putOn_94 ?_
            refine k_getR C f_X6_7 (L6_s (by assumption)) (fun _ _ _ => rfl) (L6_0 (by assumption)) dX6_putOn_95 ?_
            refine k_iload_n C (f := 2) (i := 2) (p := 2) rfl rfl dX6_putOn_98 ?_
            refine k_callSp C s_X6_209 h_X6_freeOf (ct_X6_freeOf hsl hm1 hB (by omega)) rfl rfl (Nat.le_of_ble_eq_true rfl) ⟨Nat.le_of_ble_eq_true rfl, Nat.le_of_ble_eq_true rfl⟩ ⟨Nat.le_of_ble_eq_true rfl, Nat.le_of_ble_eq_true rfl⟩ ⟨rfl, rfl⟩ dX6_putOn_99 ?_
            refine k_icmp_le C (tgt := 111) (by decide) dX6_putOn_102 (fun hc102 => ?_) (fun hc102 => ?_)
            · skip
              refine k_aload_n C (f := 0) (i := 0) (p := 0) rfl rfl dX6_putOn_111 ?_
              refine k_callVg C s_X6_274 h_X6_keepsForUndo (L6_s (by assumption)) rfl (ct_X6_keepsForUndo hx hR1) rfl rfl (Nat.le_of_ble_eq_true rfl) ⟨Nat.le_of_ble_eq_true rfl, Nat.le_of_ble_eq_true rfl⟩ ⟨Nat.le_of_ble_eq_true rfl, Nat.le_of_ble_eq_true rfl⟩ ⟨rfl, rfl⟩ dX6_putOn_112 ?_
              intro v112 I3 hv
              obtain ⟨rfl, hR3, F3, k10⟩ := hv
              have hm3 := MM_r hR3
              have hm := hm3
              have hg : am_f1 (y + 1) I3 I3 := am_f1.rf
              have k11 := k10.trans h10
              refine k_aload_n C (f := 0) (i := 0) (p := 0) rfl rfl dX6_putOn_115 ?_
              refine k_getR C f_X6_7 (L6_s (by assumption)) (fun _ _ _ => rfl) (L6_0 (by assumption)) dX6_putOn_116 ?_
              refine k_iload_n C (f := 1) (i := 1) (p := 1) rfl rfl dX6_putOn_119 ?_
              refine k_iconst C ic_2 dX6_putOn_120 ?_
              refine k_callSp C s_X6_56 h_X6_loadAt (ct_X6_loadAt ) rfl rfl (Nat.le_of_ble_eq_true rfl) ⟨Nat.le_of_ble_eq_true rfl, Nat.le_of_ble_eq_true rfl⟩ ⟨Nat.le_of_ble_eq_true rfl, Nat.le_of_ble_eq_true rfl⟩ ⟨rfl, rfl⟩ dX6_putOn_121 ?_
              refine k_iload_n C (f := 2) (i := 2) (p := 2) rfl rfl dX6_putOn_124 ?_
              refine k_rst C (i := 142 + 4 * j) (hsl) (by first | rfl | assumption) (by omega) (by omega) hm hg dX6_putOn_125 (fun I9 hm hg => ?_)
              refine k_aload_n C (f := 0) (i := 0) (p := 0) rfl rfl dX6_putOn_126 ?_
              refine k_getR C f_X6_7 (L6_s (by assumption)) (fun _ _ _ => rfl) (L6_0 (by assumption)) dX6_putOn_127 ?_
              refine k_iload_n C (f := 2) (i := 2) (p := 2) rfl rfl dX6_putOn_130 ?_
              refine k_callSp C s_X6_209 h_X6_freeOf (ct_X6_freeOf hsl hm (show RowB (sp_hang r j j2) from hB.up (by omega)) (by omega)) rfl rfl (Nat.le_of_ble_eq_true rfl) ⟨Nat.le_of_ble_eq_true rfl, Nat.le_of_ble_eq_true rfl⟩ ⟨Nat.le_of_ble_eq_true rfl, Nat.le_of_ble_eq_true rfl⟩ ⟨rfl, rfl⟩ dX6_putOn_131 ?_
              exact k_iret C (Nat.le_of_ble_eq_true rfl) (Nat.le_of_ble_eq_true rfl) (⟨rfl, rfl, MCx_ok ((congrFun (hg y (by omega)) 10).trans k11) ((F1.tr F3).tr (f1_mfr hg (by omega))) (by rw [if_pos ⟨hcd, hcd2⟩, nI_clamp (by omega), nI_clamp (by omega), if_pos ⟨hc41, hc61, hc75, Int32.not_lt.mpr hc102⟩]) (by rw [nI_clamp (by omega), nI_clamp (by omega), hang_free (by omega)]; rfl) (by rw [nI_clamp (by omega), nI_clamp (by omega)]; exact MM_row hR3 hm hg)⟩) dX6_putOn_134
            · skip
              refine k_aload_n C (f := 0) (i := 0) (p := 0) rfl rfl dX6_putOn_105 ?_
              refine k_iconst C ic_2 dX6_putOn_106 ?_
              refine k_callVg C s_X6_147 h_X6_fails (L6_s (by assumption)) rfl (ct_X6_fails hx) rfl rfl (Nat.le_of_ble_eq_true rfl) ⟨Nat.le_of_ble_eq_true rfl, Nat.le_of_ble_eq_true rfl⟩ ⟨Nat.le_of_ble_eq_true rfl, Nat.le_of_ble_eq_true rfl⟩ ⟨rfl, rfl⟩ dX6_putOn_107 ?_
              intro v107 I2 hv
              obtain ⟨rfl, hI2⟩ := hv
              exact k_iret C (Nat.le_of_ble_eq_true rfl) (Nat.le_of_ble_eq_true rfl) (⟨rfl, rfl, MCx_no hI1 hI2 (by rw [if_pos ⟨hcd, hcd2⟩, nI_clamp (by omega), nI_clamp (by omega), if_neg (fun z => z.2.2.2 (Int32.not_le.mp hc102))]) (by decide) (by rw [hI2]; exact MM_up hR1 (by decide))⟩) dX6_putOn_110
          · skip
            refine k_aload_n C (f := 0) (i := 0) (p := 0) rfl rfl dX6_putOn_78 ?_
            refine k_iconst C ic_2 dX6_putOn_79 ?_
            refine k_callVg C s_X6_147 h_X6_fails (L6_s (by assumption)) rfl (ct_X6_fails hx) rfl rfl (Nat.le_of_ble_eq_true rfl) ⟨Nat.le_of_ble_eq_true rfl, Nat.le_of_ble_eq_true rfl⟩ ⟨Nat.le_of_ble_eq_true rfl, Nat.le_of_ble_eq_true rfl⟩ ⟨rfl, rfl⟩ dX6_putOn_80 ?_
            intro v80 I2 hv
            obtain ⟨rfl, hI2⟩ := hv
            exact k_iret C (Nat.le_of_ble_eq_true rfl) (Nat.le_of_ble_eq_true rfl) (⟨rfl, rfl, MCx_no hI1 hI2 (by rw [if_pos ⟨hcd, hcd2⟩, nI_clamp (by omega), nI_clamp (by omega), if_neg (fun z => hc75 z.2.2.1)]) (by decide) (by rw [hI2]; exact MM_up hR1 (by decide))⟩) dX6_putOn_83
        · skip
          refine k_aload_n C (f := 0) (i := 0) (p := 0) rfl rfl dX6_putOn_64 ?_
          refine k_iconst C ic_2 dX6_putOn_65 ?_
          refine k_callVg C s_X6_147 h_X6_fails (L6_s (by assumption)) rfl (ct_X6_fails hx) rfl rfl (Nat.le_of_ble_eq_true rfl) ⟨Nat.le_of_ble_eq_true rfl, Nat.le_of_ble_eq_true rfl⟩ ⟨Nat.le_of_ble_eq_true rfl, Nat.le_of_ble_eq_true rfl⟩ ⟨rfl, rfl⟩ dX6_putOn_66 ?_
          intro v66 I2 hv
          obtain ⟨rfl, hI2⟩ := hv
          exact k_iret C (Nat.le_of_ble_eq_true rfl) (Nat.le_of_ble_eq_true rfl) (⟨rfl, rfl, MCx_no hI1 hI2 (by rw [if_pos ⟨hcd, hcd2⟩, nI_clamp (by omega), nI_clamp (by omega), if_neg (fun z => z.2.1 hc61)]) (by decide) (by rw [hI2]; exact MM_up hR1 (by decide))⟩) dX6_putOn_69
      · skip
        refine k_aload_n C (f := 0) (i := 0) (p := 0) rfl rfl dX6_putOn_44 ?_
        refine k_iconst C ic_2 dX6_putOn_45 ?_
        refine k_callVg C s_X6_147 h_X6_fails (L6_s (by assumption)) rfl (ct_X6_fails hx) rfl rfl (Nat.le_of_ble_eq_true rfl) ⟨Nat.le_of_ble_eq_true rfl, Nat.le_of_ble_eq_true rfl⟩ ⟨Nat.le_of_ble_eq_true rfl, Nat.le_of_ble_eq_true rfl⟩ ⟨rfl, rfl⟩ dX6_putOn_46 ?_
        intro v46 I2 hv
        obtain ⟨rfl, hI2⟩ := hv
        exact k_iret C (Nat.le_of_ble_eq_true rfl) (Nat.le_of_ble_eq_true rfl) (⟨rfl, rfl, MCx_no hI1 hI2 (by rw [if_pos ⟨hcd, hcd2⟩, nI_clamp (by omega), nI_clamp (by omega), if_neg (fun z => hc41 z.1)]) (by decide) (by rw [hI2]; exact MM_up hR1 (by decide))⟩) dX6_putOn_49
    · skip
      refine k_aload_n C (f := 0) (i := 0) (p := 0) rfl rfl dX6_putOn_27 ?_
      refine k_iconst C ic_1 dX6_putOn_28 ?_
      refine k_callVg C s_X6_147 h_X6_fails (L6_s (by assumption)) rfl (ct_X6_fails hx) rfl rfl (Nat.le_of_ble_eq_true rfl) ⟨Nat.le_of_ble_eq_true rfl, Nat.le_of_ble_eq_true rfl⟩ ⟨Nat.le_of_ble_eq_true rfl, Nat.le_of_ble_eq_true rfl⟩ ⟨rfl, rfl⟩ dX6_putOn_29 ?_
      intro v29 I2 hv
      obtain ⟨rfl, hI2⟩ := hv
      exact k_iret C (Nat.le_of_ble_eq_true rfl) (Nat.le_of_ble_eq_true rfl) (⟨rfl, rfl, MCx_no hI1 hI2 (if_neg (fun z => hc24 z.2)) (by decide) (by rw [hI2]; exact MM_up hR1 (by decide))⟩) dX6_putOn_32
  · skip
    refine k_aload_n C (f := 0) (i := 0) (p := 0) rfl rfl dX6_putOn_13 ?_
    refine k_iconst C ic_1 dX6_putOn_14 ?_
    refine k_callVg C s_X6_147 h_X6_fails (L6_s (by assumption)) rfl (ct_X6_fails hx) rfl rfl (Nat.le_of_ble_eq_true rfl) ⟨Nat.le_of_ble_eq_true rfl, Nat.le_of_ble_eq_true rfl⟩ ⟨Nat.le_of_ble_eq_true rfl, Nat.le_of_ble_eq_true rfl⟩ ⟨rfl, rfl⟩ dX6_putOn_15 ?_
    intro v15 I2 hv
    obtain ⟨rfl, hI2⟩ := hv
    exact k_iret C (Nat.le_of_ble_eq_true rfl) (Nat.le_of_ble_eq_true rfl) (⟨rfl, rfl, MCx_no hI1 hI2 (if_neg (fun z => hc10 z.1)) (by decide) (by rw [hI2]; exact MM_up hR1 (by decide))⟩) dX6_putOn_18
theorem md_undo {I1 I2 I3 : am_I} {y n ct : Nat} {tb : Nat → Nat} {err : Int32} {r : Nat → Int32} {hs : Nat → Nat → Int32} {kp : Nat → Bool} {sn : Nat → Nat → Int32} {w : Nat × (Nat → Int32)} (hR : ModRel I1 y tb n err r ct hs kp sn w) (hc : 0 < ct) (h2 : I2 = am_up I1 y 6 (nI ct - nI 1))
    (hA : ∀ m : Nat, m < 220 → I3 (y + 1) (0 + m) = I2 (y + 4) (220 * (ct - 1) + m)) (hO : ∀ A K : Nat, ¬ (A = y + 1 ∧ 0 ≤ K ∧ K < 0 + 220) → I3 A K = I2 A K) : ModRel I3 y tb n err (hs 0) (ct - 1) (fun s => hs (s + 1)) kp sn w ∧ MFr y I1 I3 ∧ I3 y 10 = I1 y 10 := by
  have ho : ∀ b : Nat, b ≠ y → b ≠ y + 1 → I3 b = I1 b := fun b h1 h3 => by
    funext K
    rw [hO b K (by omega), h2, am_up_ne h1]
  have hy : ∀ k : Nat, k ≠ 6 → I3 y k = I1 y k := fun k hk => by rw [hO y k (by omega), h2, am_up_n2 (fun z => hk z.2)]
  obtain ⟨b1, b2, b3, ⟨b41, b42, b43⟩, b5, b6⟩ := hR
  refine ⟨⟨?_, ?_, fun k hk => ?_, ⟨?_, by omega, fun s hs2 => ?_⟩, ?_, ?_⟩, fun b hb => ho b (by omega) (by omega), hy 10 (by decide)⟩
  · unfold MTxt; rw [hy 8 (by decide), ho (y + 7) (by omega) (by omega)]; exact b1
  · rw [hy 9 (by decide)]; exact b2
  · rw [hA k hk, h2, am_up_ne (by omega)]
    exact b43 0 hc k hk
  · rw [hO y 6 (by omega), h2, am_up_eq, pk_sub (by omega)]
  · have z := b43 (s + 1) (by omega)
    rw [show ct - 1 - (s + 1) = ct - 1 - 1 - s by omega] at z
    exact MR_ne z (ho _ (by omega) (by omega))
  · unfold MRow; rw [ho (y + 6) (by omega) (by omega), ho (y + 5) (by omega) (by omega)]; exact b5
  · unfold TxtAt; rw [hy 19 (by decide), ho (y + 9) (by omega) (by omega)]; exact b6
theorem md_restore {I1 I3 : am_I} {y n ct j : Nat} {tb : Nat → Nat} {err : Int32} {r : Nat → Int32} {hs : Nat → Nat → Int32} {kp : Nat → Bool} {sn : Nat → Nat → Int32} {w : Nat × (Nat → Int32)} (hR : ModRel I1 y tb n err r ct hs kp sn w) (hj : j < 2) (hk : kp j = true)
    (hA : ∀ m : Nat, m < 220 → I3 (y + 1) (0 + m) = I1 (y + 5) (220 * j + m)) (hO : ∀ A K : Nat, ¬ (A = y + 1 ∧ 0 ≤ K ∧ K < 0 + 220) → I3 A K = I1 A K) : ModRel I3 y tb n err (sn j) ct hs kp sn w ∧ am_f1 (y + 1) I1 I3 := by
  have hf : am_f1 (y + 1) I1 I3 := fun b hb => by
    funext K
    exact hO b K (fun z => hb z.1)
  exact ⟨MM_row hR (fun k hk2 => (hA k hk2).trans (((MM_s hR) j hj).2 hk k hk2)) hf, hf⟩
theorem md_save {I1 I3 I4 : am_I} {y n ct j : Nat} {tb : Nat → Nat} {err : Int32} {r : Nat → Int32} {hs : Nat → Nat → Int32} {kp : Nat → Bool} {sn : Nat → Nat → Int32} {w : Nat × (Nat → Int32)} (hR : ModRel I1 y tb n err r ct hs kp sn w) (hj : j < 2)
    (hA : ∀ m : Nat, m < 220 → I3 (y + 5) (220 * j + m) = I1 (y + 1) (0 + m)) (hO : ∀ A K : Nat, ¬ (A = y + 5 ∧ 220 * j ≤ K ∧ K < 220 * j + 220) → I3 A K = I1 A K) (h4 : I4 = am_up I3 (y + 6) j (nI 1)) : ModRel I4 y tb n err r ct hs (fun i => if i = j then true else kp i) (fun i => if i = j then r else sn i) w ∧ MFr y I1 I4 ∧ I4 y 10 = I1 y 10 := by
  have ho : ∀ b : Nat, b ≠ y + 5 → b ≠ y + 6 → I4 b = I1 b := fun b h1 h3 => by
    rw [h4, am_up_ne h3]
    funext K
    rw [hO b K (by omega)]
  have hm := MM_r hR
  obtain ⟨b1, b2, b3, b4, b5, b6⟩ := hR
  refine ⟨⟨?_, ?_, ?_, ?_, fun i hi => ?_, ?_⟩, fun b hb => ho b (by omega) (by omega), by rw [ho y (by omega) (by omega)]⟩
  · unfold MTxt; rw [ho y (by omega) (by omega), ho (y + 7) (by omega) (by omega)]; exact b1
  · rw [ho y (by omega) (by omega)]; exact b2
  · exact MR_ne b3 (ho _ (by omega) (by omega))
  · unfold MRow; rw [ho y (by omega) (by omega), ho (y + 4) (by omega) (by omega)]; exact b4
  · by_cases e : i = j
    · subst e
      simp only [if_true]
      refine ⟨by rw [h4, am_up_eq]; exact am_bt trivial, fun _ k hk => ?_⟩
      rw [h4, am_up_ne (by omega), hA k hk]
      exact hm k hk
    · simp only [e, if_false]
      refine ⟨by rw [h4, am_up_n2 (fun z => e z.2), hO _ _ (by omega)]; exact (b5 i hi).1, fun q k hk => ?_⟩
      rw [h4, am_up_ne (by omega), hO _ _ (by omega)]
      exact (b5 i hi).2 q k hk
  · unfold TxtAt; rw [ho y (by omega) (by omega), ho (y + 9) (by omega) (by omega)]; exact b6
set_option maxHeartbeats 4000000 in
set_option maxRecDepth 100000 in
theorem ct_X6_undo {G : am_G} {Λ : am_L} {I : am_I} {J : am_J} {y n ct : Nat} {tb : Nat → Nat} {err : Int32} {r : Nat → Int32} {hs : Nat → Nat → Int32} {kp : Nat → Bool} {sn : Nat → Nat → Int32} {w : Nat × (Nat → Int32)}  (hx : ModLay Λ y) (hR : ModRel I y tb n err r ct hs kp sn w) (hok : RowOk r) : am_Ct G yX6_undo cX6_undo 1 (some .int) { frames := 1, cells := 0, slots := 0, locals := 24 } [.ref y] Λ I J (am_gen Λ J (fun v I' => MCx I y (if ct = 0 then 1 else 0) (some (.int (nI (ct - 1)))) v I' (fun I1 => ModRel I1 y tb n err r ct hs kp sn w) (fun I1 => ModRel I1 y (tb) (n) (err) (hs 0) (ct - 1) (fun s => hs (s + 1)) (kp) (sn) (w)))) am_never := by
  refine am_ct_of (own := RX6) rfl (by decide) (Nat.le_of_ble_eq_true rfl) (fun X C => ?_)
  change am_K G X { frames := 1, cells := 0, slots := 0, locals := 24 } 1 Λ I J 0 0 0 [(0, .ref y)] []
  obtain ⟨h6a, h6b, h6c⟩ := MM_h hR
  have hm := MM_r hR
  have hsl := A6_0 hx
  have hB := hok.B
  have hD := hok.D
  have hB9 := hB
  obtain ⟨⟨h6, h7, h8, h9⟩, hnc, hnw, hns, hnl⟩ := hB9
  refine k_aload_n C (f := 0) (i := 0) (p := 0) rfl rfl dX6_undo_0 ?_
  refine k_iconst C ic_0 dX6_undo_1 ?_
  refine k_putI C f_X6_60 (L6_s (by assumption)) rfl rfl dX6_undo_2 ?_
  obtain ⟨I1, hI1⟩ : ∃ z : am_I, z = am_up I y 10 (nI 0) := ⟨_, rfl⟩
  rw [← hI1]
  have hm1 : MRow I1 (y + 1) 0 r := MR_ne hm (by rw [hI1]; exact am_up_ne (by omega))
  have h10 : I1 y 10 = nI 0 := by rw [hI1, am_up_eq]
  have hR1 : ModRel I1 y tb n err r ct hs kp sn w := by rw [hI1]; exact MM_up hR (by decide)
  have F1 : MFr y I I1 := by rw [hI1]; exact MFr.rf.up ⟨Nat.le_refl _, by omega⟩
  refine k_aload_n C (f := 0) (i := 0) (p := 0) rfl rfl dX6_undo_5 ?_
  refine k_getI C f_X6_235 (L6_s (by assumption)) (fun _ _ _ => rfl) (Eq.trans (by rw [hI1]; exact am_up_n2 (by omega)) h6a) dX6_undo_6 ?_
  refine k_if_ne C (tgt := 18) (by decide) dX6_undo_9 (fun hc9 => ?_) (fun hc9 => ?_)
  · skip
    have hct : 0 < ct := Nat.pos_of_ne_zero (fun z => hc9 (by rw [z]; rfl))
    refine k_aload_n C (f := 0) (i := 0) (p := 0) rfl rfl dX6_undo_18 ?_
    refine k_dup C rfl dX6_undo_19 ?_
    refine k_getI C f_X6_235 (L6_s (by assumption)) (fun _ _ _ => rfl) (Eq.trans (by rw [hI1]; exact am_up_n2 (by omega)) h6a) dX6_undo_20 ?_
    refine k_iconst C ic_1 dX6_undo_23 ?_
    refine k_isub C dX6_undo_24 ?_
    refine k_putI C f_X6_235 (L6_s (by assumption)) rfl rfl dX6_undo_25 ?_
    obtain ⟨I3, hI3⟩ : ∃ z : am_I, z = am_up I1 y 6 (nI ct - nI 1) := ⟨_, rfl⟩
    rw [← hI3]
    refine k_aload_n C (f := 0) (i := 0) (p := 0) rfl rfl dX6_undo_28 ?_
    refine k_getR C f_X6_19 (L6_s (by assumption)) (fun _ _ _ => rfl) (L6_3 (by assumption)) dX6_undo_29 ?_
    refine k_sipush C sc_220 dX6_undo_32 ?_
    refine k_aload_n C (f := 0) (i := 0) (p := 0) rfl rfl dX6_undo_35 ?_
    refine k_getI C f_X6_235 (L6_s (by assumption)) (fun _ _ _ => rfl) (Eq.trans (by rw [hI3, am_up_eq]) (pk_sub (show 1 ≤ ct from hct))) dX6_undo_36 ?_
    refine k_imul C dX6_undo_39 ?_
    rw [nI_mul]
    refine k_aload_n C (f := 0) (i := 0) (p := 0) rfl rfl dX6_undo_40 ?_
    refine k_getR C f_X6_7 (L6_s (by assumption)) (fun _ _ _ => rfl) (L6_0 (by assumption)) dX6_undo_41 ?_
    refine k_iconst C ic_0 dX6_undo_44 ?_
    refine k_callSg C s_X6_63 h_X6_layRow (ct_X6_layRow (A6_3 hx) (A6_0 hx) (by omega) (by omega) (by decide) (Or.inl (by omega))) rfl rfl (Nat.le_of_ble_eq_true rfl) ⟨Nat.le_of_ble_eq_true rfl, Nat.le_of_ble_eq_true rfl⟩ ⟨Nat.le_of_ble_eq_true rfl, Nat.le_of_ble_eq_true rfl⟩ ⟨rfl, rfl⟩ dX6_undo_45 ?_
    intro v45 I4 hv
    obtain ⟨rfl, hA45, hO45⟩ := hv
    refine k_aload_n C (f := 0) (i := 0) (p := 0) rfl rfl dX6_undo_48 ?_
    refine k_getI C f_X6_235 (L6_s (by assumption)) (fun _ _ _ => rfl) (Eq.trans (by rw [hO45 y 6 (by omega), hI3, am_up_eq]) (pk_sub (show 1 ≤ ct from hct))) dX6_undo_49 ?_
    exact k_iret C (Nat.le_of_ble_eq_true rfl) (Nat.le_of_ble_eq_true rfl) (⟨rfl, rfl, by
        obtain ⟨q1, q2, q3⟩ := md_undo hR1 hct hI3 hA45 hO45
        exact MCx_ok (q3.trans h10) (F1.tr q2) (if_neg (by omega)) rfl q1⟩) dX6_undo_52
  · skip
    refine k_aload_n C (f := 0) (i := 0) (p := 0) rfl rfl dX6_undo_12 ?_
    refine k_iconst C ic_1 dX6_undo_13 ?_
    refine k_callVg C s_X6_147 h_X6_fails (L6_s (by assumption)) rfl (ct_X6_fails hx) rfl rfl (Nat.le_of_ble_eq_true rfl) ⟨Nat.le_of_ble_eq_true rfl, Nat.le_of_ble_eq_true rfl⟩ ⟨Nat.le_of_ble_eq_true rfl, Nat.le_of_ble_eq_true rfl⟩ ⟨rfl, rfl⟩ dX6_undo_14 ?_
    intro v14 I2 hv
    obtain ⟨rfl, hI2⟩ := hv
    exact k_iret C (Nat.le_of_ble_eq_true rfl) (Nat.le_of_ble_eq_true rfl) (⟨rfl, rfl, MCx_no hI1 hI2 (if_pos ((nI_eq (b := 0) (by omega) (by decide)).mp hc9)) (by decide) (by rw [hI2]; exact MM_up hR1 (by decide))⟩) dX6_undo_17
set_option maxHeartbeats 4000000 in
set_option maxRecDepth 100000 in
theorem ct_X6_saveSnapshot {G : am_G} {Λ : am_L} {I : am_I} {J : am_J} {y n ct : Nat} {tb : Nat → Nat} {err : Int32} {r : Nat → Int32} {hs : Nat → Nat → Int32} {kp : Nat → Bool} {sn : Nat → Nat → Int32} {w : Nat × (Nat → Int32)} {c : Int32}  (hx : ModLay Λ y) (hR : ModRel I y tb n err r ct hs kp sn w) (hok : RowOk r) : am_Ct G yX6_saveSnapshot cX6_saveSnapshot 2 (some .int) { frames := 1, cells := 0, slots := 0, locals := 24 } [.ref y, .int c] Λ I J (am_gen Λ J (fun v I' => MCx I y (cdI 2 c) (some (.int (r 1))) v I' (fun I1 => ModRel I1 y tb n err r ct hs kp sn w) (fun I1 => ModRel I1 y (tb) (n) (err) (r) (ct) (hs) (fun i => if i = c.toNatClampNeg then true else kp i) (fun i => if i = c.toNatClampNeg then r else sn i) (w)))) am_never := by
  refine am_ct_of (own := RX6) rfl (by decide) (Nat.le_of_ble_eq_true rfl) (fun X C => ?_)
  change am_K G X { frames := 1, cells := 0, slots := 0, locals := 24 } 2 Λ I J 0 0 0 [(0, .ref y), (1, .int c)] []
  obtain ⟨h6a, h6b, h6c⟩ := MM_h hR
  have hm := MM_r hR
  have hsl := A6_0 hx
  have hB := hok.B
  have hD := hok.D
  have hB9 := hB
  obtain ⟨⟨h6, h7, h8, h9⟩, hnc, hnw, hns, hnl⟩ := hB9
  refine k_aload_n C (f := 0) (i := 0) (p := 0) rfl rfl dX6_saveSnapshot_0 ?_
  refine k_iconst C ic_0 dX6_saveSnapshot_1 ?_
  refine k_putI C f_X6_60 (L6_s (by assumption)) rfl rfl dX6_saveSnapshot_2 ?_
  obtain ⟨I1, hI1⟩ : ∃ z : am_I, z = am_up I y 10 (nI 0) := ⟨_, rfl⟩
  rw [← hI1]
  have hm1 : MRow I1 (y + 1) 0 r := MR_ne hm (by rw [hI1]; exact am_up_ne (by omega))
  have h10 : I1 y 10 = nI 0 := by rw [hI1, am_up_eq]
  have hR1 : ModRel I1 y tb n err r ct hs kp sn w := by rw [hI1]; exact MM_up hR (by decide)
  have F1 : MFr y I I1 := by rw [hI1]; exact MFr.rf.up ⟨Nat.le_refl _, by omega⟩
  refine k_iload_n C (f := 1) (i := 1) (p := 1) rfl rfl dX6_saveSnapshot_5 ?_
  refine k_iconst C ic_0 dX6_saveSnapshot_6 ?_
  refine k_iconst C ic_1 dX6_saveSnapshot_7 ?_
  refine k_callSp C s_X6_67 h_X6_in (ct_X6_in ) rfl rfl (Nat.le_of_ble_eq_true rfl) ⟨Nat.le_of_ble_eq_true rfl, Nat.le_of_ble_eq_true rfl⟩ ⟨Nat.le_of_ble_eq_true rfl, Nat.le_of_ble_eq_true rfl⟩ ⟨rfl, rfl⟩ dX6_saveSnapshot_8 ?_
  refine k_ifb_ne C (tgt := 20) (by decide) dX6_saveSnapshot_11 (fun hc11 => ?_) (fun hc11 => ?_)
  · skip
    have hcd : cdI 2 c = 0 := (md_cd (n := 2) (by decide)).mp hc11
    obtain ⟨j, hj, rfl⟩ := cdI_0 hcd (by decide)
    refine k_aload_n C (f := 0) (i := 0) (p := 0) rfl rfl dX6_saveSnapshot_20 ?_
    refine k_getR C f_X6_7 (L6_s (by assumption)) (fun _ _ _ => rfl) (L6_0 (by assumption)) dX6_saveSnapshot_21 ?_
    refine k_iconst C ic_0 dX6_saveSnapshot_24 ?_
    refine k_aload_n C (f := 0) (i := 0) (p := 0) rfl rfl dX6_saveSnapshot_25 ?_
    refine k_getR C f_X6_22 (L6_s (by assumption)) (fun _ _ _ => rfl) (L6_4 (by assumption)) dX6_saveSnapshot_26 ?_
    refine k_sipush C sc_220 dX6_saveSnapshot_29 ?_
    refine k_iload_n C (f := 1) (i := 1) (p := 1) rfl rfl dX6_saveSnapshot_32 ?_
    refine k_imul C dX6_saveSnapshot_33 ?_
    rw [nI_mul]
    refine k_callSg C s_X6_63 h_X6_layRow (ct_X6_layRow (A6_0 hx) (A6_4 hx) (by omega) (by omega) (by decide) (Or.inl (by omega))) rfl rfl (Nat.le_of_ble_eq_true rfl) ⟨Nat.le_of_ble_eq_true rfl, Nat.le_of_ble_eq_true rfl⟩ ⟨Nat.le_of_ble_eq_true rfl, Nat.le_of_ble_eq_true rfl⟩ ⟨rfl, rfl⟩ dX6_saveSnapshot_34 ?_
    intro v34 I3 hv
    obtain ⟨rfl, hA34, hO34⟩ := hv
    refine k_aload_n C (f := 0) (i := 0) (p := 0) rfl rfl dX6_saveSnapshot_37 ?_
    refine k_getR C f_X6_25 (L6_s (by assumption)) (fun _ _ _ => rfl) (L6_5 (by assumption)) dX6_saveSnapshot_38 ?_
    refine k_iload_n C (f := 1) (i := 1) (p := 1) rfl rfl dX6_saveSnapshot_41 ?_
    refine k_iconst C ic_1 dX6_saveSnapshot_42 ?_
    refine k_zast C (A6_5 (by assumption)) (by first | rfl | assumption) (by omega) (by decide) dX6_saveSnapshot_43 ?_
    obtain ⟨I4, hI4⟩ : ∃ z : am_I, z = am_up I3 (y + 6) j (vp_nar FieldType.boolean (nI 1)) := ⟨_, rfl⟩
    rw [← hI4]
    have hI4 : I4 = am_up I3 (y + 6) j (nI 1) := hI4
    refine k_aload_n C (f := 0) (i := 0) (p := 0) rfl rfl dX6_saveSnapshot_44 ?_
    refine k_getR C f_X6_7 (L6_s (by assumption)) (fun _ _ _ => rfl) (L6_0 (by assumption)) dX6_saveSnapshot_45 ?_
    refine k_iconst C ic_1 dX6_saveSnapshot_48 ?_
    refine k_iald C (A6_0 (by assumption)) (by first | rfl | assumption) (by omega) (by decide) (Eq.trans (by rw [hI4, am_up_ne (by omega), hO34 _ _ (by omega)]) (MR hm1 (by decide))) dX6_saveSnapshot_49 ?_
    exact k_iret C (Nat.le_of_ble_eq_true rfl) (Nat.le_of_ble_eq_true rfl) (⟨rfl, rfl, by
        obtain ⟨q1, q2, q3⟩ := md_save hR1 hj hA34 hO34 hI4
        rw [nI_clamp (by omega)]
        exact MCx_ok (q3.trans h10) (F1.tr q2) hcd rfl q1⟩) dX6_saveSnapshot_50
  · skip
    refine k_aload_n C (f := 0) (i := 0) (p := 0) rfl rfl dX6_saveSnapshot_14 ?_
    refine k_iconst C ic_1 dX6_saveSnapshot_15 ?_
    refine k_callVg C s_X6_147 h_X6_fails (L6_s (by assumption)) rfl (ct_X6_fails hx) rfl rfl (Nat.le_of_ble_eq_true rfl) ⟨Nat.le_of_ble_eq_true rfl, Nat.le_of_ble_eq_true rfl⟩ ⟨Nat.le_of_ble_eq_true rfl, Nat.le_of_ble_eq_true rfl⟩ ⟨rfl, rfl⟩ dX6_saveSnapshot_16 ?_
    intro v16 I2 hv
    obtain ⟨rfl, hI2⟩ := hv
    exact k_iret C (Nat.le_of_ble_eq_true rfl) (Nat.le_of_ble_eq_true rfl) (⟨rfl, rfl, MCx_no hI1 hI2 (cdI_1 (fun z => hc11 ((md_cd (n := 2) (by decide)).mpr z))) (by decide) (by rw [hI2]; exact MM_up hR1 (by decide))⟩) dX6_saveSnapshot_19
set_option maxHeartbeats 4000000 in
set_option maxRecDepth 100000 in
theorem ct_X6_restoreSnapshot {G : am_G} {Λ : am_L} {I : am_I} {J : am_J} {y n ct : Nat} {tb : Nat → Nat} {err : Int32} {r : Nat → Int32} {hs : Nat → Nat → Int32} {kp : Nat → Bool} {sn : Nat → Nat → Int32} {w : Nat × (Nat → Int32)} {c : Int32}  (hx : ModLay Λ y) (hR : ModRel I y tb n err r ct hs kp sn w) (hok : RowOk r) : am_Ct G yX6_restoreSnapshot cX6_restoreSnapshot 2 (some .int) { frames := 2, cells := 0, slots := 0, locals := 45 } [.ref y, .int c] Λ I J (am_gen Λ J (fun v I' => MCx I y (if cdI 2 c = 0 then (if kp c.toNatClampNeg = true then 0 else 2) else 1) (some (.int (sn c.toNatClampNeg 1))) v I' (fun I1 => ModRel I1 y tb n err r ct hs kp sn w) (fun I1 => ModRel I1 y (tb) (n) (err) (sn c.toNatClampNeg) ((min 8 (ct + 1))) ((sp_push r hs)) (kp) (sn) (w)))) am_never := by
  refine am_ct_of (own := RX6) rfl (by decide) (Nat.le_of_ble_eq_true rfl) (fun X C => ?_)
  change am_K G X { frames := 2, cells := 0, slots := 0, locals := 45 } 2 Λ I J 0 0 0 [(0, .ref y), (1, .int c)] []
  obtain ⟨h6a, h6b, h6c⟩ := MM_h hR
  have hm := MM_r hR
  have hsl := A6_0 hx
  have hB := hok.B
  have hD := hok.D
  have hB9 := hB
  obtain ⟨⟨h6, h7, h8, h9⟩, hnc, hnw, hns, hnl⟩ := hB9
  refine k_aload_n C (f := 0) (i := 0) (p := 0) rfl rfl dX6_restoreSnapshot_0 ?_
  refine k_iconst C ic_0 dX6_restoreSnapshot_1 ?_
  refine k_putI C f_X6_60 (L6_s (by assumption)) rfl rfl dX6_restoreSnapshot_2 ?_
  obtain ⟨I1, hI1⟩ : ∃ z : am_I, z = am_up I y 10 (nI 0) := ⟨_, rfl⟩
  rw [← hI1]
  have hm1 : MRow I1 (y + 1) 0 r := MR_ne hm (by rw [hI1]; exact am_up_ne (by omega))
  have h10 : I1 y 10 = nI 0 := by rw [hI1, am_up_eq]
  have hR1 : ModRel I1 y tb n err r ct hs kp sn w := by rw [hI1]; exact MM_up hR (by decide)
  have F1 : MFr y I I1 := by rw [hI1]; exact MFr.rf.up ⟨Nat.le_refl _, by omega⟩
  refine k_iload_n C (f := 1) (i := 1) (p := 1) rfl rfl dX6_restoreSnapshot_5 ?_
  refine k_iconst C ic_0 dX6_restoreSnapshot_6 ?_
  refine k_iconst C ic_1 dX6_restoreSnapshot_7 ?_
  refine k_callSp C s_X6_67 h_X6_in (ct_X6_in ) rfl rfl (Nat.le_of_ble_eq_true rfl) ⟨Nat.le_of_ble_eq_true rfl, Nat.le_of_ble_eq_true rfl⟩ ⟨Nat.le_of_ble_eq_true rfl, Nat.le_of_ble_eq_true rfl⟩ ⟨rfl, rfl⟩ dX6_restoreSnapshot_8 ?_
  refine k_ifb_ne C (tgt := 20) (by decide) dX6_restoreSnapshot_11 (fun hc11 => ?_) (fun hc11 => ?_)
  · skip
    have hcd : cdI 2 c = 0 := (md_cd (n := 2) (by decide)).mp hc11
    obtain ⟨j, hj, rfl⟩ := cdI_0 hcd (by decide)
    refine k_aload_n C (f := 0) (i := 0) (p := 0) rfl rfl dX6_restoreSnapshot_20 ?_
    refine k_getR C f_X6_25 (L6_s (by assumption)) (fun _ _ _ => rfl) (L6_5 (by assumption)) dX6_restoreSnapshot_21 ?_
    refine k_iload_n C (f := 1) (i := 1) (p := 1) rfl rfl dX6_restoreSnapshot_24 ?_
    refine k_zald C (A6_5 (by assumption)) (by first | rfl | assumption) (by omega) (by decide) (((MM_s hR1) j hj).1) dX6_restoreSnapshot_25 ?_
    refine k_ifb_ne C (tgt := 35) (by decide) dX6_restoreSnapshot_26 (fun hc26 => ?_) (fun hc26 => ?_)
    · skip
      refine k_aload_n C (f := 0) (i := 0) (p := 0) rfl rfl dX6_restoreSnapshot_35 ?_
      refine k_callVg C s_X6_274 h_X6_keepsForUndo (L6_s (by assumption)) rfl (ct_X6_keepsForUndo hx hR1) rfl rfl (Nat.le_of_ble_eq_true rfl) ⟨Nat.le_of_ble_eq_true rfl, Nat.le_of_ble_eq_true rfl⟩ ⟨Nat.le_of_ble_eq_true rfl, Nat.le_of_ble_eq_true rfl⟩ ⟨rfl, rfl⟩ dX6_restoreSnapshot_36 ?_
      intro v36 I3 hv
      obtain ⟨rfl, hR3, F3, k10⟩ := hv
      have hm3 := MM_r hR3
      have hm := hm3
      have hg : am_f1 (y + 1) I3 I3 := am_f1.rf
      have k11 := k10.trans h10
      refine k_aload_n C (f := 0) (i := 0) (p := 0) rfl rfl dX6_restoreSnapshot_39 ?_
      refine k_getR C f_X6_22 (L6_s (by assumption)) (fun _ _ _ => rfl) (L6_4 (by assumption)) dX6_restoreSnapshot_40 ?_
      refine k_sipush C sc_220 dX6_restoreSnapshot_43 ?_
      refine k_iload_n C (f := 1) (i := 1) (p := 1) rfl rfl dX6_restoreSnapshot_46 ?_
      refine k_imul C dX6_restoreSnapshot_47 ?_
      rw [nI_mul]
      refine k_aload_n C (f := 0) (i := 0) (p := 0) rfl rfl dX6_restoreSnapshot_48 ?_
      refine k_getR C f_X6_7 (L6_s (by assumption)) (fun _ _ _ => rfl) (L6_0 (by assumption)) dX6_restoreSnapshot_49 ?_
      refine k_iconst C ic_0 dX6_restoreSnapshot_52 ?_
      refine k_callSg C s_X6_63 h_X6_layRow (ct_X6_layRow (A6_4 hx) (A6_0 hx) (by omega) (by omega) (by decide) (Or.inl (by omega))) rfl rfl (Nat.le_of_ble_eq_true rfl) ⟨Nat.le_of_ble_eq_true rfl, Nat.le_of_ble_eq_true rfl⟩ ⟨Nat.le_of_ble_eq_true rfl, Nat.le_of_ble_eq_true rfl⟩ ⟨rfl, rfl⟩ dX6_restoreSnapshot_53 ?_
      intro v53 I4 hv
      obtain ⟨rfl, hA53, hO53⟩ := hv
      obtain ⟨q1, q2⟩ := md_restore hR3 hj hc26 hA53 hO53
      refine k_aload_n C (f := 0) (i := 0) (p := 0) rfl rfl dX6_restoreSnapshot_56 ?_
      refine k_getR C f_X6_7 (L6_s (by assumption)) (fun _ _ _ => rfl) (L6_0 (by assumption)) dX6_restoreSnapshot_57 ?_
      refine k_iconst C ic_1 dX6_restoreSnapshot_60 ?_
      refine k_iald C (A6_0 (by assumption)) (by first | rfl | assumption) (by omega) (by decide) ((MR (MM_r q1) (by decide))) dX6_restoreSnapshot_61 ?_
      exact k_iret C (Nat.le_of_ble_eq_true rfl) (Nat.le_of_ble_eq_true rfl) (⟨rfl, rfl, by
          rw [nI_clamp (by omega)]
          exact MCx_ok ((congrFun (q2 y (by omega)) 10).trans k11) ((F1.tr F3).tr (f1_mfr q2 (by omega))) (by rw [if_pos hcd, if_pos hc26]) rfl q1⟩) dX6_restoreSnapshot_62
    · skip
      refine k_aload_n C (f := 0) (i := 0) (p := 0) rfl rfl dX6_restoreSnapshot_29 ?_
      refine k_iconst C ic_2 dX6_restoreSnapshot_30 ?_
      refine k_callVg C s_X6_147 h_X6_fails (L6_s (by assumption)) rfl (ct_X6_fails hx) rfl rfl (Nat.le_of_ble_eq_true rfl) ⟨Nat.le_of_ble_eq_true rfl, Nat.le_of_ble_eq_true rfl⟩ ⟨Nat.le_of_ble_eq_true rfl, Nat.le_of_ble_eq_true rfl⟩ ⟨rfl, rfl⟩ dX6_restoreSnapshot_31 ?_
      intro v31 I2 hv
      obtain ⟨rfl, hI2⟩ := hv
      exact k_iret C (Nat.le_of_ble_eq_true rfl) (Nat.le_of_ble_eq_true rfl) (⟨rfl, rfl, MCx_no hI1 hI2 (by rw [if_pos hcd, nI_clamp (by omega), if_neg hc26]) (by decide) (by rw [hI2]; exact MM_up hR1 (by decide))⟩) dX6_restoreSnapshot_34
  · skip
    refine k_aload_n C (f := 0) (i := 0) (p := 0) rfl rfl dX6_restoreSnapshot_14 ?_
    refine k_iconst C ic_1 dX6_restoreSnapshot_15 ?_
    refine k_callVg C s_X6_147 h_X6_fails (L6_s (by assumption)) rfl (ct_X6_fails hx) rfl rfl (Nat.le_of_ble_eq_true rfl) ⟨Nat.le_of_ble_eq_true rfl, Nat.le_of_ble_eq_true rfl⟩ ⟨Nat.le_of_ble_eq_true rfl, Nat.le_of_ble_eq_true rfl⟩ ⟨rfl, rfl⟩ dX6_restoreSnapshot_16 ?_
    intro v16 I2 hv
    obtain ⟨rfl, hI2⟩ := hv
    exact k_iret C (Nat.le_of_ble_eq_true rfl) (Nat.le_of_ble_eq_true rfl) (⟨rfl, rfl, MCx_no hI1 hI2 (if_neg (fun z => hc11 ((md_cd (n := 2) (by decide)).mpr z))) (by decide) (by rw [hI2]; exact MM_up hR1 (by decide))⟩) dX6_restoreSnapshot_19
set_option maxHeartbeats 4000000 in
set_option maxRecDepth 100000 in
theorem ct_X6_takesSpare {G : am_G} {Λ : am_L} {I : am_I} {J : am_J} {y : Nat} {r : Nat → Int32}  (hx : ModLay Λ y) (hm : MRow I (y + 1) 0 r) : am_Ct G yX6_takesSpare cX6_takesSpare 1 none { frames := 1, cells := 0, slots := 0, locals := 24 } [.ref y] Λ I J (am_gen Λ J (fun v I' => v = none ∧ MRow I' (y + 3) 0 r ∧ am_f1 (y + 3) I I')) am_never := by
  refine am_ct_of (own := RX6) rfl (by decide) (Nat.le_of_ble_eq_true rfl) (fun X C => ?_)
  change am_K G X { frames := 1, cells := 0, slots := 0, locals := 24 } 1 Λ I J 0 0 0 [(0, .ref y)] []
  refine k_aload_n C (f := 0) (i := 0) (p := 0) rfl rfl dX6_takesSpare_0 ?_
  refine k_getR C f_X6_7 (L6_s (by assumption)) (fun _ _ _ => rfl) (L6_0 (by assumption)) dX6_takesSpare_1 ?_
  refine k_iconst C ic_0 dX6_takesSpare_4 ?_
  refine k_aload_n C (f := 0) (i := 0) (p := 0) rfl rfl dX6_takesSpare_5 ?_
  refine k_getR C f_X6_16 (L6_s (by assumption)) (fun _ _ _ => rfl) (L6_2 (by assumption)) dX6_takesSpare_6 ?_
  refine k_iconst C ic_0 dX6_takesSpare_9 ?_
  refine k_callSg C s_X6_63 h_X6_layRow (ct_X6_layRow (A6_0 hx) (A6_2 hx) (by omega) (by omega) (by decide) (Or.inl (by omega))) rfl rfl (Nat.le_of_ble_eq_true rfl) ⟨Nat.le_of_ble_eq_true rfl, Nat.le_of_ble_eq_true rfl⟩ ⟨Nat.le_of_ble_eq_true rfl, Nat.le_of_ble_eq_true rfl⟩ ⟨rfl, rfl⟩ dX6_takesSpare_10 ?_
  intro v10 I3 hv
  obtain ⟨rfl, hA10, hO10⟩ := hv
  exact k_vret C (Nat.le_of_ble_eq_true rfl) (Nat.le_of_ble_eq_true rfl) (⟨rfl, rfl, ⟨rfl, fun k hk => (hA10 k hk).trans (hm k hk), fun b hb => by funext K; exact hO10 b K (fun z => hb z.1)⟩⟩) dX6_takesSpare_13
set_option maxHeartbeats 4000000 in
set_option maxRecDepth 100000 in
theorem ct_X6_livingAfter {G : am_G} {Λ : am_L} {I : am_I} {J : am_J} {y n ct : Nat} {tb : Nat → Nat} {err : Int32} {r : Nat → Int32} {hs : Nat → Nat → Int32} {kp : Nat → Bool} {sn : Nat → Nat → Int32} {w : Nat × (Nat → Int32)} {a : Int32}  (hx : ModLay Λ y) (hR : ModRel I y tb n err r ct hs kp sn w) (hok : RowOk r) : am_Ct G yX6_livingAfter cX6_livingAfter 3 (some .int) { frames := 6, cells := 0, slots := 0, locals := 132 } [.ref y, .int a] Λ I J (am_gen Λ J (fun v I' => MCx I y (if a < 0 ∨ nI 50 < a then 1 else 0) (some (.int (nI (sp_living (sp_goN r a.toNatClampNeg))))) v I' (fun I1 => ModRel I1 y tb n err r ct hs kp sn w) (fun I1 => ModRel I1 y (tb) (n) (err) (r) (ct) (hs) (kp) (sn) (w)))) am_never := by
  refine am_ct_of (own := RX6) rfl (by decide) (Nat.le_of_ble_eq_true rfl) (fun X C => ?_)
  change am_K G X { frames := 6, cells := 0, slots := 0, locals := 132 } 3 Λ I J 0 0 0 [(0, .ref y), (1, .int a)] []
  obtain ⟨h6a, h6b, h6c⟩ := MM_h hR
  have hm := MM_r hR
  have hsl := A6_0 hx
  have hB := hok.B
  have hD := hok.D
  have hB9 := hB
  obtain ⟨⟨h6, h7, h8, h9⟩, hnc, hnw, hns, hnl⟩ := hB9
  refine k_aload_n C (f := 0) (i := 0) (p := 0) rfl rfl dX6_livingAfter_0 ?_
  refine k_iconst C ic_0 dX6_livingAfter_1 ?_
  refine k_putI C f_X6_60 (L6_s (by assumption)) rfl rfl dX6_livingAfter_2 ?_
  obtain ⟨I1, hI1⟩ : ∃ z : am_I, z = am_up I y 10 (nI 0) := ⟨_, rfl⟩
  rw [← hI1]
  have hm1 : MRow I1 (y + 1) 0 r := MR_ne hm (by rw [hI1]; exact am_up_ne (by omega))
  have h10 : I1 y 10 = nI 0 := by rw [hI1, am_up_eq]
  have hR1 : ModRel I1 y tb n err r ct hs kp sn w := by rw [hI1]; exact MM_up hR (by decide)
  have F1 : MFr y I I1 := by rw [hI1]; exact MFr.rf.up ⟨Nat.le_refl _, by omega⟩
  refine k_iload_n C (f := 1) (i := 1) (p := 1) rfl rfl dX6_livingAfter_5 ?_
  refine k_iconst C ic_0 dX6_livingAfter_6 ?_
  refine k_bipush C bc_50 dX6_livingAfter_7 ?_
  refine k_callSp C s_X6_67 h_X6_in (ct_X6_in ) rfl rfl (Nat.le_of_ble_eq_true rfl) ⟨Nat.le_of_ble_eq_true rfl, Nat.le_of_ble_eq_true rfl⟩ ⟨Nat.le_of_ble_eq_true rfl, Nat.le_of_ble_eq_true rfl⟩ ⟨rfl, rfl⟩ dX6_livingAfter_9 ?_
  refine k_ifb_ne C (tgt := 21) (by decide) dX6_livingAfter_12 (fun hc12 => ?_) (fun hc12 => ?_)
  · skip
    have h0a : ¬ a < 0 := Int32.not_lt.mpr hc12.1
    obtain ⟨q, hq, rfl⟩ := nI_of h0a
    have hq5 : q ≤ 50 := (nI_leI hq (by decide)).mp hc12.2
    refine k_aload_n C (f := 0) (i := 0) (p := 0) rfl rfl dX6_livingAfter_21 ?_
    refine k_callVg C s_X6_262 h_X6_takesSpare (L6_s (by assumption)) rfl (ct_X6_takesSpare hx hm1) rfl rfl (Nat.le_of_ble_eq_true rfl) ⟨Nat.le_of_ble_eq_true rfl, Nat.le_of_ble_eq_true rfl⟩ ⟨Nat.le_of_ble_eq_true rfl, Nat.le_of_ble_eq_true rfl⟩ ⟨rfl, rfl⟩ dX6_livingAfter_22 ?_
    intro v22 I3 hv
    obtain ⟨rfl, hm3, g3⟩ := hv
    refine k_iconst C ic_0 dX6_livingAfter_25 ?_
    refine k_istore_n C (f := 2) (i := 2) (lv := [(2, _), (0, _), (1, _)]) rfl (Nat.le_of_ble_eq_true rfl) rfl dX6_livingAfter_26 ?_
    have loop27 : ∀ (f : Nat) (k : Nat) (I4 : am_I), (k ≤ q) → (MRow I4 (y + 3) 0 (sp_goN r k)) → (am_f1 (y + 3) I1 I4) → (q - k) < f → am_K G X { frames := 6, cells := 0, slots := 0, locals := 132 } 3 Λ I4 J 0 0 27 [(0, .ref y), (1, .int (nI q)), (2, .int (nI k))] [] := by
      intro f
      induction f with
      | zero => intro k I4 hk hm4 g4 hf; exact absurd hf (Nat.not_lt_zero _)
      | succ f ih27 =>
        intro k I4 hk hm4 g4 hf
        have hok1 := rowok_goN hok k
        obtain ⟨ld1, hld1, hlc1⟩ := RK_ld hok1
        have hn1 := hok1.2.2.2.2.1
        refine k_iload_n C (f := 2) (i := 2) (p := 2) rfl rfl dX6_livingAfter_27 ?_
        refine k_iload_n C (f := 1) (i := 1) (p := 1) rfl rfl dX6_livingAfter_28 ?_
        first
        | refine k_icmpN_ge C (tgt := 56) (by omega) (by omega) (by decide) dX6_livingAfter_29 (fun hc29 => ?_) (fun hc29 => ?_)
        | refine k_icmp_ge C (tgt := 56) (by decide) dX6_livingAfter_29 (fun hc29 => ?_) (fun hc29 => ?_)
        · skip
          refine k_aload_n C (f := 0) (i := 0) (p := 0) rfl rfl dX6_livingAfter_56 ?_
          refine k_getR C f_X6_16 (L6_s (by assumption)) (fun _ _ _ => rfl) (L6_2 (by assumption)) dX6_livingAfter_57 ?_
          refine k_callSp C s_X6_134 h_X6_livingOf (ct_X6_livingOf (A6_2 hx) hm4 hok1.B hok1.D) rfl rfl (Nat.le_of_ble_eq_true rfl) ⟨Nat.le_of_ble_eq_true rfl, Nat.le_of_ble_eq_true rfl⟩ ⟨Nat.le_of_ble_eq_true rfl, Nat.le_of_ble_eq_true rfl⟩ ⟨rfl, rfl⟩ dX6_livingAfter_60 ?_
          exact k_iret C (Nat.le_of_ble_eq_true rfl) (Nat.le_of_ble_eq_true rfl) (⟨rfl, rfl, by
              have hfin : sp_goN r q = sp_goN r k := by
                first
                | (rw [show q = k by omega]; done)
                | (have z := sp_goN_fix (r := r) (k := k) hc39 (q - k); rw [show k + (q - k) = q by omega] at z; exact z)
              exact MCx_ok ((congrFun (g4 y (by omega)) 10).trans h10) (F1.tr (f1_mfr g4 (by omega))) (if_neg (fun z => z.elim h0a (fun z2 => absurd hc12.2 (Int32.not_le.mpr z2)))) (by rw [nI_clamp (by omega), hfin]) (MM_f1 hR1 g4 (by omega))⟩) dX6_livingAfter_63
        · skip
          refine k_aload_n C (f := 0) (i := 0) (p := 0) rfl rfl dX6_livingAfter_32 ?_
          refine k_getR C f_X6_16 (L6_s (by assumption)) (fun _ _ _ => rfl) (L6_2 (by assumption)) dX6_livingAfter_33 ?_
          refine k_callSp C s_X6_265 h_X6_canTravel (ct_X6_canTravel (A6_2 hx) hm4 hok1.B hok1.D hok1) rfl rfl (Nat.le_of_ble_eq_true rfl) ⟨Nat.le_of_ble_eq_true rfl, Nat.le_of_ble_eq_true rfl⟩ ⟨Nat.le_of_ble_eq_true rfl, Nat.le_of_ble_eq_true rfl⟩ ⟨rfl, rfl⟩ dX6_livingAfter_36 ?_
          refine k_ifb_eq C (tgt := 56) (by decide) dX6_livingAfter_39 (fun hc39 => ?_) (fun hc39 => ?_)
          · skip
            refine k_aload_n C (f := 0) (i := 0) (p := 0) rfl rfl dX6_livingAfter_56 ?_
            refine k_getR C f_X6_16 (L6_s (by assumption)) (fun _ _ _ => rfl) (L6_2 (by assumption)) dX6_livingAfter_57 ?_
            refine k_callSp C s_X6_134 h_X6_livingOf (ct_X6_livingOf (A6_2 hx) hm4 hok1.B hok1.D) rfl rfl (Nat.le_of_ble_eq_true rfl) ⟨Nat.le_of_ble_eq_true rfl, Nat.le_of_ble_eq_true rfl⟩ ⟨Nat.le_of_ble_eq_true rfl, Nat.le_of_ble_eq_true rfl⟩ ⟨rfl, rfl⟩ dX6_livingAfter_60 ?_
            exact k_iret C (Nat.le_of_ble_eq_true rfl) (Nat.le_of_ble_eq_true rfl) (⟨rfl, rfl, by
                have hfin : sp_goN r q = sp_goN r k := by
                  first
                  | (rw [show q = k by omega]; done)
                  | (have z := sp_goN_fix (r := r) (k := k) hc39 (q - k); rw [show k + (q - k) = q by omega] at z; exact z)
                exact MCx_ok ((congrFun (g4 y (by omega)) 10).trans h10) (F1.tr (f1_mfr g4 (by omega))) (if_neg (fun z => z.elim h0a (fun z2 => absurd hc12.2 (Int32.not_le.mpr z2)))) (by rw [nI_clamp (by omega), hfin]) (MM_f1 hR1 g4 (by omega))⟩) dX6_livingAfter_63
          · skip
            refine k_aload_n C (f := 0) (i := 0) (p := 0) rfl rfl dX6_livingAfter_42 ?_
            refine k_getR C f_X6_16 (L6_s (by assumption)) (fun _ _ _ => rfl) (L6_2 (by assumption)) dX6_livingAfter_43 ?_
            refine k_callSg C s_X6_268 h_X6_travels (ct_X6_travels (A6_2 hx) hm4 hok1 hld1 hlc1) rfl rfl (Nat.le_of_ble_eq_true rfl) ⟨Nat.le_of_ble_eq_true rfl, Nat.le_of_ble_eq_true rfl⟩ ⟨Nat.le_of_ble_eq_true rfl, Nat.le_of_ble_eq_true rfl⟩ ⟨rfl, rfl⟩ dX6_livingAfter_46 ?_
            intro v46 I5 hv
            obtain ⟨rfl, hm5, g5⟩ := hv
            have hm6 : MRow I5 (y + 3) 0 (sp_goN r (k + 1)) := by
              show MRow I5 (y + 3) 0 (sp_go1 (sp_goN r k))
              rw [sp_go1_t hc39, hld1, nI_clamp (by omega)]
              exact hm5
            have g6 := g4.tr g5
            refine k_pop C rfl dX6_livingAfter_49 ?_
            refine k_iinc C (i := 2) (p := 2) (lv := [(2, _), (0, _), (1, _)]) (Nat.le_of_ble_eq_true rfl) rfl (by first | exact am_inc1 _ | rfl) rfl dX6_livingAfter_50 ?_
            refine k_goto C (tgt := 27) (by decide) dX6_livingAfter_53 ?_
            refine k_sub [1, 2, 0] rfl ?_
            exact ih27 (k + 1) I5 (by omega) hm6 g6 (by omega)
    refine k_sub [1, 2, 0] rfl ?_
    exact loop27 (q + 1) 0 I3 (Nat.zero_le _) hm3 g3 (by omega)
  · skip
    refine k_aload_n C (f := 0) (i := 0) (p := 0) rfl rfl dX6_livingAfter_15 ?_
    refine k_iconst C ic_1 dX6_livingAfter_16 ?_
    refine k_callVg C s_X6_147 h_X6_fails (L6_s (by assumption)) rfl (ct_X6_fails hx) rfl rfl (Nat.le_of_ble_eq_true rfl) ⟨Nat.le_of_ble_eq_true rfl, Nat.le_of_ble_eq_true rfl⟩ ⟨Nat.le_of_ble_eq_true rfl, Nat.le_of_ble_eq_true rfl⟩ ⟨rfl, rfl⟩ dX6_livingAfter_17 ?_
    intro v17 I2 hv
    obtain ⟨rfl, hI2⟩ := hv
    exact k_iret C (Nat.le_of_ble_eq_true rfl) (Nat.le_of_ble_eq_true rfl) (⟨rfl, rfl, MCx_no hI1 hI2 (if_pos (by
        by_cases q : a < 0
        · exact Or.inl q
        · exact Or.inr (Int32.not_le.mp (fun z => hc12 ⟨Int32.not_lt.mp q, z⟩)))) (by decide) (by rw [hI2]; exact MM_up hR1 (by decide))⟩) dX6_livingAfter_20
set_option maxHeartbeats 4000000 in
set_option maxRecDepth 100000 in
theorem ct_X6_daysToArrival {G : am_G} {Λ : am_L} {I : am_I} {J : am_J} {y n ct : Nat} {tb : Nat → Nat} {err : Int32} {r : Nat → Int32} {hs : Nat → Nat → Int32} {kp : Nat → Bool} {sn : Nat → Nat → Int32} {w : Nat × (Nat → Int32)}  (hx : ModLay Λ y) (hR : ModRel I y tb n err r ct hs kp sn w) (hok : RowOk r) : am_Ct G yX6_daysToArrival cX6_daysToArrival 2 (some .int) { frames := 6, cells := 0, slots := 0, locals := 132 } [.ref y] Λ I J (am_gen Λ J (fun v I' => MCx I y (if sp_goN r 200 0 ≤ sp_goN r 200 1 then 0 else 1) (some (.int (sp_goN r 200 2 - r 2))) v I' (fun I1 => ModRel I1 y tb n err r ct hs kp sn w) (fun I1 => ModRel I1 y (tb) (n) (err) (r) (ct) (hs) (kp) (sn) (w)))) am_never := by
  refine am_ct_of (own := RX6) rfl (by decide) (Nat.le_of_ble_eq_true rfl) (fun X C => ?_)
  change am_K G X { frames := 6, cells := 0, slots := 0, locals := 132 } 2 Λ I J 0 0 0 [(0, .ref y)] []
  obtain ⟨h6a, h6b, h6c⟩ := MM_h hR
  have hm := MM_r hR
  have hsl := A6_0 hx
  have hB := hok.B
  have hD := hok.D
  have hB9 := hB
  obtain ⟨⟨h6, h7, h8, h9⟩, hnc, hnw, hns, hnl⟩ := hB9
  obtain ⟨dd, hdd, -, hd200⟩ := hok.2.2.2.2.2.2.1
  refine k_aload_n C (f := 0) (i := 0) (p := 0) rfl rfl dX6_daysToArrival_0 ?_
  refine k_iconst C ic_0 dX6_daysToArrival_1 ?_
  refine k_putI C f_X6_60 (L6_s (by assumption)) rfl rfl dX6_daysToArrival_2 ?_
  obtain ⟨I1, hI1⟩ : ∃ z : am_I, z = am_up I y 10 (nI 0) := ⟨_, rfl⟩
  rw [← hI1]
  have hm1 : MRow I1 (y + 1) 0 r := MR_ne hm (by rw [hI1]; exact am_up_ne (by omega))
  have h10 : I1 y 10 = nI 0 := by rw [hI1, am_up_eq]
  have hR1 : ModRel I1 y tb n err r ct hs kp sn w := by rw [hI1]; exact MM_up hR (by decide)
  have F1 : MFr y I I1 := by rw [hI1]; exact MFr.rf.up ⟨Nat.le_refl _, by omega⟩
  refine k_aload_n C (f := 0) (i := 0) (p := 0) rfl rfl dX6_daysToArrival_5 ?_
  refine k_callVg C s_X6_262 h_X6_takesSpare (L6_s (by assumption)) rfl (ct_X6_takesSpare hx hm1) rfl rfl (Nat.le_of_ble_eq_true rfl) ⟨Nat.le_of_ble_eq_true rfl, Nat.le_of_ble_eq_true rfl⟩ ⟨Nat.le_of_ble_eq_true rfl, Nat.le_of_ble_eq_true rfl⟩ ⟨rfl, rfl⟩ dX6_daysToArrival_6 ?_
  intro v6 I3 hv
  obtain ⟨rfl, hm3, g3⟩ := hv
  refine k_iconst C ic_0 dX6_daysToArrival_9 ?_
  refine k_istore_n C (f := 1) (i := 1) (lv := [(1, _), (0, _)]) rfl (Nat.le_of_ble_eq_true rfl) rfl dX6_daysToArrival_10 ?_
  have loop11 : ∀ (f : Nat) (k : Nat) (I4 : am_I), (k ≤ 200) → (sp_goN r k 2 = nI (dd + k)) → (MRow I4 (y + 3) 0 (sp_goN r k)) → (am_f1 (y + 3) I1 I4) → (200 - k) < f → am_K G X { frames := 6, cells := 0, slots := 0, locals := 132 } 2 Λ I4 J 0 0 11 [(0, .ref y), (1, .int (nI k))] [] := by
    intro f
    induction f with
    | zero => intro k I4 hk hdk hm4 g4 hf; exact absurd hf (Nat.not_lt_zero _)
    | succ f ih11 =>
      intro k I4 hk hdk hm4 g4 hf
      have hok1 := rowok_goN hok k
      obtain ⟨ld1, hld1, hlc1⟩ := RK_ld hok1
      have hn1 := hok1.2.2.2.2.1
      refine k_aload_n C (f := 0) (i := 0) (p := 0) rfl rfl dX6_daysToArrival_11 ?_
      refine k_getR C f_X6_16 (L6_s (by assumption)) (fun _ _ _ => rfl) (L6_2 (by assumption)) dX6_daysToArrival_12 ?_
      refine k_callSp C s_X6_265 h_X6_canTravel (ct_X6_canTravel (A6_2 hx) hm4 hok1.B hok1.D hok1) rfl rfl (Nat.le_of_ble_eq_true rfl) ⟨Nat.le_of_ble_eq_true rfl, Nat.le_of_ble_eq_true rfl⟩ ⟨Nat.le_of_ble_eq_true rfl, Nat.le_of_ble_eq_true rfl⟩ ⟨rfl, rfl⟩ dX6_daysToArrival_15 ?_
      refine k_ifb_eq C (tgt := 35) (by decide) dX6_daysToArrival_18 (fun hc18 => ?_) (fun hc18 => ?_)
      · skip
        have hfin : sp_goN r 200 = sp_goN r k := by
          have z := sp_goN_fix (r := r) (k := k) hc18 (200 - k)
          rw [show k + (200 - k) = 200 by omega] at z
          exact z
        obtain ⟨L, km, hL, hkm, -, hL9, hkL, -⟩ := hok1.2.2.2.2.2.1
        have e1 : sp_goN r k 1 = sp_goN r k 0 ↔ sp_goN r k 0 ≤ sp_goN r k 1 := by rw [hL, hkm, nI_leI (by omega) (by omega), nI_eq (by omega) (by omega)]; omega
        refine k_aload_n C (f := 0) (i := 0) (p := 0) rfl rfl dX6_daysToArrival_35 ?_
        refine k_getR C f_X6_16 (L6_s (by assumption)) (fun _ _ _ => rfl) (L6_2 (by assumption)) dX6_daysToArrival_36 ?_
        refine k_callSp C s_X6_137 h_X6_isAtEnd (ct_X6_isAtEnd (A6_2 hx) hm4 hok1.B) rfl rfl (Nat.le_of_ble_eq_true rfl) ⟨Nat.le_of_ble_eq_true rfl, Nat.le_of_ble_eq_true rfl⟩ ⟨Nat.le_of_ble_eq_true rfl, Nat.le_of_ble_eq_true rfl⟩ ⟨rfl, rfl⟩ dX6_daysToArrival_39 ?_
        refine k_ifb_eq C (tgt := 47) (by decide) dX6_daysToArrival_42 (fun hc42 => ?_) (fun hc42 => ?_)
        · skip
          refine k_aload_n C (f := 0) (i := 0) (p := 0) rfl rfl dX6_daysToArrival_47 ?_
          refine k_iconst C ic_1 dX6_daysToArrival_48 ?_
          refine k_callVg C s_X6_147 h_X6_fails (L6_s (by assumption)) rfl (ct_X6_fails hx) rfl rfl (Nat.le_of_ble_eq_true rfl) ⟨Nat.le_of_ble_eq_true rfl, Nat.le_of_ble_eq_true rfl⟩ ⟨Nat.le_of_ble_eq_true rfl, Nat.le_of_ble_eq_true rfl⟩ ⟨rfl, rfl⟩ dX6_daysToArrival_49 ?_
          intro v49 I2 hv
          obtain ⟨rfl, hI2⟩ := hv
          exact k_iret C (Nat.le_of_ble_eq_true rfl) (Nat.le_of_ble_eq_true rfl) (⟨rfl, rfl, ⟨⟨_, rfl⟩, by rw [hI2, am_up_eq, hfin, if_neg (fun z => hc42 (e1.mpr z))], by rw [hI2]; exact (F1.tr (f1_mfr g4 (by omega))).up ⟨Nat.le_refl _, by omega⟩, (fun z => by
              rw [hfin, if_neg (fun q => hc42 (e1.mpr q))] at z
              cases z), fun _ => by rw [hI2]; exact MM_up (MM_f1 hR1 g4 (by omega)) (by decide)⟩⟩) dX6_daysToArrival_52
        · skip
          refine k_iload_n C (f := 1) (i := 1) (p := 1) rfl rfl dX6_daysToArrival_45 ?_
          exact k_iret C (Nat.le_of_ble_eq_true rfl) (Nat.le_of_ble_eq_true rfl) (⟨rfl, rfl, MCx_ok ((congrFun (g4 y (by omega)) 10).trans h10) (F1.tr (f1_mfr g4 (by omega))) (by rw [hfin]; exact if_pos (e1.mp hc42)) (by
              rw [hfin, hdk, hdd, pk_sub (by omega), show dd + k - dd = k by omega]) (MM_f1 hR1 g4 (by omega))⟩) dX6_daysToArrival_46
      · skip
        refine k_aload_n C (f := 0) (i := 0) (p := 0) rfl rfl dX6_daysToArrival_21 ?_
        refine k_getR C f_X6_16 (L6_s (by assumption)) (fun _ _ _ => rfl) (L6_2 (by assumption)) dX6_daysToArrival_22 ?_
        refine k_callSg C s_X6_268 h_X6_travels (ct_X6_travels (A6_2 hx) hm4 hok1 hld1 hlc1) rfl rfl (Nat.le_of_ble_eq_true rfl) ⟨Nat.le_of_ble_eq_true rfl, Nat.le_of_ble_eq_true rfl⟩ ⟨Nat.le_of_ble_eq_true rfl, Nat.le_of_ble_eq_true rfl⟩ ⟨rfl, rfl⟩ dX6_daysToArrival_25 ?_
        intro v25 I5 hv
        obtain ⟨rfl, hm5, g5⟩ := hv
        have hm6 : MRow I5 (y + 3) 0 (sp_goN r (k + 1)) := by
          show MRow I5 (y + 3) 0 (sp_go1 (sp_goN r k))
          rw [sp_go1_t hc18, hld1, nI_clamp (by omega)]
          exact hm5
        have g6 := g4.tr g5
        refine k_pop C rfl dX6_daysToArrival_28 ?_
        refine k_iinc C (i := 1) (p := 1) (lv := [(1, _), (0, _)]) (Nat.le_of_ble_eq_true rfl) rfl (by first | exact am_inc1 _ | rfl) rfl dX6_daysToArrival_29 ?_
        refine k_goto C (tgt := 11) (by decide) dX6_daysToArrival_32 ?_
        refine k_sub [1, 0] rfl ?_
        have hk2 : dd + k < 200 := by
          have z := hc18.2.1
          rw [hdk] at z
          exact (nI_ltI (by omega) (by decide)).mp z
        exact ih11 (k + 1) I5 (by omega) (by
          show sp_go1 (sp_goN r k) 2 = _
          rw [sp_go1_t hc18, travel_2, hdk, nI_add]
          rfl) hm6 g6 (by omega)
  refine k_sub [1, 0] rfl ?_
  exact loop11 201 0 I3 (Nat.zero_le _) hdd hm3 g3 (by omega)
set_option maxHeartbeats 4000000 in
set_option maxRecDepth 100000 in
theorem ct_X6_wouldDrink {G : am_G} {Λ : am_L} {I : am_I} {J : am_J} {y n ct : Nat} {tb : Nat → Nat} {err : Int32} {r : Nat → Int32} {hs : Nat → Nat → Int32} {kp : Nat → Bool} {sn : Nat → Nat → Int32} {w : Nat × (Nat → Int32)} {c : Int32}  (hx : ModLay Λ y) (hR : ModRel I y tb n err r ct hs kp sn w) (hok : RowOk r) : am_Ct G yX6_wouldDrink cX6_wouldDrink 3 (some .int) { frames := 4, cells := 0, slots := 0, locals := 90 } [.ref y, .int c] Λ I J (am_gen Λ J (fun v I' => MCx I y (if cdI (sp_nc r) c = 0 then (if sp_wellOn r (r 1) = -1 then 2 else 0) else 1) (some (.int (if r (16 + 8 * c.toNatClampNeg) < nI 3 then sp_drinks r (sp_wellOn r (r 1)).toNatClampNeg c.toNatClampNeg else nI 0))) v I' (fun I1 => ModRel I1 y tb n err r ct hs kp sn w) (fun I1 => ModRel I1 y (tb) (n) (err) (r) (ct) (hs) (kp) (sn) (w)))) am_never := by
  refine am_ct_of (own := RX6) rfl (by decide) (Nat.le_of_ble_eq_true rfl) (fun X C => ?_)
  change am_K G X { frames := 4, cells := 0, slots := 0, locals := 90 } 3 Λ I J 0 0 0 [(0, .ref y), (1, .int c)] []
  obtain ⟨h6a, h6b, h6c⟩ := MM_h hR
  have hm := MM_r hR
  have hsl := A6_0 hx
  have hB := hok.B
  have hD := hok.D
  have hB9 := hB
  obtain ⟨⟨h6, h7, h8, h9⟩, hnc, hnw, hns, hnl⟩ := hB9
  refine k_aload_n C (f := 0) (i := 0) (p := 0) rfl rfl dX6_wouldDrink_0 ?_
  refine k_iconst C ic_0 dX6_wouldDrink_1 ?_
  refine k_putI C f_X6_60 (L6_s (by assumption)) rfl rfl dX6_wouldDrink_2 ?_
  obtain ⟨I1, hI1⟩ : ∃ z : am_I, z = am_up I y 10 (nI 0) := ⟨_, rfl⟩
  rw [← hI1]
  have hm1 : MRow I1 (y + 1) 0 r := MR_ne hm (by rw [hI1]; exact am_up_ne (by omega))
  have h10 : I1 y 10 = nI 0 := by rw [hI1, am_up_eq]
  have hR1 : ModRel I1 y tb n err r ct hs kp sn w := by rw [hI1]; exact MM_up hR (by decide)
  have F1 : MFr y I I1 := by rw [hI1]; exact MFr.rf.up ⟨Nat.le_refl _, by omega⟩
  refine k_aload_n C (f := 0) (i := 0) (p := 0) rfl rfl dX6_wouldDrink_5 ?_
  refine k_iload_n C (f := 1) (i := 1) (p := 1) rfl rfl dX6_wouldDrink_6 ?_
  refine k_callVp C s_X6_244 h_X6_isCamel (L6_s (by assumption)) rfl (ct_X6_isCamel hx hm1 hok) rfl rfl (Nat.le_of_ble_eq_true rfl) ⟨Nat.le_of_ble_eq_true rfl, Nat.le_of_ble_eq_true rfl⟩ ⟨Nat.le_of_ble_eq_true rfl, Nat.le_of_ble_eq_true rfl⟩ ⟨rfl, rfl⟩ dX6_wouldDrink_7 ?_
  first
  | refine k_ifb_ne C (tgt := 19) (by decide) dX6_wouldDrink_10 (fun hc10 => ?_) (fun hc10 => ?_)
  | refine k_if_ne C (tgt := 19) (by decide) dX6_wouldDrink_10 (fun hc10 => ?_) (fun hc10 => ?_)
  · skip
    have hcd : cdI (sp_nc r) c = 0 := hc10
    obtain ⟨j, hj, rfl⟩ := cdI_0 hcd (by omega)
    refine k_aload_n C (f := 0) (i := 0) (p := 0) rfl rfl dX6_wouldDrink_19 ?_
    refine k_getR C f_X6_7 (L6_s (by assumption)) (fun _ _ _ => rfl) (L6_0 (by assumption)) dX6_wouldDrink_20 ?_
    refine k_aload_n C (f := 0) (i := 0) (p := 0) rfl rfl dX6_wouldDrink_23 ?_
    refine k_getR C f_X6_7 (L6_s (by assumption)) (fun _ _ _ => rfl) (L6_0 (by assumption)) dX6_wouldDrink_24 ?_
    refine k_iconst C ic_1 dX6_wouldDrink_27 ?_
    refine k_iald C (A6_0 (by assumption)) (by first | rfl | assumption) (by omega) (by decide) (MR hm1 (by decide)) dX6_wouldDrink_28 ?_
    refine k_callSp C s_X6_204 h_X6_wellOn (ct_X6_wellOn hsl hm1 hB) rfl rfl (Nat.le_of_ble_eq_true rfl) ⟨Nat.le_of_ble_eq_true rfl, Nat.le_of_ble_eq_true rfl⟩ ⟨Nat.le_of_ble_eq_true rfl, Nat.le_of_ble_eq_true rfl⟩ ⟨rfl, rfl⟩ dX6_wouldDrink_29 ?_
    refine k_istore_n C (f := 2) (i := 2) (lv := [(2, _), (0, _), (1, _)]) rfl (Nat.le_of_ble_eq_true rfl) rfl dX6_wouldDrink_32 ?_
    refine k_iload_n C (f := 2) (i := 2) (p := 0) rfl rfl dX6_wouldDrink_33 ?_
    refine k_if_ge C (tgt := 43) (by decide) dX6_wouldDrink_34 (fun hc34 => ?_) (fun hc34 => ?_)
    · skip
      obtain ⟨u, hu, hwn⟩ := (wellOn_or r (r 1)).resolve_left (fun e => by rw [e] at hc34; exact absurd hc34 (by decide))
      rw [hu]
      refine k_aload_n C (f := 0) (i := 0) (p := 1) rfl rfl dX6_wouldDrink_43 ?_
      refine k_aload_n C (f := 0) (i := 0) (p := 1) rfl rfl dX6_wouldDrink_44 ?_
      refine k_getR C f_X6_7 (L6_s (by assumption)) (fun _ _ _ => rfl) (L6_0 (by assumption)) dX6_wouldDrink_45 ?_
      refine k_iload_n C (f := 2) (i := 2) (p := 0) rfl rfl dX6_wouldDrink_48 ?_
      refine k_callVg C s_X6_271 h_X6_reckonsDrinks (L6_s (by assumption)) rfl (ct_X6_reckonsDrinks hx hsl hm1 hok hwn (by omega)) rfl rfl (Nat.le_of_ble_eq_true rfl) ⟨Nat.le_of_ble_eq_true rfl, Nat.le_of_ble_eq_true rfl⟩ ⟨Nat.le_of_ble_eq_true rfl, Nat.le_of_ble_eq_true rfl⟩ ⟨rfl, rfl⟩ dX6_wouldDrink_49 ?_
      intro v49 I3 hv
      obtain ⟨rfl, hd3, g3⟩ := hv
      obtain ⟨e1, e2, e3, e4⟩ := hd3 j hj
      refine k_pop C rfl dX6_wouldDrink_52 ?_
      refine k_iconst C ic_0 dX6_wouldDrink_53 ?_
      refine k_aload_n C (f := 0) (i := 0) (p := 1) rfl rfl dX6_wouldDrink_54 ?_
      refine k_getR C f_X6_36 (L6_s (by assumption)) (fun _ _ _ => rfl) (L6_11 (by assumption)) dX6_wouldDrink_55 ?_
      refine k_iload_n C (f := 1) (i := 1) (p := 2) rfl rfl dX6_wouldDrink_58 ?_
      refine k_iald C (A6_11 (by assumption)) (by first | rfl | assumption) (by omega) (by decide) (e1) dX6_wouldDrink_59 ?_
      refine k_callSp C s_X6_80 h_X6_more (ct_X6_more ) rfl rfl (Nat.le_of_ble_eq_true rfl) ⟨Nat.le_of_ble_eq_true rfl, Nat.le_of_ble_eq_true rfl⟩ ⟨Nat.le_of_ble_eq_true rfl, Nat.le_of_ble_eq_true rfl⟩ ⟨rfl, rfl⟩ dX6_wouldDrink_60 ?_
      exact k_iret C (Nat.le_of_ble_eq_true rfl) (Nat.le_of_ble_eq_true rfl) (⟨rfl, rfl, MCx_ok ((congrFun (g3 y (by omega)) 10).trans h10) (F1.tr (f1_mfr g3 (by omega))) (by rw [if_pos hcd, if_neg (fun e => by rw [e] at hu; exact nI_m1 (by omega) hu.symm)]) (by
          rw [nI_clamp (by omega), hu, nI_clamp (by omega)]
          by_cases al : r (16 + 8 * j) < nI 3
          · rw [if_pos al]
            unfold sp_max
            exact congrArg (fun z => some (Value.int z)) (by
              by_cases z : nI 0 < sp_drinks r u j
              · rw [if_pos z]
              · rw [if_neg z]
                exact Int32.le_antisymm (Int32.not_lt.mp (e2 al)) (Int32.not_lt.mp z))
          · rw [if_neg al, e3 al]
            rfl) (MM_f1 hR1 g3 (by omega))⟩) dX6_wouldDrink_63
    · skip
      refine k_aload_n C (f := 0) (i := 0) (p := 1) rfl rfl dX6_wouldDrink_37 ?_
      refine k_iconst C ic_2 dX6_wouldDrink_38 ?_
      refine k_callVg C s_X6_147 h_X6_fails (L6_s (by assumption)) rfl (ct_X6_fails hx) rfl rfl (Nat.le_of_ble_eq_true rfl) ⟨Nat.le_of_ble_eq_true rfl, Nat.le_of_ble_eq_true rfl⟩ ⟨Nat.le_of_ble_eq_true rfl, Nat.le_of_ble_eq_true rfl⟩ ⟨rfl, rfl⟩ dX6_wouldDrink_39 ?_
      intro v39 I2 hv
      obtain ⟨rfl, hI2⟩ := hv
      exact k_iret C (Nat.le_of_ble_eq_true rfl) (Nat.le_of_ble_eq_true rfl) (⟨rfl, rfl, MCx_no hI1 hI2 (by rw [if_pos hcd, if_pos ((wellOn_or r (r 1)).resolve_right (fun ⟨u, e, hi⟩ => by rw [e] at hc34; exact hc34 (nI_pos' (by omega))))]) (by decide) (by rw [hI2]; exact MM_up hR1 (by decide))⟩) dX6_wouldDrink_42
  · skip
    refine k_aload_n C (f := 0) (i := 0) (p := 0) rfl rfl dX6_wouldDrink_13 ?_
    refine k_iconst C ic_1 dX6_wouldDrink_14 ?_
    refine k_callVg C s_X6_147 h_X6_fails (L6_s (by assumption)) rfl (ct_X6_fails hx) rfl rfl (Nat.le_of_ble_eq_true rfl) ⟨Nat.le_of_ble_eq_true rfl, Nat.le_of_ble_eq_true rfl⟩ ⟨Nat.le_of_ble_eq_true rfl, Nat.le_of_ble_eq_true rfl⟩ ⟨rfl, rfl⟩ dX6_wouldDrink_15 ?_
    intro v15 I2 hv
    obtain ⟨rfl, hI2⟩ := hv
    exact k_iret C (Nat.le_of_ble_eq_true rfl) (Nat.le_of_ble_eq_true rfl) (⟨rfl, rfl, MCx_no hI1 hI2 (if_neg hc10) (by decide) (by rw [hI2]; exact MM_up hR1 (by decide))⟩) dX6_wouldDrink_18
theorem md_more {d : Int32} (h : d = -1 ∨ ¬ d < 0) : sp_max (nI 0) d = if d = -1 then nI 0 else d := by
  unfold sp_max
  by_cases e : d = -1
  · rw [if_pos e, if_neg (by rw [e]; decide)]
  · rw [if_neg e]
    by_cases z : nI 0 < d
    · rw [if_pos z]
    · rw [if_neg z]
      exact Int32.le_antisymm (Int32.not_lt.mp (h.resolve_left e)) (Int32.not_lt.mp z)
theorem md_fill {r d : Nat → Int32} {k : Nat} (h : d k = -1 ∨ ¬ d k < 0) : upd (sp_fillTo r d k) (13 + 8 * k) (sp_fillTo r d k (13 + 8 * k) + sp_max (nI 0) (d k)) = sp_fillTo r d (k + 1) := by
  rw [md_more h]
  by_cases e : d k = -1
  · rw [if_pos e, sp_fillTo_t e, nI_0, Int32.add_zero, upd_id]
  · rw [if_neg e, sp_fillTo_f e]
theorem md_fill_lo {r d : Nat → Int32} {i : Nat} (hi : i < 13) : ∀ k : Nat, sp_fillTo r d k i = r i := by
  intro k
  induction k with
  | zero => rfl
  | succ k ih =>
    by_cases e : d k = -1
    · rw [sp_fillTo_t e, ih]
    · rw [sp_fillTo_f e, upd_ne (by omega), ih]
set_option maxHeartbeats 4000000 in
set_option maxRecDepth 100000 in
theorem ct_X6_drink {G : am_G} {Λ : am_L} {I : am_I} {J : am_J} {y n ct : Nat} {tb : Nat → Nat} {err : Int32} {r : Nat → Int32} {hs : Nat → Nat → Int32} {kp : Nat → Bool} {sn : Nat → Nat → Int32} {w : Nat × (Nat → Int32)}  (hx : ModLay Λ y) (hR : ModRel I y tb n err r ct hs kp sn w) (hok : RowOk r) : am_Ct G yX6_drink cX6_drink 4 (some .int) { frames := 4, cells := 0, slots := 0, locals := 90 } [.ref y] Λ I J (am_gen Λ J (fun v I' => MCx I y (if sp_wellOn r (r 1) = -1 then 1 else 0) (some (.int (sp_sumTo (sp_drinks r (sp_wellOn r (r 1)).toNatClampNeg) (sp_nc r)))) v I' (fun I1 => ModRel I1 y tb n err r ct hs kp sn w) (fun I1 => ModRel I1 y (tb) (n) (err) (sp_drink r (sp_drinks r (sp_wellOn r (r 1)).toNatClampNeg) (sp_wellOn r (r 1)).toNatClampNeg) ((min 8 (ct + 1))) ((sp_push r hs)) (kp) (sn) (w)))) am_never := by
  refine am_ct_of (own := RX6) rfl (by decide) (Nat.le_of_ble_eq_true rfl) (fun X C => ?_)
  change am_K G X { frames := 4, cells := 0, slots := 0, locals := 90 } 4 Λ I J 0 0 0 [(0, .ref y)] []
  obtain ⟨h6a, h6b, h6c⟩ := MM_h hR
  have hm := MM_r hR
  have hsl := A6_0 hx
  have hB := hok.B
  have hD := hok.D
  have hB9 := hB
  obtain ⟨⟨h6, h7, h8, h9⟩, hnc, hnw, hns, hnl⟩ := hB9
  refine k_aload_n C (f := 0) (i := 0) (p := 0) rfl rfl dX6_drink_0 ?_
  refine k_iconst C ic_0 dX6_drink_1 ?_
  refine k_putI C f_X6_60 (L6_s (by assumption)) rfl rfl dX6_drink_2 ?_
  obtain ⟨I1, hI1⟩ : ∃ z : am_I, z = am_up I y 10 (nI 0) := ⟨_, rfl⟩
  rw [← hI1]
  have hm1 : MRow I1 (y + 1) 0 r := MR_ne hm (by rw [hI1]; exact am_up_ne (by omega))
  have h10 : I1 y 10 = nI 0 := by rw [hI1, am_up_eq]
  have hR1 : ModRel I1 y tb n err r ct hs kp sn w := by rw [hI1]; exact MM_up hR (by decide)
  have F1 : MFr y I I1 := by rw [hI1]; exact MFr.rf.up ⟨Nat.le_refl _, by omega⟩
  refine k_aload_n C (f := 0) (i := 0) (p := 0) rfl rfl dX6_drink_5 ?_
  refine k_getR C f_X6_7 (L6_s (by assumption)) (fun _ _ _ => rfl) (L6_0 (by assumption)) dX6_drink_6 ?_
  refine k_aload_n C (f := 0) (i := 0) (p := 0) rfl rfl dX6_drink_9 ?_
  refine k_getR C f_X6_7 (L6_s (by assumption)) (fun _ _ _ => rfl) (L6_0 (by assumption)) dX6_drink_10 ?_
  refine k_iconst C ic_1 dX6_drink_13 ?_
  refine k_iald C (A6_0 (by assumption)) (by first | rfl | assumption) (by omega) (by decide) (MR hm1 (by decide)) dX6_drink_14 ?_
  refine k_callSp C s_X6_204 h_X6_wellOn (ct_X6_wellOn hsl hm1 hB) rfl rfl (Nat.le_of_ble_eq_true rfl) ⟨Nat.le_of_ble_eq_true rfl, Nat.le_of_ble_eq_true rfl⟩ ⟨Nat.le_of_ble_eq_true rfl, Nat.le_of_ble_eq_true rfl⟩ ⟨rfl, rfl⟩ dX6_drink_15 ?_
  refine k_istore_n C (f := 1) (i := 1) (lv := [(1, _), (0, _)]) rfl (Nat.le_of_ble_eq_true rfl) rfl dX6_drink_18 ?_
  refine k_iload_n C (f := 1) (i := 1) (p := 0) rfl rfl dX6_drink_19 ?_
  refine k_if_ge C (tgt := 29) (by decide) dX6_drink_20 (fun hc20 => ?_) (fun hc20 => ?_)
  · skip
    obtain ⟨u, hu, hwn⟩ := (wellOn_or r (r 1)).resolve_left (fun e => by rw [e] at hc20; exact absurd hc20 (by decide))
    rw [hu]
    refine k_aload_n C (f := 0) (i := 0) (p := 1) rfl rfl dX6_drink_29 ?_
    refine k_callVg C s_X6_274 h_X6_keepsForUndo (L6_s (by assumption)) rfl (ct_X6_keepsForUndo hx hR1) rfl rfl (Nat.le_of_ble_eq_true rfl) ⟨Nat.le_of_ble_eq_true rfl, Nat.le_of_ble_eq_true rfl⟩ ⟨Nat.le_of_ble_eq_true rfl, Nat.le_of_ble_eq_true rfl⟩ ⟨rfl, rfl⟩ dX6_drink_30 ?_
    intro v30 I3 hv
    obtain ⟨rfl, hR3, F3, k10⟩ := hv
    have hm3 := MM_r hR3
    have hm := hm3
    have hg : am_f1 (y + 1) I3 I3 := am_f1.rf
    have k11 := k10.trans h10
    refine k_aload_n C (f := 0) (i := 0) (p := 1) rfl rfl dX6_drink_33 ?_
    refine k_aload_n C (f := 0) (i := 0) (p := 1) rfl rfl dX6_drink_34 ?_
    refine k_getR C f_X6_7 (L6_s (by assumption)) (fun _ _ _ => rfl) (L6_0 (by assumption)) dX6_drink_35 ?_
    refine k_iload_n C (f := 1) (i := 1) (p := 0) rfl rfl dX6_drink_38 ?_
    refine k_callVg C s_X6_271 h_X6_reckonsDrinks (L6_s (by assumption)) rfl (ct_X6_reckonsDrinks hx hsl hm3 hok hwn (by omega)) rfl rfl (Nat.le_of_ble_eq_true rfl) ⟨Nat.le_of_ble_eq_true rfl, Nat.le_of_ble_eq_true rfl⟩ ⟨Nat.le_of_ble_eq_true rfl, Nat.le_of_ble_eq_true rfl⟩ ⟨rfl, rfl⟩ dX6_drink_39 ?_
    intro v39 I4 hv
    obtain ⟨rfl, hd4, g4⟩ := hv
    have hR4 := MM_f1 hR3 (show am_f1 (y + 8) I3 I4 from g4) (by omega)
    have hm := MM_r hR4
    have hg : am_f1 (y + 1) I4 I4 := am_f1.rf
    refine k_istore_n C (f := 2) (i := 2) (lv := [(2, _), (1, _), (0, _)]) rfl (Nat.le_of_ble_eq_true rfl) rfl dX6_drink_42 ?_
    refine k_iconst C ic_0 dX6_drink_43 ?_
    refine k_istore_n C (f := 3) (i := 3) (lv := [(3, _), (2, _), (1, _), (0, _)]) rfl (Nat.le_of_ble_eq_true rfl) rfl dX6_drink_44 ?_
    have loop45 : ∀ (f : Nat) (k : Nat) (I5 : am_I), (k ≤ sp_nc r) → (MRow I5 (y + 1) 0 (sp_fillTo r (sp_drinks r u) k)) → (am_f1 (y + 1) I4 I5) → (sp_nc r - k) < f → am_K G X { frames := 4, cells := 0, slots := 0, locals := 90 } 4 Λ I5 J 0 0 45 [(0, .ref y), (1, .int (nI u)), (2, .int (sp_sumTo (sp_drinks r u) (sp_nc r))), (3, .int (nI k))] [] := by
      intro f
      induction f with
      | zero => intro k I5 hk hm hg hf; exact absurd hf (Nat.not_lt_zero _)
      | succ f ih45 =>
        intro k I5 hk hm hg hf
        have h62 : sp_fillTo r (sp_drinks r u) k 6 = nI (sp_nc r) := (md_fill_lo (by omega) k).trans h6
        refine k_iload_n C (f := 3) (i := 3) (p := 3) rfl rfl dX6_drink_45 ?_
        refine k_aload_n C (f := 0) (i := 0) (p := 0) rfl rfl dX6_drink_46 ?_
        refine k_getR C f_X6_7 (L6_s (by assumption)) (fun _ _ _ => rfl) (L6_0 (by assumption)) dX6_drink_47 ?_
        refine k_bipush C bc_6 dX6_drink_50 ?_
        refine k_iald C (A6_0 (by assumption)) (by first | rfl | assumption) (by omega) (by decide) ((MR hm (by decide)).trans h62) dX6_drink_52 ?_
        first
        | refine k_icmpN_ge C (tgt := 85) (by omega) (by omega) (by decide) dX6_drink_53 (fun hc53 => ?_) (fun hc53 => ?_)
        | refine k_icmp_ge C (tgt := 85) (by decide) dX6_drink_53 (fun hc53 => ?_) (fun hc53 => ?_)
        · skip
          refine k_aload_n C (f := 0) (i := 0) (p := 0) rfl rfl dX6_drink_85 ?_
          refine k_getR C f_X6_7 (L6_s (by assumption)) (fun _ _ _ => rfl) (L6_0 (by assumption)) dX6_drink_86 ?_
          refine k_iload_n C (f := 1) (i := 1) (p := 1) rfl rfl dX6_drink_89 ?_
          refine k_iconst C ic_3 dX6_drink_90 ?_
          refine k_callSp C s_X6_74 h_X6_wellAt (ct_X6_wellAt ) rfl rfl (Nat.le_of_ble_eq_true rfl) ⟨Nat.le_of_ble_eq_true rfl, Nat.le_of_ble_eq_true rfl⟩ ⟨Nat.le_of_ble_eq_true rfl, Nat.le_of_ble_eq_true rfl⟩ ⟨rfl, rfl⟩ dX6_drink_91 ?_
          refine k_dup2 C rfl rfl dX6_drink_94 ?_
          refine k_iald C (A6_0 (by assumption)) (by first | rfl | assumption) (by omega) (by decide) (MRx (i := 93 + 4 * u) hm (by omega) (by omega)) dX6_drink_95 ?_
          refine k_iload_n C (f := 2) (i := 2) (p := 2) rfl rfl dX6_drink_96 ?_
          refine k_isub C dX6_drink_97 ?_
          refine k_rst C (i := 93 + 4 * u) (hsl) (by first | rfl | assumption) (by omega) (by omega) hm hg dX6_drink_98 (fun I9 hm hg => ?_)
          refine k_aload_n C (f := 0) (i := 0) (p := 0) rfl rfl dX6_drink_99 ?_
          refine k_getR C f_X6_7 (L6_s (by assumption)) (fun _ _ _ => rfl) (L6_0 (by assumption)) dX6_drink_100 ?_
          refine k_iconst C ic_5 dX6_drink_103 ?_
          refine k_dup2 C rfl rfl dX6_drink_104 ?_
          refine k_iald C (A6_0 (by assumption)) (by first | rfl | assumption) (by omega) (by decide) ((MR hm (by decide)).trans (upd_ne (by omega))) dX6_drink_105 ?_
          refine k_iload_n C (f := 2) (i := 2) (p := 2) rfl rfl dX6_drink_106 ?_
          refine k_iadd C dX6_drink_107 ?_
          refine k_rst C (i := 5) (hsl) (by first | rfl | assumption) (by omega) (by omega) hm hg dX6_drink_108 (fun I9 hm hg => ?_)
          refine k_iload_n C (f := 2) (i := 2) (p := 2) rfl rfl dX6_drink_109 ?_
          exact k_iret C (Nat.le_of_ble_eq_true rfl) (Nat.le_of_ble_eq_true rfl) (⟨rfl, rfl, by
              rw [hu, nI_clamp (by omega)]
              rw [show k = sp_nc r by omega] at hm
              exact MCx_ok ((congrFun (hg y (by omega)) 10).trans ((congrFun (g4 y (by omega)) 10).trans k11)) (((F1.tr F3).tr (f1_mfr g4 (by omega))).tr (f1_mfr hg (by omega))) (if_neg (nI_m1 (by omega))) rfl (MM_row hR4 hm hg)⟩) dX6_drink_110
        · skip
          refine k_aload_n C (f := 0) (i := 0) (p := 0) rfl rfl dX6_drink_56 ?_
          refine k_getR C f_X6_7 (L6_s (by assumption)) (fun _ _ _ => rfl) (L6_0 (by assumption)) dX6_drink_57 ?_
          refine k_iload_n C (f := 3) (i := 3) (p := 3) rfl rfl dX6_drink_60 ?_
          refine k_iconst C ic_3 dX6_drink_61 ?_
          refine k_callSp C s_X6_71 h_X6_camelAt (ct_X6_camelAt ) rfl rfl (Nat.le_of_ble_eq_true rfl) ⟨Nat.le_of_ble_eq_true rfl, Nat.le_of_ble_eq_true rfl⟩ ⟨Nat.le_of_ble_eq_true rfl, Nat.le_of_ble_eq_true rfl⟩ ⟨rfl, rfl⟩ dX6_drink_62 ?_
          refine k_dup2 C rfl rfl dX6_drink_65 ?_
          refine k_iald C (A6_0 (by assumption)) (by first | rfl | assumption) (by omega) (by decide) (MRx (i := 13 + 8 * k) hm (by omega) (by omega)) dX6_drink_66 ?_
          refine k_iconst C ic_0 dX6_drink_67 ?_
          refine k_aload_n C (f := 0) (i := 0) (p := 0) rfl rfl dX6_drink_68 ?_
          refine k_getR C f_X6_36 (L6_s (by assumption)) (fun _ _ _ => rfl) (L6_11 (by assumption)) dX6_drink_69 ?_
          refine k_iload_n C (f := 3) (i := 3) (p := 3) rfl rfl dX6_drink_72 ?_
          refine k_iald C (A6_11 (by assumption)) (by first | rfl | assumption) (by omega) (by decide) ((congrFun (hg (y + 8) (by omega)) k).trans (hd4 k (by omega)).1) dX6_drink_73 ?_
          refine k_callSp C s_X6_80 h_X6_more (ct_X6_more ) rfl rfl (Nat.le_of_ble_eq_true rfl) ⟨Nat.le_of_ble_eq_true rfl, Nat.le_of_ble_eq_true rfl⟩ ⟨Nat.le_of_ble_eq_true rfl, Nat.le_of_ble_eq_true rfl⟩ ⟨rfl, rfl⟩ dX6_drink_74 ?_
          refine k_iadd C dX6_drink_77 ?_
          refine k_rst C (i := 13 + 8 * k) (hsl) (by first | rfl | assumption) (by omega) (by omega) hm hg dX6_drink_78 (fun I9 hm hg => ?_)
          refine k_iinc C (i := 3) (p := 3) (lv := [(3, _), (0, _), (1, _), (2, _)]) (Nat.le_of_ble_eq_true rfl) rfl (by first | exact am_inc1 _ | rfl) rfl dX6_drink_79 ?_
          refine k_goto C (tgt := 45) (by decide) dX6_drink_82 ?_
          refine k_sub [1, 2, 3, 0] rfl ?_
          exact ih45 (k + 1) _ (by omega) (MR_eq hm (md_fill (hd4 k (by omega)).2.2.2)) hg (by omega)
    refine k_sub [3, 2, 1, 0] rfl ?_
    exact loop45 (sp_nc r + 1) 0 _ (Nat.zero_le _) hm hg (by omega)
  · skip
    refine k_aload_n C (f := 0) (i := 0) (p := 1) rfl rfl dX6_drink_23 ?_
    refine k_iconst C ic_1 dX6_drink_24 ?_
    refine k_callVg C s_X6_147 h_X6_fails (L6_s (by assumption)) rfl (ct_X6_fails hx) rfl rfl (Nat.le_of_ble_eq_true rfl) ⟨Nat.le_of_ble_eq_true rfl, Nat.le_of_ble_eq_true rfl⟩ ⟨Nat.le_of_ble_eq_true rfl, Nat.le_of_ble_eq_true rfl⟩ ⟨rfl, rfl⟩ dX6_drink_25 ?_
    intro v25 I2 hv
    obtain ⟨rfl, hI2⟩ := hv
    exact k_iret C (Nat.le_of_ble_eq_true rfl) (Nat.le_of_ble_eq_true rfl) (⟨rfl, rfl, MCx_no hI1 hI2 (if_pos ((wellOn_or r (r 1)).resolve_right (fun ⟨u, e, hi⟩ => by rw [e] at hc20; exact hc20 (nI_pos' (by omega))))) (by decide) (by rw [hI2]; exact MM_up hR1 (by decide))⟩) dX6_drink_28
set_option maxHeartbeats 4000000 in
set_option maxRecDepth 100000 in
theorem ct_X6_shorten {G : am_G} {Λ : am_L} {I : am_I} {J : am_J} {y n ct : Nat} {tb : Nat → Nat} {err : Int32} {r : Nat → Int32} {hs : Nat → Nat → Int32} {kp : Nat → Bool} {sn : Nat → Nat → Int32} {w : Nat × (Nat → Int32)} {a : Int32}  (hx : ModLay Λ y) (hR : ModRel I y tb n err r ct hs kp sn w) : am_Ct G yX6_shorten cX6_shorten 2 (some .int) { frames := 1, cells := 0, slots := 0, locals := 22 } [.ref y, .int a] Λ I J (am_gen Λ J (fun v I' => MCx I y (if a < 0 ∨ nI n < a then 1 else 0) (some (.int a)) v I' (fun I1 => ModRel I1 y tb n err r ct hs kp sn w) (fun I1 => ModRel I1 y (tb) (a.toNatClampNeg) (err) (r) (ct) (hs) (kp) (sn) (w)))) am_never := by
  refine am_ct_of (own := RX6) rfl (by decide) (Nat.le_of_ble_eq_true rfl) (fun X C => ?_)
  change am_K G X { frames := 1, cells := 0, slots := 0, locals := 22 } 2 Λ I J 0 0 0 [(0, .ref y), (1, .int a)] []
  obtain ⟨h6a, h6b, h6c⟩ := MM_h hR
  have hm := MM_r hR
  obtain ⟨t1, t2, t3⟩ := MM_x hR
  refine k_aload_n C (f := 0) (i := 0) (p := 0) rfl rfl dX6_shorten_0 ?_
  refine k_iconst C ic_0 dX6_shorten_1 ?_
  refine k_putI C f_X6_60 (L6_s (by assumption)) rfl rfl dX6_shorten_2 ?_
  obtain ⟨I1, hI1⟩ : ∃ z : am_I, z = am_up I y 10 (nI 0) := ⟨_, rfl⟩
  rw [← hI1]
  have hm1 : MRow I1 (y + 1) 0 r := MR_ne hm (by rw [hI1]; exact am_up_ne (by omega))
  have h10 : I1 y 10 = nI 0 := by rw [hI1, am_up_eq]
  have hR1 : ModRel I1 y tb n err r ct hs kp sn w := by rw [hI1]; exact MM_up hR (by decide)
  have F1 : MFr y I I1 := by rw [hI1]; exact MFr.rf.up ⟨Nat.le_refl _, by omega⟩
  refine k_iload_n C (f := 1) (i := 1) (p := 1) rfl rfl dX6_shorten_5 ?_
  refine k_iconst C ic_0 dX6_shorten_6 ?_
  refine k_aload_n C (f := 0) (i := 0) (p := 0) rfl rfl dX6_shorten_7 ?_
  refine k_getI C f_X6_144 (L6_s (by assumption)) (fun _ _ _ => rfl) (Eq.trans (by rw [hI1]; exact am_up_n2 (by omega)) t1) dX6_shorten_8 ?_
  refine k_callSp C s_X6_67 h_X6_in (ct_X6_in ) rfl rfl (Nat.le_of_ble_eq_true rfl) ⟨Nat.le_of_ble_eq_true rfl, Nat.le_of_ble_eq_true rfl⟩ ⟨Nat.le_of_ble_eq_true rfl, Nat.le_of_ble_eq_true rfl⟩ ⟨rfl, rfl⟩ dX6_shorten_11 ?_
  refine k_ifb_ne C (tgt := 23) (by decide) dX6_shorten_14 (fun hc14 => ?_) (fun hc14 => ?_)
  · skip
    have h0a : ¬ a < 0 := Int32.not_lt.mpr hc14.1
    obtain ⟨q, hq, rfl⟩ := nI_of h0a
    have hq5 : q ≤ n := (nI_leI hq (by omega)).mp hc14.2
    refine k_aload_n C (f := 0) (i := 0) (p := 0) rfl rfl dX6_shorten_23 ?_
    refine k_iload_n C (f := 1) (i := 1) (p := 1) rfl rfl dX6_shorten_24 ?_
    refine k_putI C f_X6_144 (L6_s (by assumption)) rfl rfl dX6_shorten_25 ?_
    obtain ⟨I3, hI3⟩ : ∃ z : am_I, z = am_up I1 y 8 (nI q) := ⟨_, rfl⟩
    rw [← hI3]
    refine k_aload_n C (f := 0) (i := 0) (p := 0) rfl rfl dX6_shorten_28 ?_
    refine k_getI C f_X6_144 (L6_s (by assumption)) (fun _ _ _ => rfl) (by rw [hI3, am_up_eq]) dX6_shorten_29 ?_
    exact k_iret C (Nat.le_of_ble_eq_true rfl) (Nat.le_of_ble_eq_true rfl) (⟨rfl, rfl, by
        rw [nI_clamp hq]
        refine MCx_ok (by rw [hI3, am_up_n2 (by omega)]; exact h10) (by rw [hI3]; exact F1.up ⟨Nat.le_refl _, by omega⟩) (if_neg (fun z => z.elim h0a (fun z2 => absurd hc14.2 (Int32.not_le.mpr z2)))) rfl ?_
        obtain ⟨b1, b2, b3, b4, b5, b6⟩ := hR1
        have g : ∀ k : Nat, k ≠ 8 → I3 y k = I1 y k := fun k hk => by rw [hI3, am_up_n2 (fun z => hk z.2)]
        have g2 : ∀ b : Nat, b ≠ y → I3 b = I1 b := fun b hb => by rw [hI3, am_up_ne hb]
        refine ⟨⟨by rw [hI3, am_up_eq], by omega, fun j hj => ?_⟩, ?_, ?_, ?_, ?_, ?_⟩
        · rw [g2 _ (by omega)]; exact b1.2.2 j (by omega)
        · rw [g 9 (by decide)]; exact b2
        · exact MR_ne b3 (g2 _ (by omega))
        · unfold MRow; rw [g 6 (by decide), g2 (y + 4) (by omega)]; exact b4
        · unfold MRow; rw [g2 (y + 6) (by omega), g2 (y + 5) (by omega)]; exact b5
        · unfold TxtAt; rw [g 19 (by decide), g2 (y + 9) (by omega)]; exact b6⟩) dX6_shorten_32
  · skip
    refine k_aload_n C (f := 0) (i := 0) (p := 0) rfl rfl dX6_shorten_17 ?_
    refine k_iconst C ic_1 dX6_shorten_18 ?_
    refine k_callVg C s_X6_147 h_X6_fails (L6_s (by assumption)) rfl (ct_X6_fails hx) rfl rfl (Nat.le_of_ble_eq_true rfl) ⟨Nat.le_of_ble_eq_true rfl, Nat.le_of_ble_eq_true rfl⟩ ⟨Nat.le_of_ble_eq_true rfl, Nat.le_of_ble_eq_true rfl⟩ ⟨rfl, rfl⟩ dX6_shorten_19 ?_
    intro v19 I2 hv
    obtain ⟨rfl, hI2⟩ := hv
    exact k_iret C (Nat.le_of_ble_eq_true rfl) (Nat.le_of_ble_eq_true rfl) (⟨rfl, rfl, MCx_no hI1 hI2 (if_pos (by
        by_cases q : a < 0
        · exact Or.inl q
        · exact Or.inr (Int32.not_le.mp (fun z => hc14 ⟨Int32.not_lt.mp q, z⟩)))) (by decide) (by rw [hI2]; exact MM_up hR1 (by decide))⟩) dX6_shorten_22
theorem md_wb (a b c d e : Int32) (k : Nat) : sp_byte (md_wd a b c d e k) (24 - 8 * (k % 4)) < 256 := sp_byte_b
set_option maxHeartbeats 4000000 in
set_option maxRecDepth 100000 in
theorem ct_X6_append {G : am_G} {Λ : am_L} {I : am_I} {J : am_J} {y n ct : Nat} {tb : Nat → Nat} {err : Int32} {r : Nat → Int32} {hs : Nat → Nat → Int32} {kp : Nat → Bool} {sn : Nat → Nat → Int32} {w : Nat × (Nat → Int32)} {a b c d e : Int32}  (hx : ModLay Λ y) (hR : ModRel I y tb n err r ct hs kp sn w) : am_Ct G yX6_append cX6_append 8 (some .int) { frames := 1, cells := 0, slots := 0, locals := 21 } [.ref y, .int a, .int b, .int c, .int d, .int e] Λ I J (am_gen Λ J (fun v I' => MCx I y (if 700 < n + 20 then 1 else 0) (some (.int (nI (n + 20)))) v I' (fun I1 => ModRel I1 y tb n err r ct hs kp sn w) (fun I1 => ModRel I1 y ((sp_tbs (sp_tbs (sp_tbs (sp_tbs (sp_tbs tb n a 4) (n + 4) b 4) (n + 8) c 4) (n + 12) d 4) (n + 16) e 4)) (n + 20) (err) (r) (ct) (hs) (kp) (sn) (w)))) am_never := by
  refine am_ct_of (own := RX6) rfl (by decide) (Nat.le_of_ble_eq_true rfl) (fun X C => ?_)
  change am_K G X { frames := 1, cells := 0, slots := 0, locals := 21 } 8 Λ I J 0 0 0 [(0, .ref y), (1, .int a), (2, .int b), (3, .int c), (4, .int d), (5, .int e)] []
  obtain ⟨h6a, h6b, h6c⟩ := MM_h hR
  have hm := MM_r hR
  obtain ⟨t1, t2, t3⟩ := MM_x hR
  refine k_aload_n C (f := 0) (i := 0) (p := 0) rfl rfl dX6_append_0 ?_
  refine k_iconst C ic_0 dX6_append_1 ?_
  refine k_putI C f_X6_60 (L6_s (by assumption)) rfl rfl dX6_append_2 ?_
  obtain ⟨I1, hI1⟩ : ∃ z : am_I, z = am_up I y 10 (nI 0) := ⟨_, rfl⟩
  rw [← hI1]
  have hm1 : MRow I1 (y + 1) 0 r := MR_ne hm (by rw [hI1]; exact am_up_ne (by omega))
  have h10 : I1 y 10 = nI 0 := by rw [hI1, am_up_eq]
  have hR1 : ModRel I1 y tb n err r ct hs kp sn w := by rw [hI1]; exact MM_up hR (by decide)
  have F1 : MFr y I I1 := by rw [hI1]; exact MFr.rf.up ⟨Nat.le_refl _, by omega⟩
  refine k_aload_n C (f := 0) (i := 0) (p := 0) rfl rfl dX6_append_5 ?_
  refine k_getI C f_X6_144 (L6_s (by assumption)) (fun _ _ _ => rfl) (Eq.trans (by rw [hI1]; exact am_up_n2 (by omega)) t1) dX6_append_6 ?_
  refine k_bipush C bc_20 dX6_append_9 ?_
  refine k_iadd C dX6_append_11 ?_
  rw [nI_add]
  refine k_sipush C sc_700 dX6_append_12 ?_
  refine k_icmpN_le C (tgt := 24) (by omega) (by omega) (by decide) dX6_append_15 (fun hc15 => ?_) (fun hc15 => ?_)
  · skip
    refine k_iconst C ic_0 dX6_append_24 ?_
    refine k_istore C (i := 6) (lv := [(6, _), (0, _), (1, _), (2, _), (3, _), (4, _), (5, _)]) (Nat.le_of_ble_eq_true rfl) rfl dX6_append_25 ?_
    have loop27 : ∀ (f : Nat) (k : Nat) (I2 : am_I), (k ≤ 20) → (I2 y 8 = nI (n + k)) → (∀ j : Nat, j < n → I2 (y + 7) j = I1 (y + 7) j) → (∀ i : Nat, i < k → I2 (y + 7) (n + i) = nI (sp_byte (md_wd a b c d e i) (24 - 8 * (i % 4)))) → (∀ j : Nat, j ≠ 8 → I2 y j = I1 y j) → (∀ z : Nat, z ≠ y → z ≠ y + 7 → I2 z = I1 z) → (20 - k) < f → am_K G X { frames := 1, cells := 0, slots := 0, locals := 21 } 8 Λ I2 J 0 0 27 [(0, .ref y), (1, .int a), (2, .int b), (3, .int c), (4, .int d), (5, .int e), (6, .int (nI k))] [] := by
      intro f
      induction f with
      | zero => intro k I2 hk hf2 hl2 hn2 hy2 ho2 hf; exact absurd hf (Nat.not_lt_zero _)
      | succ f ih27 =>
        intro k I2 hk hf2 hl2 hn2 hy2 ho2 hf
        refine k_iload C (i := 6) (p := 6) rfl dX6_append_27 ?_
        refine k_bipush C bc_20 dX6_append_29 ?_
        first
        | refine k_icmpN_ge C (tgt := 124) (by omega) (by omega) (by decide) dX6_append_31 (fun hc31 => ?_) (fun hc31 => ?_)
        | refine k_icmp_ge C (tgt := 124) (by decide) dX6_append_31 (fun hc31 => ?_) (fun hc31 => ?_)
        · skip
          refine k_aload_n C (f := 0) (i := 0) (p := 0) rfl rfl dX6_append_124 ?_
          refine k_getI C f_X6_144 (L6_s (by assumption)) (fun _ _ _ => rfl) (hf2) dX6_append_125 ?_
          exact k_iret C (Nat.le_of_ble_eq_true rfl) (Nat.le_of_ble_eq_true rfl) (⟨rfl, rfl, by
              rw [show k = 20 by omega] at hf2 hn2
              refine MCx_ok (by rw [hy2 10 (by decide)]; exact h10) (F1.tr (fun z hz => ho2 z (by omega) (by omega))) (if_neg (by omega)) (by rw [show k = 20 by omega]) ?_
              obtain ⟨b1, b2, b3, b4, b5, b6⟩ := hR1
              obtain ⟨q1, q2⟩ := md_app (tb := tb) (n := n) (a := a) (b := b) (c := c) (d := d) (e := e)
              refine ⟨⟨hf2, by omega, fun j hj => ?_⟩, ?_, ?_, ?_, ?_, ?_⟩
              · rcases Nat.lt_or_ge j n with g | g
                · rw [q1 j g, hl2 j g]; exact b1.2.2 j g
                · have z := q2 (j - n) (by omega)
                  have z2 := hn2 (j - n) (by omega)
                  rw [show n + (j - n) = j by omega] at z z2
                  rw [z, z2]
                  exact ⟨rfl, sp_byte_b⟩
              · rw [hy2 9 (by decide)]; exact b2
              · exact MR_ne b3 (ho2 _ (by omega) (by omega))
              · unfold MRow; rw [hy2 6 (by decide), ho2 (y + 4) (by omega) (by omega)]; exact b4
              · unfold MRow; rw [ho2 (y + 6) (by omega) (by omega), ho2 (y + 5) (by omega) (by omega)]; exact b5
              · unfold TxtAt; rw [hy2 19 (by decide), ho2 (y + 9) (by omega) (by omega)]; exact b6⟩) dX6_append_128
        · skip
          refine k_iload C (i := 6) (p := 6) rfl dX6_append_34 ?_
          refine k_iconst C ic_4 dX6_append_36 ?_
          first
          | refine k_icmpN_ge C (tgt := 44) (by omega) (by omega) (by decide) dX6_append_37 (fun hc37 => ?_) (fun hc37 => ?_)
          | refine k_icmp_ge C (tgt := 44) (by decide) dX6_append_37 (fun hc37 => ?_) (fun hc37 => ?_)
          · skip
            refine k_iload C (i := 6) (p := 6) rfl dX6_append_44 ?_
            refine k_bipush C bc_8 dX6_append_46 ?_
            first
            | refine k_icmpN_ge C (tgt := 55) (by omega) (by omega) (by decide) dX6_append_48 (fun hc48 => ?_) (fun hc48 => ?_)
            | refine k_icmp_ge C (tgt := 55) (by decide) dX6_append_48 (fun hc48 => ?_) (fun hc48 => ?_)
            · skip
              refine k_iload C (i := 6) (p := 6) rfl dX6_append_55 ?_
              refine k_bipush C bc_12 dX6_append_57 ?_
              first
              | refine k_icmpN_ge C (tgt := 66) (by omega) (by omega) (by decide) dX6_append_59 (fun hc59 => ?_) (fun hc59 => ?_)
              | refine k_icmp_ge C (tgt := 66) (by decide) dX6_append_59 (fun hc59 => ?_) (fun hc59 => ?_)
              · skip
                refine k_iload C (i := 6) (p := 6) rfl dX6_append_66 ?_
                refine k_bipush C bc_16 dX6_append_68 ?_
                first
                | refine k_icmpN_ge C (tgt := 78) (by omega) (by omega) (by decide) dX6_append_70 (fun hc70 => ?_) (fun hc70 => ?_)
                | refine k_icmp_ge C (tgt := 78) (by decide) dX6_append_70 (fun hc70 => ?_) (fun hc70 => ?_)
                · skip
                  refine k_iload C (i := 5) (p := 5) rfl dX6_append_78 ?_
                  refine k_istore C (i := 7) (lv := [(7, _), (0, _), (1, _), (2, _), (3, _), (4, _), (5, _), (6, _)]) (Nat.le_of_ble_eq_true rfl) rfl dX6_append_80 ?_
                  refine k_aload_n C (f := 0) (i := 0) (p := 1) rfl rfl dX6_append_82 ?_
                  refine k_getR C f_X6_29 (L6_s (by assumption)) (fun _ _ _ => rfl) (L6_7 (by assumption)) dX6_append_83 ?_
                  refine k_aload_n C (f := 0) (i := 0) (p := 1) rfl rfl dX6_append_86 ?_
                  refine k_getI C f_X6_144 (L6_s (by assumption)) (fun _ _ _ => rfl) (hf2) dX6_append_87 ?_
                  refine k_iload C (i := 7) (p := 0) rfl dX6_append_90 ?_
                  refine k_bipush C bc_24 dX6_append_92 ?_
                  refine k_bipush C bc_8 dX6_append_94 ?_
                  refine k_iload C (i := 6) (p := 7) rfl dX6_append_96 ?_
                  refine k_iconst C ic_4 dX6_append_98 ?_
                  refine k_irem C (by decide) dX6_append_99 ?_
                  refine k_imul C dX6_append_100 ?_
                  refine k_isub C dX6_append_101 ?_
                  rw [md_shift.resolve_right (by omega)]
                  refine k_ishr C dX6_append_102 ?_
                  
                  refine k_sipush C sc_255 dX6_append_103 ?_
                  refine k_iand C dX6_append_106 ?_
                  rw [md_byteW (w := md_wd a b c d e k) (k := 24 - 8 * (k % 4)) (by omega) (by first | exact md_w1 (by omega) | exact md_w2 (by omega) (by omega) | exact md_w3 (by omega) (by omega) | exact md_w4 (by omega) (by omega) | exact md_w5 (by omega))]
                  refine k_iast C (A6_7 (by assumption)) (by first | rfl | assumption) ((show n + k < 700 by omega)) (by decide) dX6_append_107 ?_
                  obtain ⟨I3, hI3⟩ : ∃ z : am_I, z = am_up I2 (y + 7) (n + k) (nI (sp_byte (md_wd a b c d e k) (24 - 8 * (k % 4)))) := ⟨_, rfl⟩
                  rw [← hI3]
                  refine k_aload_n C (f := 0) (i := 0) (p := 1) rfl rfl dX6_append_108 ?_
                  refine k_dup C rfl dX6_append_109 ?_
                  refine k_getI C f_X6_144 (L6_s (by assumption)) (fun _ _ _ => rfl) (Eq.trans (by rw [hI3, am_up_ne (by omega)]) hf2) dX6_append_110 ?_
                  refine k_iconst C ic_1 dX6_append_113 ?_
                  refine k_iadd C dX6_append_114 ?_
                  refine k_putI C f_X6_144 (L6_s (by assumption)) rfl rfl dX6_append_115 ?_
                  obtain ⟨I4, hI4⟩ : ∃ z : am_I, z = am_up I3 y 8 (nI (n + k) + nI 1) := ⟨_, rfl⟩
                  rw [← hI4]
                  refine k_iinc C (i := 6) (p := 7) (lv := [(6, _), (7, _), (0, _), (1, _), (2, _), (3, _), (4, _), (5, _)]) (Nat.le_of_ble_eq_true rfl) rfl (by first | exact am_inc1 _ | rfl) rfl dX6_append_118 ?_
                  refine k_goto C (tgt := 27) (by decide) dX6_append_121 ?_
                  refine k_sub [2, 3, 4, 5, 6, 7, 0] rfl ?_
                  exact ih27 (k + 1) I4 (by omega) (by rw [hI4, am_up_eq, nI_add]; rfl) (fun j hj => by rw [hI4, am_up_ne (by omega), hI3, am_up_n2 (by omega)]; exact hl2 j hj) (fun i hi => by
                    rw [hI4, am_up_ne (by omega), hI3]
                    by_cases q : i = k
                    · subst q
                      rw [am_up_eq]
                    · rw [am_up_n2 (by omega)]; exact hn2 i (by omega)) (fun j hj => by rw [hI4, am_up_n2 (fun z => hj z.2), hI3, am_up_ne (by omega)]; exact hy2 j hj) (fun z h1 h2 => by rw [hI4, am_up_ne h1, hI3, am_up_ne h2]; exact ho2 z h1 h2) (by omega)
                · skip
                  refine k_iload C (i := 4) (p := 4) rfl dX6_append_73 ?_
                  refine k_goto C (tgt := 80) (by decide) dX6_append_75 ?_
                  refine k_istore C (i := 7) (lv := [(7, _), (0, _), (1, _), (2, _), (3, _), (4, _), (5, _), (6, _)]) (Nat.le_of_ble_eq_true rfl) rfl dX6_append_80 ?_
                  refine k_aload_n C (f := 0) (i := 0) (p := 1) rfl rfl dX6_append_82 ?_
                  refine k_getR C f_X6_29 (L6_s (by assumption)) (fun _ _ _ => rfl) (L6_7 (by assumption)) dX6_append_83 ?_
                  refine k_aload_n C (f := 0) (i := 0) (p := 1) rfl rfl dX6_append_86 ?_
                  refine k_getI C f_X6_144 (L6_s (by assumption)) (fun _ _ _ => rfl) (hf2) dX6_append_87 ?_
                  refine k_iload C (i := 7) (p := 0) rfl dX6_append_90 ?_
                  refine k_bipush C bc_24 dX6_append_92 ?_
                  refine k_bipush C bc_8 dX6_append_94 ?_
                  refine k_iload C (i := 6) (p := 7) rfl dX6_append_96 ?_
                  refine k_iconst C ic_4 dX6_append_98 ?_
                  refine k_irem C (by decide) dX6_append_99 ?_
                  refine k_imul C dX6_append_100 ?_
                  refine k_isub C dX6_append_101 ?_
                  rw [md_shift.resolve_right (by omega)]
                  refine k_ishr C dX6_append_102 ?_
                  
                  refine k_sipush C sc_255 dX6_append_103 ?_
                  refine k_iand C dX6_append_106 ?_
                  rw [md_byteW (w := md_wd a b c d e k) (k := 24 - 8 * (k % 4)) (by omega) (by first | exact md_w1 (by omega) | exact md_w2 (by omega) (by omega) | exact md_w3 (by omega) (by omega) | exact md_w4 (by omega) (by omega) | exact md_w5 (by omega))]
                  refine k_iast C (A6_7 (by assumption)) (by first | rfl | assumption) ((show n + k < 700 by omega)) (by decide) dX6_append_107 ?_
                  obtain ⟨I3, hI3⟩ : ∃ z : am_I, z = am_up I2 (y + 7) (n + k) (nI (sp_byte (md_wd a b c d e k) (24 - 8 * (k % 4)))) := ⟨_, rfl⟩
                  rw [← hI3]
                  refine k_aload_n C (f := 0) (i := 0) (p := 1) rfl rfl dX6_append_108 ?_
                  refine k_dup C rfl dX6_append_109 ?_
                  refine k_getI C f_X6_144 (L6_s (by assumption)) (fun _ _ _ => rfl) (Eq.trans (by rw [hI3, am_up_ne (by omega)]) hf2) dX6_append_110 ?_
                  refine k_iconst C ic_1 dX6_append_113 ?_
                  refine k_iadd C dX6_append_114 ?_
                  refine k_putI C f_X6_144 (L6_s (by assumption)) rfl rfl dX6_append_115 ?_
                  obtain ⟨I4, hI4⟩ : ∃ z : am_I, z = am_up I3 y 8 (nI (n + k) + nI 1) := ⟨_, rfl⟩
                  rw [← hI4]
                  refine k_iinc C (i := 6) (p := 7) (lv := [(6, _), (7, _), (0, _), (1, _), (2, _), (3, _), (4, _), (5, _)]) (Nat.le_of_ble_eq_true rfl) rfl (by first | exact am_inc1 _ | rfl) rfl dX6_append_118 ?_
                  refine k_goto C (tgt := 27) (by decide) dX6_append_121 ?_
                  refine k_sub [2, 3, 4, 5, 6, 7, 0] rfl ?_
                  exact ih27 (k + 1) I4 (by omega) (by rw [hI4, am_up_eq, nI_add]; rfl) (fun j hj => by rw [hI4, am_up_ne (by omega), hI3, am_up_n2 (by omega)]; exact hl2 j hj) (fun i hi => by
                    rw [hI4, am_up_ne (by omega), hI3]
                    by_cases q : i = k
                    · subst q
                      rw [am_up_eq]
                    · rw [am_up_n2 (by omega)]; exact hn2 i (by omega)) (fun j hj => by rw [hI4, am_up_n2 (fun z => hj z.2), hI3, am_up_ne (by omega)]; exact hy2 j hj) (fun z h1 h2 => by rw [hI4, am_up_ne h1, hI3, am_up_ne h2]; exact ho2 z h1 h2) (by omega)
              · skip
                refine k_iload_n C (f := 3) (i := 3) (p := 3) rfl rfl dX6_append_62 ?_
                refine k_goto C (tgt := 80) (by decide) dX6_append_63 ?_
                refine k_istore C (i := 7) (lv := [(7, _), (0, _), (1, _), (2, _), (3, _), (4, _), (5, _), (6, _)]) (Nat.le_of_ble_eq_true rfl) rfl dX6_append_80 ?_
                refine k_aload_n C (f := 0) (i := 0) (p := 1) rfl rfl dX6_append_82 ?_
                refine k_getR C f_X6_29 (L6_s (by assumption)) (fun _ _ _ => rfl) (L6_7 (by assumption)) dX6_append_83 ?_
                refine k_aload_n C (f := 0) (i := 0) (p := 1) rfl rfl dX6_append_86 ?_
                refine k_getI C f_X6_144 (L6_s (by assumption)) (fun _ _ _ => rfl) (hf2) dX6_append_87 ?_
                refine k_iload C (i := 7) (p := 0) rfl dX6_append_90 ?_
                refine k_bipush C bc_24 dX6_append_92 ?_
                refine k_bipush C bc_8 dX6_append_94 ?_
                refine k_iload C (i := 6) (p := 7) rfl dX6_append_96 ?_
                refine k_iconst C ic_4 dX6_append_98 ?_
                refine k_irem C (by decide) dX6_append_99 ?_
                refine k_imul C dX6_append_100 ?_
                refine k_isub C dX6_append_101 ?_
                rw [md_shift.resolve_right (by omega)]
                refine k_ishr C dX6_append_102 ?_
                
                refine k_sipush C sc_255 dX6_append_103 ?_
                refine k_iand C dX6_append_106 ?_
                rw [md_byteW (w := md_wd a b c d e k) (k := 24 - 8 * (k % 4)) (by omega) (by first | exact md_w1 (by omega) | exact md_w2 (by omega) (by omega) | exact md_w3 (by omega) (by omega) | exact md_w4 (by omega) (by omega) | exact md_w5 (by omega))]
                refine k_iast C (A6_7 (by assumption)) (by first | rfl | assumption) ((show n + k < 700 by omega)) (by decide) dX6_append_107 ?_
                obtain ⟨I3, hI3⟩ : ∃ z : am_I, z = am_up I2 (y + 7) (n + k) (nI (sp_byte (md_wd a b c d e k) (24 - 8 * (k % 4)))) := ⟨_, rfl⟩
                rw [← hI3]
                refine k_aload_n C (f := 0) (i := 0) (p := 1) rfl rfl dX6_append_108 ?_
                refine k_dup C rfl dX6_append_109 ?_
                refine k_getI C f_X6_144 (L6_s (by assumption)) (fun _ _ _ => rfl) (Eq.trans (by rw [hI3, am_up_ne (by omega)]) hf2) dX6_append_110 ?_
                refine k_iconst C ic_1 dX6_append_113 ?_
                refine k_iadd C dX6_append_114 ?_
                refine k_putI C f_X6_144 (L6_s (by assumption)) rfl rfl dX6_append_115 ?_
                obtain ⟨I4, hI4⟩ : ∃ z : am_I, z = am_up I3 y 8 (nI (n + k) + nI 1) := ⟨_, rfl⟩
                rw [← hI4]
                refine k_iinc C (i := 6) (p := 7) (lv := [(6, _), (7, _), (0, _), (1, _), (2, _), (3, _), (4, _), (5, _)]) (Nat.le_of_ble_eq_true rfl) rfl (by first | exact am_inc1 _ | rfl) rfl dX6_append_118 ?_
                refine k_goto C (tgt := 27) (by decide) dX6_append_121 ?_
                refine k_sub [2, 3, 4, 5, 6, 7, 0] rfl ?_
                exact ih27 (k + 1) I4 (by omega) (by rw [hI4, am_up_eq, nI_add]; rfl) (fun j hj => by rw [hI4, am_up_ne (by omega), hI3, am_up_n2 (by omega)]; exact hl2 j hj) (fun i hi => by
                  rw [hI4, am_up_ne (by omega), hI3]
                  by_cases q : i = k
                  · subst q
                    rw [am_up_eq]
                  · rw [am_up_n2 (by omega)]; exact hn2 i (by omega)) (fun j hj => by rw [hI4, am_up_n2 (fun z => hj z.2), hI3, am_up_ne (by omega)]; exact hy2 j hj) (fun z h1 h2 => by rw [hI4, am_up_ne h1, hI3, am_up_ne h2]; exact ho2 z h1 h2) (by omega)
            · skip
              refine k_iload_n C (f := 2) (i := 2) (p := 2) rfl rfl dX6_append_51 ?_
              refine k_goto C (tgt := 80) (by decide) dX6_append_52 ?_
              refine k_istore C (i := 7) (lv := [(7, _), (0, _), (1, _), (2, _), (3, _), (4, _), (5, _), (6, _)]) (Nat.le_of_ble_eq_true rfl) rfl dX6_append_80 ?_
              refine k_aload_n C (f := 0) (i := 0) (p := 1) rfl rfl dX6_append_82 ?_
              refine k_getR C f_X6_29 (L6_s (by assumption)) (fun _ _ _ => rfl) (L6_7 (by assumption)) dX6_append_83 ?_
              refine k_aload_n C (f := 0) (i := 0) (p := 1) rfl rfl dX6_append_86 ?_
              refine k_getI C f_X6_144 (L6_s (by assumption)) (fun _ _ _ => rfl) (hf2) dX6_append_87 ?_
              refine k_iload C (i := 7) (p := 0) rfl dX6_append_90 ?_
              refine k_bipush C bc_24 dX6_append_92 ?_
              refine k_bipush C bc_8 dX6_append_94 ?_
              refine k_iload C (i := 6) (p := 7) rfl dX6_append_96 ?_
              refine k_iconst C ic_4 dX6_append_98 ?_
              refine k_irem C (by decide) dX6_append_99 ?_
              refine k_imul C dX6_append_100 ?_
              refine k_isub C dX6_append_101 ?_
              rw [md_shift.resolve_right (by omega)]
              refine k_ishr C dX6_append_102 ?_
              
              refine k_sipush C sc_255 dX6_append_103 ?_
              refine k_iand C dX6_append_106 ?_
              rw [md_byteW (w := md_wd a b c d e k) (k := 24 - 8 * (k % 4)) (by omega) (by first | exact md_w1 (by omega) | exact md_w2 (by omega) (by omega) | exact md_w3 (by omega) (by omega) | exact md_w4 (by omega) (by omega) | exact md_w5 (by omega))]
              refine k_iast C (A6_7 (by assumption)) (by first | rfl | assumption) ((show n + k < 700 by omega)) (by decide) dX6_append_107 ?_
              obtain ⟨I3, hI3⟩ : ∃ z : am_I, z = am_up I2 (y + 7) (n + k) (nI (sp_byte (md_wd a b c d e k) (24 - 8 * (k % 4)))) := ⟨_, rfl⟩
              rw [← hI3]
              refine k_aload_n C (f := 0) (i := 0) (p := 1) rfl rfl dX6_append_108 ?_
              refine k_dup C rfl dX6_append_109 ?_
              refine k_getI C f_X6_144 (L6_s (by assumption)) (fun _ _ _ => rfl) (Eq.trans (by rw [hI3, am_up_ne (by omega)]) hf2) dX6_append_110 ?_
              refine k_iconst C ic_1 dX6_append_113 ?_
              refine k_iadd C dX6_append_114 ?_
              refine k_putI C f_X6_144 (L6_s (by assumption)) rfl rfl dX6_append_115 ?_
              obtain ⟨I4, hI4⟩ : ∃ z : am_I, z = am_up I3 y 8 (nI (n + k) + nI 1) := ⟨_, rfl⟩
              rw [← hI4]
              refine k_iinc C (i := 6) (p := 7) (lv := [(6, _), (7, _), (0, _), (1, _), (2, _), (3, _), (4, _), (5, _)]) (Nat.le_of_ble_eq_true rfl) rfl (by first | exact am_inc1 _ | rfl) rfl dX6_append_118 ?_
              refine k_goto C (tgt := 27) (by decide) dX6_append_121 ?_
              refine k_sub [2, 3, 4, 5, 6, 7, 0] rfl ?_
              exact ih27 (k + 1) I4 (by omega) (by rw [hI4, am_up_eq, nI_add]; rfl) (fun j hj => by rw [hI4, am_up_ne (by omega), hI3, am_up_n2 (by omega)]; exact hl2 j hj) (fun i hi => by
                rw [hI4, am_up_ne (by omega), hI3]
                by_cases q : i = k
                · subst q
                  rw [am_up_eq]
                · rw [am_up_n2 (by omega)]; exact hn2 i (by omega)) (fun j hj => by rw [hI4, am_up_n2 (fun z => hj z.2), hI3, am_up_ne (by omega)]; exact hy2 j hj) (fun z h1 h2 => by rw [hI4, am_up_ne h1, hI3, am_up_ne h2]; exact ho2 z h1 h2) (by omega)
          · skip
            refine k_iload_n C (f := 1) (i := 1) (p := 1) rfl rfl dX6_append_40 ?_
            refine k_goto C (tgt := 80) (by decide) dX6_append_41 ?_
            refine k_istore C (i := 7) (lv := [(7, _), (0, _), (1, _), (2, _), (3, _), (4, _), (5, _), (6, _)]) (Nat.le_of_ble_eq_true rfl) rfl dX6_append_80 ?_
            refine k_aload_n C (f := 0) (i := 0) (p := 1) rfl rfl dX6_append_82 ?_
            refine k_getR C f_X6_29 (L6_s (by assumption)) (fun _ _ _ => rfl) (L6_7 (by assumption)) dX6_append_83 ?_
            refine k_aload_n C (f := 0) (i := 0) (p := 1) rfl rfl dX6_append_86 ?_
            refine k_getI C f_X6_144 (L6_s (by assumption)) (fun _ _ _ => rfl) (hf2) dX6_append_87 ?_
            refine k_iload C (i := 7) (p := 0) rfl dX6_append_90 ?_
            refine k_bipush C bc_24 dX6_append_92 ?_
            refine k_bipush C bc_8 dX6_append_94 ?_
            refine k_iload C (i := 6) (p := 7) rfl dX6_append_96 ?_
            refine k_iconst C ic_4 dX6_append_98 ?_
            refine k_irem C (by decide) dX6_append_99 ?_
            refine k_imul C dX6_append_100 ?_
            refine k_isub C dX6_append_101 ?_
            rw [md_shift.resolve_right (by omega)]
            refine k_ishr C dX6_append_102 ?_
            
            refine k_sipush C sc_255 dX6_append_103 ?_
            refine k_iand C dX6_append_106 ?_
            rw [md_byteW (w := md_wd a b c d e k) (k := 24 - 8 * (k % 4)) (by omega) (by first | exact md_w1 (by omega) | exact md_w2 (by omega) (by omega) | exact md_w3 (by omega) (by omega) | exact md_w4 (by omega) (by omega) | exact md_w5 (by omega))]
            refine k_iast C (A6_7 (by assumption)) (by first | rfl | assumption) ((show n + k < 700 by omega)) (by decide) dX6_append_107 ?_
            obtain ⟨I3, hI3⟩ : ∃ z : am_I, z = am_up I2 (y + 7) (n + k) (nI (sp_byte (md_wd a b c d e k) (24 - 8 * (k % 4)))) := ⟨_, rfl⟩
            rw [← hI3]
            refine k_aload_n C (f := 0) (i := 0) (p := 1) rfl rfl dX6_append_108 ?_
            refine k_dup C rfl dX6_append_109 ?_
            refine k_getI C f_X6_144 (L6_s (by assumption)) (fun _ _ _ => rfl) (Eq.trans (by rw [hI3, am_up_ne (by omega)]) hf2) dX6_append_110 ?_
            refine k_iconst C ic_1 dX6_append_113 ?_
            refine k_iadd C dX6_append_114 ?_
            refine k_putI C f_X6_144 (L6_s (by assumption)) rfl rfl dX6_append_115 ?_
            obtain ⟨I4, hI4⟩ : ∃ z : am_I, z = am_up I3 y 8 (nI (n + k) + nI 1) := ⟨_, rfl⟩
            rw [← hI4]
            refine k_iinc C (i := 6) (p := 7) (lv := [(6, _), (7, _), (0, _), (1, _), (2, _), (3, _), (4, _), (5, _)]) (Nat.le_of_ble_eq_true rfl) rfl (by first | exact am_inc1 _ | rfl) rfl dX6_append_118 ?_
            refine k_goto C (tgt := 27) (by decide) dX6_append_121 ?_
            refine k_sub [2, 3, 4, 5, 6, 7, 0] rfl ?_
            exact ih27 (k + 1) I4 (by omega) (by rw [hI4, am_up_eq, nI_add]; rfl) (fun j hj => by rw [hI4, am_up_ne (by omega), hI3, am_up_n2 (by omega)]; exact hl2 j hj) (fun i hi => by
              rw [hI4, am_up_ne (by omega), hI3]
              by_cases q : i = k
              · subst q
                rw [am_up_eq]
              · rw [am_up_n2 (by omega)]; exact hn2 i (by omega)) (fun j hj => by rw [hI4, am_up_n2 (fun z => hj z.2), hI3, am_up_ne (by omega)]; exact hy2 j hj) (fun z h1 h2 => by rw [hI4, am_up_ne h1, hI3, am_up_ne h2]; exact ho2 z h1 h2) (by omega)
    refine k_sub [1, 2, 3, 4, 5, 6, 0] rfl ?_
    exact loop27 21 0 I1 (Nat.zero_le _) (Eq.trans (by rw [hI1]; exact am_up_n2 (by omega)) t1) (fun _ _ => rfl) (fun i h => absurd h (Nat.not_lt_zero i)) (fun _ _ => rfl) (fun _ _ _ => rfl) (by omega)
  · skip
    refine k_aload_n C (f := 0) (i := 0) (p := 0) rfl rfl dX6_append_18 ?_
    refine k_iconst C ic_1 dX6_append_19 ?_
    refine k_callVg C s_X6_147 h_X6_fails (L6_s (by assumption)) rfl (ct_X6_fails hx) rfl rfl (Nat.le_of_ble_eq_true rfl) ⟨Nat.le_of_ble_eq_true rfl, Nat.le_of_ble_eq_true rfl⟩ ⟨Nat.le_of_ble_eq_true rfl, Nat.le_of_ble_eq_true rfl⟩ ⟨rfl, rfl⟩ dX6_append_20 ?_
    intro v20 I2 hv
    obtain ⟨rfl, hI2⟩ := hv
    exact k_iret C (Nat.le_of_ble_eq_true rfl) (Nat.le_of_ble_eq_true rfl) (⟨rfl, rfl, MCx_no hI1 hI2 (if_pos (by omega)) (by decide) (by rw [hI2]; exact MM_up hR1 (by decide))⟩) dX6_append_23
