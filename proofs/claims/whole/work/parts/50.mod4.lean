/-! ===== the model: what all would drink, the rows of before, changes ===== -/
def md_free (d : Nat → Int32) : Nat → Nat
  | 0 => 0
  | k + 1 => if d k = -1 then md_free d k + 1 else md_free d k
theorem md_free_le (d : Nat → Int32) : ∀ n : Nat, md_free d n ≤ n := by
  intro n
  induction n with
  | zero => exact Nat.le_refl _
  | succ n ih =>
    show (if d n = -1 then md_free d n + 1 else md_free d n) ≤ n + 1
    split <;> omega
theorem md_free_upd0 {d : Nat → Int32} {m : Nat} {x : Int32} : ∀ n : Nat, n ≤ m → md_free (upd d m x) n = md_free d n := by
  intro n
  induction n with
  | zero => intro _; rfl
  | succ n ih =>
    intro h
    simp only [md_free, ih (by omega), upd_ne (f := d) (i := m) (j := n) (x := x) (by omega)]
theorem md_free_upd {d : Nat → Int32} {m : Nat} {x : Int32} (h : d m = -1) (hx : ¬ x = -1) : ∀ n : Nat, m < n → md_free (upd d m x) n + 1 = md_free d n := by
  intro n
  induction n with
  | zero => intro h; omega
  | succ n ih =>
    intro hn
    by_cases e : n = m
    · subst e
      simp only [md_free, md_free_upd0 (d := d) (m := n) (x := x) n (Nat.le_refl _), upd_eq, h, hx, if_true, if_false]
    · have i := ih (by omega)
      simp only [md_free, upd_ne (f := d) (i := m) (j := n) (x := x) e]
      split <;> omega
theorem md_sum_upd0 {d : Nat → Int32} {m : Nat} {x : Int32} : ∀ n : Nat, n ≤ m → sp_sumTo (upd d m x) n = sp_sumTo d n := by
  intro n
  induction n with
  | zero => intro _; rfl
  | succ n ih =>
    intro h
    simp only [sp_sumTo, ih (by omega), upd_ne (f := d) (i := m) (j := n) (x := x) (by omega)]
theorem md_sum_upd {d : Nat → Int32} {m : Nat} {x : Int32} (h : d m = -1) (hx : ¬ x = -1) : ∀ n : Nat, m < n → sp_sumTo (upd d m x) n = sp_sumTo d n + x := by
  intro n
  induction n with
  | zero => intro h; omega
  | succ n ih =>
    intro hn
    by_cases e : n = m
    · subst e
      rw [sp_sumTo_f (by rw [upd_eq]; exact hx), sp_sumTo_t h, upd_eq, md_sum_upd0 n (Nat.le_refl _)]
    · have i := ih (by omega)
      by_cases q : d n = -1
      · rw [sp_sumTo_t (by rw [upd_ne e]; exact q), sp_sumTo_t q, i]
      · rw [sp_sumTo_f (by rw [upd_ne e]; exact q), sp_sumTo_f q, i, upd_ne e, Int32.add_assoc, Int32.add_comm x, ← Int32.add_assoc]
theorem md_sum_none {d : Nat → Int32} : ∀ n : Nat, (∀ m : Nat, m < n → d m = -1) → sp_sumTo d n = nI 0 := by
  intro n
  induction n with
  | zero => intro _; rfl
  | succ n ih => intro h; rw [sp_sumTo_t (h n (by omega))]; exact ih (fun m hm => h m (by omega))
theorem md_next_none {r d : Nat → Int32} : ∀ n : Nat, n < 2 ^ 31 → sp_nextTo r d n = -1 → ∀ m : Nat, m < n → r (16 + 8 * m) < nI 3 → ¬ d m < 0 := by
  intro n
  induction n with
  | zero => intro _ _ m hm; omega
  | succ n ih =>
    intro hb h m hm ha hd
    by_cases q : r (16 + 8 * n) < nI 3 ∧ d n < 0 ∧ (sp_nextTo r d n < 0 ∨ r (13 + 8 * n) < r (13 + 8 * (sp_nextTo r d n).toNatClampNeg))
    · rw [sp_nextTo_t q] at h
      exact nI_m1 (by omega) h
    · rw [sp_nextTo_f q] at h
      by_cases e : m = n
      · subst e
        exact q ⟨ha, hd, Or.inl (by rw [h]; decide)⟩
      · exact ih (by omega) h m (by omega) ha hd
def MCx (I : am_I) (y cd : Nat) (val v : Option Value) (I' : am_I) (old new : am_I → Prop) : Prop := (∃ b : Int32, v = some (.int b)) ∧ I' y 10 = nI cd ∧ MFr y I I' ∧ (cd = 0 → v = val ∧ new I') ∧ (¬ cd = 0 → old I')
theorem MCx_ok {I I' : am_I} {y cd : Nat} {val : Option Value} {b : Int32} {old new : am_I → Prop} (h10 : I' y 10 = nI 0) (hf : MFr y I I') (hc : cd = 0) (hv : some (.int b) = val) (hn : new I') : MCx I y cd val (some (.int b)) I' old new := by
  subst hc
  exact ⟨⟨b, rfl⟩, h10, hf, fun _ => ⟨hv, hn⟩, fun z => absurd rfl z⟩
theorem MCx_no {I I1 I2 : am_I} {y cd c : Nat} {val : Option Value} {b : Int32} {old new : am_I → Prop} (h1 : I1 = am_up I y 10 (nI 0)) (h2 : I2 = am_up I1 y 10 (nI c)) (hc : cd = c) (h0 : c ≠ 0) (ho : old I2) : MCx I y cd val (some (.int b)) I2 old new := by
  subst hc
  exact ⟨⟨b, rfl⟩, by rw [h2, am_up_eq], by rw [h2, h1]; exact (MFr.rf.up ⟨Nat.le_refl _, by omega⟩).up ⟨Nat.le_refl _, by omega⟩, fun z => absurd z h0, fun _ => ho⟩
theorem upd_upd {r : Nat → Int32} {i : Nat} {x z : Int32} : upd (upd r i x) i z = upd r i z := by
  funext j
  by_cases h : j = i <;> simp [upd, h]
theorem travel_2 {r : Nat → Int32} {ld : Nat} : sp_travel r ld 2 = r 2 + nI 1 := by
  unfold sp_travel sp_endDay
  rw [upd_eq, wells_2, lead_2, go_lo (by omega), upd_ne (by omega)]

set_option maxHeartbeats 4000000 in
set_option maxRecDepth 100000 in
theorem ct_X6_nextToDrink {G : am_G} {Λ : am_L} {I : am_I} {J : am_J} {y s : Nat} {r : Nat → Int32} (hx : ModLay Λ y) (hs : Λ.1 s = (2, 220)) (hm : MRow I s 0 r) (hB : RowB r) (hD : RowD r) : am_Ct G yX6_nextToDrink cX6_nextToDrink 4 (some .int) { frames := 2, cells := 0, slots := 0, locals := 42 } [.ref y, .ref s] Λ I J (am_pure (.int (sp_nextTo r (I (y + 8)) (sp_nc r))) Λ I J) am_never := by
  refine am_ct_of (own := RX6) rfl (by decide) (Nat.le_of_ble_eq_true rfl) (fun X C => ?_)
  change am_K G X { frames := 2, cells := 0, slots := 0, locals := 42 } 4 Λ I J 0 0 0 [(0, .ref y), (1, .ref s)] []
  have hB9 := hB
  obtain ⟨⟨h6, h7, h8, h9⟩, hnc, hnw, hns, hnl⟩ := hB9
  refine k_iconst C ic_m1 dX6_nextToDrink_0 ?_
  refine k_istore_n C (f := 2) (i := 2) (lv := [(2, _), (0, _), (1, _)]) rfl (Nat.le_of_ble_eq_true rfl) rfl dX6_nextToDrink_1 ?_
  refine k_iconst C ic_0 dX6_nextToDrink_2 ?_
  refine k_istore_n C (f := 3) (i := 3) (lv := [(3, _), (2, _), (0, _), (1, _)]) rfl (Nat.le_of_ble_eq_true rfl) rfl dX6_nextToDrink_3 ?_
  have loop4 : ∀ (f : Nat) (k : Nat) (acc : Int32), (k ≤ sp_nc r) → (acc = sp_nextTo r (I (y + 8)) k) → (sp_nc r - k) < f → am_K G X { frames := 2, cells := 0, slots := 0, locals := 42 } 4 Λ I J 0 0 4 [(0, .ref y), (1, .ref s), (2, .int acc), (3, .int (nI k))] [] := by
    intro f
    induction f with
    | zero => intro k acc hk ha hf; exact absurd hf (Nat.not_lt_zero _)
    | succ f ih4 =>
      intro k acc hk ha hf
      refine k_iload_n C (f := 3) (i := 3) (p := 3) rfl rfl dX6_nextToDrink_4 ?_
      refine k_aload_n C (f := 1) (i := 1) (p := 1) rfl rfl dX6_nextToDrink_5 ?_
      refine k_bipush C bc_6 dX6_nextToDrink_6 ?_
      refine k_iald C (by assumption) (by first | rfl | assumption) (by omega) (by decide) ((MR hm (by decide)).trans h6) dX6_nextToDrink_8 ?_
      first
      | refine k_icmpN_ge C (tgt := 61) (by omega) (by omega) (by decide) dX6_nextToDrink_9 (fun hc9 => ?_) (fun hc9 => ?_)
      | refine k_icmp_ge C (tgt := 61) (by decide) dX6_nextToDrink_9 (fun hc9 => ?_) (fun hc9 => ?_)
      · skip
        refine k_iload_n C (f := 2) (i := 2) (p := 2) rfl rfl dX6_nextToDrink_61 ?_
        exact k_iret C (Nat.le_of_ble_eq_true rfl) (Nat.le_of_ble_eq_true rfl) (⟨by rw [ha, show k = sp_nc r by omega], rfl, rfl, rfl⟩) dX6_nextToDrink_62
      · skip
        refine k_aload_n C (f := 1) (i := 1) (p := 1) rfl rfl dX6_nextToDrink_12 ?_
        refine k_iload_n C (f := 3) (i := 3) (p := 3) rfl rfl dX6_nextToDrink_13 ?_
        refine k_callSp C s_X6_83 h_X6_lives (ct_X6_lives hs hm hB hD (by omega)) rfl rfl (Nat.le_of_ble_eq_true rfl) ⟨Nat.le_of_ble_eq_true rfl, Nat.le_of_ble_eq_true rfl⟩ ⟨Nat.le_of_ble_eq_true rfl, Nat.le_of_ble_eq_true rfl⟩ ⟨rfl, rfl⟩ dX6_nextToDrink_14 ?_
        refine k_ifb_eq C (tgt := 55) (by decide) dX6_nextToDrink_17 (fun hc17 => ?_) (fun hc17 => ?_)
        · skip
          refine k_iinc C (i := 3) (p := 3) (lv := [(3, _), (0, _), (1, _), (2, _)]) (Nat.le_of_ble_eq_true rfl) rfl (by first | exact am_inc1 _ | rfl) rfl dX6_nextToDrink_55 ?_
          refine k_goto C (tgt := 4) (by decide) dX6_nextToDrink_58 ?_
          refine k_sub [1, 2, 3, 0] rfl ?_
          first
          | exact ih4 (k + 1) _ (by omega) (by rw [ha]; exact (sp_nextTo_f (fun h => hc17 h.1)).symm) (by omega)
          | exact ih4 (k + 1) _ (by omega) (by rw [ha]; exact (sp_nextTo_f (fun h => hc26 h.2.1)).symm) (by omega)
          | exact ih4 (k + 1) _ (by omega) (sp_nextTo_t ⟨hc17, hc26, Or.inl (by rw [← ha]; exact hc33)⟩).symm (by omega)
          | exact ih4 (k + 1) _ (by omega) (by rw [← hm9, ha]; exact (sp_nextTo_f (fun h => h.2.2.elim (fun z => absurd z (by rw [← ha]; exact hc33)) (fun z => absurd z (by rw [← ha, hm9, nI_clamp (by omega)]; exact Int32.not_lt.mpr hc50)))).symm) (by omega)
          | exact ih4 (k + 1) _ (by omega) (sp_nextTo_t ⟨hc17, hc26, Or.inr (by rw [← ha, hm9, nI_clamp (by omega)]; exact Int32.not_le.mp hc50)⟩).symm (by omega)
        · skip
          refine k_aload_n C (f := 0) (i := 0) (p := 0) rfl rfl dX6_nextToDrink_20 ?_
          refine k_getR C f_X6_36 (L6_s (by assumption)) (fun _ _ _ => rfl) (L6_11 (by assumption)) dX6_nextToDrink_21 ?_
          refine k_iload_n C (f := 3) (i := 3) (p := 3) rfl rfl dX6_nextToDrink_24 ?_
          refine k_iald C (A6_11 (by assumption)) (by first | rfl | assumption) (by omega) (by decide) (rfl) dX6_nextToDrink_25 ?_
          refine k_if_lt C (tgt := 32) (by decide) dX6_nextToDrink_26 (fun hc26 => ?_) (fun hc26 => ?_)
          · skip
            refine k_iload_n C (f := 2) (i := 2) (p := 2) rfl rfl dX6_nextToDrink_32 ?_
            refine k_if_lt C (tgt := 53) (by decide) dX6_nextToDrink_33 (fun hc33 => ?_) (fun hc33 => ?_)
            · skip
              refine k_iload_n C (f := 3) (i := 3) (p := 3) rfl rfl dX6_nextToDrink_53 ?_
              refine k_istore_n C (f := 2) (i := 2) (lv := [(2, _), (0, _), (1, _), (3, _)]) rfl (Nat.le_of_ble_eq_true rfl) rfl dX6_nextToDrink_54 ?_
              refine k_iinc C (i := 3) (p := 3) (lv := [(3, _), (2, _), (0, _), (1, _)]) (Nat.le_of_ble_eq_true rfl) rfl (by first | exact am_inc1 _ | rfl) rfl dX6_nextToDrink_55 ?_
              refine k_goto C (tgt := 4) (by decide) dX6_nextToDrink_58 ?_
              refine k_sub [2, 3, 1, 0] rfl ?_
              first
              | exact ih4 (k + 1) _ (by omega) (by rw [ha]; exact (sp_nextTo_f (fun h => hc17 h.1)).symm) (by omega)
              | exact ih4 (k + 1) _ (by omega) (by rw [ha]; exact (sp_nextTo_f (fun h => hc26 h.2.1)).symm) (by omega)
              | exact ih4 (k + 1) _ (by omega) (sp_nextTo_t ⟨hc17, hc26, Or.inl (by rw [← ha]; exact hc33)⟩).symm (by omega)
              | exact ih4 (k + 1) _ (by omega) (by rw [← hm9, ha]; exact (sp_nextTo_f (fun h => h.2.2.elim (fun z => absurd z (by rw [← ha]; exact hc33)) (fun z => absurd z (by rw [← ha, hm9, nI_clamp (by omega)]; exact Int32.not_lt.mpr hc50)))).symm) (by omega)
              | exact ih4 (k + 1) _ (by omega) (sp_nextTo_t ⟨hc17, hc26, Or.inr (by rw [← ha, hm9, nI_clamp (by omega)]; exact Int32.not_le.mp hc50)⟩).symm (by omega)
            · skip
              obtain ⟨m, hm9, hmk⟩ : ∃ m : Nat, acc = nI m ∧ m < k := by
                obtain ⟨m, hm9, hmk, -⟩ := (sp_nextTo_or r (I (y + 8)) k).resolve_left (fun e => hc33 (by rw [ha, e]; decide))
                exact ⟨m, ha.trans hm9, hmk⟩
              rw [hm9]
              refine k_aload_n C (f := 1) (i := 1) (p := 1) rfl rfl dX6_nextToDrink_36 ?_
              refine k_iload_n C (f := 3) (i := 3) (p := 3) rfl rfl dX6_nextToDrink_37 ?_
              refine k_iconst C ic_3 dX6_nextToDrink_38 ?_
              refine k_callSp C s_X6_71 h_X6_camelAt (ct_X6_camelAt ) rfl rfl (Nat.le_of_ble_eq_true rfl) ⟨Nat.le_of_ble_eq_true rfl, Nat.le_of_ble_eq_true rfl⟩ ⟨Nat.le_of_ble_eq_true rfl, Nat.le_of_ble_eq_true rfl⟩ ⟨rfl, rfl⟩ dX6_nextToDrink_39 ?_
              refine k_iald C (by assumption) (by first | rfl | assumption) (by omega) (by decide) (MRx (i := 13 + 8 * k) hm (by omega) (by omega)) dX6_nextToDrink_42 ?_
              refine k_aload_n C (f := 1) (i := 1) (p := 1) rfl rfl dX6_nextToDrink_43 ?_
              refine k_iload_n C (f := 2) (i := 2) (p := 2) rfl rfl dX6_nextToDrink_44 ?_
              refine k_iconst C ic_3 dX6_nextToDrink_45 ?_
              refine k_callSp C s_X6_71 h_X6_camelAt (ct_X6_camelAt ) rfl rfl (Nat.le_of_ble_eq_true rfl) ⟨Nat.le_of_ble_eq_true rfl, Nat.le_of_ble_eq_true rfl⟩ ⟨Nat.le_of_ble_eq_true rfl, Nat.le_of_ble_eq_true rfl⟩ ⟨rfl, rfl⟩ dX6_nextToDrink_46 ?_
              refine k_iald C (by assumption) (by first | rfl | assumption) (by omega) (by decide) (MRx (i := 13 + 8 * m) hm (by omega) (by omega)) dX6_nextToDrink_49 ?_
              refine k_icmp_ge C (tgt := 55) (by decide) dX6_nextToDrink_50 (fun hc50 => ?_) (fun hc50 => ?_)
              · skip
                refine k_iinc C (i := 3) (p := 3) (lv := [(3, _), (0, _), (1, _), (2, _)]) (Nat.le_of_ble_eq_true rfl) rfl (by first | exact am_inc1 _ | rfl) rfl dX6_nextToDrink_55 ?_
                refine k_goto C (tgt := 4) (by decide) dX6_nextToDrink_58 ?_
                refine k_sub [1, 2, 3, 0] rfl ?_
                first
                | exact ih4 (k + 1) _ (by omega) (by rw [ha]; exact (sp_nextTo_f (fun h => hc17 h.1)).symm) (by omega)
                | exact ih4 (k + 1) _ (by omega) (by rw [ha]; exact (sp_nextTo_f (fun h => hc26 h.2.1)).symm) (by omega)
                | exact ih4 (k + 1) _ (by omega) (sp_nextTo_t ⟨hc17, hc26, Or.inl (by rw [← ha]; exact hc33)⟩).symm (by omega)
                | exact ih4 (k + 1) _ (by omega) (by rw [← hm9, ha]; exact (sp_nextTo_f (fun h => h.2.2.elim (fun z => absurd z (by rw [← ha]; exact hc33)) (fun z => absurd z (by rw [← ha, hm9, nI_clamp (by omega)]; exact Int32.not_lt.mpr hc50)))).symm) (by omega)
                | exact ih4 (k + 1) _ (by omega) (sp_nextTo_t ⟨hc17, hc26, Or.inr (by rw [← ha, hm9, nI_clamp (by omega)]; exact Int32.not_le.mp hc50)⟩).symm (by omega)
              · skip
                refine k_iload_n C (f := 3) (i := 3) (p := 3) rfl rfl dX6_nextToDrink_53 ?_
                refine k_istore_n C (f := 2) (i := 2) (lv := [(2, _), (0, _), (1, _), (3, _)]) rfl (Nat.le_of_ble_eq_true rfl) rfl dX6_nextToDrink_54 ?_
                refine k_iinc C (i := 3) (p := 3) (lv := [(3, _), (2, _), (0, _), (1, _)]) (Nat.le_of_ble_eq_true rfl) rfl (by first | exact am_inc1 _ | rfl) rfl dX6_nextToDrink_55 ?_
                refine k_goto C (tgt := 4) (by decide) dX6_nextToDrink_58 ?_
                refine k_sub [2, 3, 1, 0] rfl ?_
                first
                | exact ih4 (k + 1) _ (by omega) (by rw [ha]; exact (sp_nextTo_f (fun h => hc17 h.1)).symm) (by omega)
                | exact ih4 (k + 1) _ (by omega) (by rw [ha]; exact (sp_nextTo_f (fun h => hc26 h.2.1)).symm) (by omega)
                | exact ih4 (k + 1) _ (by omega) (sp_nextTo_t ⟨hc17, hc26, Or.inl (by rw [← ha]; exact hc33)⟩).symm (by omega)
                | exact ih4 (k + 1) _ (by omega) (by rw [← hm9, ha]; exact (sp_nextTo_f (fun h => h.2.2.elim (fun z => absurd z (by rw [← ha]; exact hc33)) (fun z => absurd z (by rw [← ha, hm9, nI_clamp (by omega)]; exact Int32.not_lt.mpr hc50)))).symm) (by omega)
                | exact ih4 (k + 1) _ (by omega) (sp_nextTo_t ⟨hc17, hc26, Or.inr (by rw [← ha, hm9, nI_clamp (by omega)]; exact Int32.not_le.mp hc50)⟩).symm (by omega)
          · skip
            refine k_goto C (tgt := 55) (by decide) dX6_nextToDrink_29 ?_
            refine k_iinc C (i := 3) (p := 3) (lv := [(3, _), (0, _), (1, _), (2, _)]) (Nat.le_of_ble_eq_true rfl) rfl (by first | exact am_inc1 _ | rfl) rfl dX6_nextToDrink_55 ?_
            refine k_goto C (tgt := 4) (by decide) dX6_nextToDrink_58 ?_
            refine k_sub [1, 2, 3, 0] rfl ?_
            first
            | exact ih4 (k + 1) _ (by omega) (by rw [ha]; exact (sp_nextTo_f (fun h => hc17 h.1)).symm) (by omega)
            | exact ih4 (k + 1) _ (by omega) (by rw [ha]; exact (sp_nextTo_f (fun h => hc26 h.2.1)).symm) (by omega)
            | exact ih4 (k + 1) _ (by omega) (sp_nextTo_t ⟨hc17, hc26, Or.inl (by rw [← ha]; exact hc33)⟩).symm (by omega)
            | exact ih4 (k + 1) _ (by omega) (by rw [← hm9, ha]; exact (sp_nextTo_f (fun h => h.2.2.elim (fun z => absurd z (by rw [← ha]; exact hc33)) (fun z => absurd z (by rw [← ha, hm9, nI_clamp (by omega)]; exact Int32.not_lt.mpr hc50)))).symm) (by omega)
            | exact ih4 (k + 1) _ (by omega) (sp_nextTo_t ⟨hc17, hc26, Or.inr (by rw [← ha, hm9, nI_clamp (by omega)]; exact Int32.not_le.mp hc50)⟩).symm (by omega)
  refine k_sub [2, 3, 1, 0] rfl ?_
  exact loop4 (sp_nc r + 1) 0 (-1) (Nat.zero_le _) rfl (by omega)
set_option maxHeartbeats 4000000 in
set_option maxRecDepth 100000 in
theorem ct_X6_reckonsDrinks {G : am_G} {Λ : am_L} {I : am_I} {J : am_J} {y s w : Nat} {r : Nat → Int32} (hx : ModLay Λ y) (hs : Λ.1 s = (2, 220)) (hm : MRow I s 0 r) (hok : RowOk r) (hwn : w < sp_nw r) (hsy : s ≠ y + 8) : am_Ct G yX6_reckonsDrinks cX6_reckonsDrinks 6 (some .int) { frames := 3, cells := 0, slots := 0, locals := 65 } [.ref y, .ref s, .int (nI w)] Λ I J (am_gen Λ J (fun v I' => v = some (.int (sp_sumTo (sp_drinks r w) (sp_nc r))) ∧ (∀ m : Nat, m < sp_nc r → I' (y + 8) m = sp_drinks r w m ∧ (r (16 + 8 * m) < nI 3 → ¬ sp_drinks r w m < 0) ∧ (¬ r (16 + 8 * m) < nI 3 → sp_drinks r w m = -1) ∧ (sp_drinks r w m = -1 ∨ ¬ sp_drinks r w m < 0)) ∧ ∀ b : Nat, b ≠ y + 8 → I' b = I b)) am_never := by
  refine am_ct_of (own := RX6) rfl (by decide) (Nat.le_of_ble_eq_true rfl) (fun X C => ?_)
  change am_K G X { frames := 3, cells := 0, slots := 0, locals := 65 } 6 Λ I J 0 0 0 [(0, .ref y), (1, .ref s), (2, .int (nI w))] []
  have hB := hok.B
  have hD := hok.D
  have hB9 := hB
  obtain ⟨⟨h6, h7, h8, h9⟩, hnc, hnw, hns, hnl⟩ := hB9
  obtain ⟨H, hH, hH9⟩ := RK_lv hok hwn
  have htk := RK_tk hok
  refine k_aload_n C (f := 1) (i := 1) (p := 1) rfl rfl dX6_reckonsDrinks_0 ?_
  refine k_iload_n C (f := 2) (i := 2) (p := 2) rfl rfl dX6_reckonsDrinks_1 ?_
  refine k_iconst C ic_3 dX6_reckonsDrinks_2 ?_
  refine k_callSp C s_X6_74 h_X6_wellAt (ct_X6_wellAt ) rfl rfl (Nat.le_of_ble_eq_true rfl) ⟨Nat.le_of_ble_eq_true rfl, Nat.le_of_ble_eq_true rfl⟩ ⟨Nat.le_of_ble_eq_true rfl, Nat.le_of_ble_eq_true rfl⟩ ⟨rfl, rfl⟩ dX6_reckonsDrinks_3 ?_
  refine k_iald C (by assumption) (by first | rfl | assumption) (by omega) (by decide) (MRx (i := 93 + 4 * w) hm (by omega) (by omega)) dX6_reckonsDrinks_6 ?_
  refine k_istore_n C (f := 3) (i := 3) (lv := [(3, _), (0, _), (1, _), (2, _)]) rfl (Nat.le_of_ble_eq_true rfl) rfl dX6_reckonsDrinks_7 ?_
  refine k_iload_n C (f := 3) (i := 3) (p := 0) rfl rfl dX6_reckonsDrinks_8 ?_
  refine k_istore C (i := 4) (lv := [(4, _), (3, _), (0, _), (1, _), (2, _)]) (Nat.le_of_ble_eq_true rfl) rfl dX6_reckonsDrinks_9 ?_
  refine k_iconst C ic_0 dX6_reckonsDrinks_11 ?_
  refine k_istore C (i := 5) (lv := [(5, _), (4, _), (3, _), (0, _), (1, _), (2, _)]) (Nat.le_of_ble_eq_true rfl) rfl dX6_reckonsDrinks_12 ?_
  have loop14 : ∀ (f : Nat) (k : Nat) (I1 : am_I), (k ≤ 10) → (∀ m : Nat, m < k → I1 (y + 8) m = -1) → (∀ b : Nat, b ≠ y + 8 → I1 b = I b) → (10 - k) < f → am_K G X { frames := 3, cells := 0, slots := 0, locals := 65 } 6 Λ I1 J 0 0 14 [(0, .ref y), (1, .ref s), (2, .int (nI w)), (3, .int (r (93 + 4 * w))), (4, .int (r (93 + 4 * w))), (5, .int (nI k))] [] := by
    intro f
    induction f with
    | zero => intro k I1 hk hs1 ho1 hf; exact absurd hf (Nat.not_lt_zero _)
    | succ f ih14 =>
      intro k I1 hk hs1 ho1 hf
      refine k_iload C (i := 5) (p := 5) rfl dX6_reckonsDrinks_14 ?_
      refine k_bipush C bc_10 dX6_reckonsDrinks_16 ?_
      first
      | refine k_icmpN_ge C (tgt := 35) (by omega) (by omega) (by decide) dX6_reckonsDrinks_18 (fun hc18 => ?_) (fun hc18 => ?_)
      | refine k_icmp_ge C (tgt := 35) (by decide) dX6_reckonsDrinks_18 (fun hc18 => ?_) (fun hc18 => ?_)
      · skip
        refine k_aload_n C (f := 0) (i := 0) (p := 0) rfl rfl dX6_reckonsDrinks_35 ?_
        refine k_aload_n C (f := 1) (i := 1) (p := 1) rfl rfl dX6_reckonsDrinks_36 ?_
        refine k_callVp C s_X6_141 h_X6_nextToDrink (L6_s (by assumption)) rfl (ct_X6_nextToDrink hx hs (show MRow I1 s 0 r from MR_ne hm (ho1 s hsy)) hB hD) rfl rfl (Nat.le_of_ble_eq_true rfl) ⟨Nat.le_of_ble_eq_true rfl, Nat.le_of_ble_eq_true rfl⟩ ⟨Nat.le_of_ble_eq_true rfl, Nat.le_of_ble_eq_true rfl⟩ ⟨rfl, rfl⟩ dX6_reckonsDrinks_37 ?_
        refine k_istore C (i := 5) (lv := [(5, _), (0, _), (1, _), (2, _), (3, _), (4, _)]) (Nat.le_of_ble_eq_true rfl) rfl dX6_reckonsDrinks_40 ?_
        have loop42 : ∀ (f : Nat) (t : Nat) (I2 : am_I) (lv : Int32), (md_free (I2 (y + 8)) (sp_nc r) ≤ t) → (∀ m : Nat, m < sp_nc r → sp_turns r t (I2 (y + 8)) lv m = sp_drinks r w m) → (∃ n sg : Nat, lv = nI n ∧ sp_sumTo (I2 (y + 8)) (sp_nc r) = nI sg ∧ n + sg = H) → (∀ m : Nat, m < sp_nc r → I2 (y + 8) m = -1 ∨ ¬ I2 (y + 8) m < 0) → (∀ m : Nat, m < sp_nc r → ¬ r (16 + 8 * m) < nI 3 → I2 (y + 8) m = -1) → (∀ b : Nat, b ≠ y + 8 → I2 b = I b) → (t) < f → am_K G X { frames := 3, cells := 0, slots := 0, locals := 65 } 6 Λ I2 J 0 0 42 [(0, .ref y), (1, .ref s), (2, .int (nI w)), (3, .int lv), (4, .int (r (93 + 4 * w))), (5, .int (sp_nextTo r (I2 (y + 8)) (sp_nc r)))] [] := by
          intro f
          induction f with
          | zero => intro t I2 lv hF hT hN hd hE ho2 hf; exact absurd hf (Nat.not_lt_zero _)
          | succ f ih42 =>
            intro t I2 lv hF hT hN hd hE ho2 hf
            have hm2 : MRow I2 s 0 r := MR_ne hm (ho2 s hsy)
            refine k_iload C (i := 5) (p := 5) rfl dX6_reckonsDrinks_42 ?_
            refine k_if_lt C (tgt := 95) (by decide) dX6_reckonsDrinks_44 (fun hc44 => ?_) (fun hc44 => ?_)
            · skip
              refine k_iload C (i := 4) (p := 4) rfl dX6_reckonsDrinks_95 ?_
              refine k_iload_n C (f := 3) (i := 3) (p := 3) rfl rfl dX6_reckonsDrinks_97 ?_
              refine k_isub C dX6_reckonsDrinks_98 ?_
              exact k_iret C (Nat.le_of_ble_eq_true rfl) (Nat.le_of_ble_eq_true rfl) (⟨rfl, rfl, ⟨by
                  obtain ⟨n, sg, hlvn, hsg, hnsg⟩ := hN
                  have hz : sp_nextTo r (I2 (y + 8)) (sp_nc r) = -1 := (sp_nextTo_or r (I2 (y + 8)) (sp_nc r)).elim id (fun ⟨m, e, _⟩ => by rw [e] at hc44; exact absurd hc44 (nI_neg (by omega)))
                  have hdd : ∀ m : Nat, m < sp_nc r → I2 (y + 8) m = sp_drinks r w m := fun m hm => by
                    rw [← hT m hm]
                    cases t with
                    | zero => rfl
                    | succ t => rw [sp_turns_f hz]
                  rw [← sumTo_congr _ hdd, hsg, hH, hlvn, pk_sub (by omega), show H - n = sg by omega], fun m hm => by
                  have hz : sp_nextTo r (I2 (y + 8)) (sp_nc r) = -1 := (sp_nextTo_or r (I2 (y + 8)) (sp_nc r)).elim id (fun ⟨m, e, _⟩ => by rw [e] at hc44; exact absurd hc44 (nI_neg (by omega)))
                  have hdd : I2 (y + 8) m = sp_drinks r w m := by
                    rw [← hT m hm]
                    cases t with
                    | zero => rfl
                    | succ t => rw [sp_turns_f hz]
                  rw [← hdd]
                  exact ⟨rfl, md_next_none _ (by omega) hz m hm, hE m hm, hd m hm⟩, ho2⟩⟩) dX6_reckonsDrinks_99
            · skip
              obtain ⟨m, hm9, hmk, ham, hdm0⟩ := (sp_nextTo_or r (I2 (y + 8)) (sp_nc r)).resolve_left (fun e => hc44 (by rw [e]; decide))
              have hdm : I2 (y + 8) m = -1 := (hd m hmk).resolve_right (fun z => z hdm0)
              obtain ⟨tk, x, htk1, htk2, hxt, ht90⟩ := htk m hmk
              obtain ⟨n, sg, hlvn, hsg, hnsg⟩ := hN
              have hx3 : sp_min lv (r (12 + 8 * m) - r (13 + 8 * m)) = nI (min n (tk - x)) := by rw [htk1, htk2, hlvn, pk_sub hxt, sp_min_nI (by omega) (by omega)]
              rw [hm9]
              refine k_aload_n C (f := 0) (i := 0) (p := 0) rfl rfl dX6_reckonsDrinks_47 ?_
              refine k_getR C f_X6_36 (L6_s (by assumption)) (fun _ _ _ => rfl) (L6_11 (by assumption)) dX6_reckonsDrinks_48 ?_
              refine k_iload C (i := 5) (p := 5) rfl dX6_reckonsDrinks_51 ?_
              refine k_iload_n C (f := 3) (i := 3) (p := 3) rfl rfl dX6_reckonsDrinks_53 ?_
              refine k_aload_n C (f := 1) (i := 1) (p := 1) rfl rfl dX6_reckonsDrinks_54 ?_
              refine k_iload C (i := 5) (p := 5) rfl dX6_reckonsDrinks_55 ?_
              refine k_iconst C ic_2 dX6_reckonsDrinks_57 ?_
              refine k_callSp C s_X6_71 h_X6_camelAt (ct_X6_camelAt ) rfl rfl (Nat.le_of_ble_eq_true rfl) ⟨Nat.le_of_ble_eq_true rfl, Nat.le_of_ble_eq_true rfl⟩ ⟨Nat.le_of_ble_eq_true rfl, Nat.le_of_ble_eq_true rfl⟩ ⟨rfl, rfl⟩ dX6_reckonsDrinks_58 ?_
              refine k_iald C (by assumption) (by first | rfl | assumption) (by omega) (by decide) (MRx (i := 12 + 8 * m) hm2 (by omega) (by omega)) dX6_reckonsDrinks_61 ?_
              refine k_aload_n C (f := 1) (i := 1) (p := 1) rfl rfl dX6_reckonsDrinks_62 ?_
              refine k_iload C (i := 5) (p := 5) rfl dX6_reckonsDrinks_63 ?_
              refine k_iconst C ic_3 dX6_reckonsDrinks_65 ?_
              refine k_callSp C s_X6_71 h_X6_camelAt (ct_X6_camelAt ) rfl rfl (Nat.le_of_ble_eq_true rfl) ⟨Nat.le_of_ble_eq_true rfl, Nat.le_of_ble_eq_true rfl⟩ ⟨Nat.le_of_ble_eq_true rfl, Nat.le_of_ble_eq_true rfl⟩ ⟨rfl, rfl⟩ dX6_reckonsDrinks_66 ?_
              refine k_iald C (by assumption) (by first | rfl | assumption) (by omega) (by decide) (MRx (i := 13 + 8 * m) hm2 (by omega) (by omega)) dX6_reckonsDrinks_69 ?_
              refine k_isub C dX6_reckonsDrinks_70 ?_
              refine k_callSp C s_X6_97 h_X6_less (ct_X6_less ) rfl rfl (Nat.le_of_ble_eq_true rfl) ⟨Nat.le_of_ble_eq_true rfl, Nat.le_of_ble_eq_true rfl⟩ ⟨Nat.le_of_ble_eq_true rfl, Nat.le_of_ble_eq_true rfl⟩ ⟨rfl, rfl⟩ dX6_reckonsDrinks_71 ?_
              refine k_iast C (A6_11 (by assumption)) (by first | rfl | assumption) (by omega) (by decide) dX6_reckonsDrinks_74 ?_
              obtain ⟨I3, hI3⟩ : ∃ z : am_I, z = am_up I2 (y + 8) m (sp_min lv (r (12 + 8 * m) - r (13 + 8 * m))) := ⟨_, rfl⟩
              rw [← hI3]
              refine k_iload_n C (f := 3) (i := 3) (p := 3) rfl rfl dX6_reckonsDrinks_75 ?_
              refine k_aload_n C (f := 0) (i := 0) (p := 0) rfl rfl dX6_reckonsDrinks_76 ?_
              refine k_getR C f_X6_36 (L6_s (by assumption)) (fun _ _ _ => rfl) (L6_11 (by assumption)) dX6_reckonsDrinks_77 ?_
              refine k_iload C (i := 5) (p := 5) rfl dX6_reckonsDrinks_80 ?_
              refine k_iald C (A6_11 (by assumption)) (by first | rfl | assumption) (by omega) (by decide) (by rw [hI3, am_up_eq]) dX6_reckonsDrinks_82 ?_
              refine k_isub C dX6_reckonsDrinks_83 ?_
              refine k_istore_n C (f := 3) (i := 3) (lv := [(3, _), (0, _), (1, _), (2, _), (4, _), (5, _)]) rfl (Nat.le_of_ble_eq_true rfl) rfl dX6_reckonsDrinks_84 ?_
              refine k_aload_n C (f := 0) (i := 0) (p := 1) rfl rfl dX6_reckonsDrinks_85 ?_
              refine k_aload_n C (f := 1) (i := 1) (p := 2) rfl rfl dX6_reckonsDrinks_86 ?_
              refine k_callVp C s_X6_141 h_X6_nextToDrink (L6_s (by assumption)) rfl (ct_X6_nextToDrink hx hs (show MRow _ s 0 r from MR_ne hm (by rw [hI3, am_up_ne (by omega)]; exact ho2 s hsy)) hB hD) rfl rfl (Nat.le_of_ble_eq_true rfl) ⟨Nat.le_of_ble_eq_true rfl, Nat.le_of_ble_eq_true rfl⟩ ⟨Nat.le_of_ble_eq_true rfl, Nat.le_of_ble_eq_true rfl⟩ ⟨rfl, rfl⟩ dX6_reckonsDrinks_87 ?_
              refine k_istore C (i := 5) (lv := [(5, _), (3, _), (0, _), (1, _), (2, _), (4, _)]) (Nat.le_of_ble_eq_true rfl) rfl dX6_reckonsDrinks_90 ?_
              refine k_goto C (tgt := 42) (by decide) dX6_reckonsDrinks_92 ?_
              refine k_sub [2, 3, 4, 1, 5, 0] rfl ?_
              have hxn : ¬ nI (min n (tk - x)) = -1 := nI_m1 (by omega)
              have ht1 := md_free_upd (x := nI (min n (tk - x))) hdm hxn (sp_nc r) hmk
              have hI3r : I3 (y + 8) = upd (I2 (y + 8)) m (nI (min n (tk - x))) := by rw [hI3, am_up_row, hx3]
              have ht0 : 0 < t := by omega
              exact ih42 (t - 1) I3 _ (by rw [hI3r]; omega) (fun i hi => by
                rw [← hT i hi, show t = (t - 1) + 1 by omega, sp_turns_t hm9 (by omega), hI3r, hx3, hlvn, show t - 1 + 1 - 1 = t - 1 by omega]) ⟨n - min n (tk - x), sg + min n (tk - x), by rw [hx3, hlvn]; exact pk_sub (by omega), by rw [hI3r, md_sum_upd hdm hxn _ hmk, hsg, nI_add], by omega⟩ (fun i hi => by
                rw [hI3r]
                by_cases e : i = m
                · rw [e, upd_eq]; exact Or.inr (nI_pos (by omega))
                · rw [upd_ne e]; exact hd i hi) (fun i hi ha => by
                rw [hI3r, upd_ne (fun e => ha (by rw [e]; exact ham))]
                exact hE i hi ha) (fun b hb => by rw [hI3, am_up_ne hb]; exact ho2 b hb) (by omega)
        refine k_sub [1, 2, 3, 4, 5, 0] rfl ?_
        exact loop42 (sp_nc r + 1) (sp_nc r) I1 _ (md_free_le _ _) (fun m hm => sp_turns_congr _ _ _ _ (fun i hi => hs1 i (by omega)) m hm) ⟨H, 0, hH, md_sum_none _ (fun m hm => hs1 m (by omega)), rfl⟩ (fun m hm => Or.inl (hs1 m (by omega))) (fun m hm _ => hs1 m (by omega)) ho1 (by omega)
      · skip
        refine k_aload_n C (f := 0) (i := 0) (p := 0) rfl rfl dX6_reckonsDrinks_21 ?_
        refine k_getR C f_X6_36 (L6_s (by assumption)) (fun _ _ _ => rfl) (L6_11 (by assumption)) dX6_reckonsDrinks_22 ?_
        refine k_iload C (i := 5) (p := 5) rfl dX6_reckonsDrinks_25 ?_
        refine k_iconst C ic_m1 dX6_reckonsDrinks_27 ?_
        refine k_iast C (A6_11 (by assumption)) (by first | rfl | assumption) (by omega) (by decide) dX6_reckonsDrinks_28 ?_
        refine k_iinc C (i := 5) (p := 5) (lv := [(5, _), (0, _), (1, _), (2, _), (3, _), (4, _)]) (Nat.le_of_ble_eq_true rfl) rfl (by first | exact am_inc1 _ | rfl) rfl dX6_reckonsDrinks_29 ?_
        refine k_goto C (tgt := 14) (by decide) dX6_reckonsDrinks_32 ?_
        refine k_sub [1, 2, 3, 4, 5, 0] rfl ?_
        exact ih14 (k + 1) _ (by omega) (fun m hm => by
          by_cases e : m = k
          · rw [e, am_up_eq]
          · rw [am_up_n2 (fun z => e z.2)]; exact hs1 m (by omega)) (fun b hb => by rw [am_up_ne hb]; exact ho1 b hb) (by omega)
  refine k_sub [3, 4, 5, 2, 1, 0] rfl ?_
  exact loop14 11 0 I (Nat.zero_le _) (fun m h => absurd h (Nat.not_lt_zero m)) (fun _ _ => rfl) (by omega)
theorem md_keep8 {I I' : am_I} {y n ct : Nat} {tb : Nat → Nat} {err : Int32} {r : Nat → Int32} {hs : Nat → Nat → Int32} {kp : Nat → Bool} {sn : Nat → Nat → Int32} {w : Nat × (Nat → Int32)} (hR : ModRel I y tb n err r ct hs kp sn w)
    (h6 : I' y 6 = nI (min 8 (ct + 1))) (ho : ∀ b : Nat, b ≠ y → b ≠ y + 4 → I' b = I b) (hy : ∀ k : Nat, k ≠ 6 → I' y k = I y k) (hn : ∀ k : Nat, k < 220 → I' (y + 4) (220 * (min 8 (ct + 1) - 1) + k) = r k)
    (he : ∀ s : Nat, s + 1 < min 8 (ct + 1) → ∀ k : Nat, k < 220 → I' (y + 4) (220 * (min 8 (ct + 1) - 2 - s) + k) = I (y + 4) (220 * (ct - 1 - s) + k)) : ModRel I' y tb n err r (min 8 (ct + 1)) (sp_push r hs) kp sn w ∧ MFr y I I' := by
  obtain ⟨b1, b2, b3, ⟨b41, b42, b43⟩, b5, b6⟩ := hR
  refine ⟨⟨?_, ?_, ?_, ⟨h6, by omega, fun s hs2 => ?_⟩, ?_, ?_⟩, fun b hb => ho b (by omega) (by omega)⟩
  · unfold MTxt; rw [hy 8 (by decide), ho (y + 7) (by omega) (by omega)]; exact b1
  · rw [hy 9 (by decide)]; exact b2
  · exact MR_ne b3 (ho (y + 1) (by omega) (by omega))
  · intro k hk
    by_cases e : s = 0
    · subst e
      rw [Nat.sub_zero]
      exact hn k hk
    · have e2 : sp_push r hs s = hs (s - 1) := by unfold sp_push; rw [if_neg e]
      rw [e2]
      have h := he (s - 1) (by omega) k hk
      rw [show min 8 (ct + 1) - 2 - (s - 1) = min 8 (ct + 1) - 1 - s by omega] at h
      rw [h]
      exact b43 (s - 1) (by omega) k hk
  · unfold MRow; rw [ho (y + 6) (by omega) (by omega), ho (y + 5) (by omega) (by omega)]; exact b5
  · unfold TxtAt; rw [hy 19 (by decide), ho (y + 9) (by omega) (by omega)]; exact b6
theorem md_keepA {I I5 I6 : am_I} {y n ct : Nat} {tb : Nat → Nat} {err : Int32} {r : Nat → Int32} {hs : Nat → Nat → Int32} {kp : Nat → Bool} {sn : Nat → Nat → Int32} {w : Nat × (Nat → Int32)} (hR : ModRel I y tb n err r ct hs kp sn w) (hc : ct < 8)
    (hA : ∀ m : Nat, m < 220 → I5 (y + 4) (220 * ct + m) = I (y + 1) (0 + m)) (hO : ∀ A K : Nat, ¬ (A = y + 4 ∧ 220 * ct ≤ K ∧ K < 220 * ct + 220) → I5 A K = I A K) (h6 : I6 = am_up I5 y 6 (nI ct + nI 1)) : ModRel I6 y tb n err r (min 8 (ct + 1)) (sp_push r hs) kp sn w ∧ MFr y I I6 ∧ I6 y 10 = I y 10 := by
  have e : min 8 (ct + 1) = ct + 1 := by omega
  have hm := MM_r hR
  have ho : ∀ b : Nat, b ≠ y → b ≠ y + 4 → I6 b = I b := fun b h1 h2 => by
    rw [h6, am_up_ne h1]
    funext K
    exact hO b K (by omega)
  have hy : ∀ k : Nat, k ≠ 6 → I6 y k = I y k := fun k hk => by
    rw [h6, am_up_n2 (fun z => hk z.2)]
    exact hO y k (by omega)
  obtain ⟨q1, q2⟩ := md_keep8 hR (I' := I6) (by rw [h6, am_up_eq, nI_add, e]) ho hy (fun k hk => by
    rw [h6, am_up_ne (by omega), e, Nat.add_sub_cancel, hA k hk]
    exact hm k hk) (fun s hs2 k hk => by
    rw [h6, am_up_ne (by omega), hO _ _ (by omega), e]
    exact congrArg (I (y + 4)) (by omega))
  exact ⟨q1, q2, hy 10 (by decide)⟩
theorem md_keepB {I I2 I3 I5 I6 : am_I} {y n ct : Nat} {tb : Nat → Nat} {err : Int32} {r : Nat → Int32} {hs : Nat → Nat → Int32} {kp : Nat → Bool} {sn : Nat → Nat → Int32} {w : Nat × (Nat → Int32)} (hR : ModRel I y tb n err r ct hs kp sn w) (hc : ct = 8)
    (hA2 : ∀ j : Nat, j < 7 → ∀ i : Nat, i < 220 → I2 (y + 4) (220 * j + i) = I (y + 4) (220 * (j + 1) + i)) (hO2 : ∀ b : Nat, b ≠ y + 4 → I2 b = I b) (h3 : I3 = am_up I2 y 6 (nI 8 - nI 1))
    (hA : ∀ m : Nat, m < 220 → I5 (y + 4) (220 * 7 + m) = I3 (y + 1) (0 + m)) (hO : ∀ A K : Nat, ¬ (A = y + 4 ∧ 220 * 7 ≤ K ∧ K < 220 * 7 + 220) → I5 A K = I3 A K) (h6 : I6 = am_up I5 y 6 (nI 7 + nI 1)) : ModRel I6 y tb n err r (min 8 (ct + 1)) (sp_push r hs) kp sn w ∧ MFr y I I6 ∧ I6 y 10 = I y 10 := by
  subst hc
  have e : min 8 (8 + 1) = 8 := by decide
  have hm := MM_r hR
  have ho : ∀ b : Nat, b ≠ y → b ≠ y + 4 → I6 b = I b := fun b h1 h2 => by
    rw [h6, am_up_ne h1]
    funext K
    rw [hO b K (by omega), h3, am_up_ne h1, hO2 b h2]
  have hy : ∀ k : Nat, k ≠ 6 → I6 y k = I y k := fun k hk => by
    rw [h6, am_up_n2 (fun z => hk z.2), hO y k (by omega), h3, am_up_n2 (fun z => hk z.2), hO2 y (by omega)]
  obtain ⟨q1, q2⟩ := md_keep8 hR (I' := I6) (by rw [h6, am_up_eq, nI_add, e]) ho hy (fun k hk => by
    rw [h6, am_up_ne (by omega), e]
    refine (hA k hk).trans ?_
    rw [h3, am_up_ne (by omega), hO2 _ (by omega)]
    exact hm k hk) (fun s hs2 k hk => by
    rw [e] at hs2 ⊢
    rw [h6, am_up_ne (by omega), hO _ _ (by omega), h3, am_up_ne (by omega)]
    refine (hA2 (8 - 2 - s) (by omega) k hk).trans ?_
    exact congrArg (I (y + 4)) (by omega))
  exact ⟨q1, q2, hy 10 (by decide)⟩
set_option maxHeartbeats 4000000 in
set_option maxRecDepth 100000 in
theorem ct_X6_keepsForUndo {G : am_G} {Λ : am_L} {I : am_I} {J : am_J} {y n ct : Nat} {tb : Nat → Nat} {err : Int32} {r : Nat → Int32} {hs : Nat → Nat → Int32} {kp : Nat → Bool} {sn : Nat → Nat → Int32} {w : Nat × (Nat → Int32)}  (hx : ModLay Λ y) (hR : ModRel I y tb n err r ct hs kp sn w) : am_Ct G yX6_keepsForUndo cX6_keepsForUndo 2 none { frames := 1, cells := 0, slots := 0, locals := 24 } [.ref y] Λ I J (am_gen Λ J (fun v I' => v = none ∧ ModRel I' y tb n err r (min 8 (ct + 1)) (sp_push r hs) kp sn w ∧ MFr y I I' ∧ I' y 10 = I y 10)) am_never := by
  refine am_ct_of (own := RX6) rfl (by decide) (Nat.le_of_ble_eq_true rfl) (fun X C => ?_)
  change am_K G X { frames := 1, cells := 0, slots := 0, locals := 24 } 2 Λ I J 0 0 0 [(0, .ref y)] []
  obtain ⟨h6a, h6b, h6c⟩ := MM_h hR
  have hm := MM_r hR
  have ha4 := A6_3 hx
  have ha1 := A6_0 hx
  refine k_aload_n C (f := 0) (i := 0) (p := 0) rfl rfl dX6_keepsForUndo_0 ?_
  refine k_getI C f_X6_235 (L6_s (by assumption)) (fun _ _ _ => rfl) (h6a) dX6_keepsForUndo_1 ?_
  refine k_bipush C bc_8 dX6_keepsForUndo_4 ?_
  refine k_icmpN_ne C (tgt := 56) (by omega) (by omega) (by decide) dX6_keepsForUndo_6 (fun hc6 => ?_) (fun hc6 => ?_)
  · skip
    have hct : ct < 8 := by omega
    refine k_aload_n C (f := 0) (i := 0) (p := 0) rfl rfl dX6_keepsForUndo_56 ?_
    refine k_getR C f_X6_7 (L6_s (by assumption)) (fun _ _ _ => rfl) (L6_0 (by assumption)) dX6_keepsForUndo_57 ?_
    refine k_iconst C ic_0 dX6_keepsForUndo_60 ?_
    refine k_aload_n C (f := 0) (i := 0) (p := 0) rfl rfl dX6_keepsForUndo_61 ?_
    refine k_getR C f_X6_19 (L6_s (by assumption)) (fun _ _ _ => rfl) (L6_3 (by assumption)) dX6_keepsForUndo_62 ?_
    refine k_sipush C sc_220 dX6_keepsForUndo_65 ?_
    refine k_aload_n C (f := 0) (i := 0) (p := 0) rfl rfl dX6_keepsForUndo_68 ?_
    refine k_getI C f_X6_235 (L6_s (by assumption)) (fun _ _ _ => rfl) (by first | exact h6a | exact Eq.trans (by rw [hI4, am_up_eq]) (show nI ct - nI 1 = nI 7 by rw [hct8]; decide)) dX6_keepsForUndo_69 ?_
    refine k_imul C dX6_keepsForUndo_72 ?_
    rw [nI_mul]
    refine k_callSg C s_X6_63 h_X6_layRow (ct_X6_layRow ha1 ha4 (by omega) (by omega) (by decide) (Or.inl (by omega))) rfl rfl (Nat.le_of_ble_eq_true rfl) ⟨Nat.le_of_ble_eq_true rfl, Nat.le_of_ble_eq_true rfl⟩ ⟨Nat.le_of_ble_eq_true rfl, Nat.le_of_ble_eq_true rfl⟩ ⟨rfl, rfl⟩ dX6_keepsForUndo_73 ?_
    intro v73 I5 hv
    obtain ⟨rfl, hA73, hO73⟩ := hv
    refine k_aload_n C (f := 0) (i := 0) (p := 0) rfl rfl dX6_keepsForUndo_76 ?_
    refine k_dup C rfl dX6_keepsForUndo_77 ?_
    refine k_getI C f_X6_235 (L6_s (by assumption)) (fun _ _ _ => rfl) (by first | exact (hO73 y 6 (by omega)).trans h6a | exact Eq.trans (by rw [hO73 y 6 (by omega), hI4, am_up_eq]) (show nI ct - nI 1 = nI 7 by rw [hct8]; decide)) dX6_keepsForUndo_78 ?_
    refine k_iconst C ic_1 dX6_keepsForUndo_81 ?_
    refine k_iadd C dX6_keepsForUndo_82 ?_
    refine k_putI C f_X6_235 (L6_s (by assumption)) rfl rfl dX6_keepsForUndo_83 ?_
    exact k_vret C (Nat.le_of_ble_eq_true rfl) (Nat.le_of_ble_eq_true rfl) (⟨rfl, rfl, ⟨rfl, by first | exact md_keepA hR hct hA73 hO73 rfl | exact md_keepB hR hct8 (fun j hj i hi => hA2 j (by omega) i hi) hO2 (by rw [hct8] at hI4; exact hI4) hA73 hO73 rfl⟩⟩) dX6_keepsForUndo_86
  · skip
    have hct8 : ct = 8 := by omega
    refine k_iconst C ic_1 dX6_keepsForUndo_9 ?_
    refine k_istore_n C (f := 1) (i := 1) (lv := [(1, _), (0, _)]) rfl (Nat.le_of_ble_eq_true rfl) rfl dX6_keepsForUndo_10 ?_
    have loop11 : ∀ (f : Nat) (k : Nat) (I2 : am_I), (1 ≤ k ∧ k ≤ 8) → (∀ j : Nat, j + 1 < k → ∀ i : Nat, i < 220 → I2 (y + 4) (220 * j + i) = I (y + 4) (220 * (j + 1) + i)) → (∀ K : Nat, 220 * (k - 1) ≤ K → I2 (y + 4) K = I (y + 4) K) → (∀ b : Nat, b ≠ y + 4 → I2 b = I b) → (8 - k) < f → am_K G X { frames := 1, cells := 0, slots := 0, locals := 24 } 2 Λ I2 J 0 0 11 [(0, .ref y), (1, .int (nI k))] [] := by
      intro f
      induction f with
      | zero => intro k I2 hk hA2 hB2 hO2 hf; exact absurd hf (Nat.not_lt_zero _)
      | succ f ih11 =>
        intro k I2 hk hA2 hB2 hO2 hf
        refine k_iload_n C (f := 1) (i := 1) (p := 1) rfl rfl dX6_keepsForUndo_11 ?_
        refine k_bipush C bc_8 dX6_keepsForUndo_12 ?_
        first
        | refine k_icmpN_ge C (tgt := 46) (by omega) (by omega) (by decide) dX6_keepsForUndo_14 (fun hc14 => ?_) (fun hc14 => ?_)
        | refine k_icmp_ge C (tgt := 46) (by decide) dX6_keepsForUndo_14 (fun hc14 => ?_) (fun hc14 => ?_)
        · skip
          refine k_aload_n C (f := 0) (i := 0) (p := 0) rfl rfl dX6_keepsForUndo_46 ?_
          refine k_dup C rfl dX6_keepsForUndo_47 ?_
          refine k_getI C f_X6_235 (L6_s (by assumption)) (fun _ _ _ => rfl) (Eq.trans (by rw [hO2 y (by omega)]) h6a) dX6_keepsForUndo_48 ?_
          refine k_iconst C ic_1 dX6_keepsForUndo_51 ?_
          refine k_isub C dX6_keepsForUndo_52 ?_
          refine k_putI C f_X6_235 (L6_s (by assumption)) rfl rfl dX6_keepsForUndo_53 ?_
          obtain ⟨I4, hI4⟩ : ∃ z : am_I, z = am_up I2 y 6 (nI ct - nI 1) := ⟨_, rfl⟩
          rw [← hI4]
          refine k_aload_n C (f := 0) (i := 0) (p := 0) rfl rfl dX6_keepsForUndo_56 ?_
          refine k_getR C f_X6_7 (L6_s (by assumption)) (fun _ _ _ => rfl) (L6_0 (by assumption)) dX6_keepsForUndo_57 ?_
          refine k_iconst C ic_0 dX6_keepsForUndo_60 ?_
          refine k_aload_n C (f := 0) (i := 0) (p := 0) rfl rfl dX6_keepsForUndo_61 ?_
          refine k_getR C f_X6_19 (L6_s (by assumption)) (fun _ _ _ => rfl) (L6_3 (by assumption)) dX6_keepsForUndo_62 ?_
          refine k_sipush C sc_220 dX6_keepsForUndo_65 ?_
          refine k_aload_n C (f := 0) (i := 0) (p := 0) rfl rfl dX6_keepsForUndo_68 ?_
          refine k_getI C f_X6_235 (L6_s (by assumption)) (fun _ _ _ => rfl) (by first | exact h6a | exact Eq.trans (by rw [hI4, am_up_eq]) (show nI ct - nI 1 = nI 7 by rw [hct8]; decide)) dX6_keepsForUndo_69 ?_
          refine k_imul C dX6_keepsForUndo_72 ?_
          rw [nI_mul]
          refine k_callSg C s_X6_63 h_X6_layRow (ct_X6_layRow ha1 ha4 (by omega) (by omega) (by decide) (Or.inl (by omega))) rfl rfl (Nat.le_of_ble_eq_true rfl) ⟨Nat.le_of_ble_eq_true rfl, Nat.le_of_ble_eq_true rfl⟩ ⟨Nat.le_of_ble_eq_true rfl, Nat.le_of_ble_eq_true rfl⟩ ⟨rfl, rfl⟩ dX6_keepsForUndo_73 ?_
          intro v73 I5 hv
          obtain ⟨rfl, hA73, hO73⟩ := hv
          refine k_aload_n C (f := 0) (i := 0) (p := 0) rfl rfl dX6_keepsForUndo_76 ?_
          refine k_dup C rfl dX6_keepsForUndo_77 ?_
          refine k_getI C f_X6_235 (L6_s (by assumption)) (fun _ _ _ => rfl) (by first | exact (hO73 y 6 (by omega)).trans h6a | exact Eq.trans (by rw [hO73 y 6 (by omega), hI4, am_up_eq]) (show nI ct - nI 1 = nI 7 by rw [hct8]; decide)) dX6_keepsForUndo_78 ?_
          refine k_iconst C ic_1 dX6_keepsForUndo_81 ?_
          refine k_iadd C dX6_keepsForUndo_82 ?_
          refine k_putI C f_X6_235 (L6_s (by assumption)) rfl rfl dX6_keepsForUndo_83 ?_
          exact k_vret C (Nat.le_of_ble_eq_true rfl) (Nat.le_of_ble_eq_true rfl) (⟨rfl, rfl, ⟨rfl, by first | exact md_keepA hR hct hA73 hO73 rfl | exact md_keepB hR hct8 (fun j hj i hi => hA2 j (by omega) i hi) hO2 (by rw [hct8] at hI4; exact hI4) hA73 hO73 rfl⟩⟩) dX6_keepsForUndo_86
        · skip
          refine k_aload_n C (f := 0) (i := 0) (p := 0) rfl rfl dX6_keepsForUndo_17 ?_
          refine k_getR C f_X6_19 (L6_s (by assumption)) (fun _ _ _ => rfl) (L6_3 (by assumption)) dX6_keepsForUndo_18 ?_
          refine k_sipush C sc_220 dX6_keepsForUndo_21 ?_
          refine k_iload_n C (f := 1) (i := 1) (p := 1) rfl rfl dX6_keepsForUndo_24 ?_
          refine k_imul C dX6_keepsForUndo_25 ?_
          rw [nI_mul]
          refine k_aload_n C (f := 0) (i := 0) (p := 0) rfl rfl dX6_keepsForUndo_26 ?_
          refine k_getR C f_X6_19 (L6_s (by assumption)) (fun _ _ _ => rfl) (L6_3 (by assumption)) dX6_keepsForUndo_27 ?_
          refine k_sipush C sc_220 dX6_keepsForUndo_30 ?_
          refine k_iload_n C (f := 1) (i := 1) (p := 1) rfl rfl dX6_keepsForUndo_33 ?_
          refine k_iconst C ic_1 dX6_keepsForUndo_34 ?_
          refine k_isub C dX6_keepsForUndo_35 ?_
          rw [show nI k - nI 1 = nI (k - 1) from pk_sub hk.1]
          refine k_imul C dX6_keepsForUndo_36 ?_
          rw [nI_mul]
          refine k_callSg C s_X6_63 h_X6_layRow (ct_X6_layRow ha4 ha4 (by omega) (by omega) (by decide) (Or.inr (by omega))) rfl rfl (Nat.le_of_ble_eq_true rfl) ⟨Nat.le_of_ble_eq_true rfl, Nat.le_of_ble_eq_true rfl⟩ ⟨Nat.le_of_ble_eq_true rfl, Nat.le_of_ble_eq_true rfl⟩ ⟨rfl, rfl⟩ dX6_keepsForUndo_37 ?_
          intro v37 I3 hv
          obtain ⟨rfl, hA37, hO37⟩ := hv
          refine k_iinc C (i := 1) (p := 1) (lv := [(1, _), (0, _)]) (Nat.le_of_ble_eq_true rfl) rfl (by first | exact am_inc1 _ | rfl) rfl dX6_keepsForUndo_40 ?_
          refine k_goto C (tgt := 11) (by decide) dX6_keepsForUndo_43 ?_
          refine k_sub [1, 0] rfl ?_
          exact ih11 (k + 1) I3 (by omega) (fun j hj i hi => by
            by_cases e : j + 1 = k
            · have z := hA37 i hi
              rw [show 220 * j = 220 * (k - 1) by omega, z, hB2 _ (by omega), e]
            · rw [hO37 _ _ (by omega)]
              exact hA2 j (by omega) i hi) (fun K hK => by rw [hO37 _ _ (by omega)]; exact hB2 K (by omega)) (fun b hb => by
            funext K
            rw [hO37 b K (fun z => hb z.1), hO2 b hb]) (by omega)
    refine k_sub [1, 0] rfl ?_
    exact loop11 8 1 I ⟨Nat.le_refl _, by decide⟩ (fun j hj => by omega) (fun _ _ => rfl) (fun _ _ => rfl) (by omega)
