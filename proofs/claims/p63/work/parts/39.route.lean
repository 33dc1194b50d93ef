/-! ===== the whole object: what its cells hold ===== -/
theorem RK_ld {r : Nat → Int32} (h : RowOk r) : ∃ j : Nat, r 4 = nI j ∧ j < sp_nc r := h.2.2.2.2.2.2.2.2.1
theorem RK_3 {r : Nat → Int32} (h : RowOk r) : r 3 = 0 ∨ r 3 = 1 := h.2.2.2.2.2.2.2.1
theorem RK_L {r : Nat → Int32} (h : RowOk r) : ∃ L km : Nat, r 0 = nI L ∧ r 1 = nI km ∧ 10 ≤ L ∧ L ≤ 999 ∧ km ≤ L ∧ (∀ k : Nat, k < sp_nw r → sp_in (r (90 + 4 * k)) 0 L) := h.2.2.2.2.2.1
theorem RK_w {r : Nat → Int32} (h : RowOk r) : ∀ k : Nat, k < sp_nw r → r (90 + 4 * k) < nI 1000 := fun k hk => by
  obtain ⟨L, km, -, -, -, h5, -, h7⟩ := RK_L h
  obtain ⟨n, h8, -, h9⟩ := h7 k hk
  rw [h8]
  exact nI_lt (by omega) (by decide)
theorem RK_c {r : Nat → Int32} (h : RowOk r) : ∀ k : Nat, k < sp_nc r → sp_in (r (10 + 8 * k)) 10 60 ∧ sp_in (r (11 + 8 * k)) 1 9 ∧ (∃ t x : Nat, r (12 + 8 * k) = nI t ∧ 10 ≤ t ∧ t ≤ 90 ∧ r (13 + 8 * k) = nI x ∧ x ≤ t) ∧ sp_in (r (16 + 8 * k)) 0 3 ∧ (r (17 + 8 * k) = if r (16 + 8 * k) < nI 3 then nI 0 else nI 1) := h.2.2.2.2.2.2.2.2.2.1
theorem RK_lo {r : Nat → Int32} (h : RowOk r) : ∀ k : Nat, k < sp_nl r → sp_in (r (140 + 4 * k)) 1 99 ∧ (r (142 + 4 * k) = -1 ∨ ∃ j : Nat, r (142 + 4 * k) = nI j ∧ j < sp_nc r) := h.2.2.2.2.2.2.2.2.2.2.2.2
theorem RK_we {r : Nat → Int32} (h : RowOk r) : ∀ k : Nat, k < sp_nw r → ∃ cap lev : Nat, r (91 + 4 * k) = nI cap ∧ cap ≤ 999 ∧ r (93 + 4 * k) = nI lev ∧ lev ≤ cap ∧ sp_in (r (92 + 4 * k)) 0 99 := h.2.2.2.2.2.2.2.2.2.2.1
theorem RK_W {r : Nat → Int32} (h : RowOk r) : RowW r := ⟨fun m hm => (RK_c h m hm).2.2.2.1, fun k hk => (RK_lo h k hk).2⟩
theorem RK_tk {r : Nat → Int32} (h : RowOk r) : ∀ m : Nat, m < sp_nc r → ∃ t x : Nat, r (12 + 8 * m) = nI t ∧ r (13 + 8 * m) = nI x ∧ x ≤ t ∧ t ≤ 90 := fun m hm => by
  obtain ⟨t, x, h1, -, h3, h4, h5⟩ := (RK_c h m hm).2.2.1
  exact ⟨t, x, h1, h4, h5, h3⟩
theorem RK_lv {r : Nat → Int32} (h : RowOk r) {w : Nat} (hw : w < sp_nw r) : ∃ n : Nat, r (93 + 4 * w) = nI n ∧ n ≤ 999 := by
  obtain ⟨cap, lev, -, h2, h3, h4, -⟩ := RK_we h w hw
  exact ⟨lev, h3, by omega⟩
theorem HistRel_agree {I I' : am_I} {h p ct nx : Nat} {rs : Nat → Nat → Int32} (hr : HistRel I h p ct nx rs) (h0 : I' h = I h) (h1 : ∀ b : Nat, h + 2 ≤ b → b < h + 90 → I' b = I b) (h2 : ∀ b : Nat, p ≤ b → b < p + 10 → I' b = I b) : HistRel I' h p ct nx rs := by
  obtain ⟨a1, a2, a3, a4, a5⟩ := hr
  refine ⟨by rw [h0]; exact a1, by rw [h0]; exact a2, a3, a4, fun s hs => ?_⟩
  have hm : (nx + 7 - s) % 8 < 8 := Nat.mod_lt _ (by omega)
  refine ⟨CR_agree (a5 s hs).1 (h1 _ (by omega) (by omega)) (fun b g1 g2 => h1 b (by omega) (by omega)) h2, (a5 s hs).2⟩
theorem InTxt.row {I I' : am_I} {i n : Nat} {tb : Nat → Nat} (h : InTxt I i tb n) (h0 : I' i = I i) (h1 : I' (i + 1) = I (i + 1)) : InTxt I' i tb n := by
  unfold InTxt
  rw [h0, h1]
  exact h
theorem WriRel.row {I I' : am_I} {w : Nat} {t : Nat × (Nat → Int32)} (h : WriRel I w t) (h0 : I' w = I w) (h1 : I' (w + 1) = I (w + 1)) : WriRel I' w t := by
  unfold WriRel TxtAt
  rw [h0, h1]
  exact h
def SnRel (I : am_I) (x : Nat) (kp : Nat → Bool) (sn : Nat → Nat → Int32) : Prop := ∀ j : Nat, j < 2 → I (x + 169) j = am_b (kp j = true) ∧ (kp j = true → CarRel I (x + 147 + 11 * j) (x + 148 + 11 * j) (x + 24) (sn j) ∧ (sn j 3 = 0 ∨ sn j 3 = 1))
theorem SnRel_agree {I I' : am_I} {x : Nat} {kp : Nat → Bool} {sn : Nat → Nat → Int32} (h : SnRel I x kp sn) (h0 : ∀ b : Nat, x + 147 ≤ b → b < x + 170 → I' b = I b) (h2 : ∀ b : Nat, x + 24 ≤ b → b < x + 34 → I' b = I b) : SnRel I' x kp sn := fun j hj => ⟨by rw [h0 _ (by omega) (by omega)]; exact (h j hj).1, fun hk => ⟨CR_agree ((h j hj).2 hk).1 (h0 _ (by omega) (by omega)) (fun b g1 g2 => h0 b (by omega) (by omega)) (fun b g1 g2 => h2 b (by omega) (by omega)), ((h j hj).2 hk).2⟩⟩
def RouRel (I : am_I) (x : Nat) (tb : Nat → Nat) (n : Nat) (err : Int32) (r : Nat → Int32) (ct : Nat) (hs : Nat → Nat → Int32) (kp : Nat → Bool) (sn : Nat → Nat → Int32) (w : Nat × (Nat → Int32)) : Prop :=
  InTxt I (x + 1) tb n ∧ I x 1 = err ∧ CarRel I (x + 34) (x + 35) (x + 24) r ∧ (∃ nx : Nat, HistRel I (x + 56) (x + 24) ct nx hs) ∧ SnRel I x kp sn ∧ WriRel I (x + 171) w ∧ w.1 ≤ 140
def RFr (x : Nat) (I I' : am_I) : Prop := ∀ b : Nat, (b < x ∨ x + 173 ≤ b) → I' b = I b
theorem RFr.tr {x : Nat} {I I1 I2 : am_I} (h : RFr x I I1) (h2 : RFr x I1 I2) : RFr x I I2 := fun b hb => (h2 b hb).trans (h b hb)
def sp_push (r : Nat → Int32) (hs : Nat → Nat → Int32) : Nat → Nat → Int32 := fun s => if s = 0 then r else hs (s - 1)
section RR
variable {I I' : am_I} {x n ct : Nat} {tb : Nat → Nat} {err : Int32} {r r' : Nat → Int32} {hs hs' : Nat → Nat → Int32} {kp : Nat → Bool} {sn : Nat → Nat → Int32} {w : Nat × (Nat → Int32)}
theorem RR_x (h : RouRel I x tb n err r ct hs kp sn w) : InTxt I (x + 1) tb n := h.1
theorem RR_e (h : RouRel I x tb n err r ct hs kp sn w) : I x 1 = err := h.2.1
theorem RR_r (h : RouRel I x tb n err r ct hs kp sn w) : CarRel I (x + 34) (x + 35) (x + 24) r := h.2.2.1
theorem RR_h (h : RouRel I x tb n err r ct hs kp sn w) : ∃ nx : Nat, HistRel I (x + 56) (x + 24) ct nx hs := h.2.2.2.1
theorem RR_s (h : RouRel I x tb n err r ct hs kp sn w) : SnRel I x kp sn := h.2.2.2.2.1
theorem RR_w (h : RouRel I x tb n err r ct hs kp sn w) : WriRel I (x + 171) w ∧ w.1 ≤ 140 := h.2.2.2.2.2
/-- the caravan of now has changed -/
theorem RR_car (h : RouRel I x tb n err r ct hs kp sn w) (hr : CarRel I' (x + 34) (x + 35) (x + 24) r') (hf : am_fr (x + 34) (x + 35) I I') : RouRel I' x tb n err r' ct hs kp sn w ∧ RFr x I I' := by
  obtain ⟨a1, a2, a3, ⟨nx, a4⟩, a5, a6, a7⟩ := h
  exact ⟨⟨a1.row (hf _ (by omega) (by omega)) (hf _ (by omega) (by omega)), by rw [hf x (by omega) (by omega)]; exact a2, hr, ⟨nx, HistRel_agree a4 (hf _ (by omega) (by omega)) (fun b g1 g2 => hf b (by omega) (by omega)) (fun b g1 g2 => hf b (by omega) (by omega))⟩, SnRel_agree a5 (fun b g1 g2 => hf b (by omega) (by omega)) (fun b g1 g2 => hf b (by omega) (by omega)), a6.row (hf _ (by omega) (by omega)) (hf _ (by omega) (by omega)), a7⟩, fun b hb => hf b (by omega) (by omega)⟩
/-- the caravans before have changed -/
theorem RR_his {ct' : Nat} (h : RouRel I x tb n err r ct hs kp sn w) (hr : ∃ nx : Nat, HistRel I' (x + 56) (x + 24) ct' nx hs') (hf : ∀ b : Nat, b ≠ x + 56 → (b < x + 56 + 2 ∨ x + 56 + 90 ≤ b) → I' b = I b) : RouRel I' x tb n err r ct' hs' kp sn w ∧ RFr x I I' := by
  obtain ⟨a1, a2, a3, a4, a5, a6, a7⟩ := h
  exact ⟨⟨a1.row (hf _ (by omega) (by omega)) (hf _ (by omega) (by omega)), by rw [hf x (by omega) (by omega)]; exact a2, CR_agree a3 (hf _ (by omega) (by omega)) (fun b g1 g2 => hf b (by omega) (by omega)) (fun b g1 g2 => hf b (by omega) (by omega)), hr, SnRel_agree a5 (fun b g1 g2 => hf b (by omega) (by omega)) (fun b g1 g2 => hf b (by omega) (by omega)), a6.row (hf _ (by omega) (by omega)) (hf _ (by omega) (by omega)), a7⟩, fun b hb => hf b (by omega) (by omega)⟩
/-- only cells that no part of the object speaks of have changed: the trial caravan and the shares -/
theorem RR_tri (h : RouRel I x tb n err r ct hs kp sn w) (hf : ∀ b : Nat, (b < x + 45 ∨ x + 56 ≤ b) → b ≠ x + 170 → I' b = I b) : RouRel I' x tb n err r ct hs kp sn w ∧ RFr x I I' := by
  obtain ⟨a1, a2, a3, ⟨nx, a4⟩, a5, a6, a7⟩ := h
  exact ⟨⟨a1.row (hf _ (by omega) (by omega)) (hf _ (by omega) (by omega)), by rw [hf x (by omega) (by omega)]; exact a2, CR_agree a3 (hf _ (by omega) (by omega)) (fun b g1 g2 => hf b (by omega) (by omega)) (fun b g1 g2 => hf b (by omega) (by omega)), ⟨nx, HistRel_agree a4 (hf _ (by omega) (by omega)) (fun b g1 g2 => hf b (by omega) (by omega)) (fun b g1 g2 => hf b (by omega) (by omega))⟩, SnRel_agree a5 (fun b g1 g2 => hf b (by omega) (by omega)) (fun b g1 g2 => hf b (by omega) (by omega)), a6.row (hf _ (by omega) (by omega)) (hf _ (by omega) (by omega)), a7⟩, fun b hb => hf b (by omega) (by omega)⟩
/-- the input has changed -/
theorem RR_inp {tb' : Nat → Nat} {n' : Nat} {err' : Int32} (h : RouRel I x tb n err r ct hs kp sn w) (hx : InTxt I' (x + 1) tb' n') (he : I' x 1 = err') (hf : ∀ b : Nat, (b < x ∨ x + 24 ≤ b) → I' b = I b) : RouRel I' x tb' n' err' r ct hs kp sn w ∧ RFr x I I' := by
  obtain ⟨a1, a2, a3, ⟨nx, a4⟩, a5, a6, a7⟩ := h
  exact ⟨⟨hx, he, CR_agree a3 (hf _ (by omega)) (fun b g1 g2 => hf b (by omega)) (fun b g1 g2 => hf b (by omega)), ⟨nx, HistRel_agree a4 (hf _ (by omega)) (fun b g1 g2 => hf b (by omega)) (fun b g1 g2 => hf b (by omega))⟩, SnRel_agree a5 (fun b g1 g2 => hf b (by omega)) (fun b g1 g2 => hf b (by omega)), a6.row (hf _ (by omega)) (hf _ (by omega)), a7⟩, fun b hb => hf b (by omega)⟩
/-- the written text has changed -/
theorem RR_wri {w' : Nat × (Nat → Int32)} (h : RouRel I x tb n err r ct hs kp sn w) (hw : WriRel I' (x + 171) w') (hn : w'.1 ≤ 140) (hf : ∀ b : Nat, b ≠ x + 171 → b ≠ x + 171 + 1 → I' b = I b) : RouRel I' x tb n err r ct hs kp sn w' ∧ RFr x I I' := by
  obtain ⟨a1, a2, a3, ⟨nx, a4⟩, a5, a6, a7⟩ := h
  exact ⟨⟨a1.row (hf _ (by omega) (by omega)) (hf _ (by omega) (by omega)), by rw [hf x (by omega) (by omega)]; exact a2, CR_agree a3 (hf _ (by omega) (by omega)) (fun b g1 g2 => hf b (by omega) (by omega)) (fun b g1 g2 => hf b (by omega) (by omega)), ⟨nx, HistRel_agree a4 (hf _ (by omega) (by omega)) (fun b g1 g2 => hf b (by omega) (by omega)) (fun b g1 g2 => hf b (by omega) (by omega))⟩, SnRel_agree a5 (fun b g1 g2 => hf b (by omega) (by omega)) (fun b g1 g2 => hf b (by omega) (by omega)), hw, hn⟩, fun b hb => hf b (by omega) (by omega)⟩
end RR
/-- the answer of a call that changes the object -/
def am_pch (v : Option Value) (cd : Nat) (Λ : am_L) (J : am_J) (P : am_I → Prop) : am_PT := fun w Λ' I' J' => w = v ∧ cd = 0 ∧ Λ' = Λ ∧ J' = J ∧ P I'
def sp_wsumTo (r : Nat → Int32) : Nat → Nat
  | 0 => 0
  | k + 1 => if r (16 + 8 * k) < nI 3 then sp_wsumTo r k + (r (13 + 8 * k)).toNatClampNeg else sp_wsumTo r k
theorem sp_wsumTo_t {r : Nat → Int32} {k : Nat} (h : r (16 + 8 * k) < nI 3) : sp_wsumTo r (k + 1) = sp_wsumTo r k + (r (13 + 8 * k)).toNatClampNeg := if_pos h
theorem sp_wsumTo_f {r : Nat → Int32} {k : Nat} (h : ¬ r (16 + 8 * k) < nI 3) : sp_wsumTo r (k + 1) = sp_wsumTo r k := if_neg h
theorem sp_wsumTo_b {r : Nat → Int32} (h : RowOk r) : ∀ k : Nat, k ≤ sp_nc r → sp_wsumTo r k ≤ 90 * k := by
  intro k
  induction k with
  | zero => intro _; exact Nat.le_refl _
  | succ k ih =>
    intro hk
    have h1 := ih (by omega)
    by_cases q : r (16 + 8 * k) < nI 3
    · rw [sp_wsumTo_t q]
      obtain ⟨t, y, -, h4, h5, h6⟩ := RK_tk h k (by omega)
      rw [h4, nI_clamp (by omega)]
      omega
    · rw [sp_wsumTo_f q]
      omega
set_option maxHeartbeats 4000000 in
set_option maxRecDepth 100000 in
theorem ct_X5_meanWater {G : am_G} {Λ : am_L} {I : am_I} {J : am_J} {x : Nat} {r : Nat → Int32}  (hx : RouLay Λ x) (hr : CarRel I (x + 34) (x + 35) (x + 24) r) (hok : RowOk r) : am_Ct G yX5_meanWater cX5_meanWater 4 (some .double) { frames := 3, cells := 0, slots := 0, locals := 64 } [.ref x] Λ I J (am_pure (.double (if sp_living r = 0 then FP.dconst0 else FP.ddiv (FP.i2d (nI (sp_wsumTo r (sp_nc r)))) (FP.i2d (nI (sp_living r))))) Λ I J) am_never := by
  refine am_ct_of (own := RX5) rfl (by decide) (Nat.le_of_ble_eq_true rfl) (fun X C => ?_)
  change am_K G X { frames := 3, cells := 0, slots := 0, locals := 64 } 4 Λ I J 0 0 0 [(0, .ref x)] []
  have hl := L5_n hx
  have hp := L5_p hx
  have hpr := CR_p hr
  have hnc := PR_c hpr
  have hnw := PR_w hpr
  have hnl := CR_l hr
  have hlv := sp_livingTo_le r (sp_nc r)
  have hlv2 : sp_living r ≤ sp_nc r := hlv
  refine k_aload_n C (f := 0) (i := 0) (p := 0) rfl rfl dX5_meanWater_0 ?_
  refine k_getR C f_X5_49 (L5_s (by assumption)) (fun _ _ _ => rfl) (L5_2 (by assumption)) dX5_meanWater_1 ?_
  refine k_callVp C s_X5_169 h_X0_countLiving (L0_s (by assumption)) rfl (ct_X0_countLiving hl hr) rfl rfl (Nat.le_of_ble_eq_true rfl) ⟨Nat.le_of_ble_eq_true rfl, Nat.le_of_ble_eq_true rfl⟩ ⟨Nat.le_of_ble_eq_true rfl, Nat.le_of_ble_eq_true rfl⟩ ⟨rfl, rfl⟩ dX5_meanWater_4 ?_
  refine k_istore_n C (f := 1) (i := 1) (lv := [(1, _), (0, _)]) rfl (Nat.le_of_ble_eq_true rfl) rfl dX5_meanWater_7 ?_
  refine k_iload_n C (f := 1) (i := 1) (p := 0) rfl rfl dX5_meanWater_8 ?_
  first
  | refine k_ifb_ne C (tgt := 14) (by decide) dX5_meanWater_9 (fun hc9 => ?_) (fun hc9 => ?_)
  | refine k_if_ne C (tgt := 14) (by decide) dX5_meanWater_9 (fun hc9 => ?_) (fun hc9 => ?_)
  · skip
    have hnz : ¬ sp_living r = 0 := fun z => hc9 (by rw [z]; rfl)
    have hnz2 : 0 < sp_living r := by omega
    refine k_iconst C ic_0 dX5_meanWater_14 ?_
    refine k_istore_n C (f := 2) (i := 2) (lv := [(2, _), (1, _), (0, _)]) rfl (Nat.le_of_ble_eq_true rfl) rfl dX5_meanWater_15 ?_
    refine k_iconst C ic_0 dX5_meanWater_16 ?_
    refine k_istore_n C (f := 3) (i := 3) (lv := [(3, _), (2, _), (1, _), (0, _)]) rfl (Nat.le_of_ble_eq_true rfl) rfl dX5_meanWater_17 ?_
    have loop18 : ∀ (f : Nat) (k : Nat) (su : Int32), (k ≤ sp_nc r) → (su = nI (sp_wsumTo r k)) → (sp_nc r - k) < f → am_K G X { frames := 3, cells := 0, slots := 0, locals := 64 } 4 Λ I J 0 0 18 [(0, .ref x), (1, .int (nI (sp_living r))), (2, .int su), (3, .int (nI k))] [] := by
      intro f
      induction f with
      | zero => intro k su hk hs hf; exact absurd hf (Nat.not_lt_zero _)
      | succ f ih18 =>
        intro k su hk hs hf
        subst hs
        refine k_iload_n C (f := 3) (i := 3) (p := 3) rfl rfl dX5_meanWater_18 ?_
        refine k_aload_n C (f := 0) (i := 0) (p := 0) rfl rfl dX5_meanWater_19 ?_
        refine k_getR C f_X5_49 (L5_s (by assumption)) (fun _ _ _ => rfl) (L5_2 (by assumption)) dX5_meanWater_20 ?_
        refine k_getR C f_X5_37 (L0_s (by assumption)) (fun _ _ _ => rfl) (L0_0 (by assumption)) dX5_meanWater_23 ?_
        refine k_getI C f_X5_107 (L3_s (by assumption)) (fun _ _ _ => rfl) (by first | exact PR_1 (by assumption) | assumption | rfl) dX5_meanWater_26 ?_
        first
        | refine k_icmpN_ge C (tgt := 61) (by omega) (by omega) (by decide) dX5_meanWater_29 (fun hc29 => ?_) (fun hc29 => ?_)
        | refine k_icmp_ge C (tgt := 61) (by decide) dX5_meanWater_29 (fun hc29 => ?_) (fun hc29 => ?_)
        · skip
          refine k_iload_n C (f := 2) (i := 2) (p := 2) rfl rfl dX5_meanWater_61 ?_
          refine k_i2d C dX5_meanWater_62 ?_
          refine k_iload_n C (f := 1) (i := 1) (p := 1) rfl rfl dX5_meanWater_63 ?_
          refine k_i2d C dX5_meanWater_64 ?_
          refine k_ddiv C (fp_ddiv (by have z := sp_wsumTo_b hok k (by omega); omega) (by omega) (by omega)) dX5_meanWater_65 ?_
          exact k_dret C (Nat.le_of_ble_eq_true rfl) (Nat.le_of_ble_eq_true rfl) (⟨by rw [if_neg (by first | exact hnz | omega), show k = sp_nc r by omega], rfl, rfl, rfl⟩) dX5_meanWater_66
        · skip
          refine k_aload_n C (f := 0) (i := 0) (p := 0) rfl rfl dX5_meanWater_32 ?_
          refine k_getR C f_X5_49 (L5_s (by assumption)) (fun _ _ _ => rfl) (L5_2 (by assumption)) dX5_meanWater_33 ?_
          refine k_iload_n C (f := 3) (i := 3) (p := 3) rfl rfl dX5_meanWater_36 ?_
          refine k_callVp C s_X5_184 h_X0_isLiving (L0_s (by assumption)) rfl (ct_X0_isLiving hl hr (by omega)) rfl rfl (Nat.le_of_ble_eq_true rfl) ⟨Nat.le_of_ble_eq_true rfl, Nat.le_of_ble_eq_true rfl⟩ ⟨Nat.le_of_ble_eq_true rfl, Nat.le_of_ble_eq_true rfl⟩ ⟨rfl, rfl⟩ dX5_meanWater_37 ?_
          refine k_ifb_eq C (tgt := 55) (by decide) dX5_meanWater_40 (fun hc40 => ?_) (fun hc40 => ?_)
          · skip
            refine k_iinc C (i := 3) (p := 3) (lv := [(3, _), (0, _), (1, _), (2, _)]) (Nat.le_of_ble_eq_true rfl) rfl (by first | exact am_inc1 _ | rfl) rfl dX5_meanWater_55 ?_
            refine k_goto C (tgt := 18) (by decide) dX5_meanWater_58 ?_
            refine k_sub [1, 2, 3, 0] rfl ?_
            first
            | exact ih18 (k + 1) _ (by omega) (by rw [sp_wsumTo_f (fun z => hc40 ⟨by omega, z⟩)]) (by omega)
            | exact ih18 (k + 1) _ (by omega) (by rw [sp_wsumTo_t hc40.2]; obtain ⟨t, y, -, h4, h5, h6⟩ := RK_tk hok k (by omega); rw [h4, nI_clamp (by omega), nI_add]) (by omega)
          · skip
            refine k_iload_n C (f := 2) (i := 2) (p := 2) rfl rfl dX5_meanWater_43 ?_
            refine k_aload_n C (f := 0) (i := 0) (p := 0) rfl rfl dX5_meanWater_44 ?_
            refine k_getR C f_X5_49 (L5_s (by assumption)) (fun _ _ _ => rfl) (L5_2 (by assumption)) dX5_meanWater_45 ?_
            refine k_getR C f_X5_193 (L0_s (by assumption)) (fun _ _ _ => rfl) (L0_6 (by assumption)) dX5_meanWater_48 ?_
            refine k_iload_n C (f := 3) (i := 3) (p := 3) rfl rfl dX5_meanWater_51 ?_
            refine k_iald C (A0_6 (by assumption)) (by first | rfl | assumption) (by omega) (by decide) (by first | exact CRa_6 (by assumption) (by omega) | assumption | rfl) dX5_meanWater_52 ?_
            refine k_iadd C dX5_meanWater_53 ?_
            refine k_istore_n C (f := 2) (i := 2) (lv := [(2, _), (0, _), (1, _), (3, _)]) rfl (Nat.le_of_ble_eq_true rfl) rfl dX5_meanWater_54 ?_
            refine k_iinc C (i := 3) (p := 3) (lv := [(3, _), (2, _), (0, _), (1, _)]) (Nat.le_of_ble_eq_true rfl) rfl (by first | exact am_inc1 _ | rfl) rfl dX5_meanWater_55 ?_
            refine k_goto C (tgt := 18) (by decide) dX5_meanWater_58 ?_
            refine k_sub [2, 3, 1, 0] rfl ?_
            first
            | exact ih18 (k + 1) _ (by omega) (by rw [sp_wsumTo_f (fun z => hc40 ⟨by omega, z⟩)]) (by omega)
            | exact ih18 (k + 1) _ (by omega) (by rw [sp_wsumTo_t hc40.2]; obtain ⟨t, y, -, h4, h5, h6⟩ := RK_tk hok k (by omega); rw [h4, nI_clamp (by omega), nI_add]) (by omega)
    refine k_sub [3, 2, 1, 0] rfl ?_
    exact loop18 (sp_nc r + 1) 0 (nI 0) (Nat.zero_le _) rfl (by omega)
  · skip
    refine k_dconst0 C dX5_meanWater_12 ?_
    exact k_dret C (Nat.le_of_ble_eq_true rfl) (Nat.le_of_ble_eq_true rfl) (⟨by rw [if_pos ((nI_eq (b := 0) (by omega) (by decide)).mp hc9)], rfl, rfl, rfl⟩) dX5_meanWater_13
set_option maxHeartbeats 4000000 in
set_option maxRecDepth 100000 in
theorem ct_X5_progress {G : am_G} {Λ : am_L} {I : am_I} {J : am_J} {x : Nat} {r : Nat → Int32} {L km : Nat} (hx : RouLay Λ x) (hr : CarRel I (x + 34) (x + 35) (x + 24) r) (hL : r 0 = nI L) (hk : r 1 = nI km) (hL1 : 0 < L) (hL9 : L ≤ 999) (hkL : km ≤ L) : am_Ct G yX5_progress cX5_progress 1 (some .float) { frames := 0, cells := 0, slots := 0, locals := 0 } [.ref x] Λ I J (am_pure (.float (FP.fdiv (FP.i2f (nI km)) (FP.i2f (nI L)))) Λ I J) am_never := by
  refine am_ct_of (own := RX5) rfl (by decide) (Nat.le_of_ble_eq_true rfl) (fun X C => ?_)
  change am_K G X { frames := 0, cells := 0, slots := 0, locals := 0 } 1 Λ I J 0 0 0 [(0, .ref x)] []
  have hl := L5_n hx
  have hp := L5_p hx
  have hpr := CR_p hr
  have hnc := PR_c hpr
  have hnw := PR_w hpr
  have hnl := CR_l hr
  refine k_aload_n C (f := 0) (i := 0) (p := 0) rfl rfl dX5_progress_0 ?_
  refine k_getR C f_X5_49 (L5_s (by assumption)) (fun _ _ _ => rfl) (L5_2 (by assumption)) dX5_progress_1 ?_
  refine k_getR C f_X5_37 (L0_s (by assumption)) (fun _ _ _ => rfl) (L0_0 (by assumption)) dX5_progress_4 ?_
  refine k_getI C f_X5_115 (L3_s (by assumption)) (fun _ _ _ => rfl) ((PR_0 hpr).trans hL) dX5_progress_7 ?_
  first
  | refine k_ifb_ne C (tgt := 15) (by decide) dX5_progress_10 (fun hc10 => ?_) (fun hc10 => ?_)
  | refine k_if_ne C (tgt := 15) (by decide) dX5_progress_10 (fun hc10 => ?_) (fun hc10 => ?_)
  · skip
    refine k_aload_n C (f := 0) (i := 0) (p := 0) rfl rfl dX5_progress_15 ?_
    refine k_getR C f_X5_49 (L5_s (by assumption)) (fun _ _ _ => rfl) (L5_2 (by assumption)) dX5_progress_16 ?_
    refine k_getI C f_X5_116 (L0_s (by assumption)) (fun _ _ _ => rfl) ((CR_1 hr).trans hk) dX5_progress_19 ?_
    refine k_i2f C dX5_progress_22 ?_
    refine k_aload_n C (f := 0) (i := 0) (p := 0) rfl rfl dX5_progress_23 ?_
    refine k_getR C f_X5_49 (L5_s (by assumption)) (fun _ _ _ => rfl) (L5_2 (by assumption)) dX5_progress_24 ?_
    refine k_getR C f_X5_37 (L0_s (by assumption)) (fun _ _ _ => rfl) (L0_0 (by assumption)) dX5_progress_27 ?_
    refine k_getI C f_X5_115 (L3_s (by assumption)) (fun _ _ _ => rfl) ((PR_0 hpr).trans hL) dX5_progress_30 ?_
    refine k_i2f C dX5_progress_33 ?_
    refine k_fdiv C ((fp_fdiv (by omega) (by omega) hL1).1) dX5_progress_34 ?_
    exact k_fret C (Nat.le_of_ble_eq_true rfl) (Nat.le_of_ble_eq_true rfl) (⟨rfl, rfl, rfl, rfl⟩) dX5_progress_35
  · skip
    exact absurd hc10 (nI_ne0 hL1 (by omega))
