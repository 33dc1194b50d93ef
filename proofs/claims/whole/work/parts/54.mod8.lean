/-! ===== the model: what it reads ===== -/
theorem md_cn_all : ∀ si : Nat, si < 7 → 1 ≤ si → am_slen.getD si 0 ≤ 5 ∧ ∀ k : Nat, k < am_slen.getD si 0 → 97 ≤ am_cn si k ∧ am_cn si k ≤ 122 := by decide +kernel
def md_own (si : Nat) : Int64 := lN (md_h (fun k => am_cn si k - 96) (am_slen.getD si 0))
theorem lN_inj {a b : Nat} (ha : a < 2 ^ 64) (hb : b < 2 ^ 64) (h : lN a = lN b) : a = b := by
  have z : (BitVec.ofNat 64 a).toNat = (BitVec.ofNat 64 b).toNat := congrArg (fun v : Int64 => v.toBitVec.toNat) h
  rw [BitVec.toNat_ofNat, BitVec.toNat_ofNat, Nat.mod_eq_of_lt ha, Nat.mod_eq_of_lt hb] at z
  exact z
theorem MTok_isw {I : am_I} {J : am_J} {y n si : Nat} {tb : Nat → Nat} {t : sp_T} (h : MTok I J y tb n t) (h1 : 1 ≤ si) (h6 : si < 7) : (I y 14 = nI 1 ∧ J y 16 = md_own si) ↔ sp_isw tb t si = true := by
  obtain ⟨m14, -, -, -, mw, mb1, mb2, -⟩ := h
  obtain ⟨c1, c2⟩ := md_cn_all si h6 h1
  rw [sp_isw_iff, m14, nI_eq (by omega) (by decide)]
  have pw : (27 : Nat) ^ 8 < 2 ^ 64 := by decide
  constructor
  · rintro ⟨e1, e2⟩
    obtain ⟨w1, w2⟩ := mw e1
    rw [w1] at e2
    have b1 : md_h (md_lt tb t.2.1) (min 8 (t.2.2.1 - t.2.1)) < 2 ^ 64 := by
      refine Nat.lt_of_lt_of_le (md_h_b _ (fun k hk => ?_)) (Nat.le_trans (Nat.pow_le_pow_right (by decide) (Nat.min_le_left 8 _)) (Nat.le_of_lt pw))
      have := w2 (t.2.1 + k) (by omega) (by omega)
      unfold md_lt
      omega
    have b2 : md_h (fun k => am_cn si k - 96) (am_slen.getD si 0) < 2 ^ 64 := by
      refine Nat.lt_of_lt_of_le (md_h_b _ (fun k hk => ?_)) (Nat.le_trans (Nat.pow_le_pow_right (by decide) (show am_slen.getD si 0 ≤ 8 by omega)) (Nat.le_of_lt pw))
      have := c2 k hk
      omega
    obtain ⟨q1, q2⟩ := md_h_inj _ _ (fun k hk => by
      have := w2 (t.2.1 + k) (by omega) (by omega)
      unfold md_lt
      omega) (fun k hk => by
      have := c2 k hk
      omega) (lN_inj b1 b2 e2)
    refine ⟨e1, by omega, fun k hk => ?_⟩
    have a1 := q2 k (by omega)
    have a2 := w2 (t.2.1 + k) (by omega) (by omega)
    have a3 := c2 k hk
    rw [(am_cn_ok (by omega) hk).1]
    unfold md_lt at a1
    congr 1
    omega
  · rintro ⟨e1, e2, e3⟩
    obtain ⟨w1, w2⟩ := mw e1
    refine ⟨e1, ?_⟩
    rw [w1]
    unfold md_own
    rw [e2, show min 8 (am_slen.getD si 0) = am_slen.getD si 0 by omega]
    congr 1
    have hh : ∀ m : Nat, m ≤ am_slen.getD si 0 → md_h (md_lt tb t.2.1) m = md_h (fun k => am_cn si k - 96) m := by
      intro m
      induction m with
      | zero => intro _; rfl
      | succ m ih =>
        intro hm
        have z := e3 m (by omega)
        have z2 := am_cn_ok (i := si) (by omega) (show m < am_slen.getD si 0 by omega)
        rw [z2.1] at z
        have a2 := w2 (t.2.1 + m) (by omega) (by omega)
        have z3 := (nI_eq (by omega) (by omega)).mp z
        simp only [md_h, ih (by omega), md_lt, z3]
    exact hh _ (Nat.le_refl _)
def MP (I : am_I) (J : am_J) (y : Nat) (tb : Nat → Nat) (n : Nat) : Except Nat sp_S → Prop
  | .ok s => I y 17 = nI 0 ∧ I y 9 = -1 ∧ MTok I J y tb n s.1 ∧ MRow I (y + 2) 0 s.2 ∧ RowB s.2 ∧ ∃ L : Nat, s.2 0 = nI L ∧ L ≤ 999
  | .error x => I y 17 = nI 1 ∧ I y 9 = nI x ∧ x ≤ n ∧ ∃ r : Nat → Int32, MRow I (y + 2) 0 r ∧ RowB r
theorem MP_row {I : am_I} {J : am_J} {y n : Nat} {tb : Nat → Nat} {e : Except Nat sp_S} (h : MP I J y tb n e) : ∃ r : Nat → Int32, MRow I (y + 2) 0 r ∧ RowB r ∧ ∀ s : sp_S, e = .ok s → r = s.2 := by
  cases e with
  | ok s => exact ⟨s.2, h.2.2.2.1, h.2.2.2.2.1, fun s' e => by cases e; rfl⟩
  | error x =>
    obtain ⟨r, h1, h2⟩ := h.2.2.2
    exact ⟨r, h1, h2, fun s' e => by cases e⟩
theorem MP_17 {I : am_I} {J : am_J} {y n : Nat} {tb : Nat → Nat} {e : Except Nat sp_S} (h : MP I J y tb n e) : I y 17 = am_b (¬ sp_ok e = true) := by
  cases e with
  | ok s => exact h.1.trans (am_bf (fun z => z rfl))
  | error x => exact h.1.trans (am_bt (fun z => by cases z))
/-- the road on -/
def sp_tk (tb : Nat → Nat) (n : Nat) (b : Int32) (e : Except Nat sp_S) : Except Nat sp_S := sp_bd e (fun s => if b = 0 then .error s.1.2.1 else .ok (sp_nx tb n s.1, s.2))
def sp_tnS (tb : Nat → Nat) (n lo hi : Nat) (e : Except Nat sp_S) : Except Nat sp_S := sp_bd e (fun s => sp_bd (sp_tn tb n lo hi s.1) (fun a => .ok (a.2, s.2)))
def sp_tz (tb : Nat → Nat) (n lo hi : Nat) (e : Except Nat sp_S) : Nat := match e with
  | .ok s => if s.1.1 = 2 ∧ lo ≤ s.1.2.2.2 ∧ s.1.2.2.2 ≤ hi then s.1.2.2.2 else lo
  | .error _ => lo
def sp_tsS (tb : Nat → Nat) (n : Nat) (e : Except Nat sp_S) : Except Nat sp_S := sp_bd e (fun s => sp_bd (sp_ts tb n s.1) (fun d => .ok (d, s.2)))
theorem sp_tz_b {tb : Nat → Nat} {n lo hi : Nat} {e : Except Nat sp_S} (h : lo ≤ 999) (h2 : hi ≤ 999) : sp_tz tb n lo hi e ≤ 999 := by
  unfold sp_tz
  split
  · split <;> omega
  · exact h
theorem sp_tk1 {tb : Nat → Nat} {n : Nat} {e : Except Nat sp_S} : sp_tk tb n (nI 1) e = sp_bd e (fun s => .ok (sp_nx tb n s.1, s.2)) := by
  cases e with
  | ok s =>
    show (if nI 1 = 0 then (Except.error s.1.2.1 : Except Nat sp_S) else .ok (sp_nx tb n s.1, s.2)) = _
    rw [if_neg (by decide)]
    rfl
  | error x => rfl
theorem sp_tk0 {tb : Nat → Nat} {n : Nat} {e : Except Nat sp_S} : sp_tk tb n (nI 0) e = sp_bd e (fun s => .error s.1.2.1) := by
  cases e with
  | ok s =>
    show (if nI 0 = 0 then (Except.error s.1.2.1 : Except Nat sp_S) else .ok (sp_nx tb n s.1, s.2)) = _
    rw [if_pos nI_0]
    rfl
  | error x => rfl
theorem sp_tkS1 {I : am_I} {J : am_J} {y n : Nat} {tb : Nat → Nat} {e : Except Nat sp_S} (h : MP I J y tb n e) (hk : I y 14 = nI 3) : sp_tk tb n (nI 1) e = sp_tsS tb n e := by
  rw [sp_tk1]
  cases e with
  | ok s =>
    have z := h.2.2.1.1
    have zb := h.2.2.1.2.2.2.2.2.1
    rw [hk] at z
    have z2 := (nI_eq (by decide) (by omega)).mp z
    show _ = sp_bd (sp_ts tb n s.1) _
    rw [sp_ts_t z2.symm]
    rfl
  | error x => rfl
theorem sp_tkS0 {I : am_I} {J : am_J} {y n : Nat} {tb : Nat → Nat} {e : Except Nat sp_S} (h : MP I J y tb n e) (hk : ¬ I y 14 = nI 3) : sp_tk tb n (nI 0) e = sp_tsS tb n e := by
  rw [sp_tk0]
  cases e with
  | ok s =>
    have z := h.2.2.1.1
    show _ = sp_bd (sp_ts tb n s.1) _
    rw [sp_ts_f (fun q => hk (by rw [z, q]))]
    rfl
  | error x => rfl
set_option maxHeartbeats 4000000 in
set_option maxRecDepth 100000 in
theorem ct_X6_isWord {G : am_G} {Λ : am_L} {I : am_I} {J : am_J} {y : Nat} {own : Int64}  (hx : ModLay Λ y) : am_Ct G yX6_isWord cX6_isWord 3 (some .boolean) { frames := 0, cells := 0, slots := 0, locals := 0 } [.ref y, .long own] Λ I J (am_pure (.int (am_b (I y 14 = nI 1 ∧ J y 16 = own))) Λ I J) am_never := by
  refine am_ct_of (own := RX6) rfl (by decide) (Nat.le_of_ble_eq_true rfl) (fun X C => ?_)
  change am_K G X { frames := 0, cells := 0, slots := 0, locals := 0 } 3 Λ I J 0 0 0 [(0, .ref y), (1, .long own)] []
  refine k_aload_n C (f := 0) (i := 0) (p := 0) rfl rfl dX6_isWord_0 ?_
  refine k_getI C f_X6_164 (L6_s (by assumption)) (fun _ _ _ => rfl) (by first | assumption | rfl) dX6_isWord_1 ?_
  refine k_iconst C ic_1 dX6_isWord_4 ?_
  refine k_icmp_ne C (tgt := 21) (by decide) dX6_isWord_5 (fun hc5 => ?_) (fun hc5 => ?_)
  · skip
    refine k_iconst C ic_0 dX6_isWord_21 ?_
    exact k_zret C (by first | rfl | exact am_bz) (Nat.le_of_ble_eq_true rfl) (Nat.le_of_ble_eq_true rfl) (⟨congrArg (fun z => some (Value.int z)) (am_bf (by first | exact ⟨hc5, md_cmp0.mp hc14⟩ | exact (fun z => hc5 z.1) | exact (fun z => hc14 (md_cmp0.mpr z.2)))), rfl, rfl, rfl⟩) dX6_isWord_22
  · skip
    refine k_aload_n C (f := 0) (i := 0) (p := 0) rfl rfl dX6_isWord_8 ?_
    refine k_getJ C f_X6_160 (L6_s (by assumption)) (fun _ _ _ => rfl) (rfl) dX6_isWord_9 ?_
    refine k_lload_n C (f := 1) (i := 1) (p := 1) rfl rfl dX6_isWord_12 ?_
    refine k_lcmp C dX6_isWord_13 ?_
    refine k_if_ne C (tgt := 21) (by decide) dX6_isWord_14 (fun hc14 => ?_) (fun hc14 => ?_)
    · skip
      refine k_iconst C ic_0 dX6_isWord_21 ?_
      exact k_zret C (by first | rfl | exact am_bz) (Nat.le_of_ble_eq_true rfl) (Nat.le_of_ble_eq_true rfl) (⟨congrArg (fun z => some (Value.int z)) (am_bf (by first | exact ⟨hc5, md_cmp0.mp hc14⟩ | exact (fun z => hc5 z.1) | exact (fun z => hc14 (md_cmp0.mpr z.2)))), rfl, rfl, rfl⟩) dX6_isWord_22
    · skip
      refine k_iconst C ic_1 dX6_isWord_17 ?_
      refine k_goto C (tgt := 22) (by decide) dX6_isWord_18 ?_
      exact k_zret C (by first | rfl | exact am_bz) (Nat.le_of_ble_eq_true rfl) (Nat.le_of_ble_eq_true rfl) (⟨congrArg (fun z => some (Value.int z)) (am_bt (by first | exact ⟨hc5, md_cmp0.mp hc14⟩ | exact (fun z => hc5 z.1) | exact (fun z => hc14 (md_cmp0.mpr z.2)))), rfl, rfl, rfl⟩) dX6_isWord_22
set_option maxHeartbeats 4000000 in
set_option maxRecDepth 100000 in
theorem ctA_X6_takes {G : am_G} {Λ : am_L} {I : am_I} {J : am_J} {y n : Nat} {tb : Nat → Nat} {s : sp_S} {b : Int32}  (hx : ModLay Λ y) (ht : MTxt I y tb n) (hP : MP I J y tb n (.ok s)) : am_Ct G yX6_takes cX6_takes 2 (some .boolean) { frames := 3, cells := 0, slots := 0, locals := 61 } [.ref y, .int b] Λ I J (am_gj Λ (fun v I' J' => v = some (.int (am_b (sp_ok (sp_tk tb n b (.ok s)) = true))) ∧ MP I' J' y tb n (sp_tk tb n b (.ok s)) ∧ MPf y I I' ∧ JFr y J J')) am_never := by
  refine am_ct_of (own := RX6) rfl (by decide) (Nat.le_of_ble_eq_true rfl) (fun X C => ?_)
  change am_K G X { frames := 3, cells := 0, slots := 0, locals := 61 } 2 Λ I J 0 0 0 [(0, .ref y), (1, .int b)] []
  obtain ⟨p17, p9, pT, pm, pB⟩ := hP
  have pT2 := pT
  obtain ⟨m14, m13, m12, m15, mw, mb1, mb2, mb3, mb4⟩ := pT2
  have hn7 := ht.2.1
  refine k_aload_n C (f := 0) (i := 0) (p := 0) rfl rfl dX6_takes_0 ?_
  refine k_getI C f_X6_184 (L6_s (by assumption)) (fun _ _ _ => rfl) (p17) dX6_takes_1 ?_
  refine k_if_eq C (tgt := 9) (by decide) dX6_takes_4 (fun hc4 => ?_) (fun hc4 => ?_)
  · skip
    refine k_iload_n C (f := 1) (i := 1) (p := 1) rfl rfl dX6_takes_9 ?_
    refine k_if_ne C (tgt := 28) (by decide) dX6_takes_10 (fun hc10 => ?_) (fun hc10 => ?_)
    · skip
      refine k_aload_n C (f := 0) (i := 0) (p := 0) rfl rfl dX6_takes_28 ?_
      refine k_callVj C s_X6_188 h_X6_next (L6_s (by assumption)) rfl (ct_X6_next (k := s.1.2.2.1) hx ht mb3 m12) rfl rfl (Nat.le_of_ble_eq_true rfl) ⟨Nat.le_of_ble_eq_true rfl, Nat.le_of_ble_eq_true rfl⟩ ⟨Nat.le_of_ble_eq_true rfl, Nat.le_of_ble_eq_true rfl⟩ ⟨rfl, rfl⟩ dX6_takes_29 ?_
      intro v I3 J3 hv
      obtain ⟨rfl, qT, qf, qJ⟩ := hv
      refine k_iconst C ic_1 dX6_takes_32 ?_
      exact k_zret C (rfl) (Nat.le_of_ble_eq_true rfl) (Nat.le_of_ble_eq_true rfl) (⟨rfl, ⟨congrArg (fun z => some (Value.int z)) (am_bt (by rw [show sp_tk tb n b (.ok s) = .ok (sp_nx tb n s.1, s.2) from if_neg hc10]; rfl)), by
          rw [show sp_tk tb n b (.ok s) = .ok (sp_nx tb n s.1, s.2) from if_neg hc10]
          exact ⟨(qf y 17 (by omega)).trans p17, (qf y 9 (by omega)).trans p9, qT, MR_ne pm (funext (fun K => qf _ K (by omega))), pB⟩, qf.mp, qJ⟩⟩) dX6_takes_33
    · skip
      refine k_aload_n C (f := 0) (i := 0) (p := 0) rfl rfl dX6_takes_13 ?_
      refine k_iconst C ic_1 dX6_takes_14 ?_
      refine k_putZ C f_X6_184 (L6_s (by assumption)) rfl rfl (by first | exact Or.inl rfl | exact Or.inr rfl | exact am_b01) dX6_takes_15 ?_
      refine k_aload_n C (f := 0) (i := 0) (p := 0) rfl rfl dX6_takes_18 ?_
      refine k_aload_n C (f := 0) (i := 0) (p := 0) rfl rfl dX6_takes_19 ?_
      refine k_getI C f_X6_154 (L6_s (by assumption)) (fun _ _ _ => rfl) (Eq.trans (am_up_n2 (by omega)) m13) dX6_takes_20 ?_
      refine k_putI C f_X6_32 (L6_s (by assumption)) rfl rfl dX6_takes_23 ?_
      refine k_iconst C ic_0 dX6_takes_26 ?_
      exact k_zret C (rfl) (Nat.le_of_ble_eq_true rfl) (Nat.le_of_ble_eq_true rfl) (⟨rfl, ⟨congrArg (fun z => some (Value.int z)) (am_bf (by rw [show sp_tk tb n b (.ok s) = .error s.1.2.1 from if_pos hc10]; exact fun z => by cases z)), by
          rw [show sp_tk tb n b (.ok s) = .error s.1.2.1 from if_pos hc10]
          exact ⟨by rw [am_up_n2 (by omega), am_up_eq], am_up_eq, by omega, s.2, MR_ne (MR_ne pm (am_up_ne (by omega))) (am_up_ne (by omega)), pB.1⟩, (MPf.rf.up (by omega)).up (by omega), JFr.rf⟩⟩) dX6_takes_27
  · skip
    exact absurd nI_0 hc4
set_option maxHeartbeats 4000000 in
set_option maxRecDepth 100000 in
theorem ctB_X6_takes {G : am_G} {Λ : am_L} {I : am_I} {J : am_J} {y n : Nat} {tb : Nat → Nat} {x : Nat} {b : Int32}  (hx : ModLay Λ y) (ht : MTxt I y tb n) (hP : MP I J y tb n (.error x)) : am_Ct G yX6_takes cX6_takes 2 (some .boolean) { frames := 3, cells := 0, slots := 0, locals := 61 } [.ref y, .int b] Λ I J (am_gj Λ (fun v I' J' => v = some (.int (am_b (sp_ok (sp_tk tb n b (.error x)) = true))) ∧ MP I' J' y tb n (sp_tk tb n b (.error x)) ∧ MPf y I I' ∧ JFr y J J')) am_never := by
  refine am_ct_of (own := RX6) rfl (by decide) (Nat.le_of_ble_eq_true rfl) (fun X C => ?_)
  change am_K G X { frames := 3, cells := 0, slots := 0, locals := 61 } 2 Λ I J 0 0 0 [(0, .ref y), (1, .int b)] []
  have hP2 := hP
  obtain ⟨p17, p9, pr⟩ := hP2
  refine k_aload_n C (f := 0) (i := 0) (p := 0) rfl rfl dX6_takes_0 ?_
  refine k_getI C f_X6_184 (L6_s (by assumption)) (fun _ _ _ => rfl) (p17) dX6_takes_1 ?_
  refine k_if_eq C (tgt := 9) (by decide) dX6_takes_4 (fun hc4 => ?_) (fun hc4 => ?_)
  · skip
    exact absurd hc4 (by decide)
  · skip
    refine k_iconst C ic_0 dX6_takes_7 ?_
    exact k_zret C (rfl) (Nat.le_of_ble_eq_true rfl) (Nat.le_of_ble_eq_true rfl) (⟨rfl, ⟨congrArg (fun z => some (Value.int z)) (am_bf (fun z => by cases z)), hP, MPf.rf, JFr.rf⟩⟩) dX6_takes_8
theorem ct_X6_takes {G : am_G} {Λ : am_L} {I : am_I} {J : am_J} {y n : Nat} {tb : Nat → Nat} {e : Except Nat sp_S} {b : Int32}  (hx : ModLay Λ y) (ht : MTxt I y tb n) (hP : MP I J y tb n e) : am_Ct G yX6_takes cX6_takes 2 (some .boolean) { frames := 3, cells := 0, slots := 0, locals := 61 } [.ref y, .int b] Λ I J (am_gj Λ (fun v I' J' => v = some (.int (am_b (sp_ok (sp_tk tb n b e) = true))) ∧ MP I' J' y tb n (sp_tk tb n b e) ∧ MPf y I I' ∧ JFr y J J')) am_never := by
  cases e with
  | ok s => exact ctA_X6_takes hx ht hP
  | error x => exact ctB_X6_takes hx ht hP
set_option maxHeartbeats 4000000 in
set_option maxRecDepth 100000 in
theorem ctA_X6_takesNumber {G : am_G} {Λ : am_L} {I : am_I} {J : am_J} {y n lo hi : Nat} {tb : Nat → Nat} {s : sp_S}  (hx : ModLay Λ y) (ht : MTxt I y tb n) (hP : MP I J y tb n (.ok s)) (hb : lo ≤ 999 ∧ hi ≤ 999) : am_Ct G yX6_takesNumber cX6_takesNumber 4 (some .int) { frames := 4, cells := 0, slots := 0, locals := 82 } [.ref y, .int (nI lo), .int (nI hi)] Λ I J (am_gj Λ (fun v I' J' => v = some (.int (nI (sp_tz tb n lo hi (.ok s)))) ∧ MP I' J' y tb n (sp_tnS tb n lo hi (.ok s)) ∧ MPf y I I' ∧ JFr y J J')) am_never := by
  refine am_ct_of (own := RX6) rfl (by decide) (Nat.le_of_ble_eq_true rfl) (fun X C => ?_)
  change am_K G X { frames := 4, cells := 0, slots := 0, locals := 82 } 4 Λ I J 0 0 0 [(0, .ref y), (1, .int (nI lo)), (2, .int (nI hi))] []
  obtain ⟨p17, p9, pT, pm, pB⟩ := id hP
  obtain ⟨m14, m13, m12, m15, mw, mb1, mb2, mb3, mb4⟩ := pT
  refine k_aload_n C (f := 0) (i := 0) (p := 0) rfl rfl dX6_takesNumber_0 ?_
  refine k_getI C f_X6_157 (L6_s (by assumption)) (fun _ _ _ => rfl) (m15) dX6_takesNumber_1 ?_
  refine k_istore_n C (f := 3) (i := 3) (lv := [(3, _), (0, _), (1, _), (2, _)]) rfl (Nat.le_of_ble_eq_true rfl) rfl dX6_takesNumber_4 ?_
  refine k_aload_n C (f := 0) (i := 0) (p := 1) rfl rfl dX6_takesNumber_5 ?_
  refine k_aload_n C (f := 0) (i := 0) (p := 1) rfl rfl dX6_takesNumber_6 ?_
  refine k_getI C f_X6_164 (L6_s (by assumption)) (fun _ _ _ => rfl) (m14) dX6_takesNumber_7 ?_
  refine k_iconst C ic_2 dX6_takesNumber_10 ?_
  first
  | refine k_icmpN_ne C (tgt := 27) (by omega) (by omega) (by decide) dX6_takesNumber_11 (fun hc11 => ?_) (fun hc11 => ?_)
  | refine k_icmp_ne C (tgt := 27) (by decide) dX6_takesNumber_11 (fun hc11 => ?_) (fun hc11 => ?_)
  · skip
    refine k_iconst C ic_0 dX6_takesNumber_27 ?_
    refine k_callVj C s_X6_191 h_X6_takes (L6_s (by assumption)) rfl (ct_X6_takes hx ht hP) rfl rfl (Nat.le_of_ble_eq_true rfl) ⟨Nat.le_of_ble_eq_true rfl, Nat.le_of_ble_eq_true rfl⟩ ⟨Nat.le_of_ble_eq_true rfl, Nat.le_of_ble_eq_true rfl⟩ ⟨rfl, rfl⟩ dX6_takesNumber_28 ?_
    intro v I3 J3 hv
    obtain ⟨rfl, hP3, qf, qJ⟩ := hv
    
    refine k_ifb_eq C (tgt := 36) (by decide) dX6_takesNumber_31 (fun hc31 => ?_) (fun hc31 => ?_)
    · skip
      refine k_iload_n C (f := 1) (i := 1) (p := 2) rfl rfl dX6_takesNumber_36 ?_
      exact k_iret C (Nat.le_of_ble_eq_true rfl) (Nat.le_of_ble_eq_true rfl) (⟨rfl, by
          first
          | exact absurd (show sp_ok (sp_tk tb n (nI 1) (.ok s)) = true by rw [sp_tk1]; rfl) hc31
          | (have e2 : ¬ (s.1.1 = 2 ∧ lo ≤ s.1.2.2.2 ∧ s.1.2.2.2 ≤ hi) := by
               intro z
               first
               | (exact hc20 ⟨(nI_leI (by omega) (by omega)).mpr z.2.1, (nI_leI (by omega) (by omega)).mpr z.2.2⟩)
               | (have z1 := z.1; omega)
             have q1 : sp_tnS tb n lo hi (.ok s) = sp_tk tb n (nI 0) (.ok s) := by
               rw [sp_tk0]
               show sp_bd (sp_tn tb n lo hi s.1) _ = _
               rw [sp_tn_f e2]
               rfl
             refine ⟨?_, by rw [q1]; exact hP3, qf, qJ⟩
             exact congrArg (fun z => some (Value.int (nI z))) (if_neg e2).symm)⟩) dX6_takesNumber_37
    · skip
      refine k_iload_n C (f := 3) (i := 3) (p := 0) rfl rfl dX6_takesNumber_34 ?_
      exact k_iret C (Nat.le_of_ble_eq_true rfl) (Nat.le_of_ble_eq_true rfl) (⟨rfl, by
          first
          | exact absurd hc31 (by rw [sp_tk0]; exact fun z => by cases z)
          | (have e2 : s.1.1 = 2 := by omega
             have e3 := (nI_leI (by omega) (by omega)).mp hc20.1
             have e4 := (nI_leI (by omega) (by omega)).mp hc20.2
             have q1 : sp_tnS tb n lo hi (.ok s) = sp_tk tb n (nI 1) (.ok s) := by
               rw [sp_tk1]
               show sp_bd (sp_tn tb n lo hi s.1) _ = _
               rw [sp_tn_t ⟨e2, e3, e4⟩]
               rfl
             refine ⟨?_, by rw [q1]; exact hP3, qf, qJ⟩
             exact congrArg (fun z => some (Value.int (nI z))) (if_pos ⟨e2, e3, e4⟩).symm)⟩) dX6_takesNumber_35
  · skip
    refine k_iload_n C (f := 3) (i := 3) (p := 0) rfl rfl dX6_takesNumber_14 ?_
    refine k_iload_n C (f := 1) (i := 1) (p := 2) rfl rfl dX6_takesNumber_15 ?_
    refine k_iload_n C (f := 2) (i := 2) (p := 3) rfl rfl dX6_takesNumber_16 ?_
    refine k_callSp C s_X6_67 h_X6_in (ct_X6_in ) rfl rfl (Nat.le_of_ble_eq_true rfl) ⟨Nat.le_of_ble_eq_true rfl, Nat.le_of_ble_eq_true rfl⟩ ⟨Nat.le_of_ble_eq_true rfl, Nat.le_of_ble_eq_true rfl⟩ ⟨rfl, rfl⟩ dX6_takesNumber_17 ?_
    refine k_ifb_eq C (tgt := 27) (by decide) dX6_takesNumber_20 (fun hc20 => ?_) (fun hc20 => ?_)
    · skip
      refine k_iconst C ic_0 dX6_takesNumber_27 ?_
      refine k_callVj C s_X6_191 h_X6_takes (L6_s (by assumption)) rfl (ct_X6_takes hx ht hP) rfl rfl (Nat.le_of_ble_eq_true rfl) ⟨Nat.le_of_ble_eq_true rfl, Nat.le_of_ble_eq_true rfl⟩ ⟨Nat.le_of_ble_eq_true rfl, Nat.le_of_ble_eq_true rfl⟩ ⟨rfl, rfl⟩ dX6_takesNumber_28 ?_
      intro v I3 J3 hv
      obtain ⟨rfl, hP3, qf, qJ⟩ := hv
      
      refine k_ifb_eq C (tgt := 36) (by decide) dX6_takesNumber_31 (fun hc31 => ?_) (fun hc31 => ?_)
      · skip
        refine k_iload_n C (f := 1) (i := 1) (p := 2) rfl rfl dX6_takesNumber_36 ?_
        exact k_iret C (Nat.le_of_ble_eq_true rfl) (Nat.le_of_ble_eq_true rfl) (⟨rfl, by
            first
            | exact absurd (show sp_ok (sp_tk tb n (nI 1) (.ok s)) = true by rw [sp_tk1]; rfl) hc31
            | (have e2 : ¬ (s.1.1 = 2 ∧ lo ≤ s.1.2.2.2 ∧ s.1.2.2.2 ≤ hi) := by
                 intro z
                 first
                 | (exact hc20 ⟨(nI_leI (by omega) (by omega)).mpr z.2.1, (nI_leI (by omega) (by omega)).mpr z.2.2⟩)
                 | (have z1 := z.1; omega)
               have q1 : sp_tnS tb n lo hi (.ok s) = sp_tk tb n (nI 0) (.ok s) := by
                 rw [sp_tk0]
                 show sp_bd (sp_tn tb n lo hi s.1) _ = _
                 rw [sp_tn_f e2]
                 rfl
               refine ⟨?_, by rw [q1]; exact hP3, qf, qJ⟩
               exact congrArg (fun z => some (Value.int (nI z))) (if_neg e2).symm)⟩) dX6_takesNumber_37
      · skip
        refine k_iload_n C (f := 3) (i := 3) (p := 0) rfl rfl dX6_takesNumber_34 ?_
        exact k_iret C (Nat.le_of_ble_eq_true rfl) (Nat.le_of_ble_eq_true rfl) (⟨rfl, by
            first
            | exact absurd hc31 (by rw [sp_tk0]; exact fun z => by cases z)
            | (have e2 : s.1.1 = 2 := by omega
               have e3 := (nI_leI (by omega) (by omega)).mp hc20.1
               have e4 := (nI_leI (by omega) (by omega)).mp hc20.2
               have q1 : sp_tnS tb n lo hi (.ok s) = sp_tk tb n (nI 1) (.ok s) := by
                 rw [sp_tk1]
                 show sp_bd (sp_tn tb n lo hi s.1) _ = _
                 rw [sp_tn_t ⟨e2, e3, e4⟩]
                 rfl
               refine ⟨?_, by rw [q1]; exact hP3, qf, qJ⟩
               exact congrArg (fun z => some (Value.int (nI z))) (if_pos ⟨e2, e3, e4⟩).symm)⟩) dX6_takesNumber_35
    · skip
      refine k_iconst C ic_1 dX6_takesNumber_23 ?_
      refine k_goto C (tgt := 28) (by decide) dX6_takesNumber_24 ?_
      refine k_callVj C s_X6_191 h_X6_takes (L6_s (by assumption)) rfl (ct_X6_takes hx ht hP) rfl rfl (Nat.le_of_ble_eq_true rfl) ⟨Nat.le_of_ble_eq_true rfl, Nat.le_of_ble_eq_true rfl⟩ ⟨Nat.le_of_ble_eq_true rfl, Nat.le_of_ble_eq_true rfl⟩ ⟨rfl, rfl⟩ dX6_takesNumber_28 ?_
      intro v I3 J3 hv
      obtain ⟨rfl, hP3, qf, qJ⟩ := hv
      
      refine k_ifb_eq C (tgt := 36) (by decide) dX6_takesNumber_31 (fun hc31 => ?_) (fun hc31 => ?_)
      · skip
        refine k_iload_n C (f := 1) (i := 1) (p := 2) rfl rfl dX6_takesNumber_36 ?_
        exact k_iret C (Nat.le_of_ble_eq_true rfl) (Nat.le_of_ble_eq_true rfl) (⟨rfl, by
            first
            | exact absurd (show sp_ok (sp_tk tb n (nI 1) (.ok s)) = true by rw [sp_tk1]; rfl) hc31
            | (have e2 : ¬ (s.1.1 = 2 ∧ lo ≤ s.1.2.2.2 ∧ s.1.2.2.2 ≤ hi) := by
                 intro z
                 first
                 | (exact hc20 ⟨(nI_leI (by omega) (by omega)).mpr z.2.1, (nI_leI (by omega) (by omega)).mpr z.2.2⟩)
                 | (have z1 := z.1; omega)
               have q1 : sp_tnS tb n lo hi (.ok s) = sp_tk tb n (nI 0) (.ok s) := by
                 rw [sp_tk0]
                 show sp_bd (sp_tn tb n lo hi s.1) _ = _
                 rw [sp_tn_f e2]
                 rfl
               refine ⟨?_, by rw [q1]; exact hP3, qf, qJ⟩
               exact congrArg (fun z => some (Value.int (nI z))) (if_neg e2).symm)⟩) dX6_takesNumber_37
      · skip
        refine k_iload_n C (f := 3) (i := 3) (p := 0) rfl rfl dX6_takesNumber_34 ?_
        exact k_iret C (Nat.le_of_ble_eq_true rfl) (Nat.le_of_ble_eq_true rfl) (⟨rfl, by
            first
            | exact absurd hc31 (by rw [sp_tk0]; exact fun z => by cases z)
            | (have e2 : s.1.1 = 2 := by omega
               have e3 := (nI_leI (by omega) (by omega)).mp hc20.1
               have e4 := (nI_leI (by omega) (by omega)).mp hc20.2
               have q1 : sp_tnS tb n lo hi (.ok s) = sp_tk tb n (nI 1) (.ok s) := by
                 rw [sp_tk1]
                 show sp_bd (sp_tn tb n lo hi s.1) _ = _
                 rw [sp_tn_t ⟨e2, e3, e4⟩]
                 rfl
               refine ⟨?_, by rw [q1]; exact hP3, qf, qJ⟩
               exact congrArg (fun z => some (Value.int (nI z))) (if_pos ⟨e2, e3, e4⟩).symm)⟩) dX6_takesNumber_35
set_option maxHeartbeats 4000000 in
set_option maxRecDepth 100000 in
theorem ctB_X6_takesNumber {G : am_G} {Λ : am_L} {I : am_I} {J : am_J} {y n lo hi : Nat} {tb : Nat → Nat} {x : Nat}  (hx : ModLay Λ y) (ht : MTxt I y tb n) (hP : MP I J y tb n (.error x)) (hb : lo ≤ 999 ∧ hi ≤ 999) : am_Ct G yX6_takesNumber cX6_takesNumber 4 (some .int) { frames := 4, cells := 0, slots := 0, locals := 82 } [.ref y, .int (nI lo), .int (nI hi)] Λ I J (am_gj Λ (fun v I' J' => v = some (.int (nI (sp_tz tb n lo hi (.error x)))) ∧ MP I' J' y tb n (sp_tnS tb n lo hi (.error x)) ∧ MPf y I I' ∧ JFr y J J')) am_never := by
  refine am_ct_of (own := RX6) rfl (by decide) (Nat.le_of_ble_eq_true rfl) (fun X C => ?_)
  change am_K G X { frames := 4, cells := 0, slots := 0, locals := 82 } 4 Λ I J 0 0 0 [(0, .ref y), (1, .int (nI lo)), (2, .int (nI hi))] []
  refine k_aload_n C (f := 0) (i := 0) (p := 0) rfl rfl dX6_takesNumber_0 ?_
  refine k_getI C f_X6_157 (L6_s (by assumption)) (fun _ _ _ => rfl) (by first | assumption | rfl) dX6_takesNumber_1 ?_
  refine k_istore_n C (f := 3) (i := 3) (lv := [(3, _), (0, _), (1, _), (2, _)]) rfl (Nat.le_of_ble_eq_true rfl) rfl dX6_takesNumber_4 ?_
  refine k_aload_n C (f := 0) (i := 0) (p := 1) rfl rfl dX6_takesNumber_5 ?_
  refine k_aload_n C (f := 0) (i := 0) (p := 1) rfl rfl dX6_takesNumber_6 ?_
  refine k_getI C f_X6_164 (L6_s (by assumption)) (fun _ _ _ => rfl) (by first | assumption | rfl) dX6_takesNumber_7 ?_
  refine k_iconst C ic_2 dX6_takesNumber_10 ?_
  refine k_icmp_ne C (tgt := 27) (by decide) dX6_takesNumber_11 (fun hc11 => ?_) (fun hc11 => ?_)
  · skip
    refine k_iconst C ic_0 dX6_takesNumber_27 ?_
    refine k_callVj C s_X6_191 h_X6_takes (L6_s (by assumption)) rfl (ct_X6_takes hx ht hP) rfl rfl (Nat.le_of_ble_eq_true rfl) ⟨Nat.le_of_ble_eq_true rfl, Nat.le_of_ble_eq_true rfl⟩ ⟨Nat.le_of_ble_eq_true rfl, Nat.le_of_ble_eq_true rfl⟩ ⟨rfl, rfl⟩ dX6_takesNumber_28 ?_
    intro v I3 J3 hv
    obtain ⟨rfl, hP3, qf, qJ⟩ := hv
    refine k_ifb_eq C (tgt := 36) (by decide) dX6_takesNumber_31 (fun hc31 => ?_) (fun hc31 => ?_)
    · skip
      refine k_iload_n C (f := 1) (i := 1) (p := 2) rfl rfl dX6_takesNumber_36 ?_
      exact k_iret C (Nat.le_of_ble_eq_true rfl) (Nat.le_of_ble_eq_true rfl) (⟨rfl, ⟨rfl, hP3, qf, qJ⟩⟩) dX6_takesNumber_37
    · skip
      exact absurd hc31 (fun z => by cases z)
  · skip
    refine k_iload_n C (f := 3) (i := 3) (p := 0) rfl rfl dX6_takesNumber_14 ?_
    refine k_iload_n C (f := 1) (i := 1) (p := 2) rfl rfl dX6_takesNumber_15 ?_
    refine k_iload_n C (f := 2) (i := 2) (p := 3) rfl rfl dX6_takesNumber_16 ?_
    refine k_callSp C s_X6_67 h_X6_in (ct_X6_in ) rfl rfl (Nat.le_of_ble_eq_true rfl) ⟨Nat.le_of_ble_eq_true rfl, Nat.le_of_ble_eq_true rfl⟩ ⟨Nat.le_of_ble_eq_true rfl, Nat.le_of_ble_eq_true rfl⟩ ⟨rfl, rfl⟩ dX6_takesNumber_17 ?_
    refine k_ifb_eq C (tgt := 27) (by decide) dX6_takesNumber_20 (fun hc20 => ?_) (fun hc20 => ?_)
    · skip
      refine k_iconst C ic_0 dX6_takesNumber_27 ?_
      refine k_callVj C s_X6_191 h_X6_takes (L6_s (by assumption)) rfl (ct_X6_takes hx ht hP) rfl rfl (Nat.le_of_ble_eq_true rfl) ⟨Nat.le_of_ble_eq_true rfl, Nat.le_of_ble_eq_true rfl⟩ ⟨Nat.le_of_ble_eq_true rfl, Nat.le_of_ble_eq_true rfl⟩ ⟨rfl, rfl⟩ dX6_takesNumber_28 ?_
      intro v I3 J3 hv
      obtain ⟨rfl, hP3, qf, qJ⟩ := hv
      refine k_ifb_eq C (tgt := 36) (by decide) dX6_takesNumber_31 (fun hc31 => ?_) (fun hc31 => ?_)
      · skip
        refine k_iload_n C (f := 1) (i := 1) (p := 2) rfl rfl dX6_takesNumber_36 ?_
        exact k_iret C (Nat.le_of_ble_eq_true rfl) (Nat.le_of_ble_eq_true rfl) (⟨rfl, ⟨rfl, hP3, qf, qJ⟩⟩) dX6_takesNumber_37
      · skip
        exact absurd hc31 (fun z => by cases z)
    · skip
      refine k_iconst C ic_1 dX6_takesNumber_23 ?_
      refine k_goto C (tgt := 28) (by decide) dX6_takesNumber_24 ?_
      refine k_callVj C s_X6_191 h_X6_takes (L6_s (by assumption)) rfl (ct_X6_takes hx ht hP) rfl rfl (Nat.le_of_ble_eq_true rfl) ⟨Nat.le_of_ble_eq_true rfl, Nat.le_of_ble_eq_true rfl⟩ ⟨Nat.le_of_ble_eq_true rfl, Nat.le_of_ble_eq_true rfl⟩ ⟨rfl, rfl⟩ dX6_takesNumber_28 ?_
      intro v I3 J3 hv
      obtain ⟨rfl, hP3, qf, qJ⟩ := hv
      refine k_ifb_eq C (tgt := 36) (by decide) dX6_takesNumber_31 (fun hc31 => ?_) (fun hc31 => ?_)
      · skip
        refine k_iload_n C (f := 1) (i := 1) (p := 2) rfl rfl dX6_takesNumber_36 ?_
        exact k_iret C (Nat.le_of_ble_eq_true rfl) (Nat.le_of_ble_eq_true rfl) (⟨rfl, ⟨rfl, hP3, qf, qJ⟩⟩) dX6_takesNumber_37
      · skip
        exact absurd hc31 (fun z => by cases z)
theorem ct_X6_takesNumber {G : am_G} {Λ : am_L} {I : am_I} {J : am_J} {y n : Nat} {tb : Nat → Nat} {e : Except Nat sp_S} {lo hi : Nat}  (hx : ModLay Λ y) (ht : MTxt I y tb n) (hP : MP I J y tb n e) (hb : lo ≤ 999 ∧ hi ≤ 999) : am_Ct G yX6_takesNumber cX6_takesNumber 4 (some .int) { frames := 4, cells := 0, slots := 0, locals := 82 } [.ref y, .int (nI lo), .int (nI hi)] Λ I J (am_gj Λ (fun v I' J' => v = some (.int (nI (sp_tz tb n lo hi e))) ∧ MP I' J' y tb n (sp_tnS tb n lo hi e) ∧ MPf y I I' ∧ JFr y J J')) am_never := by
  cases e with
  | ok s => exact ctA_X6_takesNumber hx ht hP hb
  | error x => exact ctB_X6_takesNumber hx ht hP hb
