/-! ===== legal rows: what is read, what is drunk, loaded, laid down ===== -/
def PKc (r : Nat → Int32) : Prop := ∀ k : Nat, k < sp_nc r → sp_in (r (10 + 8 * k)) 10 60 ∧ sp_in (r (11 + 8 * k)) 1 9 ∧ (∃ t x : Nat, r (12 + 8 * k) = nI t ∧ 10 ≤ t ∧ t ≤ 90 ∧ r (13 + 8 * k) = nI x ∧ x ≤ t) ∧ sp_in (r (16 + 8 * k)) 0 3 ∧ (r (17 + 8 * k) = if r (16 + 8 * k) < nI 3 then nI 0 else nI 1)
def PKw (r : Nat → Int32) : Prop := ∀ k : Nat, k < sp_nw r → ∃ cap lev : Nat, r (91 + 4 * k) = nI cap ∧ cap ≤ 999 ∧ r (93 + 4 * k) = nI lev ∧ lev ≤ cap ∧ sp_in (r (92 + 4 * k)) 0 99
def PKs (r : Nat → Int32) : Prop := ∀ k : Nat, k < sp_ns r → sp_in (r (124 + 3 * k)) 1 9
def PKl (r : Nat → Int32) : Prop := ∀ k : Nat, k < sp_nl r → sp_in (r (140 + 4 * k)) 1 99 ∧ (r (142 + 4 * k) = -1 ∨ ∃ j : Nat, r (142 + 4 * k) = nI j ∧ j < sp_nc r)
def PKz (r : Nat → Int32) : Prop := (∃ L : Nat, r 0 = nI L ∧ 10 ≤ L ∧ L ≤ 999 ∧ ∀ k : Nat, k < sp_nw r → sp_in (r (90 + 4 * k)) 0 L) ∧ (r 1 = nI 0 ∧ r 2 = nI 0 ∧ r 3 = nI 0 ∧ r 4 = nI 0) ∧ ∀ j : Nat, 10 + 8 * sp_nc r ≤ j → j < 90 → r j = nI 0
def PK (r : Nat → Int32) : Prop := RowB r ∧ PKz r ∧ PKc r ∧ PKw r ∧ PKs r ∧ PKl r
theorem PK.ok {r : Nat → Int32} (h : PK r) (h1 : 1 ≤ sp_nc r) : RowOk r := by
  obtain ⟨⟨⟨a6, a7, a8, a9⟩, b6, b7, b8, b9⟩, ⟨⟨L, hL, hL1, hL2, hL3⟩, ⟨z1, z2, z3, z4⟩, -⟩, hc, hw, hs, hl⟩ := h
  exact ⟨a6, a7, a8, a9, ⟨h1, b6, b7, b8, b9⟩, ⟨L, 0, hL, z1, hL1, hL2, Nat.zero_le _, hL3⟩, ⟨0, z2, Nat.le_refl _, by decide⟩, Or.inl (z3.trans nI_0), ⟨0, z4, by omega⟩, hc, hw, hs, hl⟩
theorem addCamel_n {r : Nat → Int32} {x y z : Int32} (hn : sp_nc r < 10) : sp_nc (sp_addCamel r x y z) = sp_nc r + 1 ∧ sp_nw (sp_addCamel r x y z) = sp_nw r ∧ sp_ns (sp_addCamel r x y z) = sp_ns r ∧ sp_nl (sp_addCamel r x y z) = sp_nl r := by
  refine ⟨?_, ?_, ?_, ?_⟩
  · unfold sp_addCamel
    show (upd _ 6 _ 6).toNatClampNeg = _
    rw [upd_eq, nI_clamp (by omega)]
  · unfold sp_nw; rw [addCamel_at (by omega)]
  · unfold sp_ns; rw [addCamel_at (by omega)]
  · unfold sp_nl; rw [addCamel_at (by omega)]
theorem addWell_n {r : Nat → Int32} {x y z : Int32} (hn : sp_nw r < 8) : sp_nw (sp_addWell r x y z) = sp_nw r + 1 ∧ sp_nc (sp_addWell r x y z) = sp_nc r ∧ sp_ns (sp_addWell r x y z) = sp_ns r ∧ sp_nl (sp_addWell r x y z) = sp_nl r := by
  refine ⟨?_, ?_, ?_, ?_⟩
  · unfold sp_addWell
    show (upd _ 7 _ 7).toNatClampNeg = _
    rw [upd_eq, nI_clamp (by omega)]
  · unfold sp_nc; rw [addWell_at (by omega)]
  · unfold sp_ns; rw [addWell_at (by omega)]
  · unfold sp_nl; rw [addWell_at (by omega)]
theorem addStorm_n {r : Nat → Int32} {x y z : Int32} (hn : sp_ns r < 6) : sp_ns (sp_addStorm r x y z) = sp_ns r + 1 ∧ sp_nc (sp_addStorm r x y z) = sp_nc r ∧ sp_nw (sp_addStorm r x y z) = sp_nw r ∧ sp_nl (sp_addStorm r x y z) = sp_nl r := by
  refine ⟨?_, ?_, ?_, ?_⟩
  · unfold sp_addStorm
    show (upd _ 8 _ 8).toNatClampNeg = _
    rw [upd_eq, nI_clamp (by omega)]
  · unfold sp_nc; rw [addStorm_at (by omega)]
  · unfold sp_nw; rw [addStorm_at (by omega)]
  · unfold sp_nl; rw [addStorm_at (by omega)]
theorem bring_n {r : Nat → Int32} {x y : Int32} (hn : sp_nl r < 20) : sp_nl (sp_bring r x y) = sp_nl r + 1 ∧ sp_nc (sp_bring r x y) = sp_nc r ∧ sp_nw (sp_bring r x y) = sp_nw r ∧ sp_ns (sp_bring r x y) = sp_ns r := by
  refine ⟨bring_nl (by omega), ?_, ?_, ?_⟩
  · unfold sp_nc; rw [bring_at (by omega)]
  · unfold sp_nw; rw [bring_at (by omega)]
  · unfold sp_ns; rw [bring_at (by omega)]
theorem PK_start {L : Nat} (h1 : 10 ≤ L) (h2 : L ≤ 999) : PK (sp_start L) := by
  have e : ∀ k : Nat, k ≠ 0 → sp_start L k = nI 0 := fun k hk => if_neg hk
  have z : (nI 0).toNatClampNeg = 0 := by decide
  have c : sp_nc (sp_start L) = 0 := by unfold sp_nc; rw [e 6 (by omega)]; exact z
  have w : sp_nw (sp_start L) = 0 := by unfold sp_nw; rw [e 7 (by omega)]; exact z
  have s : sp_ns (sp_start L) = 0 := by unfold sp_ns; rw [e 8 (by omega)]; exact z
  have l : sp_nl (sp_start L) = 0 := by unfold sp_nl; rw [e 9 (by omega)]; exact z
  refine ⟨⟨⟨by rw [c]; exact e 6 (by omega), by rw [w]; exact e 7 (by omega), by rw [s]; exact e 8 (by omega), by rw [l]; exact e 9 (by omega)⟩, by omega, by omega, by omega, by omega⟩, ⟨⟨L, rfl, h1, h2, fun k hk => by omega⟩, ⟨e 1 (by omega), e 2 (by omega), e 3 (by omega), e 4 (by omega)⟩, fun j h _ => e j (by omega)⟩, fun k hk => by omega, fun k hk => by omega, fun k hk => by omega, fun k hk => by omega⟩
theorem PK_camel {r : Nat → Int32} {a b c : Nat} (h : PK r) (hn : sp_nc r < 10) (ha : 10 ≤ a ∧ a ≤ 60) (hb : 1 ≤ b ∧ b ≤ 9) (hc : 10 ≤ c ∧ c ≤ 90) : PK (sp_addCamel r (nI a) (nI b) (nI c)) := by
  obtain ⟨hB, ⟨⟨L, hL, hL1, hL2, hL3⟩, ⟨z1, z2, z3, z4⟩, hz⟩, pc, pw, ps, pl⟩ := h
  obtain ⟨n1, n2, n3, n4⟩ := addCamel_n (r := r) (x := nI a) (y := nI b) (z := nI c) hn
  have hB2 := hB.2
  refine ⟨hB.camel hn, ⟨⟨L, by rw [addCamel_at (by omega)]; exact hL, hL1, hL2, fun k hk => by rw [addCamel_at (by omega)]; exact hL3 k (by omega)⟩, ⟨by rw [addCamel_at (by omega)]; exact z1, by rw [addCamel_at (by omega)]; exact z2, by rw [addCamel_at (by omega)]; exact z3, by rw [addCamel_at (by omega)]; exact z4⟩, fun j h1 h2 => by rw [addCamel_at (by omega)]; exact hz j (by omega) h2⟩, fun k hk => ?_, fun k hk => ?_, fun k hk => ?_, fun k hk => ?_⟩
  · by_cases e : k = sp_nc r
    · subst e
      rw [addCamel_at (j := 16 + 8 * sp_nc r) (by omega), addCamel_at (j := 17 + 8 * sp_nc r) (by omega), hz (16 + 8 * sp_nc r) (by omega) (by omega), hz (17 + 8 * sp_nc r) (by omega) (by omega)]
      unfold sp_addCamel
      refine ⟨⟨a, ?_, ha⟩, ⟨b, ?_, hb⟩, ⟨c, c, ?_, hc.1, hc.2, ?_, Nat.le_refl _⟩, ⟨0, rfl, by decide, by decide⟩, by decide⟩
      · rw [upd_ne (by omega), upd_ne (by omega), upd_ne (by omega), upd_ne (by omega), upd_eq]
      · rw [upd_ne (by omega), upd_ne (by omega), upd_ne (by omega), upd_eq]
      · rw [upd_ne (by omega), upd_ne (by omega), upd_eq]
      · rw [upd_ne (by omega), upd_eq]
    · rw [addCamel_at (by omega), addCamel_at (by omega), addCamel_at (by omega), addCamel_at (by omega), addCamel_at (by omega), addCamel_at (by omega)]
      exact pc k (by omega)
  · rw [addCamel_at (by omega), addCamel_at (by omega), addCamel_at (by omega)]
    exact pw k (by omega)
  · rw [addCamel_at (by omega)]
    exact ps k (by omega)
  · rw [addCamel_at (by omega), addCamel_at (by omega), n1]
    obtain ⟨q1, q2⟩ := pl k (by omega)
    exact ⟨q1, q2.imp id (fun ⟨j, e1, e2⟩ => ⟨j, e1, by omega⟩)⟩
theorem PK_well {r : Nat → Int32} {a b c L : Nat} (h : PK r) (hn : sp_nw r < 8) (hL : r 0 = nI L) (hL9 : L ≤ 999) (ha : a ≤ L) (hb : b ≤ 999) (hc : c ≤ 99) : PK (sp_addWell r (nI a) (nI b) (nI c)) := by
  obtain ⟨hB, ⟨⟨L', hL', hL1, hL2, hL3⟩, ⟨z1, z2, z3, z4⟩, hz⟩, pc, pw, ps, pl⟩ := h
  obtain ⟨n1, n2, n3, n4⟩ := addWell_n (r := r) (x := nI a) (y := nI b) (z := nI c) hn
  have hB2 := hB.2
  obtain rfl : L = L' := (nI_eq (by omega) (by omega)).mp (hL.symm.trans hL')
  have at90 : sp_addWell r (nI a) (nI b) (nI c) (90 + 4 * sp_nw r) = nI a := by
    unfold sp_addWell
    rw [upd_ne (by omega), upd_ne (by omega), upd_ne (by omega), upd_ne (by omega), upd_eq]
  refine ⟨hB.well hn, ⟨⟨L, by rw [addWell_at (by omega)]; exact hL, hL1, hL2, fun k hk => ?_⟩, ⟨by rw [addWell_at (by omega)]; exact z1, by rw [addWell_at (by omega)]; exact z2, by rw [addWell_at (by omega)]; exact z3, by rw [addWell_at (by omega)]; exact z4⟩, fun j h1 h2 => by rw [addWell_at (by omega)]; exact hz j (by omega) h2⟩, fun k hk => ?_, fun k hk => ?_, fun k hk => ?_, fun k hk => ?_⟩
  · by_cases e : k = sp_nw r
    · rw [e, at90]; exact ⟨a, rfl, Nat.zero_le _, ha⟩
    · rw [addWell_at (by omega)]; exact hL3 k (by omega)
  · rw [addWell_at (by omega), addWell_at (by omega), addWell_at (by omega), addWell_at (by omega), addWell_at (by omega), addWell_at (by omega)]
    exact pc k (by omega)
  · by_cases e : k = sp_nw r
    · subst e
      unfold sp_addWell
      refine ⟨b, b, ?_, hb, ?_, Nat.le_refl _, c, ?_, Nat.zero_le _, hc⟩
      · rw [upd_ne (by omega), upd_ne (by omega), upd_ne (by omega), upd_eq]
      · rw [upd_ne (by omega), upd_eq]
      · rw [upd_ne (by omega), upd_ne (by omega), upd_eq]
    · rw [addWell_at (by omega), addWell_at (by omega), addWell_at (by omega)]
      exact pw k (by omega)
  · rw [addWell_at (by omega)]
    exact ps k (by omega)
  · rw [addWell_at (by omega), addWell_at (by omega), n2]
    exact pl k (by omega)
theorem PK_storm {r : Nat → Int32} {c : Nat} {x y : Int32} (h : PK r) (hn : sp_ns r < 6) (hc : 1 ≤ c ∧ c ≤ 9) : PK (sp_addStorm r x y (nI c)) := by
  obtain ⟨hB, ⟨⟨L, hL, hL1, hL2, hL3⟩, ⟨z1, z2, z3, z4⟩, hz⟩, pc, pw, ps, pl⟩ := h
  obtain ⟨n1, n2, n3, n4⟩ := addStorm_n (r := r) (x := x) (y := y) (z := nI c) hn
  have hB2 := hB.2
  refine ⟨hB.storm hn, ⟨⟨L, by rw [addStorm_at (by omega)]; exact hL, hL1, hL2, fun k hk => by rw [addStorm_at (by omega)]; exact hL3 k (by omega)⟩, ⟨by rw [addStorm_at (by omega)]; exact z1, by rw [addStorm_at (by omega)]; exact z2, by rw [addStorm_at (by omega)]; exact z3, by rw [addStorm_at (by omega)]; exact z4⟩, fun j h1 h2 => by rw [addStorm_at (by omega)]; exact hz j (by omega) h2⟩, fun k hk => ?_, fun k hk => ?_, fun k hk => ?_, fun k hk => ?_⟩
  · rw [addStorm_at (by omega), addStorm_at (by omega), addStorm_at (by omega), addStorm_at (by omega), addStorm_at (by omega), addStorm_at (by omega)]
    exact pc k (by omega)
  · rw [addStorm_at (by omega), addStorm_at (by omega), addStorm_at (by omega)]
    exact pw k (by omega)
  · by_cases e : k = sp_ns r
    · subst e
      unfold sp_addStorm
      rw [upd_ne (by omega), upd_eq]
      exact ⟨c, rfl, hc⟩
    · rw [addStorm_at (by omega)]; exact ps k (by omega)
  · rw [addStorm_at (by omega), addStorm_at (by omega), n2]
    exact pl k (by omega)
theorem PK_bring {r : Nat → Int32} {a : Nat} {y : Int32} (h : PK r) (hn : sp_nl r < 20) (ha : 1 ≤ a ∧ a ≤ 99) : PK (sp_bring r (nI a) y) := by
  obtain ⟨hB, ⟨⟨L, hL, hL1, hL2, hL3⟩, ⟨z1, z2, z3, z4⟩, hz⟩, pc, pw, ps, pl⟩ := h
  obtain ⟨n1, n2, n3, n4⟩ := bring_n (r := r) (x := nI a) (y := y) hn
  obtain ⟨w1, -, w3, -⟩ := bring_ws (r := r) (x := nI a) (y := y)
  have hB2 := hB.2
  refine ⟨hB.bring hn, ⟨⟨L, by rw [bring_at (by omega)]; exact hL, hL1, hL2, fun k hk => by rw [bring_at (by omega)]; exact hL3 k (by omega)⟩, ⟨by rw [bring_at (by omega)]; exact z1, by rw [bring_at (by omega)]; exact z2, by rw [bring_at (by omega)]; exact z3, by rw [bring_at (by omega)]; exact z4⟩, fun j h1 h2 => by rw [bring_at (by omega)]; exact hz j (by omega) h2⟩, fun k hk => ?_, fun k hk => ?_, fun k hk => ?_, fun k hk => ?_⟩
  · rw [bring_at (by omega), bring_at (by omega), bring_at (by omega), bring_at (by omega), bring_at (by omega), bring_at (by omega)]
    exact pc k (by omega)
  · rw [bring_at (by omega), bring_at (by omega), bring_at (by omega)]
    exact pw k (by omega)
  · rw [bring_at (by omega)]; exact ps k (by omega)
  · by_cases e : k = sp_nl r
    · subst e
      rw [w1, w3]
      exact ⟨⟨a, rfl, ha⟩, Or.inl rfl⟩
    · rw [bring_at (by omega), bring_at (by omega), n2]
      exact pl k (by omega)
theorem PK_hang {r : Nat → Int32} {k j : Nat} (h : PK r) (hk : k < sp_nl r) (hj : j < sp_nc r) : PK (sp_hang r k j) := by
  obtain ⟨hB, ⟨⟨L, hL, hL1, hL2, hL3⟩, ⟨z1, z2, z3, z4⟩, hz⟩, pc, pw, ps, pl⟩ := h
  obtain ⟨n1, n2, n3, n4⟩ := sc_hang r k j
  have hB2 := hB.2
  have at0 : ∀ i : Nat, i ≠ 142 + 4 * k → sp_hang r k j i = r i := fun i hi => upd_ne hi
  refine ⟨hB.up (by omega), ⟨⟨L, by rw [at0 _ (by omega)]; exact hL, hL1, hL2, fun i hi => by rw [at0 _ (by omega)]; exact hL3 i (by omega)⟩, ⟨by rw [at0 _ (by omega)]; exact z1, by rw [at0 _ (by omega)]; exact z2, by rw [at0 _ (by omega)]; exact z3, by rw [at0 _ (by omega)]; exact z4⟩, fun i h1 h2 => by rw [at0 _ (by omega)]; exact hz i (by omega) h2⟩, fun i hi => ?_, fun i hi => ?_, fun i hi => ?_, fun i hi => ?_⟩
  · rw [at0 _ (by omega), at0 _ (by omega), at0 _ (by omega), at0 _ (by omega), at0 _ (by omega), at0 _ (by omega)]
    exact pc i (by omega)
  · rw [at0 _ (by omega), at0 _ (by omega), at0 _ (by omega)]
    exact pw i (by omega)
  · rw [at0 _ (by omega)]; exact ps i (by omega)
  · rw [at0 (140 + 4 * i) (by omega), n1]
    obtain ⟨q1, q2⟩ := pl i (by omega)
    refine ⟨q1, ?_⟩
    by_cases e : i = k
    · subst e
      exact Or.inr ⟨j, upd_eq, hj⟩
    · rw [at0 _ (by omega)]; exact q2
theorem lp_keep {tb : Nat → Nat} {w : Nat} {f : sp_S → Except Nat sp_S} {Q : Nat → sp_S → Prop} (hf : ∀ (k : Nat) (s s' : sp_S), Q (k + 1) s → f s = .ok s' → Q k s') (hd : ∀ (k : Nat) (s : sp_S), Q (k + 1) s → Q 0 s) : ∀ (k : Nat) (e : Except Nat sp_S), (∀ s : sp_S, e = .ok s → Q k s) → ∀ s : sp_S, sp_lp tb w f k e = .ok s → Q 0 s := by
  intro k
  induction k with
  | zero => intro e h s hs; exact h s hs
  | succ k ih =>
    intro e h s hs
    cases e with
    | error x => rw [sp_lp_e] at hs; cases hs
    | ok s0 =>
      by_cases q : sp_isw tb s0.1 w = true
      · rw [sp_lp_y q] at hs
        exact ih _ (fun s1 h1 => hf k s0 s1 (h s0 rfl) h1) s hs
      · rw [sp_lp_n q] at hs
        have e : s0 = s := Except.ok.inj hs
        rw [← e]
        exact hd k s0 (h s0 rfl)
theorem rowok_parse {tb : Nat → Nat} {n : Nat} {r : Nat → Int32} (h : sp_parse tb n = .ok r) : RowOk r := by
  obtain ⟨s5, h5, hr⟩ := sp_bd_inv h
  obtain ⟨s4, h4, hl⟩ := sp_bd_inv h5
  obtain ⟨s3, h3, hs⟩ := sp_bd_inv h4
  obtain ⟨s2, h2, hw⟩ := sp_bd_inv h3
  obtain ⟨s1, h1, hc⟩ := sp_bd_inv h2
  have e5 : r = s5.2 := by
    unfold sp_rEnd at hr
    by_cases q : s5.1.1 = 0
    · rw [if_pos q] at hr; cases hr; rfl
    · rw [if_neg q] at hr; cases hr
  have k1 : PK s1.2 ∧ sp_nc s1.2 = 0 ∧ sp_nw s1.2 = 0 ∧ sp_ns s1.2 = 0 ∧ sp_nl s1.2 = 0 := by
    unfold sp_rRoute at h1
    by_cases c : sp_isw tb (sp_tok tb n 0) 1 = true
    · rw [if_pos c] at h1
      obtain ⟨a, g1, g2⟩ := sp_bd_inv h1
      obtain ⟨d, g3, g4⟩ := sp_bd_inv g2
      cases g4
      obtain ⟨b1, b2⟩ := (sp_tn_inv g1)
      subst b2
      exact ⟨PK_start b1.2.1 b1.2.2, (by show (nI 0).toNatClampNeg = 0; decide), (by show (nI 0).toNatClampNeg = 0; decide), (by show (nI 0).toNatClampNeg = 0; decide), (by show (nI 0).toNatClampNeg = 0; decide)⟩
    · rw [if_neg c] at h1; cases h1
  obtain ⟨p1, n1, n2, n3, n4⟩ := k1
  have k2 : PK s2.2 ∧ 1 ≤ sp_nc s2.2 ∧ sp_nw s2.2 = 0 ∧ sp_ns s2.2 = 0 ∧ sp_nl s2.2 = 0 := by
    unfold sp_rCamels at hc
    by_cases q : sp_isw tb s1.1 2 = true
    · rw [if_pos q, sp_lp_y q] at hc
      refine lp_keep (Q := fun k s => PK s.2 ∧ 1 ≤ sp_nc s.2 ∧ sp_nc s.2 + k ≤ 10 ∧ sp_nw s.2 = 0 ∧ sp_ns s.2 = 0 ∧ sp_nl s.2 = 0) (fun k s s' hq hs' => ?_) (fun k s hq => ⟨hq.1, hq.2.1, by have := hq.2.2.1; omega, hq.2.2.2⟩) 9 _ (fun s hs' => ?_) s2 hc |> fun z => ⟨z.1, z.2.1, z.2.2.2⟩
      · obtain ⟨q1, q2, q3, q4, q5, q6⟩ := hq
        obtain ⟨a, b, c, hb, e⟩ := rCamel_inv hs'
        obtain ⟨m1, m2, m3, m4⟩ := addCamel_n (r := s.2) (x := nI a) (y := nI b) (z := nI c) (by omega)
        rw [e, m1, m2, m3, m4]
        exact ⟨PK_camel q1 (by omega) ⟨hb.1, hb.2.1⟩ ⟨hb.2.2.1, hb.2.2.2.1⟩ ⟨hb.2.2.2.2.1, hb.2.2.2.2.2⟩, by omega, by omega, q4, q5, q6⟩
      · obtain ⟨a, b, c, hb, e⟩ := rCamel_inv hs'
        obtain ⟨m1, m2, m3, m4⟩ := addCamel_n (r := s1.2) (x := nI a) (y := nI b) (z := nI c) (by omega)
        rw [e, m1, m2, m3, m4]
        exact ⟨PK_camel p1 (by omega) ⟨hb.1, hb.2.1⟩ ⟨hb.2.2.1, hb.2.2.2.1⟩ ⟨hb.2.2.2.2.1, hb.2.2.2.2.2⟩, by omega, by omega, n2, n3, n4⟩
    · rw [if_neg q, sp_lp_e] at hc; cases hc
  obtain ⟨p2, c2, w2, t2, l2⟩ := k2
  have k3 : PK s3.2 ∧ 1 ≤ sp_nc s3.2 ∧ sp_ns s3.2 = 0 ∧ sp_nl s3.2 = 0 := by
    refine lp_keep (Q := fun k s => PK s.2 ∧ 1 ≤ sp_nc s.2 ∧ sp_nw s.2 + k ≤ 8 ∧ sp_ns s.2 = 0 ∧ sp_nl s.2 = 0) (fun k s s' hq hs' => ?_) (fun k s hq => ⟨hq.1, hq.2.1, by have := hq.2.2.1; omega, hq.2.2.2⟩) 8 _ (fun s hs' => ?_) s3 hw |> fun z => ⟨z.1, z.2.1, z.2.2.2⟩
    · obtain ⟨q1, q2, q3, q5, q6⟩ := hq
      obtain ⟨a, b, c, hb, e⟩ := rWell_inv hs'
      obtain ⟨m1, m2, m3, m4⟩ := addWell_n (r := s.2) (x := nI a) (y := nI b) (z := nI c) (by omega)
      obtain ⟨L, hL, hL1, hL2, -⟩ := q1.2.1.1
      rw [e, m1, m2, m3, m4]
      have hb1 := hb.1
      rw [hL, nI_clamp (by omega)] at hb1
      exact ⟨PK_well q1 (by omega) hL hL2 hb1 hb.2.2.1 hb.2.2.2.1, q2, by omega, q5, q6⟩
    · cases hs'
      exact ⟨p2, c2, by omega, t2, l2⟩
  obtain ⟨p3, c3, t3, l3⟩ := k3
  have k4 : PK s4.2 ∧ 1 ≤ sp_nc s4.2 ∧ sp_nl s4.2 = 0 := by
    refine lp_keep (Q := fun k s => PK s.2 ∧ 1 ≤ sp_nc s.2 ∧ sp_ns s.2 + k ≤ 6 ∧ sp_nl s.2 = 0) (fun k s s' hq hs' => ?_) (fun k s hq => ⟨hq.1, hq.2.1, by have := hq.2.2.1; omega, hq.2.2.2⟩) 6 _ (fun s hs' => ?_) s4 hs |> fun z => ⟨z.1, z.2.1, z.2.2.2⟩
    · obtain ⟨q1, q2, q3, q6⟩ := hq
      obtain ⟨a, b, c, hb, e⟩ := rStorm_inv hs'
      obtain ⟨m1, m2, m3, m4⟩ := addStorm_n (r := s.2) (x := nI a) (y := nI b) (z := nI c) (by omega)
      rw [e, m1, m2, m4]
      exact ⟨PK_storm q1 (by omega) ⟨hb.2.2.1, hb.2.2.2⟩, q2, by omega, q6⟩
    · cases hs'
      exact ⟨p3, c3, by omega, l3⟩
  obtain ⟨p4, c4, l4⟩ := k4
  have k5 : PK s5.2 ∧ 1 ≤ sp_nc s5.2 := by
    refine lp_keep (Q := fun k s => PK s.2 ∧ 1 ≤ sp_nc s.2 ∧ sp_nl s.2 + k ≤ 20) (fun k s s' hq hs' => ?_) (fun k s hq => ⟨hq.1, hq.2.1, by have := hq.2.2; omega⟩) 20 _ (fun s hs' => ?_) s5 hl |> fun z => ⟨z.1, z.2.1⟩
    · obtain ⟨q1, q2, q3⟩ := hq
      obtain ⟨a, b, hb, e⟩ := rLoad_inv hs'
      obtain ⟨m1, m2, m3, m4⟩ := bring_n (r := s.2) (x := nI a) (y := nI b) (by omega)
      have hp := PK_bring (y := nI b) q1 (by omega) ⟨hb.1, hb.2.1⟩
      rcases e with e | ⟨j, e, hj, -⟩
      · rw [e, m1, m2]
        exact ⟨hp, q2, by omega⟩
      · obtain ⟨g1, g2, g3, g4⟩ := sc_hang (sp_bring s.2 (nI a) (nI b)) (sp_nl s.2) j
        rw [e, g1, g4, m1, m2]
        exact ⟨PK_hang hp (by omega) hj, q2, by omega⟩
    · cases hs'
      exact ⟨p4, c4, by omega⟩
  rw [e5]
  exact PK.ok k5.1 k5.2
theorem rowok_bring {r : Nat → Int32} {a : Nat} {y : Int32} (h : RowOk r) (hn : sp_nl r < 20) (ha : 1 ≤ a ∧ a ≤ 99) : RowOk (sp_bring r (nI a) y) := by
  obtain ⟨n1, n2, n3, n4⟩ := bring_n (r := r) (x := nI a) (y := y) hn
  obtain ⟨w1, -, w3, -⟩ := bring_ws (r := r) (x := nI a) (y := y)
  obtain ⟨⟨g6, g7, g8, g9⟩, -⟩ := (h.B).bring (x := nI a) (y := y) hn
  obtain ⟨a6, a7, a8, a9, ⟨b0, b6, b7, b8, b9⟩, ⟨L, km, hL, hk, hL1, hL2, hkL, hw⟩, hd, h3, ⟨ld, h4, h4l⟩, hc, hwe, hst, hlo⟩ := h
  refine ⟨g6, g7, g8, g9, by omega, ⟨L, km, by rw [bring_at (by omega)]; exact hL, by rw [bring_at (by omega)]; exact hk, hL1, hL2, hkL, fun k hk2 => by rw [bring_at (by omega)]; exact hw k (by omega)⟩, by rw [bring_at (by omega)]; exact hd, by rw [bring_at (by omega)]; exact h3, ⟨ld, by rw [bring_at (by omega)]; exact h4, by omega⟩, fun k hk2 => ?_, fun k hk2 => ?_, fun k hk2 => ?_, fun k hk2 => ?_⟩
  · rw [bring_at (by omega), bring_at (by omega), bring_at (by omega), bring_at (by omega), bring_at (by omega), bring_at (by omega)]
    exact hc k (by omega)
  · rw [bring_at (by omega), bring_at (by omega), bring_at (by omega)]
    exact hwe k (by omega)
  · rw [bring_at (by omega)]; exact hst k (by omega)
  · by_cases e : k = sp_nl r
    · subst e
      rw [w1, w3]
      exact ⟨⟨a, rfl, ha⟩, Or.inl rfl⟩
    · rw [bring_at (by omega), bring_at (by omega), n2]
      exact hlo k (by omega)
def DrOk (r d : Nat → Int32) (H : Nat) : Prop := (∀ m : Nat, m < sp_nc r → d m = -1 ∨ ∃ s t x : Nat, d m = nI s ∧ r (12 + 8 * m) = nI t ∧ r (13 + 8 * m) = nI x ∧ x + s ≤ t ∧ t ≤ 90) ∧ ∃ sg : Nat, sp_sumTo d (sp_nc r) = nI sg ∧ sg ≤ H
theorem turns_ok {r : Nat → Int32} (h : RowOk r) : ∀ (n l H : Nat) (d : Nat → Int32), (∀ m : Nat, m < sp_nc r → d m = -1 ∨ ∃ s t x : Nat, d m = nI s ∧ r (12 + 8 * m) = nI t ∧ r (13 + 8 * m) = nI x ∧ x + s ≤ t ∧ t ≤ 90) → (∃ sg : Nat, sp_sumTo d (sp_nc r) = nI sg ∧ l + sg = H) → l ≤ 999 → DrOk r (sp_turns r n d (nI l)) H := by
  have hn := h.2.2.2.2.1
  intro n
  induction n with
  | zero =>
    intro l H d hd hs _
    obtain ⟨sg, e1, e2⟩ := hs
    exact ⟨hd, sg, e1, by omega⟩
  | succ n ih =>
    intro l H d hd hs hl
    obtain ⟨sg, e1, e2⟩ := hs
    rcases sp_nextTo_or r d (sp_nc r) with e | ⟨m, e, hm, ha, hdm⟩
    · rw [sp_turns_f e]
      exact ⟨hd, sg, e1, by omega⟩
    · have hdm1 : d m = -1 := (hd m hm).resolve_right (fun ⟨s, t, x, q, _⟩ => by
        rw [q] at hdm
        obtain ⟨t, x, -⟩ := RK_tk h m hm
        exact absurd hdm (by
          intro z
          rcases Nat.lt_or_ge s (2 ^ 31) with g | g
          · exact nI_neg g z
          · rename_i q2
            omega))
      obtain ⟨t, x, ht, hx, hxt, ht9⟩ := RK_tk h m hm
      have hx3 : sp_min (nI l) (r (12 + 8 * m) - r (13 + 8 * m)) = nI (min l (t - x)) := by rw [ht, hx, pk_sub hxt, sp_min_nI (by omega) (by omega)]
      rw [sp_turns_t e (by omega), hx3, pk_sub (by omega)]
      refine ih (l - min l (t - x)) H _ (fun i hi => ?_) ⟨sg + min l (t - x), by rw [md_sum_upd hdm1 (nI_m1 (by omega)) _ hm, e1, nI_add], by omega⟩ (by omega)
      by_cases q : i = m
      · subst q
        exact Or.inr ⟨min l (t - x), t, x, upd_eq, ht, hx, by omega, ht9⟩
      · rw [upd_ne q]; exact hd i hi
theorem drinks_ok {r : Nat → Int32} {w : Nat} (h : RowOk r) (hw : w < sp_nw r) : ∃ cap H : Nat, r (91 + 4 * w) = nI cap ∧ cap ≤ 999 ∧ r (93 + 4 * w) = nI H ∧ H ≤ cap ∧ DrOk r (sp_drinks r w) H := by
  obtain ⟨cap, H, h1, h2, h3, h4, -⟩ := RK_we h w hw
  refine ⟨cap, H, h1, h2, h3, h4, ?_⟩
  unfold sp_drinks
  rw [h3]
  exact turns_ok h _ H H _ (fun m _ => Or.inl rfl) ⟨0, md_sum_none _ (fun m _ => rfl), by omega⟩ (by omega)
theorem fill_at {r d : Nat → Int32} {i : Nat} : ∀ k : Nat, (∀ m : Nat, m < k → i ≠ 13 + 8 * m) → sp_fillTo r d k i = r i := by
  intro k
  induction k with
  | zero => intro _; rfl
  | succ k ih =>
    intro h
    by_cases e : d k = -1
    · rw [sp_fillTo_t e]; exact ih (fun m hm => h m (by omega))
    · rw [sp_fillTo_f e, upd_ne (h k (by omega))]; exact ih (fun m hm => h m (by omega))
theorem rowok_fill {r d : Nat → Int32} {H : Nat} (h : RowOk r) (hd : DrOk r d H) : ∀ k : Nat, k ≤ sp_nc r → RowOk (sp_fillTo r d k) := by
  intro k
  induction k with
  | zero => intro _; exact h
  | succ k ih =>
    intro hk
    have i := ih (by omega)
    rcases hd.1 k (by omega) with e | ⟨s, t, x, e, ht, hx, hxs, ht9⟩
    · rw [sp_fillTo_t e]; exact i
    · have hne : ¬ d k = -1 := by rw [e]; exact nI_m1 (by omega)
      rw [sp_fillTo_f hne, fill_at k (fun m hm => by omega), e, hx, nI_add]
      exact RU_water i (by rw [(sc_fill r d k).1]; omega) (by rw [fill_at k (fun m hm => by omega)]; exact ht) ht9 hxs
theorem rowok_drink {r : Nat → Int32} {w : Nat} (h : RowOk r) (hw : w < sp_nw r) : RowOk (sp_drink r (sp_drinks r w) w) := by
  obtain ⟨cap, H, h1, h2, h3, h4, hD⟩ := drinks_ok h hw
  obtain ⟨sg, e1, e2⟩ := hD.2
  have hn := h.2.2.2.2.1
  have i := rowok_fill h hD _ (Nat.le_refl _)
  unfold sp_drink
  refine RU_fr ?_ (Or.inl rfl)
  rw [fill_at _ (fun m hm => by omega), h3, e1, pk_sub e2]
  exact RU_level i (by rw [(sc_fill r _ _).2.1]; exact hw) (by rw [fill_at _ (fun m hm => by omega)]; exact h1) h2 (by omega)
theorem CR_lies {I : am_I} {c q p k : Nat} {r : Nat → Int32} {x : Int32} (h : CarRel I c q p (upd r (143 + 4 * k) x)) (hn : ¬ r (142 + 4 * k) < 0) : CarRel I c q p r := by
  have n6 : sp_nc (upd r (143 + 4 * k) x) = sp_nc r := sp_nc_upd (by omega)
  have n7 : sp_nw (upd r (143 + 4 * k) x) = sp_nw r := sp_nw_upd (by omega)
  have n8 : sp_ns (upd r (143 + 4 * k) x) = sp_ns r := sp_ns_upd (by omega)
  have n9 : sp_nl (upd r (143 + 4 * k) x) = sp_nl r := sp_nl_upd (by omega)
  unfold CarRel PlanRel at h ⊢
  rw [n6, n7, n8, n9] at h
  obtain ⟨⟨p1, p2⟩, c1, c2, c3, c4, c5⟩ := h
  refine ⟨⟨p1, fun A K i hm => ?_⟩, c1, c2, fun A K i hm => ?_, fun j hj => ?_, fun j hj hc => ?_⟩
  · have hi : i ≠ 143 + 4 * k := by
      unfold pm at hm
      rcases hm with h | h | h | h | h | h | h | h | h | h <;> omega
    exact (p2 A K i hm).trans (upd_ne hi)
  · have hi : i ≠ 143 + 4 * k := by
      unfold km at hm
      rcases hm with h | h | h | h | h | h | h | h | h | h | h | h | h <;> omega
    exact (c3 A K i hm).trans (upd_ne hi)
  · rw [c4 j hj]
    unfold sp_car
    rw [n9]
    exact sp_carTo_upd _ (fun m _ => by omega)
  · have hjk : j ≠ k := fun e => hn (by rw [← e]; exact hc)
    have z := c5 j hj (by rw [upd_ne (by omega)]; exact hc)
    rw [upd_ne (by omega)] at z
    exact z
