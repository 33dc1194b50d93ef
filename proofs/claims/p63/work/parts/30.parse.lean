
/-! ===== reading a text: what it tells, or where its error begins ===== -/
abbrev sp_S : Type := sp_T × (Nat → Int32)
def sp_ok {α : Type} : Except Nat α → Bool
  | .ok _ => true
  | .error _ => false
def sp_bd {α β : Type} : Except Nat α → (α → Except Nat β) → Except Nat β
  | .ok a, f => f a
  | .error x, _ => .error x
theorem sp_ok_iff {α : Type} {e : Except Nat α} : sp_ok e = true ↔ ∃ s, e = .ok s := by
  cases e with
  | ok s => exact ⟨fun _ => ⟨s, rfl⟩, fun _ => rfl⟩
  | error x => exact ⟨fun h => (by cases h), fun ⟨s, h⟩ => (by cases h)⟩
theorem sp_nok {α : Type} {e : Except Nat α} (h : ¬ sp_ok e = true) : ∃ x, e = .error x := by
  cases e with
  | ok s => exact absurd rfl h
  | error x => exact ⟨x, rfl⟩
theorem sp_bd_inv {α β : Type} {e : Except Nat α} {f : α → Except Nat β} {y : β} (h : sp_bd e f = .ok y) : ∃ x, e = .ok x ∧ f x = .ok y := by
  cases e with
  | ok s => exact ⟨s, rfl, h⟩
  | error x => cases h
def sp_tn (tb : Nat → Nat) (n lo hi : Nat) (t : sp_T) : Except Nat (Nat × sp_T) := if t.1 = 2 ∧ lo ≤ t.2.2.2 ∧ t.2.2.2 ≤ hi then .ok (t.2.2.2, sp_nx tb n t) else .error t.2.1
def sp_ts (tb : Nat → Nat) (n : Nat) (t : sp_T) : Except Nat sp_T := if t.1 = 3 then .ok (sp_nx tb n t) else .error t.2.1
theorem sp_tn_t {tb : Nat → Nat} {n lo hi : Nat} {t : sp_T} (h : t.1 = 2 ∧ lo ≤ t.2.2.2 ∧ t.2.2.2 ≤ hi) : sp_tn tb n lo hi t = .ok (t.2.2.2, sp_nx tb n t) := if_pos h
theorem sp_tn_f {tb : Nat → Nat} {n lo hi : Nat} {t : sp_T} (h : ¬ (t.1 = 2 ∧ lo ≤ t.2.2.2 ∧ t.2.2.2 ≤ hi)) : sp_tn tb n lo hi t = .error t.2.1 := if_neg h
theorem sp_ts_t {tb : Nat → Nat} {n : Nat} {t : sp_T} (h : t.1 = 3) : sp_ts tb n t = .ok (sp_nx tb n t) := if_pos h
theorem sp_ts_f {tb : Nat → Nat} {n : Nat} {t : sp_T} (h : ¬ t.1 = 3) : sp_ts tb n t = .error t.2.1 := if_neg h
theorem sp_tn_inv {tb : Nat → Nat} {n lo hi : Nat} {t : sp_T} {a : Nat × sp_T} (h : sp_tn tb n lo hi t = .ok a) : (t.1 = 2 ∧ lo ≤ t.2.2.2 ∧ t.2.2.2 ≤ hi) ∧ a = (t.2.2.2, sp_nx tb n t) := by
  by_cases c : t.1 = 2 ∧ lo ≤ t.2.2.2 ∧ t.2.2.2 ≤ hi
  · rw [sp_tn_t c] at h; exact ⟨c, (Except.ok.inj h).symm⟩
  · rw [sp_tn_f c] at h; cases h
theorem sp_ts_inv {tb : Nat → Nat} {n : Nat} {t a : sp_T} (h : sp_ts tb n t = .ok a) : t.1 = 3 ∧ a = sp_nx tb n t := by
  by_cases c : t.1 = 3
  · rw [sp_ts_t c] at h; exact ⟨c, (Except.ok.inj h).symm⟩
  · rw [sp_ts_f c] at h; cases h
def sp_start (L : Nat) : Nat → Int32 := fun k => if k = 0 then nI L else nI 0
def sp_rRoute (tb : Nat → Nat) (n : Nat) (t : sp_T) : Except Nat sp_S := if sp_isw tb t 1 = true then sp_bd (sp_tn tb n 10 999 (sp_nx tb n t)) (fun a => sp_bd (sp_ts tb n a.2) (fun d => .ok (d, sp_start a.1))) else .error t.2.1
def sp_rCamel (tb : Nat → Nat) (n : Nat) (s : sp_S) : Except Nat sp_S := sp_bd (sp_tn tb n 10 60 (sp_nx tb n s.1)) (fun a => sp_bd (sp_tn tb n 1 9 a.2) (fun b => sp_bd (sp_tn tb n 10 90 b.2) (fun c => sp_bd (sp_ts tb n c.2) (fun d => .ok (d, sp_addCamel s.2 (nI a.1) (nI b.1) (nI c.1))))))
def sp_rWell2 (tb : Nat → Nat) (n : Nat) (t : sp_T) (r : Nat → Int32) : Except Nat sp_S := sp_bd (sp_tn tb n 0 (r 0).toNatClampNeg t) (fun a => sp_bd (sp_tn tb n 1 999 a.2) (fun b => sp_bd (sp_tn tb n 0 99 b.2) (fun c => sp_bd (sp_ts tb n c.2) (fun d => .ok (d, sp_addWell r (nI a.1) (nI b.1) (nI c.1))))))
def sp_rWell (tb : Nat → Nat) (n : Nat) (s : sp_S) : Except Nat sp_S := if (sp_nx tb n s.1).1 = 2 ∧ ¬ sp_wellOn s.2 (nI (sp_nx tb n s.1).2.2.2) = -1 then .error (sp_nx tb n s.1).2.1 else sp_rWell2 tb n (sp_nx tb n s.1) s.2
def sp_rStorm (tb : Nat → Nat) (n : Nat) (s : sp_S) : Except Nat sp_S := sp_bd (sp_tn tb n 0 200 (sp_nx tb n s.1)) (fun a => sp_bd (sp_tn tb n a.1 200 a.2) (fun b => sp_bd (sp_tn tb n 1 9 b.2) (fun c => sp_bd (sp_ts tb n c.2) (fun d => .ok (d, sp_addStorm s.2 (nI a.1) (nI b.1) (nI c.1))))))
/-- what stands behind a load's two numbers -/
def sp_rTail (tb : Nat → Nat) (n : Nat) (t : sp_T) (r : Nat → Int32) (k w : Nat) : Except Nat sp_S :=
  if sp_isw tb t 6 = true then
    if (sp_nx tb n t).1 = 2 ∧ (sp_nx tb n t).2.2.2 < sp_nc r ∧ ¬ sp_free r (sp_nx tb n t).2.2.2 < nI w then sp_bd (sp_ts tb n (sp_nx tb n (sp_nx tb n t))) (fun d => .ok (d, sp_hang r k (sp_nx tb n t).2.2.2)) else .error (sp_nx tb n t).2.1
  else sp_bd (sp_ts tb n t) (fun d => .ok (d, r))
def sp_rLoad (tb : Nat → Nat) (n : Nat) (s : sp_S) : Except Nat sp_S := sp_bd (sp_tn tb n 1 99 (sp_nx tb n s.1)) (fun a => sp_bd (sp_tn tb n 1 99 a.2) (fun b => sp_rTail tb n b.2 (sp_bring s.2 (nI a.1) (nI b.1)) (sp_nl s.2) a.1))
def sp_lp (tb : Nat → Nat) (w : Nat) (f : sp_S → Except Nat sp_S) : Nat → Except Nat sp_S → Except Nat sp_S
  | 0, e => e
  | _ + 1, .error x => .error x
  | k + 1, .ok s => if sp_isw tb s.1 w = true then sp_lp tb w f k (f s) else .ok s
theorem sp_lp_e {tb : Nat → Nat} {w : Nat} {f : sp_S → Except Nat sp_S} {k x : Nat} : sp_lp tb w f k (.error x) = .error x := by cases k <;> rfl
theorem sp_lp_n {tb : Nat → Nat} {w : Nat} {f : sp_S → Except Nat sp_S} {k : Nat} {s : sp_S} (h : ¬ sp_isw tb s.1 w = true) : sp_lp tb w f k (.ok s) = .ok s := by
  cases k with
  | zero => rfl
  | succ k => exact if_neg h
theorem sp_lp_y {tb : Nat → Nat} {w : Nat} {f : sp_S → Except Nat sp_S} {k : Nat} {s : sp_S} (h : sp_isw tb s.1 w = true) : sp_lp tb w f (k + 1) (.ok s) = sp_lp tb w f k (f s) := if_pos h
def sp_rCamels (tb : Nat → Nat) (n : Nat) (s : sp_S) : Except Nat sp_S := sp_lp tb 2 (sp_rCamel tb n) 10 (if sp_isw tb s.1 2 = true then .ok s else .error s.1.2.1)
def sp_rWells (tb : Nat → Nat) (n : Nat) (s : sp_S) : Except Nat sp_S := sp_lp tb 3 (sp_rWell tb n) 8 (.ok s)
def sp_rStorms (tb : Nat → Nat) (n : Nat) (s : sp_S) : Except Nat sp_S := sp_lp tb 4 (sp_rStorm tb n) 6 (.ok s)
def sp_rLoads (tb : Nat → Nat) (n : Nat) (s : sp_S) : Except Nat sp_S := sp_lp tb 5 (sp_rLoad tb n) 20 (.ok s)
def sp_rPlan (tb : Nat → Nat) (n : Nat) : Except Nat sp_S := sp_bd (sp_bd (sp_bd (sp_rRoute tb n (sp_tok tb n 0)) (sp_rCamels tb n)) (sp_rWells tb n)) (sp_rStorms tb n)
def sp_rEnd (s : sp_S) : Except Nat (Nat → Int32) := if s.1.1 = 0 then .ok s.2 else .error s.1.2.1
def sp_parse (tb : Nat → Nat) (n : Nat) : Except Nat (Nat → Int32) := sp_bd (sp_bd (sp_rPlan tb n) (sp_rLoads tb n)) sp_rEnd
/-! rows in the making -/
theorem addCamel_at {r : Nat → Int32} {x y z : Int32} {j : Nat} (h : j ≠ 6 ∧ (j < 10 + 8 * sp_nc r ∨ 14 + 8 * sp_nc r ≤ j)) : sp_addCamel r x y z j = r j := by
  unfold sp_addCamel
  rw [upd_ne h.1, upd_ne (by omega), upd_ne (by omega), upd_ne (by omega), upd_ne (by omega)]
theorem addWell_at {r : Nat → Int32} {x y z : Int32} {j : Nat} (h : j ≠ 7 ∧ (j < 90 + 4 * sp_nw r ∨ 94 + 4 * sp_nw r ≤ j)) : sp_addWell r x y z j = r j := by
  unfold sp_addWell
  rw [upd_ne h.1, upd_ne (by omega), upd_ne (by omega), upd_ne (by omega), upd_ne (by omega)]
theorem addStorm_at {r : Nat → Int32} {x y z : Int32} {j : Nat} (h : j ≠ 8 ∧ (j < 122 + 3 * sp_ns r ∨ 125 + 3 * sp_ns r ≤ j)) : sp_addStorm r x y z j = r j := by
  unfold sp_addStorm
  rw [upd_ne h.1, upd_ne (by omega), upd_ne (by omega), upd_ne (by omega)]
/-- a row in the making: what the reading needs of it -/
def PG (r : Nat → Int32) (a b c : Nat) : Prop := sp_nc r ≤ a ∧ sp_nw r ≤ b ∧ sp_ns r ≤ c ∧ sp_fresh r ∧ (∃ L : Nat, r 0 = nI L ∧ L ≤ 999) ∧ ∀ j : Nat, 10 + 8 * sp_nc r ≤ j → j < 90 → r j = nI 0
theorem PG.mono {r : Nat → Int32} {a b c a' b' c' : Nat} (h : PG r a b c) (h1 : a ≤ a') (h2 : b ≤ b') (h3 : c ≤ c') : PG r a' b' c' := ⟨Nat.le_trans h.1 h1, Nat.le_trans h.2.1 h2, Nat.le_trans h.2.2.1 h3, h.2.2.2⟩
theorem PG_start {L : Nat} (h : L ≤ 999) : PG (sp_start L) 0 0 0 := by
  have e : ∀ k : Nat, k ≠ 0 → sp_start L k = nI 0 := fun k hk => if_neg hk
  have z : (nI 0).toNatClampNeg = 0 := by decide
  have c : sp_nc (sp_start L) = 0 := by unfold sp_nc; rw [e 6 (by omega)]; exact z
  have w : sp_nw (sp_start L) = 0 := by unfold sp_nw; rw [e 7 (by omega)]; exact z
  have s : sp_ns (sp_start L) = 0 := by unfold sp_ns; rw [e 8 (by omega)]; exact z
  have l : sp_nl (sp_start L) = 0 := by unfold sp_nl; rw [e 9 (by omega)]; exact z
  exact ⟨by omega, by omega, by omega, ⟨⟨e 1 (by omega), e 2 (by omega), e 3 (by omega), e 4 (by omega), e 5 (by omega), l⟩, fun k hk => by omega, fun k hk => by omega⟩, ⟨L, rfl, h⟩, fun j h1 _ => e j (by omega)⟩
theorem PG_camel {r : Nat → Int32} {a b c : Nat} {x y z : Int32} (h : PG r a b c) (ha : a < 10) (hb : b ≤ 8) : PG (sp_addCamel r x y z) (a + 1) b c := by
  obtain ⟨h1, h2, h3, ⟨⟨f1, f2, f3, f4, f5, f6⟩, fc, fw⟩, ⟨L, hL, hL2⟩, hz⟩ := h
  have nc : sp_nc (sp_addCamel r x y z) = sp_nc r + 1 := by
    show (sp_addCamel r x y z 6).toNatClampNeg = _
    unfold sp_addCamel
    rw [upd_eq, nI_clamp (by omega)]
  have at0 : ∀ j : Nat, j < 6 ∨ j = 7 ∨ j = 8 ∨ j = 9 → sp_addCamel r x y z j = r j := fun j hj => addCamel_at ⟨by omega, Or.inl (by omega)⟩
  have nw : sp_nw (sp_addCamel r x y z) = sp_nw r := by unfold sp_nw; rw [at0 7 (by omega)]
  have ns : sp_ns (sp_addCamel r x y z) = sp_ns r := by unfold sp_ns; rw [at0 8 (by omega)]
  have nl : sp_nl (sp_addCamel r x y z) = sp_nl r := by unfold sp_nl; rw [at0 9 (by omega)]
  refine ⟨by omega, by omega, by omega, ⟨⟨by rw [at0 1 (by omega)]; exact f1, by rw [at0 2 (by omega)]; exact f2, by rw [at0 3 (by omega)]; exact f3, by rw [at0 4 (by omega)]; exact f4, by rw [at0 5 (by omega)]; exact f5, by rw [nl]; exact f6⟩, fun k hk => ?_, fun k hk => ?_⟩, ⟨L, by rw [at0 0 (by omega)]; exact hL, hL2⟩, fun j g1 g2 => ?_⟩
  · by_cases e : k = sp_nc r
    · subst e
      refine ⟨?_, by rw [addCamel_at ⟨by omega, Or.inr (by omega)⟩]; exact hz _ (by omega) (by omega), by rw [addCamel_at ⟨by omega, Or.inr (by omega)⟩]; exact hz _ (by omega) (by omega), by rw [addCamel_at ⟨by omega, Or.inr (by omega)⟩]; exact hz _ (by omega) (by omega)⟩
      unfold sp_addCamel
      rw [upd_ne (by omega), upd_eq, upd_ne (by omega), upd_ne (by omega), upd_eq]
    · have g := fc k (by omega)
      rw [addCamel_at ⟨by omega, Or.inl (by omega)⟩, addCamel_at ⟨by omega, Or.inl (by omega)⟩, addCamel_at ⟨by omega, Or.inl (by omega)⟩, addCamel_at ⟨by omega, Or.inl (by omega)⟩, addCamel_at ⟨by omega, Or.inl (by omega)⟩]
      exact g
  · rw [addCamel_at ⟨by omega, Or.inr (by omega)⟩, addCamel_at ⟨by omega, Or.inr (by omega)⟩]
    exact fw k (by omega)
  · rw [addCamel_at ⟨by omega, Or.inr (by omega)⟩]
    exact hz j (by omega) g2
theorem PG_well {r : Nat → Int32} {a b c : Nat} {x y z : Int32} (h : PG r a b c) (ha : a ≤ 10) (hb : b < 8) : PG (sp_addWell r x y z) a (b + 1) c := by
  obtain ⟨h1, h2, h3, ⟨⟨f1, f2, f3, f4, f5, f6⟩, fc, fw⟩, ⟨L, hL, hL2⟩, hz⟩ := h
  have nw : sp_nw (sp_addWell r x y z) = sp_nw r + 1 := by
    show (sp_addWell r x y z 7).toNatClampNeg = _
    unfold sp_addWell
    rw [upd_eq, nI_clamp (by omega)]
  have at0 : ∀ j : Nat, j ≠ 7 → j < 90 → sp_addWell r x y z j = r j := fun j hj h9 => addWell_at ⟨hj, Or.inl (by omega)⟩
  have nc : sp_nc (sp_addWell r x y z) = sp_nc r := by unfold sp_nc; rw [at0 6 (by omega) (by omega)]
  have ns : sp_ns (sp_addWell r x y z) = sp_ns r := by unfold sp_ns; rw [at0 8 (by omega) (by omega)]
  have nl : sp_nl (sp_addWell r x y z) = sp_nl r := by unfold sp_nl; rw [at0 9 (by omega) (by omega)]
  refine ⟨by omega, by omega, by omega, ⟨⟨by rw [at0 1 (by omega) (by omega)]; exact f1, by rw [at0 2 (by omega) (by omega)]; exact f2, by rw [at0 3 (by omega) (by omega)]; exact f3, by rw [at0 4 (by omega) (by omega)]; exact f4, by rw [at0 5 (by omega) (by omega)]; exact f5, by rw [nl]; exact f6⟩, fun k hk => ?_, fun k hk => ?_⟩, ⟨L, by rw [at0 0 (by omega) (by omega)]; exact hL, hL2⟩, fun j g1 g2 => ?_⟩
  · have g := fc k (by omega)
    rw [at0 _ (by omega) (by omega), at0 _ (by omega) (by omega), at0 _ (by omega) (by omega), at0 _ (by omega) (by omega), at0 _ (by omega) (by omega)]
    exact g
  · by_cases e : k = sp_nw r
    · subst e
      unfold sp_addWell
      rw [upd_ne (by omega), upd_eq, upd_ne (by omega), upd_ne (by omega), upd_ne (by omega), upd_eq]
    · rw [addWell_at ⟨by omega, Or.inl (by omega)⟩, addWell_at ⟨by omega, Or.inl (by omega)⟩]
      exact fw k (by omega)
  · rw [at0 _ (by omega) (by omega)]
    exact hz j (by omega) g2
theorem PG_storm {r : Nat → Int32} {a b c : Nat} {x y z : Int32} (h : PG r a b c) (ha : a ≤ 10) (hb : b ≤ 8) (hc : c < 6) : PG (sp_addStorm r x y z) a b (c + 1) := by
  obtain ⟨h1, h2, h3, ⟨⟨f1, f2, f3, f4, f5, f6⟩, fc, fw⟩, ⟨L, hL, hL2⟩, hz⟩ := h
  have ns : sp_ns (sp_addStorm r x y z) = sp_ns r + 1 := by
    show (sp_addStorm r x y z 8).toNatClampNeg = _
    unfold sp_addStorm
    rw [upd_eq, nI_clamp (by omega)]
  have at0 : ∀ j : Nat, j ≠ 8 → j < 122 → sp_addStorm r x y z j = r j := fun j hj h9 => addStorm_at ⟨hj, Or.inl (by omega)⟩
  have nc : sp_nc (sp_addStorm r x y z) = sp_nc r := by unfold sp_nc; rw [at0 6 (by omega) (by omega)]
  have nw : sp_nw (sp_addStorm r x y z) = sp_nw r := by unfold sp_nw; rw [at0 7 (by omega) (by omega)]
  have nl : sp_nl (sp_addStorm r x y z) = sp_nl r := by unfold sp_nl; rw [at0 9 (by omega) (by omega)]
  refine ⟨by omega, by omega, by omega, ⟨⟨by rw [at0 1 (by omega) (by omega)]; exact f1, by rw [at0 2 (by omega) (by omega)]; exact f2, by rw [at0 3 (by omega) (by omega)]; exact f3, by rw [at0 4 (by omega) (by omega)]; exact f4, by rw [at0 5 (by omega) (by omega)]; exact f5, by rw [nl]; exact f6⟩, fun k hk => ?_, fun k hk => ?_⟩, ⟨L, by rw [at0 0 (by omega) (by omega)]; exact hL, hL2⟩, fun j g1 g2 => ?_⟩
  · have g := fc k (by omega)
    rw [at0 _ (by omega) (by omega), at0 _ (by omega) (by omega), at0 _ (by omega) (by omega), at0 _ (by omega) (by omega), at0 _ (by omega) (by omega)]
    exact g
  · rw [at0 _ (by omega) (by omega), at0 _ (by omega) (by omega)]
    exact fw k (by omega)
  · rw [at0 _ (by omega) (by omega)]
    exact hz j (by omega) g2
theorem rCamel_inv {tb : Nat → Nat} {n : Nat} {s s' : sp_S} (h : sp_rCamel tb n s = .ok s') : ∃ x y z : Nat, (10 ≤ x ∧ x ≤ 60 ∧ 1 ≤ y ∧ y ≤ 9 ∧ 10 ≤ z ∧ z ≤ 90) ∧ s'.2 = sp_addCamel s.2 (nI x) (nI y) (nI z) := by
  obtain ⟨a, ha, h⟩ := sp_bd_inv h
  obtain ⟨b, hb, h⟩ := sp_bd_inv h
  obtain ⟨c, hc, h⟩ := sp_bd_inv h
  obtain ⟨d, hd, h⟩ := sp_bd_inv h
  cases h
  have ga := sp_tn_inv ha
  have gb := sp_tn_inv hb
  have gc := sp_tn_inv hc
  exact ⟨a.1, b.1, c.1, by rw [ga.2, gb.2, gc.2]; exact ⟨ga.1.2.1, ga.1.2.2, gb.1.2.1, gb.1.2.2, gc.1.2.1, gc.1.2.2⟩, rfl⟩
theorem rWell_inv {tb : Nat → Nat} {n : Nat} {s s' : sp_S} (h : sp_rWell tb n s = .ok s') : ∃ x y z : Nat, (x ≤ (s.2 0).toNatClampNeg ∧ 1 ≤ y ∧ y ≤ 999 ∧ z ≤ 99 ∧ sp_wellOn s.2 (nI x) = -1) ∧ s'.2 = sp_addWell s.2 (nI x) (nI y) (nI z) := by
  unfold sp_rWell at h
  by_cases q : (sp_nx tb n s.1).1 = 2 ∧ ¬ sp_wellOn s.2 (nI (sp_nx tb n s.1).2.2.2) = -1
  · rw [if_pos q] at h; cases h
  · rw [if_neg q] at h
    obtain ⟨a, ha, h⟩ := sp_bd_inv h
    obtain ⟨b, hb, h⟩ := sp_bd_inv h
    obtain ⟨c, hc, h⟩ := sp_bd_inv h
    obtain ⟨d, hd, h⟩ := sp_bd_inv h
    cases h
    have ga := sp_tn_inv ha
    have gb := sp_tn_inv hb
    have gc := sp_tn_inv hc
    refine ⟨a.1, b.1, c.1, ?_, rfl⟩
    rw [ga.2, gb.2, gc.2]
    exact ⟨ga.1.2.2, gb.1.2.1, gb.1.2.2, gc.1.2.2, Classical.byContradiction (fun z => q ⟨ga.1.1, z⟩)⟩
theorem rStorm_inv {tb : Nat → Nat} {n : Nat} {s s' : sp_S} (h : sp_rStorm tb n s = .ok s') : ∃ x y z : Nat, (x ≤ y ∧ y ≤ 200 ∧ 1 ≤ z ∧ z ≤ 9) ∧ s'.2 = sp_addStorm s.2 (nI x) (nI y) (nI z) := by
  obtain ⟨a, ha, h⟩ := sp_bd_inv h
  obtain ⟨b, hb, h⟩ := sp_bd_inv h
  obtain ⟨c, hc, h⟩ := sp_bd_inv h
  obtain ⟨d, hd, h⟩ := sp_bd_inv h
  cases h
  have gb := sp_tn_inv hb
  have gc := sp_tn_inv hc
  exact ⟨a.1, b.1, c.1, by rw [gb.2, gc.2]; exact ⟨gb.1.2.1, gb.1.2.2, gc.1.2.1, gc.1.2.2⟩, rfl⟩
/-! ===== what a reading method leaves ===== -/
def DFr (i : Nat) (I I' : am_I) : Prop := ∀ b K : Nat, ¬ (b = i ∧ 3 ≤ K ∧ K ≤ 7) → ¬ (i + 2 ≤ b ∧ b < i + 23) → I' b K = I b K
theorem DFr.rf {i : Nat} {I : am_I} : DFr i I I := fun _ _ _ _ => rfl
theorem DFr.tr {i : Nat} {I I1 I2 : am_I} (h : DFr i I I1) (h2 : DFr i I1 I2) : DFr i I I2 := fun b K h3 h4 => (h2 b K h3 h4).trans (h b K h3 h4)
theorem InFr.d {i : Nat} {I I' : am_I} (h : InFr i I I') : DFr i I I' := fun b K h1 _ => h b K h1
theorem DFr.pl {i : Nat} {I I' : am_I} (h : ∀ b : Nat, (b < i + 3 ∨ i + 3 + 10 ≤ b) → I' b = I b) : DFr i I I' := fun b K _ h2 => by rw [h b (by omega)]
theorem DFr.ca {i : Nat} {I I' : am_I} (h : am_fr (i + 2) (i + 13) I I') : DFr i I I' := fun b K _ h2 => by rw [h b (by omega) (by omega)]
theorem InTxt.dfr {I I' : am_I} {i n : Nat} {tb : Nat → Nat} (h : InTxt I i tb n) (hf : DFr i I I') : InTxt I' i tb n := ⟨by rw [hf i 1 (by omega) (by omega)]; exact h.1, h.2.1, fun j hj => by rw [hf (i + 1) j (by omega) (by omega)]; exact h.2.2 j hj⟩
theorem InTok.row {I I' : am_I} {i n : Nat} {t : sp_T} (h : InTok I i n t) (hf : I' i = I i) : InTok I' i n t := by
  unfold InTok
  rw [hf]
  exact h
theorem PlanRel.inf {I I' : am_I} {i : Nat} {r : Nat → Int32} (h : PlanRel I (i + 3) r) (hf : InFr i I I') : PlanRel I' (i + 3) r := PlanRel_agree h (fun b g1 g2 => funext (fun K => hf b K (by omega)))
theorem CarRel.inf {I I' : am_I} {i : Nat} {r : Nat → Int32} (h : CarRel I (i + 2) (i + 13) (i + 3) r) (hf : InFr i I I') : CarRel I' (i + 2) (i + 13) (i + 3) r := CR_agree h (funext (fun K => hf (i + 2) K (by omega))) (fun b g1 g2 => funext (fun K => hf b K (by omega))) (fun b g1 g2 => funext (fun K => hf b K (by omega)))
def POut (I' : am_I) (i n : Nat) (v : Option Value) (P : am_I → sp_S → Prop) (e : Except Nat sp_S) : Prop := v = some (.int (am_b (sp_ok e = true))) ∧ (∀ s, e = .ok s → InTok I' i n s.1 ∧ P I' s) ∧ ∀ x, e = .error x → I' i 4 = nI x ∧ x ≤ n
theorem POut_e {I' : am_I} {i n x : Nat} {P : am_I → sp_S → Prop} {e : Except Nat sp_S} (h : e = .error x) (h4 : I' i 4 = nI x) (hx : x ≤ n) : POut I' i n (some (.int (nI 0))) P e := by
  subst h
  exact ⟨congrArg (fun z => some (Value.int z)) (am_bf (fun z => by cases z)), fun s hs => (by cases hs), fun y hy => (by cases hy; exact ⟨h4, hx⟩)⟩
theorem POut_ts {I' : am_I} {i n : Nat} {tb : Nat → Nat} {t : sp_T} {r : Nat → Int32} {P : am_I → sp_S → Prop} {e : Except Nat sp_S} (h : e = sp_bd (sp_ts tb n t) (fun d => .ok (d, r))) (h1 : t.1 = 3 → InTok I' i n (sp_nx tb n t) ∧ P I' (sp_nx tb n t, r)) (h4 : ¬ t.1 = 3 → I' i 4 = nI t.2.1) (hx : t.2.1 ≤ n) : POut I' i n (some (.int (am_b (t.1 = 3)))) P e := by
  subst h
  by_cases c : t.1 = 3
  · rw [sp_ts_t c]
    refine ⟨congrArg (fun z => some (Value.int z)) ?_, fun s hs => ?_, fun y hy => by cases hy⟩
    · rw [← am_bt c]; exact am_bt rfl
    · cases hs; exact h1 c
  · rw [sp_ts_f c]
    refine ⟨congrArg (fun z => some (Value.int z)) ?_, fun s hs => (by cases hs), fun y hy => by cases hy; exact ⟨h4 c, hx⟩⟩
    rw [← am_bf c]; exact am_bf (fun z => by cases z)
