/-- a row as a text lays it, before its loads -/
def sp_fresh (r : Nat → Int32) : Prop := (r 1 = nI 0 ∧ r 2 = nI 0 ∧ r 3 = nI 0 ∧ r 4 = nI 0 ∧ r 5 = nI 0 ∧ sp_nl r = 0) ∧ (∀ k : Nat, k < sp_nc r → r (13 + 8 * k) = r (12 + 8 * k) ∧ r (14 + 8 * k) = nI 0 ∧ r (15 + 8 * k) = nI 0 ∧ r (16 + 8 * k) = nI 0) ∧ ∀ k : Nat, k < sp_nw r → r (93 + 4 * k) = r (91 + 4 * k)
theorem CR_fresh {I : am_I} {c q p : Nat} {r : Nat → Int32} (hp : PlanRel I p r) (hf : sp_fresh r) (h1 : I c 1 = nI 0 ∧ I c 2 = nI 0 ∧ I c 3 = nI 0 ∧ I c 4 = nI 0 ∧ I c 5 = nI 0 ∧ I c 12 = nI 0)
    (hc : ∀ m : Nat, m < sp_nc r → I q m = r (12 + 8 * m) ∧ I (q + 1) m = nI 0 ∧ I (q + 2) m = nI 0 ∧ I (q + 3) m = nI 0 ∧ I (q + 4) m = nI 0) (hw : ∀ m : Nat, m < sp_nw r → I (q + 5) m = r (91 + 4 * m)) : CarRel I c q p r := by
  obtain ⟨⟨f1, f2, f3, f4, f5, f6⟩, fc, fw⟩ := hf
  refine ⟨hp, by rw [h1.2.2.2.2.2, f6], by omega, fun A K i hm => ?_, fun m hm => ?_, fun K hK => by omega⟩
  · unfold km at hm
    rcases hm with ⟨e, e2, e3⟩ | ⟨e, e2, e3⟩ | ⟨e, e2, e3⟩ | ⟨e, e2, e3⟩ | ⟨e, e2, e3⟩ | ⟨e, e2, e3⟩ | ⟨e, e2, e3⟩ | ⟨e, e2, e3⟩ | ⟨e, e2, e3⟩ | ⟨e, e2, e3⟩ | ⟨e, e2, e3⟩ | ⟨e, e2, e3⟩ | ⟨e, e2, e3⟩
    · rw [e, e2, e3, h1.1, f1]
    · rw [e, e2, e3, h1.2.1, f2]
    · rw [e, e2, e3, h1.2.2.1, f3]
    · rw [e, e2, e3, h1.2.2.2.1, f4]
    · rw [e, e2, e3, h1.2.2.2.2.1, f5]
    · rw [e, e3, (hc K e2).1, (fc K e2).1]
    · rw [e, e3, (hc K e2).2.1, (fc K e2).2.1]
    · rw [e, e3, (hc K e2).2.2.1, (fc K e2).2.2.1]
    · rw [e, e3, (hc K e2).2.2.2.1, (fc K e2).2.2.2]
    · rw [e, e3, hw K e2, fw K e2]
    · omega
    · omega
    · omega
  · rw [(hc m hm).2.2.2.2]
    unfold sp_car
    rw [f6]
    rfl
/-- whose turn it is to drink: of the first k; d: what each has drunk, below 0 while waiting -/
def sp_nextTo (r d : Nat → Int32) : Nat → Int32
  | 0 => -1
  | k + 1 => if r (16 + 8 * k) < nI 3 ∧ d k < 0 ∧ (sp_nextTo r d k < 0 ∨ r (13 + 8 * k) < r (13 + 8 * (sp_nextTo r d k).toNatClampNeg)) then nI k else sp_nextTo r d k
theorem sp_nextTo_t {r d : Nat → Int32} {k : Nat} (h : r (16 + 8 * k) < nI 3 ∧ d k < 0 ∧ (sp_nextTo r d k < 0 ∨ r (13 + 8 * k) < r (13 + 8 * (sp_nextTo r d k).toNatClampNeg))) : sp_nextTo r d (k + 1) = nI k := if_pos h
theorem sp_nextTo_f {r d : Nat → Int32} {k : Nat} (h : ¬ (r (16 + 8 * k) < nI 3 ∧ d k < 0 ∧ (sp_nextTo r d k < 0 ∨ r (13 + 8 * k) < r (13 + 8 * (sp_nextTo r d k).toNatClampNeg)))) : sp_nextTo r d (k + 1) = sp_nextTo r d k := if_neg h
theorem sp_nextTo_or (r d : Nat → Int32) (k : Nat) : sp_nextTo r d k = -1 ∨ ∃ m : Nat, sp_nextTo r d k = nI m ∧ m < k ∧ r (16 + 8 * m) < nI 3 ∧ d m < 0 := by
  induction k with
  | zero => exact Or.inl rfl
  | succ k ih =>
    by_cases h : r (16 + 8 * k) < nI 3 ∧ d k < 0 ∧ (sp_nextTo r d k < 0 ∨ r (13 + 8 * k) < r (13 + 8 * (sp_nextTo r d k).toNatClampNeg))
    · rw [sp_nextTo_t h]; exact Or.inr ⟨k, rfl, Nat.lt_succ_self k, h.1, h.2.1⟩
    · rw [sp_nextTo_f h]
      rcases ih with e | ⟨m, e, hm, ha⟩
      · exact Or.inl e
      · exact Or.inr ⟨m, e, Nat.lt_succ_of_lt hm, ha⟩
theorem sp_nextTo_congr {r d d' : Nat → Int32} (k : Nat) (h : ∀ m : Nat, m < k → d m = d' m) : sp_nextTo r d k = sp_nextTo r d' k := by
  induction k with
  | zero => rfl
  | succ k ih => simp only [sp_nextTo, ih (fun m hm => h m (Nat.lt_succ_of_lt hm)), h k (Nat.lt_succ_self k)]
/-- n turns of drinking from a level, what each has drunk in d -/
def sp_turns (r : Nat → Int32) : Nat → (Nat → Int32) → Int32 → (Nat → Int32)
  | 0, d, _ => d
  | n + 1, d, lv => if sp_nextTo r d (sp_nc r) < 0 then d else sp_turns r n (upd d (sp_nextTo r d (sp_nc r)).toNatClampNeg (sp_min lv (r (12 + 8 * (sp_nextTo r d (sp_nc r)).toNatClampNeg) - r (13 + 8 * (sp_nextTo r d (sp_nc r)).toNatClampNeg)))) (lv - sp_min lv (r (12 + 8 * (sp_nextTo r d (sp_nc r)).toNatClampNeg) - r (13 + 8 * (sp_nextTo r d (sp_nc r)).toNatClampNeg)))
theorem sp_turns_f {r d : Nat → Int32} {n : Nat} {lv : Int32} (h : sp_nextTo r d (sp_nc r) = -1) : sp_turns r (n + 1) d lv = d := by
  simp only [sp_turns, h]
  rw [if_pos (by decide)]
theorem sp_turns_t {r d : Nat → Int32} {n m : Nat} {lv : Int32} (h : sp_nextTo r d (sp_nc r) = nI m) (hm : m < 2 ^ 31) : sp_turns r (n + 1) d lv = sp_turns r n (upd d m (sp_min lv (r (12 + 8 * m) - r (13 + 8 * m)))) (lv - sp_min lv (r (12 + 8 * m) - r (13 + 8 * m))) := by
  simp only [sp_turns, h, nI_clamp hm]
  rw [if_neg (nI_pos hm)]
/-- what each camel would drink at a well now, below 0 for who doesn't -/
def sp_drinks (r : Nat → Int32) (w : Nat) : Nat → Int32 := sp_turns r (sp_nc r) (fun _ => -1) (r (93 + 4 * w))
theorem sp_turns_congr {r : Nat → Int32} (n : Nat) : ∀ (d d' : Nat → Int32) (lv : Int32), (∀ m : Nat, m < sp_nc r → d m = d' m) → ∀ m : Nat, m < sp_nc r → sp_turns r n d lv m = sp_turns r n d' lv m := by
  induction n with
  | zero => intro d d' lv h; exact h
  | succ n ih =>
    intro d d' lv h
    have e := sp_nextTo_congr (r := r) (sp_nc r) h
    rcases sp_nextTo_or r d (sp_nc r) with g | ⟨m, g, -⟩
    · rw [sp_turns_f g, sp_turns_f (by rw [← e]; exact g)]
      exact h
    · simp only [sp_turns, ← e]
      split
      · exact h
      · refine ih _ _ _ (fun i hi => ?_)
        by_cases q : i = (sp_nextTo r d (sp_nc r)).toNatClampNeg
        · rw [q, upd_eq, upd_eq]
        · rw [upd_ne q, upd_ne q]; exact h i hi
/-- the litres of the first k camels together -/
def sp_sumTo (d : Nat → Int32) : Nat → Int32
  | 0 => nI 0
  | k + 1 => if d k = -1 then sp_sumTo d k else sp_sumTo d k + d k
/-- the first k camels have drunk -/
def sp_fillTo (r d : Nat → Int32) : Nat → Nat → Int32
  | 0 => r
  | k + 1 => if d k = -1 then sp_fillTo r d k else upd (sp_fillTo r d k) (13 + 8 * k) (sp_fillTo r d k (13 + 8 * k) + d k)
theorem sp_sumTo_t {d : Nat → Int32} {k : Nat} (h : d k = -1) : sp_sumTo d (k + 1) = sp_sumTo d k := if_pos h
theorem sp_sumTo_f {d : Nat → Int32} {k : Nat} (h : ¬ d k = -1) : sp_sumTo d (k + 1) = sp_sumTo d k + d k := if_neg h
theorem sp_fillTo_t {r d : Nat → Int32} {k : Nat} (h : d k = -1) : sp_fillTo r d (k + 1) = sp_fillTo r d k := if_pos h
theorem sp_fillTo_f {r d : Nat → Int32} {k : Nat} (h : ¬ d k = -1) : sp_fillTo r d (k + 1) = upd (sp_fillTo r d k) (13 + 8 * k) (sp_fillTo r d k (13 + 8 * k) + d k) := if_neg h
theorem sc_fill (r d : Nat → Int32) (k : Nat) : sp_sc r (sp_fillTo r d k) := by
  induction k with
  | zero => exact sp_sc.rf
  | succ k ih =>
    by_cases h : d k = -1
    · rw [sp_fillTo_t h]; exact ih
    · rw [sp_fillTo_f h]; exact ih.up (by omega)
def sp_drink (r d : Nat → Int32) (w : Nat) : Nat → Int32 := upd (upd (sp_fillTo r d (sp_nc r)) (93 + 4 * w) (sp_fillTo r d (sp_nc r) (93 + 4 * w) - sp_sumTo d (sp_nc r))) 5 (sp_fillTo r d (sp_nc r) 5 + sp_sumTo d (sp_nc r))
