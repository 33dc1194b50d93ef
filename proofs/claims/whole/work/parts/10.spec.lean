/-! ===== what the answers are: numbers read off a row (the reference's own 220 ints); relations of the class's cells to a row ===== -/
def sp_nc (r : Nat → Int32) : Nat := (r 6).toNatClampNeg
def sp_nw (r : Nat → Int32) : Nat := (r 7).toNatClampNeg
def sp_ns (r : Nat → Int32) : Nat := (r 8).toNatClampNeg
def sp_nl (r : Nat → Int32) : Nat := (r 9).toNatClampNeg
def sp_max (x y : Int32) : Int32 := if x < y then y else x
def sp_min (x y : Int32) : Int32 := if y < x then y else x
def sp_stormTo (r : Nat → Int32) (d : Int32) : Nat → Int32
  | 0 => nI 0
  | k + 1 => if r (122 + 3 * k) ≤ d ∧ d ≤ r (123 + 3 * k) then sp_max (sp_stormTo r d k) (r (124 + 3 * k)) else sp_stormTo r d k
def sp_storm (r : Nat → Int32) (d : Int32) : Int32 := sp_stormTo r d (sp_ns r)
/-- the first well at a kilometre, from k on, n still to look at -/
def sp_wellFrom (r : Nat → Int32) (x : Int32) (k : Nat) : Nat → Int32
  | 0 => -1
  | n + 1 => if r (90 + 4 * k) = x then nI k else sp_wellFrom r x (k + 1) n
def sp_wellOn (r : Nat → Int32) (x : Int32) : Int32 := sp_wellFrom r x 0 (sp_nw r)
/-- the nearest well behind a kilometre, of the first k: its number, or -1 -/
def sp_behindTo (r : Nat → Int32) (x : Int32) : Nat → Int32
  | 0 => -1
  | k + 1 => if x < r (90 + 4 * k) ∧ (sp_behindTo r x k < 0 ∨ r (90 + 4 * k) < r (90 + 4 * (sp_behindTo r x k).toNatClampNeg)) then nI k else sp_behindTo r x k
def sp_behind (r : Nat → Int32) (x : Int32) : Int32 := sp_behindTo r x (sp_nw r)
def sp_alive (r : Nat → Int32) (j : Nat) : Prop := r (16 + 8 * j) < nI 3
def sp_livingTo (r : Nat → Int32) : Nat → Nat
  | 0 => 0
  | k + 1 => if r (16 + 8 * k) < nI 3 then sp_livingTo r k + 1 else sp_livingTo r k
def sp_living (r : Nat → Int32) : Nat := sp_livingTo r (sp_nc r)
theorem sp_livingTo_le (r : Nat → Int32) (k : Nat) : sp_livingTo r k ≤ k := by
  induction k with
  | zero => exact Nat.le_refl _
  | succ k ih =>
    simp only [sp_livingTo]
    split <;> omega
def sp_carTo (r : Nat → Int32) (c : Int32) : Nat → Int32
  | 0 => nI 0
  | k + 1 => if r (142 + 4 * k) = c then sp_carTo r c k + r (140 + 4 * k) else sp_carTo r c k
def sp_car (r : Nat → Int32) (j : Nat) : Int32 := sp_carTo r (nI j) (sp_nl r)
def sp_free (r : Nat → Int32) (j : Nat) : Int32 := r (11 + 8 * j) * nI 20 - sp_car r j
def sp_speed (r : Nat → Int32) (j : Nat) : Int32 := sp_max (nI 5) ((if nI 0 < r (15 + 8 * j) then r (10 + 8 * j) / nI 2 else r (10 + 8 * j)) - sp_car r j / nI 10)
def sp_need (r : Nat → Int32) (j : Nat) (storm : Int32) : Int32 := nI 5 + sp_car r j / nI 25 + storm
/-- the living camel with the least water of the first k, or -1 -/
def sp_thirstTo (r : Nat → Int32) : Nat → Int32
  | 0 => -1
  | k + 1 => if r (16 + 8 * k) < nI 3 ∧ (sp_thirstTo r k < 0 ∨ r (13 + 8 * k) < r (13 + 8 * (sp_thirstTo r k).toNatClampNeg)) then nI k else sp_thirstTo r k
def sp_thirst (r : Nat → Int32) : Int32 := sp_thirstTo r (sp_nc r)
def sp_fastTo (r : Nat → Int32) : Nat → Int32
  | 0 => -1
  | k + 1 => if r (16 + 8 * k) < nI 3 ∧ (sp_fastTo r k < 0 ∨ sp_speed r (sp_fastTo r k).toNatClampNeg < sp_speed r k) then nI k else sp_fastTo r k
def sp_fast (r : Nat → Int32) : Int32 := sp_fastTo r (sp_nc r)
/-- what a text fixes, in the class -/
def PlanRel (I : am_I) (p : Nat) (r : Nat → Int32) : Prop := I p 0 = r 0 ∧ I p 1 = nI (sp_nc r) ∧ I p 5 = nI (sp_nw r) ∧ I p 9 = nI (sp_ns r) ∧ sp_nc r ≤ 10 ∧ sp_nw r ≤ 8 ∧ sp_ns r ≤ 6 ∧ (∀ k : Nat, k < sp_nc r → I (p + 1) k = r (10 + 8 * k) ∧ I (p + 2) k = r (11 + 8 * k) ∧ I (p + 3) k = r (12 + 8 * k)) ∧ (∀ k : Nat, k < sp_nw r → I (p + 4) k = r (90 + 4 * k) ∧ I (p + 5) k = r (91 + 4 * k) ∧ I (p + 6) k = r (92 + 4 * k)) ∧ (∀ k : Nat, k < sp_ns r → I (p + 7) k = r (122 + 3 * k) ∧ I (p + 8) k = r (123 + 3 * k) ∧ I (p + 9) k = r (124 + 3 * k))
theorem PR_0 {I : am_I} {p : Nat} {r : Nat → Int32} (h : PlanRel I p r) : I p 0 = r 0 := h.1
theorem PR_1 {I : am_I} {p : Nat} {r : Nat → Int32} (h : PlanRel I p r) : I p 1 = nI (sp_nc r) := h.2.1
theorem PR_5 {I : am_I} {p : Nat} {r : Nat → Int32} (h : PlanRel I p r) : I p 5 = nI (sp_nw r) := h.2.2.1
theorem PR_9 {I : am_I} {p : Nat} {r : Nat → Int32} (h : PlanRel I p r) : I p 9 = nI (sp_ns r) := h.2.2.2.1
theorem PR_c {I : am_I} {p : Nat} {r : Nat → Int32} (h : PlanRel I p r) : sp_nc r ≤ 10 := h.2.2.2.2.1
theorem PR_w {I : am_I} {p : Nat} {r : Nat → Int32} (h : PlanRel I p r) : sp_nw r ≤ 8 := h.2.2.2.2.2.1
theorem PR_t {I : am_I} {p : Nat} {r : Nat → Int32} (h : PlanRel I p r) : sp_ns r ≤ 6 := h.2.2.2.2.2.2.1
theorem PR_cs {I : am_I} {p : Nat} {r : Nat → Int32} (h : PlanRel I p r) : (∀ k : Nat, k < sp_nc r → I (p + 1) k = r (10 + 8 * k) ∧ I (p + 2) k = r (11 + 8 * k) ∧ I (p + 3) k = r (12 + 8 * k)) := h.2.2.2.2.2.2.2.1
theorem PR_ws {I : am_I} {p : Nat} {r : Nat → Int32} (h : PlanRel I p r) : (∀ k : Nat, k < sp_nw r → I (p + 4) k = r (90 + 4 * k) ∧ I (p + 5) k = r (91 + 4 * k) ∧ I (p + 6) k = r (92 + 4 * k)) := h.2.2.2.2.2.2.2.2.1
theorem PR_ts {I : am_I} {p : Nat} {r : Nat → Int32} (h : PlanRel I p r) : (∀ k : Nat, k < sp_ns r → I (p + 7) k = r (122 + 3 * k) ∧ I (p + 8) k = r (123 + 3 * k) ∧ I (p + 9) k = r (124 + 3 * k)) := h.2.2.2.2.2.2.2.2.2
theorem PRa_2 {I : am_I} {p k : Nat} {r : Nat → Int32} (h : PlanRel I p r) (hk : k < sp_nc r) : I (p + 1) k = r (10 + 8 * k) := (PR_cs h k hk).1
theorem PRa_3 {I : am_I} {p k : Nat} {r : Nat → Int32} (h : PlanRel I p r) (hk : k < sp_nc r) : I (p + 2) k = r (11 + 8 * k) := (PR_cs h k hk).2.1
theorem PRa_4 {I : am_I} {p k : Nat} {r : Nat → Int32} (h : PlanRel I p r) (hk : k < sp_nc r) : I (p + 3) k = r (12 + 8 * k) := (PR_cs h k hk).2.2
theorem PRa_6 {I : am_I} {p k : Nat} {r : Nat → Int32} (h : PlanRel I p r) (hk : k < sp_nw r) : I (p + 4) k = r (90 + 4 * k) := (PR_ws h k hk).1
theorem PRa_7 {I : am_I} {p k : Nat} {r : Nat → Int32} (h : PlanRel I p r) (hk : k < sp_nw r) : I (p + 5) k = r (91 + 4 * k) := (PR_ws h k hk).2.1
theorem PRa_8 {I : am_I} {p k : Nat} {r : Nat → Int32} (h : PlanRel I p r) (hk : k < sp_nw r) : I (p + 6) k = r (92 + 4 * k) := (PR_ws h k hk).2.2
theorem PRa_10 {I : am_I} {p k : Nat} {r : Nat → Int32} (h : PlanRel I p r) (hk : k < sp_ns r) : I (p + 7) k = r (122 + 3 * k) := (PR_ts h k hk).1
theorem PRa_11 {I : am_I} {p k : Nat} {r : Nat → Int32} (h : PlanRel I p r) (hk : k < sp_ns r) : I (p + 8) k = r (123 + 3 * k) := (PR_ts h k hk).2.1
theorem PRa_12 {I : am_I} {p k : Nat} {r : Nat → Int32} (h : PlanRel I p r) (hk : k < sp_ns r) : I (p + 9) k = r (124 + 3 * k) := (PR_ts h k hk).2.2
/-- a caravan of the class is a row of the reference -/
def CarRel (I : am_I) (c q p : Nat) (r : Nat → Int32) : Prop := PlanRel I p r ∧ I c 1 = r 1 ∧ I c 2 = r 2 ∧ I c 3 = r 3 ∧ I c 4 = r 4 ∧ I c 5 = r 5 ∧ I c 12 = nI (sp_nl r) ∧ sp_nl r ≤ 20 ∧ (∀ k : Nat, k < sp_nc r → I q k = r (13 + 8 * k) ∧ I (q + 1) k = r (14 + 8 * k) ∧ I (q + 2) k = r (15 + 8 * k) ∧ I (q + 3) k = r (16 + 8 * k) ∧ I (q + 4) k = sp_car r k) ∧ (∀ k : Nat, k < sp_nw r → I (q + 5) k = r (93 + 4 * k)) ∧ (∀ k : Nat, k < sp_nl r → I (q + 6) k = r (140 + 4 * k) ∧ I (q + 7) k = r (141 + 4 * k) ∧ I (q + 8) k = r (142 + 4 * k) ∧ (r (142 + 4 * k) < 0 → I (q + 9) k = r (143 + 4 * k)))
theorem CR_p {I : am_I} {c q p : Nat} {r : Nat → Int32} (h : CarRel I c q p r) : PlanRel I p r := h.1
theorem CR_1 {I : am_I} {c q p : Nat} {r : Nat → Int32} (h : CarRel I c q p r) : I c 1 = r 1 := h.2.1
theorem CR_2 {I : am_I} {c q p : Nat} {r : Nat → Int32} (h : CarRel I c q p r) : I c 2 = r 2 := h.2.2.1
theorem CR_3 {I : am_I} {c q p : Nat} {r : Nat → Int32} (h : CarRel I c q p r) : I c 3 = r 3 := h.2.2.2.1
theorem CR_4 {I : am_I} {c q p : Nat} {r : Nat → Int32} (h : CarRel I c q p r) : I c 4 = r 4 := h.2.2.2.2.1
theorem CR_5 {I : am_I} {c q p : Nat} {r : Nat → Int32} (h : CarRel I c q p r) : I c 5 = r 5 := h.2.2.2.2.2.1
theorem CR_12 {I : am_I} {c q p : Nat} {r : Nat → Int32} (h : CarRel I c q p r) : I c 12 = nI (sp_nl r) := h.2.2.2.2.2.2.1
theorem CR_l {I : am_I} {c q p : Nat} {r : Nat → Int32} (h : CarRel I c q p r) : sp_nl r ≤ 20 := h.2.2.2.2.2.2.2.1
theorem CR_cs {I : am_I} {c q p : Nat} {r : Nat → Int32} (h : CarRel I c q p r) : (∀ k : Nat, k < sp_nc r → I q k = r (13 + 8 * k) ∧ I (q + 1) k = r (14 + 8 * k) ∧ I (q + 2) k = r (15 + 8 * k) ∧ I (q + 3) k = r (16 + 8 * k) ∧ I (q + 4) k = sp_car r k) := h.2.2.2.2.2.2.2.2.1
theorem CR_ws {I : am_I} {c q p : Nat} {r : Nat → Int32} (h : CarRel I c q p r) : (∀ k : Nat, k < sp_nw r → I (q + 5) k = r (93 + 4 * k)) := h.2.2.2.2.2.2.2.2.2.1
theorem CR_ls {I : am_I} {c q p : Nat} {r : Nat → Int32} (h : CarRel I c q p r) : (∀ k : Nat, k < sp_nl r → I (q + 6) k = r (140 + 4 * k) ∧ I (q + 7) k = r (141 + 4 * k) ∧ I (q + 8) k = r (142 + 4 * k) ∧ (r (142 + 4 * k) < 0 → I (q + 9) k = r (143 + 4 * k))) := h.2.2.2.2.2.2.2.2.2.2
theorem CRa_6 {I : am_I} {c q p k : Nat} {r : Nat → Int32} (h : CarRel I c q p r) (hk : k < sp_nc r) : I (q) k = r (13 + 8 * k) := (CR_cs h k hk).1
theorem CRa_7 {I : am_I} {c q p k : Nat} {r : Nat → Int32} (h : CarRel I c q p r) (hk : k < sp_nc r) : I (q + 1) k = r (14 + 8 * k) := (CR_cs h k hk).2.1
theorem CRa_8 {I : am_I} {c q p k : Nat} {r : Nat → Int32} (h : CarRel I c q p r) (hk : k < sp_nc r) : I (q + 2) k = r (15 + 8 * k) := (CR_cs h k hk).2.2.1
theorem CRa_9 {I : am_I} {c q p k : Nat} {r : Nat → Int32} (h : CarRel I c q p r) (hk : k < sp_nc r) : I (q + 3) k = r (16 + 8 * k) := (CR_cs h k hk).2.2.2.1
theorem CRa_10 {I : am_I} {c q p k : Nat} {r : Nat → Int32} (h : CarRel I c q p r) (hk : k < sp_nc r) : I (q + 4) k = sp_car r k := (CR_cs h k hk).2.2.2.2
theorem CRa_11 {I : am_I} {c q p k : Nat} {r : Nat → Int32} (h : CarRel I c q p r) (hk : k < sp_nw r) : I (q + 5) k = r (93 + 4 * k) := (CR_ws h k hk)
theorem CRa_13 {I : am_I} {c q p k : Nat} {r : Nat → Int32} (h : CarRel I c q p r) (hk : k < sp_nl r) : I (q + 6) k = r (140 + 4 * k) := (CR_ls h k hk).1
theorem CRa_14 {I : am_I} {c q p k : Nat} {r : Nat → Int32} (h : CarRel I c q p r) (hk : k < sp_nl r) : I (q + 7) k = r (141 + 4 * k) := (CR_ls h k hk).2.1
theorem CRa_15 {I : am_I} {c q p k : Nat} {r : Nat → Int32} (h : CarRel I c q p r) (hk : k < sp_nl r) : I (q + 8) k = r (142 + 4 * k) := (CR_ls h k hk).2.2.1
theorem CRa_16 {I : am_I} {c q p k : Nat} {r : Nat → Int32} (h : CarRel I c q p r) (hk : k < sp_nl r) (hc : r (142 + 4 * k) < 0) : I (q + 9) k = r (143 + 4 * k) := (CR_ls h k hk).2.2.2 hc
/-- a number of a row within bounds -/
def sp_in (x : Int32) (lo hi : Nat) : Prop := ∃ n : Nat, x = nI n ∧ lo ≤ n ∧ n ≤ hi
/-- the bounds of a legal row -/
def RowOk (r : Nat → Int32) : Prop := r 6 = nI (sp_nc r) ∧ r 7 = nI (sp_nw r) ∧ r 8 = nI (sp_ns r) ∧ r 9 = nI (sp_nl r) ∧ (1 ≤ sp_nc r ∧ sp_nc r ≤ 10 ∧ sp_nw r ≤ 8 ∧ sp_ns r ≤ 6 ∧ sp_nl r ≤ 20) ∧
  (∃ L km : Nat, r 0 = nI L ∧ r 1 = nI km ∧ 10 ≤ L ∧ L ≤ 999 ∧ km ≤ L ∧ (∀ k : Nat, k < sp_nw r → sp_in (r (90 + 4 * k)) 0 L)) ∧ sp_in (r 2) 0 200 ∧ (r 3 = 0 ∨ r 3 = 1) ∧ (∃ j : Nat, r 4 = nI j ∧ j < sp_nc r) ∧
  (∀ k : Nat, k < sp_nc r → sp_in (r (10 + 8 * k)) 10 60 ∧ sp_in (r (11 + 8 * k)) 1 9 ∧ (∃ t x : Nat, r (12 + 8 * k) = nI t ∧ 10 ≤ t ∧ t ≤ 90 ∧ r (13 + 8 * k) = nI x ∧ x ≤ t) ∧ sp_in (r (16 + 8 * k)) 0 3 ∧ (r (17 + 8 * k) = if r (16 + 8 * k) < nI 3 then nI 0 else nI 1)) ∧
  (∀ k : Nat, k < sp_nw r → ∃ cap lev : Nat, r (91 + 4 * k) = nI cap ∧ cap ≤ 999 ∧ r (93 + 4 * k) = nI lev ∧ lev ≤ cap ∧ sp_in (r (92 + 4 * k)) 0 99) ∧
  (∀ k : Nat, k < sp_ns r → sp_in (r (124 + 3 * k)) 1 9) ∧
  (∀ k : Nat, k < sp_nl r → sp_in (r (140 + 4 * k)) 1 99 ∧ (r (142 + 4 * k) = -1 ∨ ∃ j : Nat, r (142 + 4 * k) = nI j ∧ j < sp_nc r))
