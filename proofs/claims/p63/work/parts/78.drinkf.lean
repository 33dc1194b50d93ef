/-! ===== the law: what drinking does, in numbers ===== -/
def rm (r : Nat → Int32) (m : Nat) : Nat := (r (12 + 8 * m)).toNatClampNeg - zw r m
theorem tank_of {r : Nat → Int32} (h : Leg r) {m : Nat} (hm : m < sp_nc r) : ∃ tk : Nat, r (12 + 8 * m) = nI tk ∧ tk ≤ 90 ∧ zw r m ≤ tk ∧ rm r m = tk - zw r m ∧ r (13 + 8 * m) = nI (zw r m) := by
  obtain ⟨-, -, ⟨t, x, ht, -, t9, hx, hxt⟩, -⟩ := RK_c h.1 m hm
  have e : zw r m = x := by
    unfold zw
    rw [hx, nI_clamp (by omega)]
  refine ⟨t, ht, t9, by omega, ?_, by rw [e]; exact hx⟩
  unfold rm
  rw [ht, nI_clamp (by omega)]
def cntTo (r d : Nat → Int32) : Nat → Nat
  | 0 => 0
  | k + 1 => if r (16 + 8 * k) < nI 3 ∧ d k = -1 then cntTo r d k + 1 else cntTo r d k
theorem cntTo_t {r d : Nat → Int32} {k : Nat} (h : r (16 + 8 * k) < nI 3 ∧ d k = -1) : cntTo r d (k + 1) = cntTo r d k + 1 := if_pos h
theorem cntTo_f {r d : Nat → Int32} {k : Nat} (h : ¬ (r (16 + 8 * k) < nI 3 ∧ d k = -1)) : cntTo r d (k + 1) = cntTo r d k := if_neg h
theorem cnt_upd0 {r d : Nat → Int32} {m : Nat} {x : Int32} : ∀ n : Nat, n ≤ m → cntTo r (upd d m x) n = cntTo r d n := by
  intro n
  induction n with
  | zero => intro _; rfl
  | succ n ih =>
    intro h
    have e : upd d m x n = d n := upd_ne (by omega)
    by_cases q : r (16 + 8 * n) < nI 3 ∧ d n = -1
    · rw [cntTo_t q, cntTo_t (by rw [e]; exact q), ih (by omega)]
    · rw [cntTo_f q, cntTo_f (by rw [e]; exact q), ih (by omega)]
theorem cnt_upd {r d : Nat → Int32} {m : Nat} {x : Int32} (ha : r (16 + 8 * m) < nI 3) (hd : d m = -1) (hx : ¬ x = -1) : ∀ n : Nat, m < n → cntTo r (upd d m x) n + 1 = cntTo r d n := by
  intro n
  induction n with
  | zero => intro h; omega
  | succ n ih =>
    intro h
    by_cases g : m = n
    · subst g
      rw [cntTo_t ⟨ha, hd⟩, cntTo_f (by rw [upd_eq]; exact fun z => hx z.2), cnt_upd0 _ (Nat.le_refl _)]
    · have e : upd d m x n = d n := upd_ne (by omega)
      have i1 := ih (by omega)
      by_cases q : r (16 + 8 * n) < nI 3 ∧ d n = -1
      · rw [cntTo_t q, cntTo_t (by rw [e]; exact q)]; omega
      · rw [cntTo_f q, cntTo_f (by rw [e]; exact q)]; omega
theorem cnt_zero {r d : Nat → Int32} : ∀ n : Nat, cntTo r d n = 0 → ∀ m : Nat, m < n → r (16 + 8 * m) < nI 3 → ¬ d m = -1 := by
  intro n
  induction n with
  | zero => intro _ m hm; omega
  | succ n ih =>
    intro h m hm ha hd
    by_cases q : r (16 + 8 * n) < nI 3 ∧ d n = -1
    · rw [cntTo_t q] at h; omega
    · rw [cntTo_f q] at h
      by_cases e : m = n
      · subst e; exact q ⟨ha, hd⟩
      · exact ih h m (by omega) ha hd
theorem cnt_le {r d : Nat → Int32} : ∀ n : Nat, cntTo r d n ≤ n := by
  intro n
  induction n with
  | zero => exact Nat.le_refl _
  | succ n ih =>
    by_cases q : r (16 + 8 * n) < nI 3 ∧ d n = -1
    · rw [cntTo_t q]; omega
    · rw [cntTo_f q]; omega
/-- some camels have drunk -/
def TI (r d : Nat → Int32) (lev0 lv : Nat) : Prop := lv ≤ lev0 ∧ sp_sumTo d (sp_nc r) = nI (lev0 - lv) ∧ ∀ m : Nat, m < sp_nc r → (¬ r (16 + 8 * m) < nI 3 → d m = -1) ∧ (r (16 + 8 * m) < nI 3 → d m = -1 ∨ ∃ q : Nat, d m = nI q ∧ q ≤ rm r m ∧ (q = rm r m ∨ lv = 0))
theorem turns_inv {r : Nat → Int32} (h : Leg r) {lev0 : Nat} (hl : lev0 ≤ 999) : ∀ (n : Nat) (d : Nat → Int32) (lv : Nat), TI r d lev0 lv → cntTo r d (sp_nc r) ≤ n → ∃ lv' : Nat, TI r (sp_turns r n d (nI lv)) lev0 lv' ∧ ∀ m : Nat, m < sp_nc r → r (16 + 8 * m) < nI 3 → ¬ sp_turns r n d (nI lv) m = -1 := by
  have hnc := h.1.2.2.2.2.1
  intro n
  induction n with
  | zero =>
    intro d lv hi hc
    exact ⟨lv, hi, cnt_zero (d := d) _ (Nat.le_zero.mp hc)⟩
  | succ n ih =>
    intro d lv hi hc
    rcases sp_nextTo_or r d (sp_nc r) with g | ⟨m, g, hm, ha, hdm⟩
    · rw [sp_turns_f g]
      refine ⟨lv, hi, fun m hm ha z => ?_⟩
      exact md_next_none _ (by omega) g m hm ha (by rw [z]; decide)
    · obtain ⟨tk, ht, ht9, hwt, hrm, hw⟩ := tank_of h hm
      obtain ⟨i1, i2, i3⟩ := hi
      have hd : d m = -1 := by
        rcases (i3 m hm).2 ha with q | ⟨q, q1, q2, -⟩
        · exact q
        · rw [q1] at hdm; exact absurd hdm (nI_pos (by omega))
      have hx : sp_min (nI lv) (r (12 + 8 * m) - r (13 + 8 * m)) = nI (min lv (rm r m)) := by
        rw [ht, hw, pk_sub hwt, ← hrm, sp_min_nI (by omega) (by omega)]
      have e : sp_turns r (n + 1) d (nI lv) = sp_turns r n (upd d m (nI (min lv (rm r m)))) (nI (lv - min lv (rm r m))) := by
        simp only [sp_turns, g]
        rw [if_neg (nI_pos (by omega)), nI_clamp (by omega), hx, pk_sub (by omega)]
      rw [e]
      refine ih _ _ ⟨by omega, ?_, fun j hj => ?_⟩ ?_
      · rw [md_sum_upd hd (nI_m1 (by omega)) _ hm, i2, nI_add]
        congr 1
        omega
      · by_cases ej : j = m
        · subst ej
          rw [upd_eq]
          exact ⟨fun z => absurd ha z, fun _ => Or.inr ⟨_, rfl, by omega, by omega⟩⟩
        · rw [upd_ne ej]
          refine ⟨(i3 j hj).1, fun z => ?_⟩
          rcases (i3 j hj).2 z with q | ⟨q, q1, q2, q3⟩
          · exact Or.inl q
          · exact Or.inr ⟨q, q1, q2, by omega⟩
      · have := cnt_upd (x := nI (min lv (rm r m))) ha hd (nI_m1 (by omega)) _ hm
        omega
def dq (r : Nat → Int32) (w m : Nat) : Nat := if r (16 + 8 * m) < nI 3 then (sp_drinks r w m).toNatClampNeg else 0
theorem fill_lev {r d : Nat → Int32} {m : Nat} : ∀ k : Nat, m < k → sp_fillTo r d k (13 + 8 * m) = if d m = -1 then r (13 + 8 * m) else r (13 + 8 * m) + d m := by
  intro k
  induction k with
  | zero => intro h; omega
  | succ k ih =>
    intro h
    by_cases e : m = k
    · subst e
      by_cases q : d m = -1
      · rw [sp_fillTo_t q, fill_at _ (fun i hi => by omega), if_pos q]
      · rw [sp_fillTo_f q, upd_eq, fill_at _ (fun i hi => by omega), if_neg q]
    · by_cases q : d k = -1
      · rw [sp_fillTo_t q, ih (by omega)]
      · rw [sp_fillTo_f q, upd_ne (by omega), ih (by omega)]
theorem drink_facts {r : Nat → Int32} (h : Leg r) {w lev : Nat} (hwn : w < sp_nw r) (hw : r (93 + 4 * w) = nI lev) (hl : lev ≤ 999) :
    ∃ sum : Nat, sp_sumTo (sp_drinks r w) (sp_nc r) = nI sum ∧ sum ≤ lev ∧ sp_drink r (sp_drinks r w) w 5 = r 5 + nI sum ∧ sp_drink r (sp_drinks r w) w (93 + 4 * w) = nI (lev - sum) ∧ sp_nc (sp_drink r (sp_drinks r w) w) = sp_nc r ∧ sp_nw (sp_drink r (sp_drinks r w) w) = sp_nw r ∧
    ∀ m : Nat, m < sp_nc r → (if r (16 + 8 * m) < nI 3 then sp_drinks r w m else nI 0) = nI (dq r w m) ∧ sp_sumTo (sp_drinks r w) (m + 1) = sp_sumTo (sp_drinks r w) m + nI (dq r w m) ∧ sp_drink r (sp_drinks r w) w (13 + 8 * m) = nI (zw r m + dq r w m) ∧
      (∃ tk : Nat, r (12 + 8 * m) = nI tk ∧ sp_drink r (sp_drinks r w) w (12 + 8 * m) = nI tk ∧ tk ≤ 90 ∧ zw r m + dq r w m ≤ tk ∧ (zd r m < 3 → zw r m + dq r w m ≠ tk → sum = lev)) ∧ sp_drink r (sp_drinks r w) w (16 + 8 * m) = r (16 + 8 * m) := by
  have hnc := h.1.2.2.2.2.1
  have t0 : TI r (fun _ => -1) lev lev := ⟨Nat.le_refl _, by rw [md_sum_none _ (fun _ _ => rfl), Nat.sub_self], fun m _ => ⟨fun _ => rfl, fun _ => Or.inl rfl⟩⟩
  obtain ⟨lv', ⟨i1, i2, i3⟩, i4⟩ := turns_inv h hl (sp_nc r) (fun _ => -1) lev t0 (cnt_le _)
  have eD : sp_turns r (sp_nc r) (fun _ => -1) (nI lev) = sp_drinks r w := by unfold sp_drinks; rw [hw]
  rw [eD] at i2 i3 i4
  have S5 : sp_fillTo r (sp_drinks r w) (sp_nc r) 5 = r 5 := fill_at _ (fun m _ => by omega)
  have SW : sp_fillTo r (sp_drinks r w) (sp_nc r) (93 + 4 * w) = r (93 + 4 * w) := fill_at _ (fun m _ => by omega)
  have lat : ∀ i : Nat, i ≠ 5 → i ≠ 93 + 4 * w → (∀ m : Nat, m < sp_nc r → i ≠ 13 + 8 * m) → sp_drink r (sp_drinks r w) w i = r i := fun i a1 a2 a3 => by
    unfold sp_drink
    rw [upd_ne a1, upd_ne a2, fill_at _ a3]
  refine ⟨lev - lv', i2, by omega, ?_, ?_, ?_, ?_, fun m hm => ?_⟩
  · unfold sp_drink
    rw [upd_eq, S5, i2]
  · unfold sp_drink
    rw [upd_ne (by omega), upd_eq, SW, i2, hw, pk_sub (by omega)]
  · unfold sp_nc
    rw [lat 6 (by omega) (by omega) (fun m _ => by omega)]
  · unfold sp_nw
    rw [lat 7 (by omega) (by omega) (fun m _ => by omega)]
  · obtain ⟨tk, ht, ht9, hwt, hrm, hwm⟩ := tank_of h hm
    have e16 := lat (16 + 8 * m) (by omega) (by omega) (fun i _ => by omega)
    have e12 := lat (12 + 8 * m) (by omega) (by omega) (fun i _ => by omega)
    have e13 : sp_drink r (sp_drinks r w) w (13 + 8 * m) = if sp_drinks r w m = -1 then r (13 + 8 * m) else r (13 + 8 * m) + sp_drinks r w m := by
      unfold sp_drink
      rw [upd_ne (by omega), upd_ne (by omega), fill_lev _ hm]
    by_cases ha : r (16 + 8 * m) < nI 3
    · rcases (i3 m hm).2 ha with q | ⟨q, q1, q2, q3⟩
      · exact absurd q (i4 m hm ha)
      · have eq : dq r w m = q := by
          unfold dq
          rw [if_pos ha, q1, nI_clamp (by omega)]
        have n1 : ¬ sp_drinks r w m = -1 := by rw [q1]; exact nI_m1 (by omega)
        rw [if_pos ha, eq]
        exact ⟨q1, by rw [sp_sumTo_f n1, q1], by rw [e13, if_neg n1, q1, hwm, nI_add], ⟨tk, ht, e12.trans ht, ht9, by omega, fun _ z => by omega⟩, e16⟩
    · have q := (i3 m hm).1 ha
      have eq : dq r w m = 0 := if_neg ha
      rw [if_neg ha, eq]
      exact ⟨rfl, by rw [sp_sumTo_t q]; exact (Int32.add_zero _).symm, by rw [e13, if_pos q]; exact hwm, ⟨tk, ht, e12.trans ht, ht9, by omega, fun z => absurd ((zd_lt h hm).mpr z) ha⟩, e16⟩
theorem and_le (z : Int32) {M : Nat} (hM : M < 2 ^ 31) : ∃ c : Nat, z &&& nI M = nI c ∧ c ≤ M := by
  refine ⟨(z.toBitVec &&& BitVec.ofNat 32 M).toNat, Int32.toBitVec_inj.mp ?_, ?_⟩
  · rw [Int32.toBitVec_and]
    show z.toBitVec &&& BitVec.ofNat 32 M = BitVec.ofNat 32 (z.toBitVec &&& BitVec.ofNat 32 M).toNat
    rw [BitVec.ofNat_toNat, BitVec.setWidth_eq]
  · rw [BitVec.toNat_and, BitVec.toNat_ofNat, Nat.mod_eq_of_lt (by omega)]
    exact Nat.and_le_right
/-- a load comes onto a camel -/
theorem hang_facts {r : Nat → Int32} (h : Leg r) {k j wt : Nat} (hk : k < sp_nl r) (hj : j < sp_nc r) (ha : r (16 + 8 * j) < nI 3) (hne : ¬ r (142 + 4 * k) = nI j) (hw : r (140 + 4 * k) = nI wt) (hf : ∃ f : Nat, sp_free r j = nI f ∧ f ≤ 200 ∧ wt ≤ f) :
    Leg (sp_hang (sp_lay r k) k j) ∧ sp_free (sp_hang (sp_lay r k) k j) j = sp_free r j - nI wt := by
  have hn := h.1.2.2.2.2.1
  have hlay := Leg_lay h hk
  obtain ⟨s6, s7, s8, s9⟩ := sc_lay r k
  have lat : ∀ i : Nat, i ≠ 142 + 4 * k → i ≠ 143 + 4 * k → sp_lay r k i = r i := fun i h1 h2 => by
    unfold sp_lay
    rw [upd_ne h2, upd_ne h1]
  have l2 : sp_lay r k (142 + 4 * k) = -1 := by
    unfold sp_lay
    rw [upd_ne (by omega), upd_eq]
  obtain ⟨g, c, c1, c2, c3, c4⟩ := LX_c h.2 j hj
  have hcl : sp_car (sp_lay r k) j = nI c := by
    have e := sp_car_lay (m := j) hk (by omega)
    rw [if_neg hne, c3] at e
    exact e
  obtain ⟨f, f1, f2, f3⟩ := hf
  have f4 : f = 20 * g - c := by
    unfold sp_free at f1
    rw [c1, c3, pk_mul, pk_sub (by omega)] at f1
    have := nI_inj (by omega) (by omega) f1
    omega
  refine ⟨Leg_hang hlay (by omega) (by omega) (by rw [lat _ (by omega) (by omega)]; exact ha) l2 (by rw [lat _ (by omega) (by omega)]; exact hw) (by rw [lat _ (by omega) (by omega)]; exact c1) c2 hcl (by omega), ?_⟩
  unfold sp_free
  rw [sp_car_hang (by omega) (by omega) (by omega) l2, if_pos rfl, hcl, lat (140 + 4 * k) (by omega) (by omega), hw, nI_add]
  unfold sp_hang
  rw [upd_ne (by omega), lat _ (by omega) (by omega), c1, c3, pk_mul, pk_sub (by omega), pk_sub (by omega), pk_sub (by omega)]
  congr 1
  omega
theorem free_of {r : Nat → Int32} (h : Leg r) {j : Nat} (hj : j < sp_nc r) : ∃ f : Nat, sp_free r j = nI f ∧ f ≤ 180 := by
  obtain ⟨g, c, c1, c2, c3, c4⟩ := LX_c h.2 j hj
  refine ⟨20 * g - c, ?_, by omega⟩
  unfold sp_free
  rw [c1, c3, pk_mul, pk_sub (by omega), Nat.mul_comm]
