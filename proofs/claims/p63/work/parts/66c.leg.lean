/-! ===== legal rows stay legal, in p63's sense ===== -/
theorem LX_km {r : Nat → Int32} {km km' : Nat} (h : LX r) (hk : r 1 = nI km) (hle : km ≤ km') (h9 : km' ≤ 999) : LX (upd r 1 (nI km')) := by
  obtain ⟨hw, ⟨d, d1, d2⟩, hc, ha, hp, hl⟩ := h
  have e6 : sp_nc (upd r 1 (nI km')) = sp_nc r := sp_nc_upd (by decide)
  have e7 : sp_nw (upd r 1 (nI km')) = sp_nw r := sp_nw_upd (by decide)
  have e9 : sp_nl (upd r 1 (nI km')) = sp_nl r := sp_nl_upd (by decide)
  have el : sp_living (upd r 1 (nI km')) = sp_living r := by
    unfold sp_living
    rw [e6]
    exact livingTo_congr _ (fun m _ => upd_ne (by omega))
  unfold LX
  rw [e6, e7, e9, el]
  refine ⟨fun i j hi hj => ?_, ⟨d, by rw [upd_ne (by decide)]; exact d1, d2.1, fun k hk => ?_⟩, fun k hk => ?_, fun k j hk hj => ?_, fun k hk2 => ?_, fun z => ?_⟩
  · rw [upd_ne (by omega), upd_ne (by omega)]; exact hw i j hi hj
  · rw [upd_ne (by omega), upd_ne (by omega)]; exact d2.2 k hk
  · rw [upd_ne (by omega), sp_car_upd (by decide) (by decide)]; exact hc k hk
  · rw [upd_ne (by omega), upd_ne (by omega)]; exact ha k j hk hj
  · rw [upd_ne (by omega), upd_ne (by omega), upd_eq]
    intro z
    obtain ⟨p, m, p1, p2, p3, p4⟩ := hp k hk2 z
    have e := nI_inj (by omega) (by omega) (p2.symm.trans hk)
    exact ⟨p, km', p1, rfl, by omega, h9⟩
  · rw [upd_ne (by decide)]
    obtain ⟨j, j1, j2, j3⟩ := hl z
    exact ⟨j, j1, j2, by rw [upd_ne (by omega)]; exact j3⟩
theorem dr2_le {w d n : Nat} (h : d < 3) : dr2 w d n ≤ 3 := by
  unfold dr2
  split <;> omega
theorem st2_le (s : Nat) : st2 s ≤ 60 := by
  unfold st2
  split <;> omega
theorem lm2_le (s l : Nat) : lm2 s l ≤ l + 3 := by
  unfold lm2
  split <;> omega
theorem LX_day {b R : Nat → Int32} {s l w d N ls sp : Nat → Nat} {dd : Nat} (hb : RowOk b) (hx : LX b) (nu : NumR b s l w d) (g : GI b R s l w d N ls sp (sp_nc b)) (hdd : b 2 = nI dd) (hd9 : dd < 200) : LX (sp_endDay R) := by
  have hn := hb.2.2.2.2.1
  have low : ∀ i : Nat, i < 13 → R i = b i := fun i hi => g.1 i (by omega) (fun m hm => by omega)
  have hi : ∀ i : Nat, 90 ≤ i → i < 140 → R i = b i := fun i h1 h2 => g.1 i h2 (fun m hm => by omega)
  have e6 : sp_nc R = sp_nc b := by unfold sp_nc; rw [low 6 (by omega)]
  have e7 : sp_nw R = sp_nw b := by unfold sp_nw; rw [low 7 (by omega)]
  have e9 : sp_nl R = sp_nl b := GI_nl g
  obtain ⟨t6, t7, t8, t9⟩ := sc_endDay R
  have at' : ∀ i : Nat, i ≠ 2 → i ≠ 4 → (i < 93 ∨ 122 ≤ i ∨ i % 4 ≠ 1) → sp_endDay R i = R i := fun i h2 h4 h => endDay_at h2 h4 (fun k hk => by omega)
  obtain ⟨hw, ⟨d0, d1, d2, d3⟩, hc, ha, hp, hl⟩ := hx
  have edd : d0 = dd := nI_inj (by omega) (by omega) (d1.symm.trans hdd)
  subst edd
  have carT : ∀ j : Nat, sp_car (sp_endDay R) j = sp_car R j := fun j => by
    unfold sp_car
    rw [t9]
    exact carTo_congr2 _ (fun q hq => ⟨by rw [at' (142 + 4 * q) (by omega) (by omega) (by omega)], at' (140 + 4 * q) (by omega) (by omega) (by omega)⟩)
  have livT : sp_living (sp_endDay R) = sp_living R := by
    unfold sp_living
    rw [t6]
    exact livingTo_congr _ (fun m hm => at' _ (by omega) (by omega) (by omega))
  unfold LX
  rw [t6, t7, t9, e6, e7, e9, livT]
  refine ⟨fun i j hi1 hj1 => ?_, ⟨d0 + 1, by rw [endDay_2, low 2 (by omega), hdd, nI_add], by omega, fun k hk => ?_⟩, fun k hk => ?_, fun q j hq hj => ?_, fun q hq => ?_, fun z => ?_⟩
  · rw [at' _ (by omega) (by omega) (by omega), at' _ (by omega) (by omega) (by omega), hi _ (by omega) (by omega), hi _ (by omega) (by omega)]
    exact hw i j hi1 hj1
  · rw [at' _ (by omega) (by omega) (by omega), at' _ (by omega) (by omega) (by omega)]
    obtain ⟨n1, n2, n3, n4, n5, n6, n7, n8⟩ := nu k hk
    obtain ⟨⟨s', q1, -, q2⟩, ⟨l', q3, -, q4⟩⟩ := d3 k hk
    have el : l' = l k := nI_inj (by omega) (by omega) (q3.symm.trans n3)
    obtain ⟨g1, g2⟩ := g.2.1 k hk
    by_cases q : d k < 3
    · obtain ⟨-, a2, a3, -⟩ := g1 q
      have b3 := lm2_le (st1 (s k) (ls k) (sp k)) (l k)
      exact ⟨⟨_, a2, Nat.zero_le _, st2_le _⟩, ⟨_, a3, Nat.zero_le _, by omega⟩⟩
    · obtain ⟨-, a2, a3, -⟩ := g2 q
      exact ⟨⟨_, a2.trans n2, Nat.zero_le _, n6⟩, ⟨_, a3.trans n3, Nat.zero_le _, by omega⟩⟩
  · rw [at' _ (by omega) (by omega) (by omega), carT]
    obtain ⟨gg, c, c1, c2, c3, c4⟩ := hc k hk
    have e11 : R (11 + 8 * k) = b (11 + 8 * k) := g.1 _ (by omega) (fun m hm => by omega)
    rw [e11]
    by_cases q : d k < 3 ∧ dr2 (w k) (d k) (N k) = 3
    · refine ⟨gg, 0, c1, c2, ?_, Nat.zero_le _⟩
      unfold sp_car
      rw [e9]
      refine carTo_none _ (fun u hu z => ?_)
      obtain ⟨-, -, a3⟩ := g.2.2 u hu
      rcases a3 with ⟨b1, -, b3⟩ | ⟨b1, -, -⟩
      · exact b3 k hk (b1 ▸ z) q.1 q.2
      · exact nI_m1 (by omega) (z.symm.trans b1)
    · refine ⟨gg, c, c1, c2, ?_, c4⟩
      rw [← c3]
      unfold sp_car
      rw [e9]
      refine carTo_congr2 _ (fun u hu => ?_)
      obtain ⟨a1, -, a3⟩ := g.2.2 u hu
      refine ⟨?_, a1⟩
      rcases a3 with ⟨b1, -, -⟩ | ⟨b1, -, m, m1, m2, m3, m4⟩
      · rw [b1]
      · rw [b1, m2]
        refine ⟨fun z => absurd z.symm (nI_m1 (by omega)), fun z => ?_⟩
        have e := nI_inj (by omega) (by omega) z
        subst e
        exact absurd ⟨m3, m4⟩ q
  · rw [at' _ (by omega) (by omega) (by omega), at' _ (by omega) (by omega) (by omega)]
    intro z
    obtain ⟨-, -, a3⟩ := g.2.2 q hq
    rcases a3 with ⟨b1, -, b3⟩ | ⟨b1, -, -⟩
    · have z1 : b (142 + 4 * q) = nI j := b1.symm.trans z
      have z2 := ha q j hq hj z1
      obtain ⟨n1, n2, n3, n4, n5, n6, n7, n8⟩ := nu j hj
      rw [n4] at z2
      have z3 := (nI_ltI (by omega) (by omega)).mp z2
      have z4 := b3 j hj z1 z3
      have z5 := dr2_le (w := w j) (n := N j) z3
      rw [((g.2.1 j hj).1 z3).2.2.2]
      exact nI_lt (by omega) (by omega)
    · exact absurd (z.symm.trans b1) (nI_m1 (by omega))
  · rw [at' _ (by omega) (by omega) (by omega), at' _ (by omega) (by omega) (by omega), at' 1 (by omega) (by omega) (by omega), low 1 (by omega)]
    intro z
    obtain ⟨L, km, -, k2, -, k4, k5, -⟩ := RK_L hb
    obtain ⟨-, -, a3⟩ := g.2.2 q hq
    rcases a3 with ⟨b1, b2, -⟩ | ⟨b1, b2, -⟩
    · rw [b2]
      exact hp q hq (b1.symm.trans z)
    · rw [b2]
      exact ⟨km, km, k2, k2, Nat.le_refl _, by omega⟩
  · rw [endDay_4]
    obtain ⟨ld, l1, l2⟩ := RK_ld hb
    have r4 : R 4 = nI ld := (low 4 (by omega)).trans l1
    have ecl : (R 4).toNatClampNeg = ld := by rw [r4, nI_clamp (by omega)]
    unfold sp_lead
    rw [ecl]
    by_cases q : R (16 + 8 * ld) < nI 3
    · rw [if_pos q]
      exact ⟨ld, r4, l2, by rw [at' _ (by omega) (by omega) (by omega)]; exact q⟩
    · rw [if_neg q]
      rcases sp_fastTo_or R (sp_nc R) with e | ⟨m, e, hm, hal⟩
      · exfalso
        obtain ⟨m, m1, m2⟩ := living_ex _ z
        exact fastTo_neg _ (by omega) (show sp_fastTo R (sp_nc R) < 0 by rw [e]; decide) m m1 m2
      · have e2 : sp_fast R = nI m := e
        rw [if_neg (by rw [e2]; exact nI_pos (by omega)), upd_eq, e2]
        exact ⟨m, rfl, by omega, by rw [at' _ (by omega) (by omega) (by omega)]; exact hal⟩
def zw (r : Nat → Int32) (m : Nat) : Nat := (r (13 + 8 * m)).toNatClampNeg
def zs (r : Nat → Int32) (m : Nat) : Nat := (r (14 + 8 * m)).toNatClampNeg
def zl (r : Nat → Int32) (m : Nat) : Nat := (r (15 + 8 * m)).toNatClampNeg
def zd (r : Nat → Int32) (m : Nat) : Nat := (r (16 + 8 * m)).toNatClampNeg
def zv (r : Nat → Int32) (m : Nat) : Nat := (sp_speed r m).toNatClampNeg
def zn (r : Nat → Int32) (t m : Nat) : Nat := (sp_need r m (nI t)).toNatClampNeg
theorem NumR_of {r : Nat → Int32} (h : Leg r) : NumR r (zs r) (zl r) (zw r) (zd r) := by
  intro m hm
  obtain ⟨-, -, ⟨t, x, -, -, t9, hx, hxt⟩, ⟨d, hd, -, hd3⟩, -⟩ := RK_c h.1 m hm
  obtain ⟨d0, -, d9, d3⟩ := LX_d h.2
  obtain ⟨⟨s, hs, -, hs2⟩, ⟨l, hl, -, hl2⟩⟩ := d3 m hm
  unfold zs zl zw zd
  rw [hx, hs, hl, hd, nI_clamp (by omega), nI_clamp (by omega), nI_clamp (by omega), nI_clamp (by omega)]
  exact ⟨rfl, rfl, rfl, rfl, by omega, hs2, by omega, hd3⟩
theorem zv_of {r : Nat → Int32} (h : RowOk r) {m : Nat} (hm : m < sp_nc r) : sp_speed r m = nI (zv r m) ∧ 5 ≤ zv r m ∧ zv r m ≤ 60 := by
  obtain ⟨s, h1, h2, h3⟩ := speed_b h hm
  unfold zv
  rw [h1, nI_clamp (by omega)]
  exact ⟨rfl, h2, h3⟩
theorem zn_of {r : Nat → Int32} (h : RowOk r) {m t : Nat} (ht : t ≤ 9) : sp_need r m (nI t) = nI (zn r t m) ∧ 5 ≤ zn r t m ∧ zn r t m ≤ 100 := by
  obtain ⟨s, h1, h2, h3⟩ := need_b h m ht
  unfold zn
  rw [h1, nI_clamp (by omega)]
  exact ⟨rfl, h2, h3⟩
/-- a day of travel, in numbers -/
theorem travel_day {r : Nat → Int32} {ld L km d t : Nat} (h : Leg r) (hld : ld < sp_nc r) (hL : r 0 = nI L) (hk : r 1 = nI km) (hL9 : L ≤ 999) (hkd : km + d ≤ L) (hd : sp_dist r ld = nI d) (ht : sp_storm r (r 2) = nI t) (ht9 : t ≤ 9) :
    ∃ R : Nat → Int32, sp_travel r ld = sp_endDay R ∧ GI (upd r 1 (nI (km + d))) R (zs r) (zl r) (zw r) (zd r) (zn r t) (fun _ => zv r ld) (zv r) (sp_nc r) := by
  have hn := h.1.2.2.2.2.1
  have e6 : sp_nc (upd r 1 (nI (km + d))) = sp_nc r := sp_nc_upd (by decide)
  obtain ⟨v1, v2, v3⟩ := zv_of h.1 hld
  refine ⟨_, by unfold sp_travel; rfl, ?_⟩
  rw [hk, hd, nI_add, ht, v1]
  have nu : NumR (upd r 1 (nI (km + d))) (zs r) (zl r) (zw r) (zd r) := fun m hm => by
    rw [upd_ne (by omega), upd_ne (by omega), upd_ne (by omega), upd_ne (by omega)]
    exact NumR_of h m (by omega)
  have key := goTo_inv (r := upd r 1 (nI (km + d))) (N := zn r t) (sp := zv r) (v := zv r ld) (t := t) (by omega) nu (by omega) (fun m hm => ?_) (fun m hm => ?_) (sp_nc r) (by omega)
  · exact key
  · have e : sp_speed (upd r 1 (nI (km + d))) m = sp_speed r m := speed_congr (upd_ne (by omega)) (upd_ne (by omega)) (sp_car_upd (by decide) (by decide))
    rw [e]
    obtain ⟨a1, a2, a3⟩ := zv_of h.1 (m := m) (by omega)
    exact ⟨a1, by omega⟩
  · have e : sp_need (upd r 1 (nI (km + d))) m (nI t) = sp_need r m (nI t) := by
      unfold sp_need
      rw [sp_car_upd (by decide) (by decide)]
    rw [e]
    obtain ⟨a1, a2, a3⟩ := zn_of (m := m) h.1 ht9
    exact ⟨a1, by omega⟩
theorem rest_day {r : Nat → Int32} {t : Nat} (h : Leg r) (ht : sp_storm r (r 2) = nI t) (ht9 : t ≤ 9) :
    ∃ R : Nat → Int32, sp_rest r = sp_endDay R ∧ GI r R (zs r) (zl r) (zw r) (zd r) (fun m => (zn r t m + 1) / 2) (fun _ => 0) (fun _ => 0) (sp_nc r) := by
  have hn := h.1.2.2.2.2.1
  refine ⟨_, by unfold sp_rest; rfl, ?_⟩
  rw [ht]
  refine restTo_inv (by omega) (NumR_of h) (fun m hm => ?_) (sp_nc r) (Nat.le_refl _)
  obtain ⟨a1, a2, a3⟩ := zn_of (m := m) h.1 ht9
  rw [a1, nI_add, pk_div (by omega) (by omega) (by omega)]
  exact ⟨rfl, by omega⟩
theorem Leg_travel {r : Nat → Int32} {ld : Nat} (h : Leg r) (hld : ld < sp_nc r) (hd : r 2 < nI 200) : Leg (sp_travel r ld) := by
  refine ⟨rowok_travel h.1 hld hd, ?_⟩
  obtain ⟨L, km, hL, hk, -, hL9, hkL, -⟩ := RK_L h.1
  obtain ⟨d, d1, d2⟩ := dist_b h.1 hld hL hk hkL hL9
  obtain ⟨t, t1, t2⟩ := storm_b h.1 (r 2)
  obtain ⟨dd, e1, e2, -⟩ := LX_d h.2
  rw [e1] at hd
  have e3 := (nI_ltI (by omega) (by omega)).mp hd
  obtain ⟨R, R1, R2⟩ := travel_day h hld hL hk hL9 d2 d1 t1 t2
  rw [R1]
  have e6 : sp_nc (upd r 1 (nI (km + d))) = sp_nc r := sp_nc_upd (by decide)
  refine LX_day (dd := dd) (RU_km h.1 hL hL9 d2) (LX_km h.2 hk (by omega) (by omega)) (fun m hm => ?_) (by rw [e6]; exact R2) (by rw [upd_ne (by decide)]; exact e1) e3
  rw [upd_ne (by omega), upd_ne (by omega), upd_ne (by omega), upd_ne (by omega)]
  exact NumR_of h m (by omega)
theorem rowok_restday {r : Nat → Int32} (h : RowOk r) (hd : r 2 < nI 200) : RowOk (sp_rest r) := by
  obtain ⟨t, t1, t2⟩ := storm_b h (r 2)
  obtain ⟨dd, e1, -, e2⟩ := h.2.2.2.2.2.2.1
  unfold sp_rest
  rw [t1]
  have e9 : sp_restTo r (nI t) (sp_nc r) 2 = r 2 := rk_restTo_lo (by decide) _
  rw [e1] at hd
  exact rowok_endDay (rowok_rest h t2 _ (Nat.le_refl _)) (e9.trans e1) ((nI_ltI (by omega) (by omega)).mp hd)
theorem Leg_rest {r : Nat → Int32} (h : Leg r) (hd : r 2 < nI 200) : Leg (sp_rest r) := by
  refine ⟨rowok_restday h.1 hd, ?_⟩
  obtain ⟨t, t1, t2⟩ := storm_b h.1 (r 2)
  obtain ⟨dd, e1, e2, -⟩ := LX_d h.2
  rw [e1] at hd
  obtain ⟨R, R1, R2⟩ := rest_day h t1 t2
  rw [R1]
  exact LX_day (dd := dd) h.1 h.2 (NumR_of h) R2 e1 ((nI_ltI (by omega) (by omega)).mp hd)
/-- places of a row that LX doesn't speak of -/
def lx_fr (i : Nat) : Prop := i = 3 ∨ i = 5 ∨ (10 ≤ i ∧ i < 90 ∧ (i % 8 = 5 ∨ i % 8 = 1 ∨ i % 8 = 4 ∨ i % 8 = 2)) ∨ (90 ≤ i ∧ i < 122 ∧ i % 4 ≠ 2) ∨ (122 ≤ i ∧ i < 140) ∨ (140 ≤ i ∧ i % 4 = 1)
theorem LX_congr {r R : Nat → Int32} (h : LX r) (hn : sp_nc r ≤ 10 ∧ sp_nw r ≤ 8) (he : ∀ i : Nat, ¬ lx_fr i → R i = r i) : LX R := by
  unfold lx_fr at he
  have e6 : sp_nc R = sp_nc r := by unfold sp_nc; rw [he 6 (by omega)]
  have e7 : sp_nw R = sp_nw r := by unfold sp_nw; rw [he 7 (by omega)]
  have e9 : sp_nl R = sp_nl r := by unfold sp_nl; rw [he 9 (by omega)]
  have el : sp_living R = sp_living r := by
    unfold sp_living
    rw [e6]
    exact livingTo_congr _ (fun m hm => he _ (by omega))
  obtain ⟨hw, ⟨d, d1, d2, d3⟩, hc, ha, hp, hl⟩ := h
  unfold LX
  rw [e6, e7, e9, el]
  refine ⟨fun i j hi hj => ?_, ⟨d, (he 2 (by omega)).trans d1, d2, fun k hk => ?_⟩, fun k hk => ?_, fun k j hk hj => ?_, fun k hk => ?_, fun z => ?_⟩
  · rw [he _ (by omega), he _ (by omega)]; exact hw i j hi hj
  · rw [he _ (by omega), he _ (by omega)]; exact d3 k hk
  · have e : sp_car R k = sp_car r k := by
      unfold sp_car
      rw [e9]
      exact carTo_congr2 _ (fun q hq => ⟨by rw [he (142 + 4 * q) (by omega)], he (140 + 4 * q) (by omega)⟩)
    rw [he _ (by omega), e]
    exact hc k hk
  · rw [he _ (by omega), he _ (by omega)]; exact ha k j hk hj
  · rw [he _ (by omega), he _ (by omega), he 1 (by omega)]; exact hp k hk
  · obtain ⟨j, j1, j2, j3⟩ := hl z
    exact ⟨j, (he 4 (by omega)).trans j1, j2, by rw [he _ (by omega)]; exact j3⟩
theorem Leg_stop {r : Nat → Int32} {b : Int32} (h : Leg r) (hb : b = 0 ∨ b = 1) : Leg (upd r 3 b) := ⟨RU_stop h.1 hb, LX_congr h.2 ⟨h.1.2.2.2.2.1.2.1, h.1.2.2.2.2.1.2.2.1⟩ (fun i hi => upd_ne (fun e => hi (by unfold lx_fr; omega)))⟩
theorem Leg_drink {r : Nat → Int32} {w : Nat} (h : Leg r) (hw : w < sp_nw r) : Leg (sp_drink r (sp_drinks r w) w) := by
  have hn := h.1.2.2.2.2.1
  refine ⟨rowok_drink h.1 hw, LX_congr h.2 ⟨by omega, by omega⟩ (fun i hi => ?_)⟩
  unfold sp_drink
  unfold lx_fr at hi
  rw [upd_ne (by omega), upd_ne (by omega), fill_at _ (fun m hm => by omega)]
theorem Leg_lead {r : Nat → Int32} {j : Nat} (h : Leg r) (hj : j < sp_nc r) (ha : r (16 + 8 * j) < nI 3) : Leg (upd r 4 (nI j)) := by
  refine ⟨RU_lead h.1 hj, ?_⟩
  have e6 : sp_nc (upd r 4 (nI j)) = sp_nc r := sp_nc_upd (by decide)
  have e7 : sp_nw (upd r 4 (nI j)) = sp_nw r := sp_nw_upd (by decide)
  have e9 : sp_nl (upd r 4 (nI j)) = sp_nl r := sp_nl_upd (by decide)
  obtain ⟨hw, ⟨d, d1, d2, d3⟩, hc, ha2, hp, hl⟩ := h.2
  unfold LX
  rw [e6, e7, e9]
  refine ⟨fun i k hi hk => ?_, ⟨d, by rw [upd_ne (by decide)]; exact d1, d2, fun k hk => ?_⟩, fun k hk => ?_, fun k i hk hi => ?_, fun k hk => ?_, fun z => ?_⟩
  · rw [upd_ne (by omega), upd_ne (by omega)]; exact hw i k hi hk
  · rw [upd_ne (by omega), upd_ne (by omega)]; exact d3 k hk
  · rw [upd_ne (by omega), sp_car_upd (by decide) (by decide)]; exact hc k hk
  · rw [upd_ne (by omega), upd_ne (by omega)]; exact ha2 k i hk hi
  · rw [upd_ne (by omega), upd_ne (by omega), upd_ne (by omega)]; exact hp k hk
  · exact ⟨j, upd_eq, hj, by rw [upd_ne (by omega)]; exact ha⟩
theorem Leg_lay {r : Nat → Int32} {k : Nat} (h : Leg r) (hk : k < sp_nl r) : Leg (sp_lay r k) := by
  have ho := rowok_lay h.1 hk
  have hn := h.1.2.2.2.2.1
  refine ⟨ho, ?_⟩
  obtain ⟨s6, s7, s8, s9⟩ := sc_lay r k
  have lat : ∀ i : Nat, i ≠ 142 + 4 * k → i ≠ 143 + 4 * k → sp_lay r k i = r i := fun i h1 h2 => by
    unfold sp_lay
    rw [upd_ne h2, upd_ne h1]
  have l2 : sp_lay r k (142 + 4 * k) = -1 := by
    unfold sp_lay
    rw [upd_ne (by omega), upd_eq]
  have l3 : sp_lay r k (143 + 4 * k) = r 1 := by
    unfold sp_lay
    rw [upd_eq]
  have el : sp_living (sp_lay r k) = sp_living r := by
    unfold sp_living
    rw [s6]
    exact livingTo_congr _ (fun m hm => lat _ (by omega) (by omega))
  obtain ⟨hw, ⟨d, d1, d2, d3⟩, hc, ha, hp, hl⟩ := h.2
  unfold LX
  rw [s6, s7, s9, el]
  refine ⟨fun i j hi hj => ?_, ⟨d, (lat 2 (by omega) (by omega)).trans d1, d2, fun m hm => ?_⟩, fun m hm => ?_, fun q j hq hj => ?_, fun q hq => ?_, fun z => ?_⟩
  · rw [lat _ (by omega) (by omega), lat _ (by omega) (by omega)]; exact hw i j hi hj
  · rw [lat _ (by omega) (by omega), lat _ (by omega) (by omega)]; exact d3 m hm
  · obtain ⟨g, c, c1, c2, c3, c4⟩ := hc m hm
    obtain ⟨c', e1, e2⟩ := car_b ho m
    obtain ⟨wt, w1, -, w2⟩ := (RK_lo h.1 k hk).1
    rw [lat _ (by omega) (by omega)]
    refine ⟨g, c', c1, c2, e1, ?_⟩
    have hl2 := sp_car_lay (m := m) hk (by omega)
    rw [e1] at hl2
    by_cases q : r (142 + 4 * k) = nI m
    · rw [if_pos q, c3, w1] at hl2
      have e5 : nI (c' + wt) = nI c := by rw [← nI_add, hl2, Int32.sub_add_cancel]
      have := nI_inj (by omega) (by omega) e5
      omega
    · rw [if_neg q, c3] at hl2
      have := nI_inj (by omega) (by omega) hl2
      omega
  · rw [lat (16 + 8 * j) (by omega) (by omega)]
    by_cases e : q = k
    · subst e
      rw [l2]
      exact fun z => absurd z.symm (nI_m1 (by omega))
    · rw [lat _ (by omega) (by omega)]
      exact ha q j hq hj
  · rw [lat 1 (by omega) (by omega)]
    by_cases e : q = k
    · subst e
      rw [l3]
      obtain ⟨L, km, -, k2, -, k4, k5, -⟩ := RK_L h.1
      exact fun _ => ⟨km, km, k2, k2, Nat.le_refl _, by omega⟩
    · rw [lat _ (by omega) (by omega), lat _ (by omega) (by omega)]
      exact hp q hq
  · obtain ⟨j, j1, j2, j3⟩ := hl z
    exact ⟨j, (lat 4 (by omega) (by omega)).trans j1, j2, by rw [lat _ (by omega) (by omega)]; exact j3⟩
theorem Leg_hang {r : Nat → Int32} {k j wt g c : Nat} (h : Leg r) (hk : k < sp_nl r) (hj : j < sp_nc r) (ha : r (16 + 8 * j) < nI 3) (hc : r (142 + 4 * k) = -1) (hw : r (140 + 4 * k) = nI wt) (hg : r (11 + 8 * j) = nI g) (hg9 : g ≤ 9) (hcc : sp_car r j = nI c) (hle : c + wt ≤ 20 * g) : Leg (sp_hang r k j) := by
  have hn := h.1.2.2.2.2.1
  refine ⟨RU_car h.1 hk (Or.inr ⟨j, rfl, hj⟩), ?_⟩
  obtain ⟨s6, s7, s8, s9⟩ := sc_hang r k j
  have lat : ∀ i : Nat, i ≠ 142 + 4 * k → sp_hang r k j i = r i := fun i h1 => by
    unfold sp_hang
    rw [upd_ne h1]
  have l2 : sp_hang r k j (142 + 4 * k) = nI j := by
    unfold sp_hang
    rw [upd_eq]
  have el : sp_living (sp_hang r k j) = sp_living r := by
    unfold sp_living
    rw [s6]
    exact livingTo_congr _ (fun m hm => lat _ (by omega))
  obtain ⟨hw', ⟨d, d1, d2, d3⟩, hc', ha', hp, hl⟩ := h.2
  unfold LX
  rw [s6, s7, s9, el]
  refine ⟨fun i m hi hm => ?_, ⟨d, (lat 2 (by omega)).trans d1, d2, fun m hm => ?_⟩, fun m hm => ?_, fun q m hq hm => ?_, fun q hq => ?_, fun z => ?_⟩
  · rw [lat _ (by omega), lat _ (by omega)]; exact hw' i m hi hm
  · rw [lat _ (by omega), lat _ (by omega)]; exact d3 m hm
  · rw [lat _ (by omega), sp_car_hang hk (by omega) (by omega) hc]
    by_cases e : j = m
    · subst e
      rw [if_pos rfl, hcc, hw, nI_add]
      exact ⟨g, c + wt, hg, hg9, rfl, hle⟩
    · rw [if_neg e]
      exact hc' m hm
  · rw [lat (16 + 8 * m) (by omega)]
    by_cases e : q = k
    · subst e
      rw [l2]
      intro z
      have e := nI_inj (by omega) (by omega) z
      subst e
      exact ha
    · rw [lat _ (by omega)]
      exact ha' q m hq hm
  · rw [lat 1 (by omega), lat (143 + 4 * q) (by omega)]
    by_cases e : q = k
    · subst e
      rw [l2]
      exact fun z => absurd z (nI_m1 (by omega))
    · rw [lat _ (by omega)]
      exact hp q hq
  · obtain ⟨m, j1, j2, j3⟩ := hl z
    exact ⟨m, (lat 4 (by omega)).trans j1, j2, by rw [lat _ (by omega)]; exact j3⟩
theorem Leg_bring {r : Nat → Int32} {a : Nat} {y : Int32} (h : Leg r) (hn : sp_nl r < 20) (ha : 1 ≤ a ∧ a ≤ 99) : Leg (sp_bring r (nI a) y) := by
  have hb := h.1.2.2.2.2.1
  refine ⟨rowok_bring h.1 hn ha, ?_⟩
  obtain ⟨n1, n2, n3, n4⟩ := bring_n (r := r) (x := nI a) (y := y) hn
  obtain ⟨w1, -, w3, w4⟩ := bring_ws (r := r) (x := nI a) (y := y)
  have el : sp_living (sp_bring r (nI a) y) = sp_living r := by
    unfold sp_living
    rw [n2]
    exact livingTo_congr _ (fun m hm => bring_at (by omega))
  obtain ⟨hw, ⟨d, d1, d2, d3⟩, hc, hal, hp, hl⟩ := h.2
  unfold LX
  rw [n1, n2, n3, el]
  refine ⟨fun i j hi hj => ?_, ⟨d, (bring_at (by omega)).trans d1, d2, fun m hm => ?_⟩, fun m hm => ?_, fun q j hq hj => ?_, fun q hq => ?_, fun z => ?_⟩
  · rw [bring_at (by omega), bring_at (by omega)]; exact hw i j hi hj
  · rw [bring_at (by omega), bring_at (by omega)]; exact d3 m hm
  · rw [bring_at (by omega), bring_car (by omega) (by omega)]; exact hc m hm
  · rw [bring_at (i := 16 + 8 * j) (by omega)]
    by_cases e : q = sp_nl r
    · subst e
      rw [w3]
      exact fun z => absurd z.symm (nI_m1 (by omega))
    · rw [bring_at (by omega)]
      exact hal q j (by omega) hj
  · rw [bring_at (i := 1) (by omega)]
    by_cases e : q = sp_nl r
    · subst e
      rw [w4]
      obtain ⟨L, km, -, k2, -, k4, k5, -⟩ := RK_L h.1
      exact fun _ => ⟨km, km, k2, k2, Nat.le_refl _, by omega⟩
    · rw [bring_at (by omega), bring_at (by omega)]
      exact hp q (by omega)
  · obtain ⟨j, j1, j2, j3⟩ := hl z
    exact ⟨j, (bring_at (by omega)).trans j1, j2, by rw [bring_at (by omega)]; exact j3⟩
