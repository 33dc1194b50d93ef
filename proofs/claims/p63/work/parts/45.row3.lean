
/-! ===== legal rows: travel ===== -/
theorem speed_b {r : Nat → Int32} (h : RowOk r) {j : Nat} (hj : j < sp_nc r) : ∃ s : Nat, sp_speed r j = nI s ∧ 5 ≤ s ∧ s ≤ 60 := by
  obtain ⟨p, hp, p1, p2⟩ := (RK_c h j hj).1
  obtain ⟨c, hc, hc2⟩ := car_b h j
  have key : ∀ q : Nat, q ≤ 60 → ∃ s : Nat, sp_max (nI 5) (nI q - sp_car r j / nI 10) = nI s ∧ 5 ≤ s ∧ s ≤ 60 := by
    intro q hq
    rw [hc, pk_div (by omega) (by omega) (by omega)]
    by_cases z : c / 10 ≤ q
    · rw [pk_sub z, max_nI (by omega) (by omega)]
      exact ⟨max 5 (q - c / 10), rfl, by omega, by omega⟩
    · have n := pk_sneg (a := q) (b := c / 10) (by omega) (by omega)
      refine ⟨5, ?_, by omega, by omega⟩
      unfold sp_max
      exact if_neg (fun z2 => absurd (Int32.lt_trans z2 n) (nI_neg (by omega)))
  unfold sp_speed
  split
  · rw [hp, pk_div (by omega) (by omega) (by omega)]
    exact key _ (by omega)
  · rw [hp]
    exact key _ p2
/-- a day's way: whole kilometres, not beyond the end -/
theorem dist_b {r : Nat → Int32} (h : RowOk r) {ld L km : Nat} (hl : ld < sp_nc r) (hL : r 0 = nI L) (hk : r 1 = nI km) (hkL : km ≤ L) (hL9 : L ≤ 999) : ∃ d : Nat, sp_dist r ld = nI d ∧ km + d ≤ L := by
  obtain ⟨s, hs, s1, s2⟩ := speed_b h hl
  obtain ⟨t, ht, t2⟩ := storm_b h (r 2)
  have e1 : sp_min (sp_speed r ld * (nI 10 - sp_storm r (r 2)) / nI 10) (r 0 - r 1) = nI (min (s * (10 - t) / 10) (L - km)) := by
    have hm : s * (10 - t) ≤ 600 := by
      have : s * (10 - t) ≤ 60 * 10 := Nat.mul_le_mul s2 (by omega)
      omega
    rw [hs, ht, pk_sub (by omega), pk_mul, pk_div (by omega) (by omega) (by omega), hL, hk, pk_sub hkL, sp_min_nI (by omega) (by omega)]
  unfold sp_dist
  rw [e1]
  by_cases q : r 3 = 1 ∧ ¬ sp_behind r (r 1) < 0
  · rw [if_pos q]
    rcases sp_behindTo_or r (r 1) (sp_nw r) with e | ⟨m, e, hm, hlt⟩
    · exact absurd (show sp_behind r (r 1) < 0 by unfold sp_behind; rw [e]; decide) q.2
    · have e2 : sp_behind r (r 1) = nI m := e
      have hn := h.2.2.2.2.1
      obtain ⟨L', km', a0, -, -, a3, -, a5⟩ := RK_L h
      obtain ⟨w, hw, -, hw2⟩ := a5 m hm
      have eL : L' = L := nI_inj (by omega) (by omega) (a0.symm.trans hL)
      rw [hw, hk] at hlt
      have hlt2 := (nI_ltI (by omega) (by omega)).mp hlt
      rw [e2, nI_clamp (by omega), hw, hk, pk_sub (by omega), sp_min_nI (by omega) (by omega)]
      exact ⟨_, rfl, by omega⟩
  · rw [if_neg q]
    exact ⟨_, rfl, by omega⟩
theorem rk_drop_lo {r : Nat → Int32} {j i : Nat} (hi : i < 140) : ∀ k : Nat, sp_dropTo r j k i = r i := by
  intro k
  induction k with
  | zero => rfl
  | succ k ih =>
    by_cases q : sp_dropTo r j k (142 + 4 * k) = nI j
    · rw [sp_dropTo_t q]
      unfold sp_lay
      rw [upd_ne (by omega), upd_ne (by omega)]; exact ih
    · have e : sp_dropTo r j (k + 1) = sp_dropTo r j k := if_neg q
      rw [e]; exact ih
theorem rk_drain_lo {r : Nat → Int32} {j i : Nat} {need : Int32} (hi : i < 10) : sp_drain r j need i = r i := by
  unfold sp_drain
  split
  · rw [upd_ne (by omega), upd_ne (by omega)]
  · split
    · unfold sp_die sp_dry
      rw [rk_drop_lo (by omega), upd_ne (by omega), upd_ne (by omega), upd_ne (by omega)]
    · unfold sp_dry
      rw [upd_ne (by omega), upd_ne (by omega)]
theorem rk_limp_lo {r : Nat → Int32} {j i : Nat} (hi : i < 10) : sp_limp r j i = r i := by
  unfold sp_limp
  split
  · rw [upd_ne (by omega), upd_ne (by omega)]
  · split
    · rw [upd_ne (by omega)]
    · rfl
theorem rk_strain_lo {r : Nat → Int32} {j i : Nat} {b : Int32} (hi : i < 10) : sp_strain r j b i = r i := by
  unfold sp_strain
  split <;> rw [upd_ne (by omega)]
theorem rk_go_lo {r : Nat → Int32} {ls st : Int32} {i : Nat} (hi : i < 10) : ∀ k : Nat, sp_goTo r ls st k i = r i := by
  intro k
  induction k with
  | zero => rfl
  | succ k ih =>
    by_cases q : sp_goTo r ls st k (16 + 8 * k) < nI 3
    · have e : sp_goTo r ls st (k + 1) = sp_drain (sp_limp (sp_strain (sp_goTo r ls st k) k (ls - sp_speed (sp_goTo r ls st k) k)) k) k (sp_need (sp_limp (sp_strain (sp_goTo r ls st k) k (ls - sp_speed (sp_goTo r ls st k) k)) k) k st) := if_pos q
      rw [e, rk_drain_lo hi, rk_limp_lo hi, rk_strain_lo hi]; exact ih
    · have e : sp_goTo r ls st (k + 1) = sp_goTo r ls st k := if_neg q
      rw [e]; exact ih
theorem rk_restTo_lo {r : Nat → Int32} {st : Int32} {i : Nat} (hi : i < 10) : ∀ k : Nat, sp_restTo r st k i = r i := by
  intro k
  induction k with
  | zero => rfl
  | succ k ih =>
    by_cases q : sp_restTo r st k (16 + 8 * k) < nI 3
    · rw [sp_restTo_t q, rk_drain_lo hi, rk_limp_lo hi, rk_strain_lo hi]; exact ih
    · have e : sp_restTo r st (k + 1) = sp_restTo r st k := if_neg q
      rw [e]; exact ih
theorem rowok_travel {r : Nat → Int32} {ld : Nat} (h : RowOk r) (hl : ld < sp_nc r) (hd : r 2 < nI 200) : RowOk (sp_travel r ld) := by
  obtain ⟨L, km, hL, hk, l1, l2, l3, -⟩ := RK_L h
  obtain ⟨dd, hdd, hle⟩ := dist_b h hl hL hk l3 l2
  obtain ⟨t, ht, t2⟩ := storm_b h (r 2)
  obtain ⟨dy, hdy, -, hdle⟩ := h.2.2.2.2.2.2.1
  have hdy2 : dy < 200 := by
    rw [hdy] at hd
    exact (nI_ltI (by omega) (by decide)).mp hd
  have h1 := RU_km (km := km + dd) h hL l2 hle
  have hn1 : sp_nc (upd r 1 (nI (km + dd))) = sp_nc r := sp_nc_upd (by omega)
  unfold sp_travel
  rw [hdd, hk, nI_add, ht]
  refine rowok_endDay (d := dy) (rowok_go h1 t2 (sp_nc r) (by rw [hn1]; exact Nat.le_refl _)) ?_ hdy2
  rw [rk_go_lo (by omega), upd_ne (by omega)]
  exact hdy
