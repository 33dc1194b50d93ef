/-! ===== a day, camel by camel ===== -/
def GI (r R : Nat → Int32) (s l w d N ls sp : Nat → Nat) (k : Nat) : Prop :=
  (∀ i : Nat, i < 140 → (∀ m : Nat, m < k → ¬ (13 + 8 * m ≤ i ∧ i ≤ 17 + 8 * m)) → R i = r i) ∧
  (∀ m : Nat, m < k → (d m < 3 → R (13 + 8 * m) = nI (w m - N m) ∧ R (14 + 8 * m) = nI (st2 (st1 (s m) (ls m) (sp m))) ∧ R (15 + 8 * m) = nI (lm2 (st1 (s m) (ls m) (sp m)) (l m)) ∧ R (16 + 8 * m) = nI (dr2 (w m) (d m) (N m))) ∧
     (¬ d m < 3 → R (13 + 8 * m) = r (13 + 8 * m) ∧ R (14 + 8 * m) = r (14 + 8 * m) ∧ R (15 + 8 * m) = r (15 + 8 * m) ∧ R (16 + 8 * m) = r (16 + 8 * m))) ∧
  (∀ q : Nat, q < sp_nl r → R (140 + 4 * q) = r (140 + 4 * q) ∧ R (141 + 4 * q) = r (141 + 4 * q) ∧
     ((R (142 + 4 * q) = r (142 + 4 * q) ∧ R (143 + 4 * q) = r (143 + 4 * q) ∧ ∀ m : Nat, m < k → r (142 + 4 * q) = nI m → d m < 3 → dr2 (w m) (d m) (N m) ≠ 3) ∨
      (R (142 + 4 * q) = -1 ∧ R (143 + 4 * q) = r 1 ∧ ∃ m : Nat, m < k ∧ r (142 + 4 * q) = nI m ∧ d m < 3 ∧ dr2 (w m) (d m) (N m) = 3)))
def NumR (r : Nat → Int32) (s l w d : Nat → Nat) : Prop := ∀ m : Nat, m < sp_nc r → r (13 + 8 * m) = nI (w m) ∧ r (14 + 8 * m) = nI (s m) ∧ r (15 + 8 * m) = nI (l m) ∧ r (16 + 8 * m) = nI (d m) ∧ w m ≤ 90 ∧ s m ≤ 60 ∧ l m ≤ 600 ∧ d m ≤ 3
theorem GI_nl {r R : Nat → Int32} {s l w d N ls sp : Nat → Nat} {k : Nat} (g : GI r R s l w d N ls sp k) : sp_nl R = sp_nl r := by
  unfold sp_nl
  rw [g.1 9 (by omega) (fun m hm => by omega)]
theorem GI_0 {r : Nat → Int32} {s l w d N ls sp : Nat → Nat} : GI r r s l w d N ls sp 0 := ⟨fun _ _ _ => rfl, fun m hm => absurd hm (Nat.not_lt_zero m), fun q _ => ⟨rfl, rfl, Or.inl ⟨rfl, rfl, fun m hm => absurd hm (Nat.not_lt_zero m)⟩⟩⟩
theorem GI_dead {r R : Nat → Int32} {s l w d N ls sp : Nat → Nat} {k : Nat} (hk : k < 10) (g : GI r R s l w d N ls sp k) (hd : ¬ d k < 3) : GI r R s l w d N ls sp (k + 1) := by
  obtain ⟨g1, g2, g3⟩ := g
  refine ⟨fun i hi hm => g1 i hi (fun m h => hm m (by omega)), fun m hm => ?_, fun q hq => ?_⟩
  · by_cases e : m = k
    · subst e
      exact ⟨fun z => absurd z hd, fun _ => ⟨g1 _ (by omega) (fun z hz => by omega), g1 _ (by omega) (fun z hz => by omega), g1 _ (by omega) (fun z hz => by omega), g1 _ (by omega) (fun z hz => by omega)⟩⟩
    · exact g2 m (by omega)
  · obtain ⟨a1, a2, a3⟩ := g3 q hq
    refine ⟨a1, a2, ?_⟩
    rcases a3 with ⟨b1, b2, b3⟩ | ⟨b1, b2, m, b3, b4⟩
    · refine Or.inl ⟨b1, b2, fun m hm e1 e2 => ?_⟩
      by_cases e : m = k
      · subst e; exact absurd e2 hd
      · exact b3 m (by omega) e1 e2
    · exact Or.inr ⟨b1, b2, m, by omega, b4⟩
theorem GI_live {r R : Nat → Int32} {s l w d N ls sp : Nat → Nat} {k : Nat} (hk : k < 10) (hkn : k < sp_nc r) (nu : NumR r s l w d) (g : GI r R s l w d N ls sp k) (hd : d k < 3) (hN : N k ≤ 1000) (hls : ls k ≤ 100) (hsp : sp k ≤ 100) :
    GI r (sp_drain (sp_limp (sp_strain R k (nI (ls k) - nI (sp k))) k) k (nI (N k))) s l w d N ls sp (k + 1) := by
  obtain ⟨n1, n2, n3, n4, n5, n6, n7, n8⟩ := nu k hkn
  have hnl := GI_nl g
  obtain ⟨g1, g2, g3⟩ := g
  have e13 : R (13 + 8 * k) = nI (w k) := (g1 _ (by omega) (fun z hz => by omega)).trans n1
  have e14 : R (14 + 8 * k) = nI (s k) := (g1 _ (by omega) (fun z hz => by omega)).trans n2
  have e15 : R (15 + 8 * k) = nI (l k) := (g1 _ (by omega) (fun z hz => by omega)).trans n3
  have e16 : R (16 + 8 * k) = nI (d k) := (g1 _ (by omega) (fun z hz => by omega)).trans n4
  have e1 : R 1 = r 1 := g1 _ (by omega) (fun z hz => by omega)
  rw [strain_nat e14 n6 hls hsp]
  generalize hs1 : st1 (s k) (ls k) (sp k) = s1
  have hs9 : s1 ≤ 1000 := by
    rw [← hs1]
    unfold st1
    split <;> omega
  generalize hR1 : upd R (14 + 8 * k) (nI s1) = R1
  have R1at : ∀ i : Nat, i ≠ 14 + 8 * k → R1 i = R i := fun i hi => by rw [← hR1, upd_ne hi]
  have R1s : R1 (14 + 8 * k) = nI s1 := by rw [← hR1, upd_eq]
  obtain ⟨L1, L2⟩ := limp_nat R1s ((R1at _ (by omega)).trans e15) hs9 (by omega)
  have hnl2 : sp_nl (sp_limp R1 k) = sp_nl r := by
    rw [(sc_limp R1 k).2.2.2]
    unfold sp_nl
    rw [R1at 9 (by omega)]
    exact hnl
  generalize hR2 : sp_limp R1 k = R2 at L1 L2 hnl2 ⊢
  have R2at : ∀ i : Nat, i ≠ 14 + 8 * k → i ≠ 15 + 8 * k → R2 i = R i := fun i h1 h2 => by rw [← hR2, limp_at ⟨h1, h2⟩, R1at i h1]
  obtain ⟨D1, D2, D3, D4⟩ := drain_nat (r := R2) (j := k) (w := w k) (d := d k) (n := N k) hk ((R2at _ (by omega) (by omega)).trans e13) ((R2at _ (by omega) (by omega)).trans e16) (by omega) hd (by omega)
  generalize sp_drain R2 k (nI (N k)) = R3 at D1 D2 D3 D4 ⊢
  have low : ∀ i : Nat, i < 140 → i ≠ 13 + 8 * k → i ≠ 14 + 8 * k → i ≠ 15 + 8 * k → i ≠ 16 + 8 * k → i ≠ 17 + 8 * k → R3 i = R i := fun i hi h1 h2 h3 h4 h5 => by rw [D1 i hi h1 h4 h5, R2at i h2 h3]
  refine ⟨fun i hi hm => ?_, fun m hm => ?_, fun q hq => ?_⟩
  · have hmk := hm k (by omega)
    rw [low i hi (by omega) (by omega) (by omega) (by omega) (by omega)]
    exact g1 i hi (fun m h => hm m (by omega))
  · by_cases e : m = k
    · subst e
      rw [hs1]
      exact ⟨fun _ => ⟨D2, by rw [D1 _ (by omega) (by omega) (by omega) (by omega), L1], by rw [D1 _ (by omega) (by omega) (by omega) (by omega), L2], D3⟩, fun z => absurd hd z⟩
    · have hmk : m < k := by omega
      rw [low (13 + 8 * m) (by omega) (by omega) (by omega) (by omega) (by omega) (by omega), low (14 + 8 * m) (by omega) (by omega) (by omega) (by omega) (by omega) (by omega), low (15 + 8 * m) (by omega) (by omega) (by omega) (by omega) (by omega) (by omega), low (16 + 8 * m) (by omega) (by omega) (by omega) (by omega) (by omega) (by omega)]
      exact g2 m hmk
  · obtain ⟨a1, a2, a3⟩ := g3 q hq
    obtain ⟨c1, c2, c3, c4⟩ := D4 q (by rw [hnl2]; exact hq)
    have f0 : R2 (140 + 4 * q) = R (140 + 4 * q) := R2at _ (by omega) (by omega)
    have f1 : R2 (141 + 4 * q) = R (141 + 4 * q) := R2at _ (by omega) (by omega)
    have f2 : R2 (142 + 4 * q) = R (142 + 4 * q) := R2at _ (by omega) (by omega)
    have f3 : R2 (143 + 4 * q) = R (143 + 4 * q) := R2at _ (by omega) (by omega)
    have f4 : R2 1 = r 1 := (R2at _ (by omega) (by omega)).trans e1
    rw [f2, f4] at c3
    rw [f2, f3] at c4
    refine ⟨by rw [c1, f0, a1], by rw [c2, f1, a2], ?_⟩
    by_cases hx : dr2 (w k) (d k) (N k) = 3 ∧ R (142 + 4 * q) = nI k
    · obtain ⟨u1, u2⟩ := c3 hx
      refine Or.inr ⟨u1, u2, k, by omega, ?_, hd, hx.1⟩
      rcases a3 with ⟨b1, -, -⟩ | ⟨b1, -, -⟩
      · rw [← b1]; exact hx.2
      · exact absurd (hx.2.symm.trans b1) (nI_m1 (by omega))
    · obtain ⟨u1, u2⟩ := c4 hx
      rw [u1, u2]
      rcases a3 with ⟨b1, b2, b3⟩ | ⟨b1, b2, m, b3, b4⟩
      · refine Or.inl ⟨b1, b2, fun m hm z1 z2 z3 => ?_⟩
        by_cases e : m = k
        · subst e
          exact hx ⟨z3, b1.trans z1⟩
        · exact b3 m (by omega) z1 z2 z3
      · exact Or.inr ⟨b1, b2, m, by omega, b4⟩
theorem GI_car {r R : Nat → Int32} {s l w d N ls sp : Nat → Nat} {k j : Nat} (hj : k ≤ j) (hj9 : j < 2 ^ 31) (g : GI r R s l w d N ls sp k) : sp_car R j = sp_car r j := by
  unfold sp_car
  rw [GI_nl g]
  refine carTo_congr2 _ (fun q hq => ?_)
  obtain ⟨a1, -, a3⟩ := g.2.2 q hq
  refine ⟨?_, a1⟩
  rcases a3 with ⟨b1, -, -⟩ | ⟨b1, -, m, b3, b4, -⟩
  · rw [b1]
  · rw [b1, b4]
    exact ⟨fun z => absurd z.symm (nI_m1 hj9), fun z => by have := nI_inj (by omega) hj9 z; omega⟩
theorem speed_congr {r R : Nat → Int32} {k : Nat} (h0 : R (10 + 8 * k) = r (10 + 8 * k)) (h5 : R (15 + 8 * k) = r (15 + 8 * k)) (hc : sp_car R k = sp_car r k) : sp_speed R k = sp_speed r k := by
  unfold sp_speed
  rw [h0, h5, hc]
theorem car_strain {r : Nat → Int32} {k j : Nat} {b : Int32} (hk : k < 10) : sp_car (sp_strain r k b) j = sp_car r j := by
  unfold sp_strain
  split <;> exact sp_car_upd (by omega) (by omega)
theorem car_limp {r : Nat → Int32} {k j : Nat} (hk : k < 10) : sp_car (sp_limp r k) j = sp_car r j := by
  unfold sp_limp
  split
  · rw [sp_car_upd (by omega) (by omega), sp_car_upd (by omega) (by omega)]
  · split
    · exact sp_car_upd (by omega) (by omega)
    · rfl
theorem goTo_inv {r : Nat → Int32} {s l w d N sp : Nat → Nat} {v t : Nat} (hc : sp_nc r ≤ 10) (nu : NumR r s l w d) (hv : v ≤ 100) (hsp : ∀ m : Nat, m < sp_nc r → sp_speed r m = nI (sp m) ∧ sp m ≤ 100) (hN : ∀ m : Nat, m < sp_nc r → sp_need r m (nI t) = nI (N m) ∧ N m ≤ 1000) :
    ∀ k : Nat, k ≤ sp_nc r → GI r (sp_goTo r (nI v) (nI t) k) s l w d N (fun _ => v) sp k := by
  intro k
  induction k with
  | zero => intro _; exact GI_0
  | succ k ih =>
    intro hk
    have g := ih (by omega)
    have hk10 : k < 10 := by omega
    have a16 : sp_goTo r (nI v) (nI t) k (16 + 8 * k) = nI (d k) := (g.1 _ (by omega) (fun z hz => by omega)).trans (nu k (by omega)).2.2.2.1
    by_cases q : d k < 3
    · rw [sp_goTo_t (by rw [a16]; exact nI_lt q (by omega))]
      have hcar := GI_car (j := k) (Nat.le_refl _) (by omega) g
      have e1 : sp_speed (sp_goTo r (nI v) (nI t) k) k = nI (sp k) := (speed_congr (g.1 _ (by omega) (fun z hz => by omega)) (g.1 _ (by omega) (fun z hz => by omega)) hcar).trans (hsp k (by omega)).1
      rw [e1]
      have e2 : sp_need (sp_limp (sp_strain (sp_goTo r (nI v) (nI t) k) k (nI v - nI (sp k))) k) k (nI t) = nI (N k) := by
        have := (hN k (by omega)).1
        unfold sp_need at this ⊢
        rw [car_limp hk10, car_strain hk10, hcar]
        exact this
      rw [e2]
      have h9 := GI_live (N := N) (ls := fun _ => v) (sp := sp) (k := k) hk10 (by omega) nu g q (hN k (by omega)).2 hv (hsp k (by omega)).2
      exact h9
    · rw [sp_goTo_f (by rw [a16]; exact nI_nlt (by omega) (by have := (nu k (by omega)).2.2.2.2.2.2.2; omega))]
      exact GI_dead hk10 g q
theorem restTo_inv {r : Nat → Int32} {s l w d N : Nat → Nat} {t : Nat} (hc : sp_nc r ≤ 10) (nu : NumR r s l w d) (hN : ∀ m : Nat, m < sp_nc r → (sp_need r m (nI t) + nI 1) / nI 2 = nI (N m) ∧ N m ≤ 1000) :
    ∀ k : Nat, k ≤ sp_nc r → GI r (sp_restTo r (nI t) k) s l w d N (fun _ => 0) (fun _ => 0) k := by
  intro k
  induction k with
  | zero => intro _; exact GI_0
  | succ k ih =>
    intro hk
    have g := ih (by omega)
    have hk10 : k < 10 := by omega
    have a16 : sp_restTo r (nI t) k (16 + 8 * k) = nI (d k) := (g.1 _ (by omega) (fun z hz => by omega)).trans (nu k (by omega)).2.2.2.1
    by_cases q : d k < 3
    · rw [sp_restTo_t (by rw [a16]; exact nI_lt q (by omega))]
      have hcar := GI_car (j := k) (Nat.le_refl _) (by omega) g
      have e2 : (sp_need (sp_limp (sp_strain (sp_restTo r (nI t) k) k (nI 0)) k) k (nI t) + nI 1) / nI 2 = nI (N k) := by
        have := (hN k (by omega)).1
        unfold sp_need at this ⊢
        rw [car_limp hk10, car_strain hk10, hcar]
        exact this
      rw [e2, show nI 0 = nI 0 - nI 0 by decide]
      have h9 := GI_live (N := N) (ls := fun _ => 0) (sp := fun _ => 0) (k := k) hk10 (by omega) nu g q (hN k (by omega)).2 (by omega) (by omega)
      exact h9
    · rw [sp_restTo_f (by rw [a16]; exact nI_nlt (by omega) (by have := (nu k (by omega)).2.2.2.2.2.2.2; omega))]
      exact GI_dead hk10 g q
theorem lead_at {r : Nat → Int32} {i : Nat} (h : i ≠ 4) : sp_lead r i = r i := by
  unfold sp_lead
  split
  · rfl
  · split
    · rfl
    · exact upd_ne h
theorem wells_at {r : Nat → Int32} {i : Nat} : ∀ n : Nat, (∀ k : Nat, k < n → i ≠ 93 + 4 * k) → sp_wellsTo r n i = r i := by
  intro n
  induction n with
  | zero => intro _; rfl
  | succ n ih =>
    intro h
    show upd (sp_wellsTo r n) (93 + 4 * n) _ i = _
    rw [upd_ne (h n (Nat.lt_succ_self n))]
    exact ih (fun k hk => h k (by omega))
theorem wells_lev {r : Nat → Int32} {k : Nat} : ∀ n : Nat, k < n → sp_wellsTo r n (93 + 4 * k) = sp_min (r (91 + 4 * k)) (r (93 + 4 * k) + r (92 + 4 * k)) := by
  intro n
  induction n with
  | zero => intro h; omega
  | succ n ih =>
    intro h
    show upd (sp_wellsTo r n) (93 + 4 * n) _ (93 + 4 * k) = _
    by_cases e : k = n
    · subst e
      rw [upd_eq, wells_at k (fun m hm => by omega), wells_at k (fun m hm => by omega), wells_at k (fun m hm => by omega)]
    · rw [upd_ne (by omega)]
      exact ih (by omega)
theorem endDay_at {r : Nat → Int32} {i : Nat} (h2 : i ≠ 2) (h4 : i ≠ 4) (hw : ∀ k : Nat, k < sp_nw r → i ≠ 93 + 4 * k) : sp_endDay r i = r i := by
  unfold sp_endDay
  rw [upd_ne h2, wells_at _ hw, lead_at h4]
theorem endDay_2 {r : Nat → Int32} : sp_endDay r 2 = r 2 + nI 1 := by
  unfold sp_endDay
  rw [upd_eq, wells_2, lead_2]
theorem endDay_4 {r : Nat → Int32} : sp_endDay r 4 = sp_lead r 4 := by
  unfold sp_endDay
  rw [upd_ne (by decide), wells_at _ (fun k _ => by omega)]
theorem endDay_w {r : Nat → Int32} {k : Nat} (hk : k < sp_nw r) : sp_endDay r (93 + 4 * k) = sp_min (r (91 + 4 * k)) (r (93 + 4 * k) + r (92 + 4 * k)) := by
  unfold sp_endDay
  rw [upd_ne (by omega), wells_lev _ hk, lead_at (by omega), lead_at (by omega), lead_at (by omega)]
