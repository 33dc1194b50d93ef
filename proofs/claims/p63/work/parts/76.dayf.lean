/-! ===== the law: what a day does, in numbers ===== -/
theorem push_0 {r : Nat → Int32} {hs : Nat → Nat → Int32} : sp_push r hs 0 = r := rfl
theorem push_s {r : Nat → Int32} {hs : Nat → Nat → Int32} : (fun s => sp_push r hs (s + 1)) = hs := by
  funext s
  unfold sp_push
  rw [if_neg (by omega), Nat.add_sub_cancel]
theorem lg_self {a : Int64} : lg_cmp a a = 0 := by
  unfold lg_cmp
  simp
theorem CR_eq {I S : am_I} {x : Nat} {r : Nat → Int32} (h : CarRel I (x + 34) (x + 35) (x + 24) r) (ha : ∀ b : Nat, x ≤ b → b < x + 173 → S b = I b) : CarRel S (x + 34) (x + 35) (x + 24) r :=
  CR_agree h (ha _ (by omega) (by omega)) (fun b g1 g2 => ha b (by omega) (by omega)) (fun b g1 g2 => ha b (by omega) (by omega))
/-- new things are made beside the object, and only they hold other numbers -/
def NewOk (x : Nat) (Λ : am_L) (I : am_I) (Λ1 : am_L) (I1 : am_I) : Prop := LK x Λ I Λ1 I1 ∧ RouLay Λ1 x ∧ ∀ b : Nat, x ≤ b → b < x + 173 → I1 b = I b
theorem new_step {x h : Nat} {s : Nat × Nat} {Λ Λ1 : am_L} {I I1 : am_I} (hN : NewOk x Λ I Λ1 I1) (hh : ∀ a : Nat, (Λ1.1 a).1 ≠ 0 → a < h) :
    NewOk x Λ I (am_nS Λ1 h s) (am_nI I1 h) ∧ (am_nS Λ1 h s).1 h = s ∧ x + 173 ≤ h ∧ (Λ.1 h).1 = 0 ∧ ∀ b : Nat, (Λ1.1 b).1 ≠ 0 → b < h ∧ (am_nS Λ1 h s).1 b = Λ1.1 b := by
  have hl := LK.new (x := x) (I := I1) (s := s) hh
  have hge := Rou_new hN.2.1 hh
  refine ⟨⟨hN.1.tr hl, hl.lay hN.2.1, fun b g1 g2 => (nI_old (by omega)).trans (hN.2.2 b g1 g2)⟩, nS_eq, hge, ?_, fun b hb => ⟨hh b hb, (hl b hb).1⟩⟩
  by_cases e : (Λ.1 h).1 = 0
  · exact e
  · exact absurd (hh h (by rw [(hN.1 h e).1]; exact e)) (Nat.lt_irrefl _)
theorem NewOk.up {x a j : Nat} {v : Int32} {Λ Λ1 : am_L} {I I1 : am_I} (h : NewOk x Λ I Λ1 I1) (hz : (Λ.1 a).1 = 0) (ha : x + 173 ≤ a) : NewOk x Λ I Λ1 (am_up I1 a j v) :=
  ⟨h.1.up hz, h.2.1, fun b g1 g2 => (am_up_ne (by omega)).trans (h.2.2 b g1 g2)⟩
def dz (r : Nat → Int32) (m : Nat) : Nat := if zd r m < 3 then 0 else 1
def nz (r : Nat → Int32) (t m : Nat) : Nat := if zd r m < 3 then zn r t m else 0
theorem zd_lt {r : Nat → Int32} (h : Leg r) {m : Nat} (hm : m < sp_nc r) : (r (16 + 8 * m) < nI 3) ↔ zd r m < 3 := by
  obtain ⟨-, -, -, h4, -, -, -, h8⟩ := NumR_of h m hm
  rw [h4]
  exact nI_ltI (by omega) (by omega)
theorem dz_of {r : Nat → Int32} (h : Leg r) {m : Nat} (hm : m < sp_nc r) : am_b (¬ r (16 + 8 * m) < nI 3) = nI (dz r m) := by
  unfold dz
  by_cases e : zd r m < 3
  · rw [if_pos e]; exact (am_bf (fun z => z ((zd_lt h hm).mpr e))).symm
  · rw [if_neg e]; exact (am_bt (P := ¬ r (16 + 8 * m) < nI 3) (fun z => e ((zd_lt h hm).mp z))).symm
theorem nz_of {r : Nat → Int32} (h : Leg r) {m t : Nat} (hm : m < sp_nc r) (ht : sp_storm r (r 2) = nI t) (ht9 : t ≤ 9) : (if r (16 + 8 * m) < nI 3 then sp_need r m (sp_storm r (r 2)) else nI 0) = nI (nz r t m) := by
  unfold nz
  by_cases e : zd r m < 3
  · rw [if_pos e, if_pos ((zd_lt h hm).mpr e), ht, (zn_of h.1 ht9).1]
  · rw [if_neg e, if_neg (fun z => e ((zd_lt h hm).mp z))]
theorem nz_le {r : Nat → Int32} (h : RowOk r) {t m : Nat} (ht9 : t ≤ 9) : nz r t m ≤ 100 := by
  unfold nz
  have := (zn_of (m := m) h ht9).2.2
  split <;> omega
/-- a day of travel or of rest -/
def DF (r R : Nat → Int32) (N ls sp : Nat → Nat) : Prop :=
  R 2 = r 2 + nI 1 ∧ sp_nc R = sp_nc r ∧ sp_nw R = sp_nw r ∧
  (∀ m : Nat, m < sp_nc r → (zd r m < 3 → R (13 + 8 * m) = nI (zw r m - N m) ∧ R (14 + 8 * m) = nI (st2 (st1 (zs r m) (ls m) (sp m))) ∧ R (15 + 8 * m) = nI (lm2 (st1 (zs r m) (ls m) (sp m)) (zl r m)) ∧ R (16 + 8 * m) = nI (dr2 (zw r m) (zd r m) (N m))) ∧
    (¬ zd r m < 3 → R (13 + 8 * m) = r (13 + 8 * m) ∧ R (14 + 8 * m) = r (14 + 8 * m) ∧ R (15 + 8 * m) = r (15 + 8 * m) ∧ R (16 + 8 * m) = r (16 + 8 * m))) ∧
  (∀ k : Nat, k < sp_nw r → ∃ cap lev new : Nat, r (93 + 4 * k) = nI lev ∧ R (93 + 4 * k) = nI new ∧ R (91 + 4 * k) = nI cap ∧ lev ≤ new ∧ new ≤ cap ∧ cap ≤ 999)
theorem DF_of {r b R0 : Nat → Int32} {N ls sp : Nat → Nat} (h : RowOk r) (hb : ∀ i : Nat, i ≠ 1 → b i = r i) (g : GI b R0 (zs r) (zl r) (zw r) (zd r) N ls sp (sp_nc r)) : DF r (sp_endDay R0) N ls sp := by
  have hn := h.2.2.2.2.1
  obtain ⟨g1, g2, g3⟩ := g
  have lo : ∀ i : Nat, i < 13 → i ≠ 1 → R0 i = r i := fun i h1 h2 => (g1 i (by omega) (fun m _ => by omega)).trans (hb i h2)
  have hi : ∀ i : Nat, 90 ≤ i → i < 140 → R0 i = r i := fun i h1 h2 => (g1 i h2 (fun m _ => by omega)).trans (hb i (by omega))
  have ew : sp_nw R0 = sp_nw r := by unfold sp_nw; rw [lo 7 (by omega) (by omega)]
  have E : ∀ i : Nat, i ≠ 2 → i ≠ 4 → i < 93 → sp_endDay R0 i = R0 i := fun i h1 h2 h3 => endDay_at h1 h2 (fun k _ => by omega)
  refine ⟨by rw [endDay_2, lo 2 (by omega) (by omega)], by unfold sp_nc; rw [E 6 (by omega) (by omega) (by omega), lo 6 (by omega) (by omega)], by unfold sp_nw; rw [E 7 (by omega) (by omega) (by omega), lo 7 (by omega) (by omega)], fun m hm => ?_, fun k hk => ?_⟩
  · obtain ⟨a1, a2⟩ := g2 m hm
    rw [E (13 + 8 * m) (by omega) (by omega) (by omega), E (14 + 8 * m) (by omega) (by omega) (by omega), E (15 + 8 * m) (by omega) (by omega) (by omega), E (16 + 8 * m) (by omega) (by omega) (by omega)]
    refine ⟨a1, fun z => ?_⟩
    obtain ⟨b1, b2, b3, b4⟩ := a2 z
    exact ⟨b1.trans (hb _ (by omega)), b2.trans (hb _ (by omega)), b3.trans (hb _ (by omega)), b4.trans (hb _ (by omega))⟩
  · obtain ⟨cap, lev, hcap, hcap9, hlev, hlev9, sg, hsg, -, hsg9⟩ := RK_we h k hk
    refine ⟨cap, lev, min cap (lev + sg), hlev, ?_, ?_, by omega, by omega, hcap9⟩
    · rw [endDay_w (by omega), hi _ (by omega) (by omega), hi _ (by omega) (by omega), hi _ (by omega) (by omega), hcap, hlev, hsg, nI_add, sp_min_nI (by omega) (by omega)]
    · rw [endDay_at (by omega) (by omega) (fun k2 _ => by omega), hi _ (by omega) (by omega), hcap]
theorem DF_travel {r : Nat → Int32} {ld L km d t : Nat} (h : Leg r) (hld : ld < sp_nc r) (hL : r 0 = nI L) (hk : r 1 = nI km) (hL9 : L ≤ 999) (hkd : km + d ≤ L) (hd : sp_dist r ld = nI d) (ht : sp_storm r (r 2) = nI t) (ht9 : t ≤ 9) :
    DF r (sp_travel r ld) (zn r t) (fun _ => zv r ld) (zv r) ∧ sp_travel r ld 1 = nI (km + d) := by
  obtain ⟨R, h1, h2⟩ := travel_day h hld hL hk hL9 hkd hd ht ht9
  rw [h1]
  refine ⟨DF_of h.1 (fun i hi => upd_ne hi) h2, ?_⟩
  rw [endDay_at (by omega) (by omega) (fun k _ => by omega), h2.1 1 (by omega) (fun m _ => by omega), upd_eq]
theorem DF_rest {r : Nat → Int32} {t : Nat} (h : Leg r) (ht : sp_storm r (r 2) = nI t) (ht9 : t ≤ 9) :
    DF r (sp_rest r) (fun m => (zn r t m + 1) / 2) (fun _ => 0) (fun _ => 0) ∧ sp_rest r 1 = r 1 := by
  obtain ⟨R, h1, h2⟩ := rest_day h ht ht9
  rw [h1]
  refine ⟨DF_of h.1 (fun i _ => rfl) h2, ?_⟩
  rw [endDay_at (by omega) (by omega) (fun k _ => by omega), h2.1 1 (by omega) (fun m _ => by omega)]
/-- the arrays of a day -/
def AR (S : am_I) (r : Nat → Int32) (N : Nat → Nat) (h1 h2 h3 h4 h5 h6 k : Nat) : Prop := ∀ j : Nat, j < k → S h1 j = nI (zw r j) ∧ S h2 j = nI (N j) ∧ S h3 j = nI (zs r j) ∧ S h4 j = nI (dz r j) ∧ S h5 j = nI (zv r j) ∧ S h6 j = nI (zl r j)
theorem AR_step {S : am_I} {r : Nat → Int32} {N : Nat → Nat} {h1 h2 h3 h4 h5 h6 k : Nat} (hd : h1 < h2 ∧ h2 < h3 ∧ h3 < h4 ∧ h4 < h5 ∧ h5 < h6) (h : AR S r N h1 h2 h3 h4 h5 h6 k) :
    AR (am_up (am_up (am_up (am_up (am_up (am_up S h1 k (nI (zw r k))) h2 k (nI (N k))) h3 k (nI (zs r k))) h4 k (nI (dz r k))) h5 k (nI (zv r k))) h6 k (nI (zl r k))) r N h1 h2 h3 h4 h5 h6 (k + 1) := by
  intro j hj
  by_cases e : j = k
  · subst e
    refine ⟨?_, ?_, ?_, ?_, ?_, ?_⟩
    · rw [am_up_n2 (fun z => by omega), am_up_n2 (fun z => by omega), am_up_n2 (fun z => by omega), am_up_n2 (fun z => by omega), am_up_n2 (fun z => by omega), am_up_eq]
    · rw [am_up_n2 (fun z => by omega), am_up_n2 (fun z => by omega), am_up_n2 (fun z => by omega), am_up_n2 (fun z => by omega), am_up_eq]
    · rw [am_up_n2 (fun z => by omega), am_up_n2 (fun z => by omega), am_up_n2 (fun z => by omega), am_up_eq]
    · rw [am_up_n2 (fun z => by omega), am_up_n2 (fun z => by omega), am_up_eq]
    · rw [am_up_n2 (fun z => by omega), am_up_eq]
    · rw [am_up_eq]
  · have key : ∀ b : Nat, am_up (am_up (am_up (am_up (am_up (am_up S h1 k (nI (zw r k))) h2 k (nI (N k))) h3 k (nI (zs r k))) h4 k (nI (dz r k))) h5 k (nI (zv r k))) h6 k (nI (zl r k)) b j = S b j := fun b => by
      rw [am_up_n2 (fun z => by omega), am_up_n2 (fun z => by omega), am_up_n2 (fun z => by omega), am_up_n2 (fun z => by omega), am_up_n2 (fun z => by omega), am_up_n2 (fun z => by omega)]
    rw [key, key, key, key, key, key]
    exact h j (by omega)
theorem AR_agree {S S2 : am_I} {r : Nat → Int32} {N : Nat → Nat} {h1 h2 h3 h4 h5 h6 k : Nat} (h : AR S r N h1 h2 h3 h4 h5 h6 k) (e1 : S2 h1 = S h1) (e2 : S2 h2 = S h2) (e3 : S2 h3 = S h3) (e4 : S2 h4 = S h4) (e5 : S2 h5 = S h5) (e6 : S2 h6 = S h6) : AR S2 r N h1 h2 h3 h4 h5 h6 k := fun j hj => by
  rw [e1, e2, e3, e4, e5, e6]
  exact h j hj
