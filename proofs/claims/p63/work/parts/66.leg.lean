/-! ===== what p63 asks of a row beyond RowOk: it stays so ===== -/
def LX (r : Nat → Int32) : Prop :=
  (∀ i j : Nat, i < sp_nw r → j < sp_nw r → r (90 + 4 * i) = r (90 + 4 * j) → i = j) ∧
  (∃ d : Nat, r 2 = nI d ∧ d ≤ 200 ∧ ∀ k : Nat, k < sp_nc r → sp_in (r (14 + 8 * k)) 0 60 ∧ sp_in (r (15 + 8 * k)) 0 (3 * d)) ∧
  (∀ k : Nat, k < sp_nc r → ∃ g c : Nat, r (11 + 8 * k) = nI g ∧ g ≤ 9 ∧ sp_car r k = nI c ∧ c ≤ 20 * g) ∧
  (∀ k j : Nat, k < sp_nl r → j < sp_nc r → r (142 + 4 * k) = nI j → r (16 + 8 * j) < nI 3) ∧
  (∀ k : Nat, k < sp_nl r → r (142 + 4 * k) = -1 → ∃ p km : Nat, r (143 + 4 * k) = nI p ∧ r 1 = nI km ∧ p ≤ km ∧ km ≤ 999) ∧
  (0 < sp_living r → ∃ j : Nat, r 4 = nI j ∧ j < sp_nc r ∧ r (16 + 8 * j) < nI 3)
def Leg (r : Nat → Int32) : Prop := RowOk r ∧ LX r
theorem LX_w {r : Nat → Int32} (h : LX r) : ∀ i j : Nat, i < sp_nw r → j < sp_nw r → r (90 + 4 * i) = r (90 + 4 * j) → i = j := h.1
theorem LX_d {r : Nat → Int32} (h : LX r) : ∃ d : Nat, r 2 = nI d ∧ d ≤ 200 ∧ ∀ k : Nat, k < sp_nc r → sp_in (r (14 + 8 * k)) 0 60 ∧ sp_in (r (15 + 8 * k)) 0 (3 * d) := h.2.1
theorem LX_c {r : Nat → Int32} (h : LX r) : ∀ k : Nat, k < sp_nc r → ∃ g c : Nat, r (11 + 8 * k) = nI g ∧ g ≤ 9 ∧ sp_car r k = nI c ∧ c ≤ 20 * g := h.2.2.1
theorem LX_a {r : Nat → Int32} (h : LX r) : ∀ k j : Nat, k < sp_nl r → j < sp_nc r → r (142 + 4 * k) = nI j → r (16 + 8 * j) < nI 3 := h.2.2.2.1
theorem LX_p {r : Nat → Int32} (h : LX r) : ∀ k : Nat, k < sp_nl r → r (142 + 4 * k) = -1 → ∃ p km : Nat, r (143 + 4 * k) = nI p ∧ r 1 = nI km ∧ p ≤ km ∧ km ≤ 999 := h.2.2.2.2.1
theorem LX_l {r : Nat → Int32} (h : LX r) : 0 < sp_living r → ∃ j : Nat, r 4 = nI j ∧ j < sp_nc r ∧ r (16 + 8 * j) < nI 3 := h.2.2.2.2.2
theorem carTo_congr2 {r R : Nat → Int32} {c : Int32} : ∀ n : Nat, (∀ q : Nat, q < n → (R (142 + 4 * q) = c ↔ r (142 + 4 * q) = c) ∧ R (140 + 4 * q) = r (140 + 4 * q)) → sp_carTo R c n = sp_carTo r c n := by
  intro n
  induction n with
  | zero => intro _; rfl
  | succ n ih =>
    intro h
    have h0 := ih (fun q hq => h q (by omega))
    obtain ⟨h1, h2⟩ := h n (Nat.lt_succ_self n)
    by_cases e : r (142 + 4 * n) = c
    · rw [sp_carTo_t e, sp_carTo_t (h1.mpr e), h0, h2]
    · rw [sp_carTo_f e, sp_carTo_f (fun z => e (h1.mp z)), h0]
theorem carTo_none {r : Nat → Int32} {c : Int32} : ∀ n : Nat, (∀ q : Nat, q < n → ¬ r (142 + 4 * q) = c) → sp_carTo r c n = nI 0 := by
  intro n
  induction n with
  | zero => intro _; rfl
  | succ n ih =>
    intro h
    rw [sp_carTo_f (h n (Nat.lt_succ_self n))]
    exact ih (fun q hq => h q (by omega))
theorem livingTo_congr {r R : Nat → Int32} : ∀ n : Nat, (∀ m : Nat, m < n → R (16 + 8 * m) = r (16 + 8 * m)) → sp_livingTo R n = sp_livingTo r n := by
  intro n
  induction n with
  | zero => intro _; rfl
  | succ n ih =>
    intro h
    simp only [sp_livingTo, h n (Nat.lt_succ_self n), ih (fun m hm => h m (by omega))]
theorem living_pos {r : Nat → Int32} {m : Nat} (h : r (16 + 8 * m) < nI 3) : ∀ n : Nat, m < n → 0 < sp_livingTo r n := by
  intro n
  induction n with
  | zero => intro h; omega
  | succ n ih =>
    intro hm
    by_cases e : r (16 + 8 * n) < nI 3
    · rw [sp_livingTo_t e]; omega
    · rw [sp_livingTo_f e]
      refine ih ?_
      by_cases q : m = n
      · subst q; exact absurd h e
      · omega
theorem living_0 {r : Nat → Int32} : ∀ n : Nat, (∀ m : Nat, m < n → ¬ r (16 + 8 * m) < nI 3) → sp_livingTo r n = 0 := by
  intro n
  induction n with
  | zero => intro _; rfl
  | succ n ih =>
    intro h
    rw [sp_livingTo_f (h n (Nat.lt_succ_self n))]
    exact ih (fun m hm => h m (by omega))
theorem living_ex {r : Nat → Int32} : ∀ n : Nat, 0 < sp_livingTo r n → ∃ m : Nat, m < n ∧ r (16 + 8 * m) < nI 3 := by
  intro n h
  refine Classical.byContradiction fun q => ?_
  have := living_0 n (fun m hm z => q ⟨m, hm, z⟩)
  omega
theorem fastTo_neg {r : Nat → Int32} : ∀ n : Nat, n < 2 ^ 31 → sp_fastTo r n < 0 → ∀ m : Nat, m < n → ¬ r (16 + 8 * m) < nI 3 := by
  intro n
  induction n with
  | zero => intro _ _ m hm; omega
  | succ n ih =>
    intro hn h m hm
    by_cases e : r (16 + 8 * n) < nI 3 ∧ (sp_fastTo r n < 0 ∨ sp_speed r (sp_fastTo r n).toNatClampNeg < sp_speed r n)
    · rw [sp_fastTo_t e] at h
      exact absurd h (nI_pos (by omega))
    · rw [sp_fastTo_f e] at h
      have h9 := ih (by omega) h
      by_cases q : m = n
      · subst q
        exact fun z => e ⟨z, Or.inl h⟩
      · exact h9 m (by omega)
theorem max0_sub {a b : Nat} (ha : a < 2 ^ 30) (hb : b < 2 ^ 30) : sp_max (nI 0) (nI a - nI b) = nI (a - b) := by
  by_cases h : b ≤ a
  · rw [pk_sub h, max_nI (by omega) (by omega), Nat.max_eq_right (Nat.zero_le _)]
  · have hl := pk_sneg (a := a) (b := b) hb (by omega)
    unfold sp_max
    rw [if_neg (show ¬ nI 0 < nI a - nI b from fun z => absurd (Int32.lt_trans z hl) (by decide)), show a - b = 0 by omega]
theorem sub_pos_iff {a b : Nat} (ha : a < 2 ^ 30) (hb : b < 2 ^ 30) : (0 : Int32) < nI a - nI b ↔ b < a := by
  rw [Int32.lt_iff_toInt_lt, pk_sub_toInt ha hb, Int32.toInt_zero]
  omega
/-! the numbers of a camel behind its visit -/
def st1 (s ls sp : Nat) : Nat := if sp < ls then s + (ls - sp) else s - 10
def st2 (s1 : Nat) : Nat := if 60 < s1 then 0 else s1
def lm2 (s1 l : Nat) : Nat := if 60 < s1 then l + 3 else l - 1
def dr2 (w d n : Nat) : Nat := if n ≤ w then 0 else d + 1
theorem strain_nat {r : Nat → Int32} {j s ls sp : Nat} (hs : r (14 + 8 * j) = nI s) (h1 : s ≤ 60) (h2 : ls ≤ 100) (h3 : sp ≤ 100) : sp_strain r j (nI ls - nI sp) = upd r (14 + 8 * j) (nI (st1 s ls sp)) := by
  unfold sp_strain st1
  by_cases h : sp < ls
  · rw [if_pos ((sub_pos_iff (by omega) (by omega)).mpr h), if_pos h, hs, pk_sub (by omega), nI_add]
  · rw [if_neg (fun z => h ((sub_pos_iff (by omega) (by omega)).mp z)), if_neg h, hs, max0_sub (by omega) (by omega)]
theorem limp_nat {r : Nat → Int32} {j s l : Nat} (hs : r (14 + 8 * j) = nI s) (hl : r (15 + 8 * j) = nI l) (h1 : s ≤ 1000) (h2 : l ≤ 10000) : sp_limp r j (14 + 8 * j) = nI (st2 s) ∧ sp_limp r j (15 + 8 * j) = nI (lm2 s l) := by
  unfold sp_limp st2 lm2
  rw [hs, hl]
  by_cases h : 60 < s
  · rw [if_pos (nI_lt h (by omega)), if_pos h, if_pos h, upd_eq, upd_ne (by omega), upd_eq, nI_add]
    exact ⟨rfl, rfl⟩
  · rw [if_neg (nI_nlt (by omega) (by omega)), if_neg h, if_neg h]
    by_cases q : 0 < l
    · rw [if_pos (show (0 : Int32) < nI l from nI_lt (a := 0) q (by omega)), upd_ne (by omega), upd_eq, pk_sub (by omega)]
      exact ⟨hs, rfl⟩
    · have e : l = 0 := by omega
      subst e
      rw [if_neg (show ¬ (0 : Int32) < nI 0 by decide)]
      exact ⟨hs, hl⟩
theorem dropTo_at {r : Nat → Int32} {j i : Nat} : ∀ k : Nat, (∀ q : Nat, q < k → i ≠ 142 + 4 * q ∧ i ≠ 143 + 4 * q) → sp_dropTo r j k i = r i := by
  intro k
  induction k with
  | zero => intro _; rfl
  | succ k ih =>
    intro h
    have h0 := ih (fun q hq => h q (by omega))
    have h1 := h k (Nat.lt_succ_self k)
    by_cases e : sp_dropTo r j k (142 + 4 * k) = nI j
    · rw [sp_dropTo_t e]
      unfold sp_lay
      rw [upd_ne h1.2, upd_ne h1.1, h0]
    · rw [sp_dropTo_f e, h0]
theorem dropTo_ld {r : Nat → Int32} {j q : Nat} : ∀ k : Nat, q < k → (r (142 + 4 * q) = nI j → sp_dropTo r j k (142 + 4 * q) = -1 ∧ sp_dropTo r j k (143 + 4 * q) = r 1) ∧ (¬ r (142 + 4 * q) = nI j → sp_dropTo r j k (142 + 4 * q) = r (142 + 4 * q) ∧ sp_dropTo r j k (143 + 4 * q) = r (143 + 4 * q)) := by
  intro k
  induction k with
  | zero => intro h; omega
  | succ k ih =>
    intro hq
    have ek : sp_dropTo r j k (142 + 4 * k) = r (142 + 4 * k) := dropTo_at k (fun m hm => ⟨by omega, by omega⟩)
    have ek3 : sp_dropTo r j k (143 + 4 * k) = r (143 + 4 * k) := dropTo_at k (fun m hm => ⟨by omega, by omega⟩)
    have e1 : sp_dropTo r j k 1 = r 1 := dropTo_at k (fun m hm => ⟨by omega, by omega⟩)
    by_cases e : sp_dropTo r j k (142 + 4 * k) = nI j
    · rw [sp_dropTo_t e]
      unfold sp_lay
      by_cases g : q = k
      · subst g
        rw [upd_ne (show 142 + 4 * q ≠ 143 + 4 * q by omega), upd_eq, upd_eq, e1]
        exact ⟨fun _ => ⟨rfl, rfl⟩, fun z => absurd (ek ▸ e) z⟩
      · rw [upd_ne (show 142 + 4 * q ≠ 143 + 4 * k by omega), upd_ne (show 142 + 4 * q ≠ 142 + 4 * k by omega), upd_ne (show 143 + 4 * q ≠ 143 + 4 * k by omega), upd_ne (show 143 + 4 * q ≠ 142 + 4 * k by omega)]
        exact ih (by omega)
    · rw [sp_dropTo_f e]
      by_cases g : q = k
      · subst g
        exact ⟨fun z => absurd (ek.trans z) e, fun _ => ⟨ek, ek3⟩⟩
      · exact ih (by omega)
/-- a visit's last part: water, dry days, the loads of a camel that dies -/
theorem drain_nat {r : Nat → Int32} {j w d n : Nat} (hj : j < 10) (hw : r (13 + 8 * j) = nI w) (hd : r (16 + 8 * j) = nI d) (hw9 : w < 2 ^ 30) (hd9 : d < 3) (hn : n < 2 ^ 30) :
    (∀ i : Nat, i < 140 → i ≠ 13 + 8 * j → i ≠ 16 + 8 * j → i ≠ 17 + 8 * j → sp_drain r j (nI n) i = r i) ∧ sp_drain r j (nI n) (13 + 8 * j) = nI (w - n) ∧ sp_drain r j (nI n) (16 + 8 * j) = nI (dr2 w d n) ∧
    ∀ q : Nat, q < sp_nl r → sp_drain r j (nI n) (140 + 4 * q) = r (140 + 4 * q) ∧ sp_drain r j (nI n) (141 + 4 * q) = r (141 + 4 * q) ∧
      (dr2 w d n = 3 ∧ r (142 + 4 * q) = nI j → sp_drain r j (nI n) (142 + 4 * q) = -1 ∧ sp_drain r j (nI n) (143 + 4 * q) = r 1) ∧
      (¬ (dr2 w d n = 3 ∧ r (142 + 4 * q) = nI j) → sp_drain r j (nI n) (142 + 4 * q) = r (142 + 4 * q) ∧ sp_drain r j (nI n) (143 + 4 * q) = r (143 + 4 * q)) := by
  by_cases h : n ≤ w
  · have e0 : dr2 w d n = 0 := if_pos h
    rw [drain_a (by rw [hw]; exact nI_le h (by omega)), hw, pk_sub h, e0]
    refine ⟨fun i h1 h2 h3 h4 => by rw [upd_ne h3, upd_ne h2], by rw [upd_ne (by omega), upd_eq], upd_eq, fun q hq => ⟨by rw [upd_ne (by omega), upd_ne (by omega)], by rw [upd_ne (by omega), upd_ne (by omega)], fun z => absurd z.1 (by decide), fun _ => ⟨by rw [upd_ne (by omega), upd_ne (by omega)], by rw [upd_ne (by omega), upd_ne (by omega)]⟩⟩⟩
  · have e0 : dr2 w d n = d + 1 := if_neg h
    have hno : ¬ nI n ≤ r (13 + 8 * j) := by rw [hw]; exact fun z => h ((nI_leI (by omega) (by omega)).mp z)
    have ew : w - n = 0 := by omega
    rw [e0, ew]
    have hdry : ∀ i : Nat, i ≠ 13 + 8 * j → i ≠ 16 + 8 * j → sp_dry r j i = r i := fun i h1 h2 => by
      unfold sp_dry
      rw [upd_ne h2, upd_ne h1]
    have hdry13 : sp_dry r j (13 + 8 * j) = nI 0 := by
      unfold sp_dry
      rw [upd_ne (by omega), upd_eq]
    have hdry16 : sp_dry r j (16 + 8 * j) = nI (d + 1) := by rw [dry_at, hd, nI_add]
    have hdrynl : sp_nl (sp_dry r j) = sp_nl r := (sc_dry r j).2.2.2
    by_cases h3 : d + 1 = 3
    · rw [drain_b hno (by rw [hd, nI_add, h3])]
      unfold sp_die
      have hdnl : sp_nl (upd (sp_dry r j) (17 + 8 * j) (nI 1)) = sp_nl r := (sp_nl_upd (by omega)).trans hdrynl
      rw [hdrynl]
      refine ⟨fun i h1 h2 h4 h5 => ?_, ?_, ?_, fun q hq => ?_⟩
      · rw [dropTo_at _ (fun m hm => ⟨by omega, by omega⟩), upd_ne h5, hdry i h2 h4]
      · rw [dropTo_at _ (fun m hm => ⟨by omega, by omega⟩), upd_ne (by omega), hdry13]
      · rw [dropTo_at _ (fun m hm => ⟨by omega, by omega⟩), upd_ne (by omega), hdry16]
      · have g := dropTo_ld (r := upd (sp_dry r j) (17 + 8 * j) (nI 1)) (j := j) (q := q) (sp_nl r) hq
        have e2 : upd (sp_dry r j) (17 + 8 * j) (nI 1) (142 + 4 * q) = r (142 + 4 * q) := by rw [upd_ne (by omega), hdry _ (by omega) (by omega)]
        have e3 : upd (sp_dry r j) (17 + 8 * j) (nI 1) (143 + 4 * q) = r (143 + 4 * q) := by rw [upd_ne (by omega), hdry _ (by omega) (by omega)]
        have e1 : upd (sp_dry r j) (17 + 8 * j) (nI 1) 1 = r 1 := by rw [upd_ne (by omega), hdry _ (by omega) (by omega)]
        rw [e2, e3, e1] at g
        refine ⟨by rw [dropTo_at _ (fun m hm => ⟨by omega, by omega⟩), upd_ne (by omega), hdry _ (by omega) (by omega)], by rw [dropTo_at _ (fun m hm => ⟨by omega, by omega⟩), upd_ne (by omega), hdry _ (by omega) (by omega)], fun z => g.1 z.2, fun z => g.2 (fun z2 => z ⟨h3, z2⟩)⟩
    · rw [drain_c hno (fun z => h3 (nI_inj (by omega) (by omega) (by rw [hd, nI_add] at z; exact z)))]
      refine ⟨fun i h1 h2 h4 h5 => hdry i h2 h4, hdry13, hdry16, fun q hq => ⟨hdry _ (by omega) (by omega), hdry _ (by omega) (by omega), fun z => absurd z.1 h3, fun _ => ⟨hdry _ (by omega) (by omega), hdry _ (by omega) (by omega)⟩⟩⟩
