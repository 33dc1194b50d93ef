/-! ===== a text of the law's is read to its end ===== -/
theorem tn_ok {tb : Nat → Nat} {n p x q v lo hi : Nat} (e : sp_tok tb n p = (2, x, q, v)) (h1 : lo ≤ v) (h2 : v ≤ hi) : sp_tn tb n lo hi (sp_tok tb n p) = .ok (v, sp_tok tb n q) := by
  rw [e, sp_tn_t ⟨rfl, h1, h2⟩]
  rfl
theorem ts_ok {tb : Nat → Nat} {n p x q v : Nat} (e : sp_tok tb n p = (3, x, q, v)) : sp_ts tb n (sp_tok tb n p) = .ok (sp_tok tb n q) := by
  rw [e, sp_ts_t rfl]
  rfl
theorem nx_ok {tb : Nat → Nat} {n p x q v k : Nat} (e : sp_tok tb n p = (k, x, q, v)) : sp_nx tb n (sp_tok tb n p) = sp_tok tb n q := by
  rw [e]
  rfl
theorem line3 {tb : Nat → Nat} {n p a b c c0 : Nat} {w l : List Nat} (h : At tb n p ((c0 :: w) ++ 32 :: (DL a ++ 32 :: (DL b ++ 32 :: (DL c ++ 59 :: l))))) (hw : ∀ x ∈ c0 :: w, 97 ≤ x ∧ x ≤ 122) (ha : a < 1000) (hb : b < 1000) (hc : c < 1000) :
    ∃ q0 q1 q2 q3 q4 : Nat, sp_tok tb n p = (1, p, q0, 0) ∧ q0 = p + (c0 :: w).length ∧ sp_tok tb n q0 = (2, q0 + 1, q1, a) ∧ sp_tok tb n q1 = (2, q1 + 1, q2, b) ∧ sp_tok tb n q2 = (2, q2 + 1, q3, c) ∧ sp_tok tb n q3 = (3, q3, q4, 0) ∧ At tb n q4 l := by
  obtain ⟨q0, e0, f0, h0⟩ := st_word h hw
  obtain ⟨q1, e1, h1⟩ := st_num h0 ha (show sp_isD 32 = false from by decide)
  obtain ⟨q2, e2, h2⟩ := st_num h1 hb (show sp_isD 32 = false from by decide)
  obtain ⟨q3, e3, h3⟩ := st_num h2 hc (show sp_isD 59 = false from by decide)
  obtain ⟨q4, e4, h4⟩ := st_semi h3
  exact ⟨q0, q1, q2, q3, q4, e0, f0, e1, e2, e3, e4, h4⟩
/-- the word at p is the constant si -/
theorem isw_ok {tb : Nat → Nat} {n p q si : Nat} {w l : List Nat} (h : At tb n p (w ++ l)) (e : sp_tok tb n p = (1, p, q, 0)) (hq : q = p + w.length) (hl : am_slen.getD si 0 = w.length) (hc : ∀ k : Nat, k < w.length → nI (gl w k) = am_ch si k) : sp_isw tb (sp_tok tb n p) si = true := by
  refine sp_isw_iff.mpr ?_
  rw [e, hl]
  refine ⟨rfl, by show q - p = w.length; omega, fun k hk => ?_⟩
  show nI (tb (p + k)) = am_ch si k
  rw [At.get h hk]
  exact hc k hk
theorem lineC {tb : Nat → Nat} {n p a b c : Nat} {l : List Nat} (h : At tb n p (lnC a b c ++ l)) (g : 10 ≤ a ∧ a ≤ 41 ∧ 1 ≤ b ∧ b ≤ 8 ∧ 10 ≤ c ∧ c ≤ 73) : sp_isw tb (sp_tok tb n p) 2 = true ∧ ∃ q : Nat, At tb n q l ∧ ∀ r : Nat → Int32, sp_rCamel tb n (sp_tok tb n p, r) = .ok (sp_tok tb n q, sp_addCamel r (nI a) (nI b) (nI c)) := by
  have h' : At tb n p ((99 :: [97, 109, 101, 108]) ++ 32 :: (DL a ++ 32 :: (DL b ++ 32 :: (DL c ++ 59 :: l)))) := by
    have e : lnC a b c ++ l = (99 :: [97, 109, 101, 108]) ++ 32 :: (DL a ++ 32 :: (DL b ++ 32 :: (DL c ++ 59 :: l))) := by simp [lnC, W2]
    rw [← e]; exact h
  obtain ⟨q0, q1, q2, q3, q4, e0, f0, e1, e2, e3, e4, h4⟩ := line3 h' (by decide) (by omega) (by omega) (by omega)
  refine ⟨isw_ok h' e0 f0 (by decide) (by decide +kernel), q4, h4, fun r => ?_⟩
  simp only [sp_rCamel, nx_ok e0, tn_ok e1 (show 10 ≤ a by omega) (show a ≤ 60 by omega), tn_ok e2 (show 1 ≤ b by omega) (show b ≤ 9 by omega), tn_ok e3 (show 10 ≤ c by omega) (show c ≤ 90 by omega), ts_ok e4, sp_bd]
theorem lineW {tb : Nat → Nat} {n p a b c : Nat} {l : List Nat} (h : At tb n p (lnW a b c ++ l)) (g : a < 1000 ∧ 1 ≤ b ∧ b ≤ 128 ∧ c ≤ 31) : sp_isw tb (sp_tok tb n p) 3 = true ∧ ∃ q : Nat, At tb n q l ∧ ∀ r : Nat → Int32, a ≤ (r 0).toNatClampNeg → sp_wellOn r (nI a) = -1 → sp_rWell tb n (sp_tok tb n p, r) = .ok (sp_tok tb n q, sp_addWell r (nI a) (nI b) (nI c)) := by
  have h' : At tb n p ((119 :: [101, 108, 108]) ++ 32 :: (DL a ++ 32 :: (DL b ++ 32 :: (DL c ++ 59 :: l)))) := by
    have e : lnW a b c ++ l = (119 :: [101, 108, 108]) ++ 32 :: (DL a ++ 32 :: (DL b ++ 32 :: (DL c ++ 59 :: l))) := by simp [lnW, W3]
    rw [← e]; exact h
  obtain ⟨q0, q1, q2, q3, q4, e0, f0, e1, e2, e3, e4, h4⟩ := line3 h' (by decide) (by omega) (by omega) (by omega)
  refine ⟨isw_ok h' e0 f0 (by decide) (by decide +kernel), q4, h4, fun r ha hw => ?_⟩
  unfold sp_rWell
  rw [nx_ok e0, if_neg (by rw [e1]; exact fun z => z.2 hw)]
  simp only [sp_rWell2, tn_ok e1 (Nat.zero_le _) ha, tn_ok e2 (show 1 ≤ b by omega) (show b ≤ 999 by omega), tn_ok e3 (Nat.zero_le _) (show c ≤ 99 by omega), ts_ok e4, sp_bd]
theorem lineS {tb : Nat → Nat} {n p a b c : Nat} {l : List Nat} (h : At tb n p (lnS a b c ++ l)) (g : a ≤ b ∧ b ≤ 14 ∧ 1 ≤ c ∧ c ≤ 9) : sp_isw tb (sp_tok tb n p) 4 = true ∧ ∃ q : Nat, At tb n q l ∧ ∀ r : Nat → Int32, sp_rStorm tb n (sp_tok tb n p, r) = .ok (sp_tok tb n q, sp_addStorm r (nI a) (nI b) (nI c)) := by
  have h' : At tb n p ((115 :: [116, 111, 114, 109]) ++ 32 :: (DL a ++ 32 :: (DL b ++ 32 :: (DL c ++ 59 :: l)))) := by
    have e : lnS a b c ++ l = (115 :: [116, 111, 114, 109]) ++ 32 :: (DL a ++ 32 :: (DL b ++ 32 :: (DL c ++ 59 :: l))) := by simp [lnS, W4]
    rw [← e]; exact h
  obtain ⟨q0, q1, q2, q3, q4, e0, f0, e1, e2, e3, e4, h4⟩ := line3 h' (by decide) (by omega) (by omega) (by omega)
  refine ⟨isw_ok h' e0 f0 (by decide) (by decide +kernel), q4, h4, fun r => ?_⟩
  simp only [sp_rStorm, nx_ok e0, tn_ok e1 (Nat.zero_le _) (show a ≤ 200 by omega), tn_ok e2 (show a ≤ b by omega) (show b ≤ 200 by omega), tn_ok e3 (show 1 ≤ c by omega) (show c ≤ 9 by omega), ts_ok e4, sp_bd]
theorem lineR {tb : Nat → Nat} {n L : Nat} {l : List Nat} (h : At tb n 0 (lnR L ++ l)) (g : 60 ≤ L ∧ L ≤ 315) : ∃ q : Nat, At tb n q l ∧ sp_rRoute tb n (sp_tok tb n 0) = .ok (sp_tok tb n q, sp_start L) := by
  have h' : At tb n 0 ((114 :: [111, 117, 116, 101]) ++ 32 :: (DL L ++ 59 :: l)) := by
    have e : lnR L ++ l = (114 :: [111, 117, 116, 101]) ++ 32 :: (DL L ++ 59 :: l) := by simp [lnR, W1]
    rw [← e]; exact h
  obtain ⟨q0, e0, f0, h0⟩ := st_word h' (by decide)
  obtain ⟨q1, e1, h1⟩ := st_num h0 (by omega) (show sp_isD 59 = false from by decide)
  obtain ⟨q2, e2, h2⟩ := st_semi h1
  refine ⟨q2, h2, ?_⟩
  unfold sp_rRoute
  rw [if_pos (isw_ok h' e0 f0 (by decide) (by decide +kernel))]
  simp only [nx_ok e0, tn_ok e1 (show 10 ≤ L by omega) (show L ≤ 999 by omega), ts_ok e2, sp_bd]
/-- the plan so far -/
def PX (L : Nat) (r : Nat → Int32) (nc nw ns : Nat) (f : Nat → Nat) : Prop := PK r ∧ PG r nc nw ns ∧ (sp_nc r = nc ∧ sp_nw r = nw ∧ sp_ns r = ns ∧ sp_nl r = 0) ∧ r 0 = nI L ∧ (∀ j : Nat, j < nc → r (11 + 8 * j) = nI (f j)) ∧ ∀ i : Nat, i < nw → ∃ q : Nat, 20 * i ≤ q ∧ q ≤ 20 * i + 15 ∧ r (90 + 4 * i) = nI q
theorem PX_camel {L k a b c : Nat} {r : Nat → Int32} {f : Nat → Nat} (h : PX L r k 0 0 f) (hk : k < 10) (g : 10 ≤ a ∧ a ≤ 41 ∧ 1 ≤ b ∧ b ≤ 8 ∧ 10 ≤ c ∧ c ≤ 73) (hf : f k = b) : PX L (sp_addCamel r (nI a) (nI b) (nI c)) (k + 1) 0 0 f := by
  obtain ⟨h1, h2, ⟨c1, c2, c3, c4⟩, h4, h5, h6⟩ := h
  obtain ⟨n1, n2, n3, n4⟩ := addCamel_n (x := nI a) (y := nI b) (z := nI c) (show sp_nc r < 10 by omega)
  refine ⟨PK_camel h1 (by omega) ⟨by omega, by omega⟩ ⟨by omega, by omega⟩ ⟨by omega, by omega⟩, PG_camel h2 hk (by omega), ⟨by omega, by omega, by omega, by omega⟩, (addCamel_at (by omega)).trans h4, fun j hj => ?_, fun i hi => absurd hi (Nat.not_lt_zero i)⟩
  by_cases e : j = k
  · subst e
    unfold sp_addCamel
    rw [c1, upd_ne (by omega), upd_ne (by omega), upd_ne (by omega), upd_eq, hf]
  · rw [addCamel_at (by omega)]; exact h5 j (by omega)
theorem PX_well {L nc k a b c : Nat} {r : Nat → Int32} {f : Nat → Nat} (h : PX L r nc k 0 f) (hk : k < 3) (hnc : nc ≤ 10) (hL : 60 ≤ L ∧ L ≤ 999) (g : 20 * k ≤ a ∧ a ≤ 20 * k + 15 ∧ 1 ≤ b ∧ b ≤ 128 ∧ c ≤ 31) : PX L (sp_addWell r (nI a) (nI b) (nI c)) nc (k + 1) 0 f := by
  obtain ⟨h1, h2, ⟨c1, c2, c3, c4⟩, h4, h5, h6⟩ := h
  obtain ⟨n1, n2, n3, n4⟩ := addWell_n (x := nI a) (y := nI b) (z := nI c) (show sp_nw r < 8 by omega)
  refine ⟨PK_well h1 (by omega) h4 (by omega) (by omega) (by omega) (by omega), PG_well h2 hnc (by omega), ⟨by omega, by omega, by omega, by omega⟩, (addWell_at (by omega)).trans h4, fun j hj => (addWell_at (by omega)).trans (h5 j hj), fun i hi => ?_⟩
  by_cases e : i = k
  · subst e
    refine ⟨a, g.1, g.2.1, ?_⟩
    unfold sp_addWell
    rw [c2, upd_ne (by omega), upd_ne (by omega), upd_ne (by omega), upd_ne (by omega), upd_eq]
  · rw [addWell_at (by omega)]; exact h6 i (by omega)
theorem PX_storm {L nc nw k a b c : Nat} {r : Nat → Int32} {f : Nat → Nat} (h : PX L r nc nw k f) (hk : k < 6) (hnc : nc ≤ 10) (hnw : nw ≤ 8) (g : 1 ≤ c ∧ c ≤ 9) : PX L (sp_addStorm r (nI a) (nI b) (nI c)) nc nw (k + 1) f := by
  obtain ⟨h1, h2, ⟨c1, c2, c3, c4⟩, h4, h5, h6⟩ := h
  obtain ⟨n1, n2, n3, n4⟩ := addStorm_n (x := nI a) (y := nI b) (z := nI c) (show sp_ns r < 6 by omega)
  refine ⟨PK_storm h1 (by omega) g, PG_storm h2 hnc hnw hk, ⟨by omega, by omega, by omega, by omega⟩, (addStorm_at (by omega)).trans h4, fun j hj => (addStorm_at (by omega)).trans (h5 j hj), fun i hi => ?_⟩
  obtain ⟨q, q1, q2, q3⟩ := h6 i hi
  exact ⟨q, q1, q2, (addStorm_at (by omega)).trans q3⟩
theorem camels_ok {tb : Nat → Nat} {n L : Nat} {f : Nat → Nat} {l : List Nat} (hl : FC l 99) : ∀ (cs : L3) (m k p : Nat) (r : Nat → Int32), At tb n p (lnCs cs ++ l) → GC cs → cs.length ≤ m → k + cs.length ≤ 10 → PX L r k 0 0 f → (∀ i : Nat, i < cs.length → f (k + i) = (cs.getD i (0, 0, 0)).2.1) → ∃ (q : Nat) (R : Nat → Int32), sp_lp tb 2 (sp_rCamel tb n) m (.ok (sp_tok tb n p, r)) = .ok (sp_tok tb n q, R) ∧ At tb n q l ∧ PX L R (k + cs.length) 0 0 f
  | [], m, k, p, r, h, _, _, _, hx, _ => ⟨p, r, sp_lp_n (FC_no h hl (by decide) (by decide +kernel) (by decide)), h, hx⟩
  | (a, b, c) :: t, m, k, p, r, h, g, hm, hk, hx, hf => by
    cases m with
    | zero => simp at hm
    | succ m =>
      simp only [List.length_cons] at hm hk
      have h' : At tb n p (lnC a b c ++ (lnCs t ++ l)) := by
        have e : lnCs ((a, b, c) :: t) ++ l = lnC a b c ++ (lnCs t ++ l) := by simp [lnCs]
        rw [← e]; exact h
      obtain ⟨w1, q, h2, w2⟩ := lineC h' g.1
      have hb := hf 0 (by simp)
      obtain ⟨q', R, e1, e2, e3⟩ := camels_ok hl t m (k + 1) q _ h2 g.2 (by omega) (by omega) (PX_camel hx (by omega) g.1 hb) (fun i hi => by
        have e := hf (i + 1) (by simp only [List.length_cons]; omega)
        rw [show k + (i + 1) = k + 1 + i by omega] at e
        exact e)
      refine ⟨q', R, ?_, e2, by rw [List.length_cons, show k + (t.length + 1) = k + 1 + t.length by omega]; exact e3⟩
      rw [sp_lp_y w1, w2]
      exact e1
theorem wells_ok {tb : Nat → Nat} {n L nc : Nat} {f : Nat → Nat} {l : List Nat} (hl : FC l 119) (hL : 60 ≤ L ∧ L ≤ 999) (hnc : nc ≤ 10) : ∀ (ws : L3) (m k p : Nat) (r : Nat → Int32), At tb n p (lnWs ws ++ l) → GW k ws → ws.length ≤ m → k + ws.length ≤ 3 → PX L r nc k 0 f → ∃ (q : Nat) (R : Nat → Int32), sp_lp tb 3 (sp_rWell tb n) m (.ok (sp_tok tb n p, r)) = .ok (sp_tok tb n q, R) ∧ At tb n q l ∧ PX L R nc (k + ws.length) 0 f
  | [], m, k, p, r, h, _, _, _, hx => ⟨p, r, sp_lp_n (FC_no h hl (by decide) (by decide +kernel) (by decide)), h, hx⟩
  | (a, b, c) :: t, m, k, p, r, h, g, hm, hk, hx => by
    cases m with
    | zero => simp at hm
    | succ m =>
      simp only [List.length_cons] at hm hk
      have h' : At tb n p (lnW a b c ++ (lnWs t ++ l)) := by
        have e : lnWs ((a, b, c) :: t) ++ l = lnW a b c ++ (lnWs t ++ l) := by simp [lnWs]
        rw [← e]; exact h
      have g1 := g.1
      obtain ⟨w1, q, h2, w2⟩ := lineW h' ⟨by omega, by omega, by omega, by omega⟩
      obtain ⟨q', R, e1, e2, e3⟩ := wells_ok hl hL hnc t m (k + 1) q _ h2 g.2 (by omega) (by omega) (PX_well hx (by omega) hnc hL g1)
      refine ⟨q', R, ?_, e2, by rw [List.length_cons, show k + (t.length + 1) = k + 1 + t.length by omega]; exact e3⟩
      rw [sp_lp_y w1, w2 r (by rw [hx.2.2.2.1, nI_clamp (by omega)]; omega) (wellFrom_no _ _ (fun i _ hi z => by
        obtain ⟨q, q1, q2, q3⟩ := hx.2.2.2.2.2 i (by have := hx.2.2.1.2.1; omega)
        have hik : i < k := by have := hx.2.2.1.2.1; omega
        rw [q3] at z
        have := nI_inj (by omega) (by omega) z
        omega))]
      exact e1
theorem storms_ok {tb : Nat → Nat} {n L nc nw : Nat} {f : Nat → Nat} {l : List Nat} (hl : FC l 115) (hnc : nc ≤ 10) (hnw : nw ≤ 8) : ∀ (ss : L3) (m k p : Nat) (r : Nat → Int32), At tb n p (lnSs ss ++ l) → GSt ss → ss.length ≤ m → k + ss.length ≤ 6 → PX L r nc nw k f → ∃ (q : Nat) (R : Nat → Int32), sp_lp tb 4 (sp_rStorm tb n) m (.ok (sp_tok tb n p, r)) = .ok (sp_tok tb n q, R) ∧ At tb n q l ∧ PX L R nc nw (k + ss.length) f
  | [], m, k, p, r, h, _, _, _, hx => ⟨p, r, sp_lp_n (FC_no h hl (by decide) (by decide +kernel) (by decide)), h, hx⟩
  | (a, b, c) :: t, m, k, p, r, h, g, hm, hk, hx => by
    cases m with
    | zero => simp at hm
    | succ m =>
      simp only [List.length_cons] at hm hk
      have h' : At tb n p (lnS a b c ++ (lnSs t ++ l)) := by
        have e : lnSs ((a, b, c) :: t) ++ l = lnS a b c ++ (lnSs t ++ l) := by simp [lnSs]
        rw [← e]; exact h
      obtain ⟨w1, q, h2, w2⟩ := lineS h' g.1
      obtain ⟨q', R, e1, e2, e3⟩ := storms_ok hl hnc hnw t m (k + 1) q _ h2 g.2 (by omega) (by omega) (PX_storm hx (by omega) hnc hnw g.1.2.2)
      refine ⟨q', R, ?_, e2, by rw [List.length_cons, show k + (t.length + 1) = k + 1 + t.length by omega]; exact e3⟩
      rw [sp_lp_y w1, w2]
      exact e1
