/-! ===== the loads of a made text; the whole of it ===== -/
theorem isw_ok2 {tb : Nat → Nat} {n p s q si : Nat} {w l : List Nat} (h : At tb n s (w ++ l)) (e : sp_tok tb n p = (1, s, q, 0)) (hq : q = s + w.length) (hl : am_slen.getD si 0 = w.length) (hc : ∀ k : Nat, k < w.length → nI (gl w k) = am_ch si k) : sp_isw tb (sp_tok tb n p) si = true := by
  refine sp_isw_iff.mpr ?_
  rw [e, hl]
  refine ⟨rfl, by show q - s = w.length; omega, fun k hk => ?_⟩
  show nI (tb (s + k)) = am_ch si k
  rw [At.get h hk]
  exact hc k hk
theorem lineL0 {tb : Nat → Nat} {n p a b : Nat} {l : List Nat} (h : At tb n p (lnL a b none ++ l)) (g : 1 ≤ a ∧ a ≤ 64 ∧ 1 ≤ b ∧ b ≤ 32) : sp_isw tb (sp_tok tb n p) 5 = true ∧ ∃ q : Nat, At tb n q l ∧ ∀ r : Nat → Int32, sp_rLoad tb n (sp_tok tb n p, r) = .ok (sp_tok tb n q, sp_bring r (nI a) (nI b)) := by
  have h' : At tb n p ((108 :: [111, 97, 100]) ++ 32 :: (DL a ++ 32 :: (DL b ++ 59 :: l))) := by
    have e : lnL a b none ++ l = (108 :: [111, 97, 100]) ++ 32 :: (DL a ++ 32 :: (DL b ++ 59 :: l)) := by simp [lnL, W5]
    rw [← e]; exact h
  obtain ⟨q0, e0, f0, h0⟩ := st_word h' (by decide)
  obtain ⟨q1, e1, h1⟩ := st_num h0 (by omega) (show sp_isD 32 = false from by decide)
  obtain ⟨q2, e2, h2⟩ := st_num h1 (by omega) (show sp_isD 59 = false from by decide)
  obtain ⟨q3, e3, h3⟩ := st_semi h2
  refine ⟨isw_ok h' e0 f0 (by decide) (by decide +kernel), q3, h3, fun r => ?_⟩
  have hn : ¬ sp_isw tb (sp_tok tb n q2) 6 = true := fun z => by
    have z1 := (sp_isw_iff.mp z).1
    rw [e3] at z1
    exact absurd (show (3 : Nat) = 1 from z1) (by decide)
  simp only [sp_rLoad, nx_ok e0, tn_ok e1 (show 1 ≤ a by omega) (show a ≤ 99 by omega), tn_ok e2 (show 1 ≤ b by omega) (show b ≤ 99 by omega), sp_bd]
  unfold sp_rTail
  rw [if_neg hn]
  simp only [ts_ok e3, sp_bd]
theorem lineL1 {tb : Nat → Nat} {n p a b j : Nat} {l : List Nat} (h : At tb n p (lnL a b (some j) ++ l)) (g : 1 ≤ a ∧ a ≤ 64 ∧ 1 ≤ b ∧ b ≤ 32) (hj : j < 10) : sp_isw tb (sp_tok tb n p) 5 = true ∧ ∃ q : Nat, At tb n q l ∧ ∀ r : Nat → Int32, j < sp_nc (sp_bring r (nI a) (nI b)) → ¬ sp_free (sp_bring r (nI a) (nI b)) j < nI a → sp_rLoad tb n (sp_tok tb n p, r) = .ok (sp_tok tb n q, sp_hang (sp_bring r (nI a) (nI b)) (sp_nl r) j) := by
  have h' : At tb n p ((108 :: [111, 97, 100]) ++ 32 :: (DL a ++ 32 :: (DL b ++ 32 :: ((111 :: [110]) ++ 32 :: (DL j ++ 59 :: l))))) := by
    have e : lnL a b (some j) ++ l = (108 :: [111, 97, 100]) ++ 32 :: (DL a ++ 32 :: (DL b ++ 32 :: ((111 :: [110]) ++ 32 :: (DL j ++ 59 :: l)))) := by simp [lnL, W5, W6]
    rw [← e]; exact h
  obtain ⟨q0, e0, f0, h0⟩ := st_word h' (by decide)
  obtain ⟨q1, e1, h1⟩ := st_num h0 (by omega) (show sp_isD 32 = false from by decide)
  obtain ⟨q2, e2, h2⟩ := st_num h1 (by omega) (show sp_isD 32 = false from by decide)
  obtain ⟨q3, e3, f3, h3⟩ := st_sword h2 (by decide)
  obtain ⟨q4, e4, h4⟩ := st_num h3 (by omega) (show sp_isD 59 = false from by decide)
  obtain ⟨q5, e5, h5⟩ := st_semi h4
  refine ⟨isw_ok h' e0 f0 (by decide) (by decide +kernel), q5, h5, fun r hjn hfr => ?_⟩
  have hy : sp_isw tb (sp_tok tb n q2) 6 = true := isw_ok2 (At.tail (m := [32]) h2) e3 f3 (by decide) (by decide +kernel)
  simp only [sp_rLoad, nx_ok e0, tn_ok e1 (show 1 ≤ a by omega) (show a ≤ 99 by omega), tn_ok e2 (show 1 ≤ b by omega) (show b ≤ 99 by omega), sp_bd]
  unfold sp_rTail
  rw [if_pos hy, nx_ok e3]
  have e6 : (sp_tok tb n q3).2.2.2 = j := by rw [e4]
  have e7 : (sp_tok tb n q3).1 = 2 := by rw [e4]
  rw [e6, if_pos ⟨e7, hjn, hfr⟩, nx_ok e4]
  simp only [ts_ok e5, sp_bd]
/-- what the loads need -/
def LI (r : Nat → Int32) (nc m : Nat) (fr : Nat → Nat) : Prop := Leg r ∧ sp_nc r = nc ∧ sp_nl r = m ∧ ∀ j : Nat, j < nc → sp_free r j = nI (fr j) ∧ fr j ≤ 160
theorem LI_bring {r : Nat → Int32} {nc m a b : Nat} {fr : Nat → Nat} (h : LI r nc m fr) (hm : m < 20) (g : 1 ≤ a ∧ a ≤ 64) : LI (sp_bring r (nI a) (nI b)) nc (m + 1) fr := by
  obtain ⟨h1, h2, h3, h4⟩ := h
  obtain ⟨n1, n2, n3, n4⟩ := bring_n (r := r) (x := nI a) (y := nI b) (by omega)
  have hnc := h1.1.2.2.2.2.1
  refine ⟨Leg_bring h1 (by omega) ⟨by omega, by omega⟩, by omega, by omega, fun j hj => ?_⟩
  obtain ⟨e1, e2⟩ := h4 j hj
  refine ⟨?_, e2⟩
  rw [← e1]
  unfold sp_free
  rw [bring_at (by omega), bring_car (by omega) (by omega)]
theorem LI_hang {r : Nat → Int32} {nc m a b j : Nat} {fr : Nat → Nat} (h : LI r nc m fr) (hm : m < 20) (g : 1 ≤ a ∧ a ≤ 64) (hj : j < nc) (hfit : a ≤ fr j) (hal : r (16 + 8 * j) < nI 3) : LI (sp_hang (sp_bring r (nI a) (nI b)) m j) nc (m + 1) (frA fr a (some j)) := by
  have hb := LI_bring (b := b) h hm g
  obtain ⟨h1, h2, h3, h4⟩ := h
  have hnc := h1.1.2.2.2.2.1
  have w140 : sp_bring r (nI a) (nI b) (140 + 4 * m) = nI a := by
    unfold sp_bring
    rw [h3, upd_ne (by omega), upd_ne (by omega), upd_ne (by omega), upd_ne (by omega), upd_eq]
  have w142 : sp_bring r (nI a) (nI b) (142 + 4 * m) = -1 := by
    unfold sp_bring
    rw [h3, upd_ne (by omega), upd_ne (by omega), upd_eq]
  have w143 : sp_bring r (nI a) (nI b) (143 + 4 * m) = sp_bring r (nI a) (nI b) 1 := by
    rw [bring_at (i := 1) (by omega)]
    unfold sp_bring
    rw [h3, upd_ne (by omega), upd_eq]
  have wal : sp_bring r (nI a) (nI b) (16 + 8 * j) < nI 3 := by rw [bring_at (by omega)]; exact hal
  generalize sp_bring r (nI a) (nI b) = r1 at hb w140 w142 w143 wal ⊢
  obtain ⟨b1, b2, b3, b4⟩ := hb
  have hn1 := b1.1.2.2.2.2.1
  have elay : sp_lay r1 m = r1 := by
    funext i
    unfold sp_lay
    by_cases e : i = 143 + 4 * m
    · subst e; rw [upd_eq, w143]
    · rw [upd_ne e]
      by_cases e2 : i = 142 + 4 * m
      · subst e2; rw [upd_eq, w142]
      · rw [upd_ne e2]
  obtain ⟨c1, c2⟩ := hang_facts b1 (k := m) (j := j) (wt := a) (by omega) (by omega) wal (by rw [w142]; exact fun z => nI_m1 (n := j) (by omega) z.symm) w140 ⟨fr j, (b4 j hj).1, by have := (b4 j hj).2; omega, hfit⟩
  rw [elay] at c1 c2
  obtain ⟨s6, s7, s8, s9⟩ := sc_hang r1 m j
  refine ⟨c1, by omega, by omega, fun i hi => ?_⟩
  obtain ⟨e1, e2⟩ := b4 i hi
  by_cases e : i = j
  · subst e
    refine ⟨?_, by show (if i = i then fr i - a else fr i) ≤ 160; rw [if_pos rfl]; omega⟩
    show _ = nI (if i = i then fr i - a else fr i)
    rw [if_pos rfl, c2, e1, pk_sub hfit]
  · refine ⟨?_, by show (if i = j then fr j - a else fr i) ≤ 160; rw [if_neg e]; exact e2⟩
    show _ = nI (if i = j then fr j - a else fr i)
    rw [if_neg e, ← e1]
    unfold sp_free
    rw [sp_car_hang (by omega) (by omega) (by omega) w142, if_neg (fun z => e z.symm)]
    unfold sp_hang
    rw [upd_ne (by omega)]
theorem loads_ok {tb : Nat → Nat} {n nc : Nat} (hnc : nc ≤ 5) : ∀ (ls : LO) (M m p : Nat) (r : Nat → Int32) (fr : Nat → Nat), At tb n p (lnLs ls) → GL nc fr ls → ls.length ≤ M → m + ls.length ≤ 20 → LI r nc m fr → (∀ j : Nat, j < nc → r (16 + 8 * j) < nI 3) → ∃ (q : Nat) (R : Nat → Int32), sp_lp tb 5 (sp_rLoad tb n) M (.ok (sp_tok tb n p, r)) = .ok (sp_tok tb n q, R) ∧ At tb n q [] ∧ Leg R
  | [], M, m, p, r, fr, h, _, _, _, hx, _ => ⟨p, r, sp_lp_n (FC_no (c0 := 108) (l := []) h (Or.inl rfl) (by decide) (by decide +kernel) (by decide)), h, hx.1⟩
  | (a, b, o) :: t, M, m, p, r, fr, h, g, hM, hm, hx, hal => by
    cases M with
    | zero => simp at hM
    | succ M =>
      simp only [List.length_cons] at hM hm
      obtain ⟨g1, g2, g3, g4, g5⟩ := g.1
      cases o with
      | none =>
        obtain ⟨w1, q, h2, w2⟩ := lineL0 (l := lnLs t) h ⟨g1, g2, g3, g4⟩
        obtain ⟨q', R, e1, e2, e3⟩ := loads_ok hnc t M (m + 1) q _ fr h2 g.2 (by omega) (by omega) (LI_bring (b := b) hx (by omega) ⟨g1, g2⟩) (fun j hj => by rw [bring_at (by have := hx.2.2.1; omega)]; exact hal j hj)
        refine ⟨q', R, ?_, e2, e3⟩
        rw [sp_lp_y w1, w2]
        exact e1
      | some j =>
        obtain ⟨hj, hfit⟩ := g5 j rfl
        have hb := LI_bring (b := b) hx (show m < 20 by omega) ⟨g1, g2⟩
        obtain ⟨w1, q, h2, w2⟩ := lineL1 (l := lnLs t) h ⟨g1, g2, g3, g4⟩ (by omega)
        obtain ⟨q', R, e1, e2, e3⟩ := loads_ok hnc t M (m + 1) q _ (frA fr a (some j)) h2 g.2 (by omega) (by omega) (LI_hang (b := b) hx (by omega) ⟨g1, g2⟩ hj hfit (hal j hj)) (fun i hi => by
          unfold sp_hang
          rw [upd_ne (by omega), bring_at (by have := hx.2.2.1; omega)]; exact hal i hi)
        refine ⟨q', R, ?_, e2, e3⟩
        rw [sp_lp_y w1, w2 r (by rw [hb.2.1]; exact hj) (by rw [(hb.2.2.2 j hj).1]; exact nI_nlt hfit (by have := (hb.2.2.2 j hj).2; omega)), hx.2.2.1]
        exact e1
theorem PX_leg {L nc nw ns : Nat} {r : Nat → Int32} {f : Nat → Nat} (h : PX L r nc nw ns f) (h1 : 1 ≤ nc) (hf : ∀ j : Nat, j < nc → f j ≤ 8) : LI r nc 0 (fun j => 20 * f j) ∧ ∀ j : Nat, j < nc → r (16 + 8 * j) < nI 3 := by
  obtain ⟨a1, ⟨-, -, -, ⟨⟨f1, f2, f3, f4, f5, f6⟩, fc, fw⟩, -, -⟩, ⟨c1, c2, c3, c4⟩, a4, a5, a6⟩ := h
  have hok : RowOk r := a1.ok (by omega)
  have hn := hok.2.2.2.2.1
  have hcar : ∀ j : Nat, sp_car r j = nI 0 := fun j => by
    unfold sp_car
    rw [c4]
    rfl
  have h16 : ∀ j : Nat, j < nc → r (16 + 8 * j) < nI 3 := fun j hj => by rw [(fc j (by omega)).2.2.2]; decide
  refine ⟨⟨⟨hok, fun i j hi hj e => ?_, ⟨0, f2, by omega, fun k hk => ⟨⟨0, (fc k hk).2.1, by omega, by omega⟩, ⟨0, (fc k hk).2.2.1, by omega, by omega⟩⟩⟩, fun k hk => ?_, fun k j hk => by rw [c4] at hk; omega, fun k hk => by rw [c4] at hk; omega, fun _ => ⟨0, f4, by omega, h16 0 (by omega)⟩⟩, c1, c4, fun j hj => ⟨?_, ?_⟩⟩, h16⟩
  · obtain ⟨q, q1, q2, q3⟩ := a6 i (by omega)
    obtain ⟨p, p1, p2, p3⟩ := a6 j (by omega)
    rw [q3, p3] at e
    have := nI_inj (by omega) (by omega) e
    omega
  · exact ⟨f k, 0, a5 k (by omega), by have := hf k (by omega); omega, hcar k, Nat.zero_le _⟩
  · unfold sp_free
    rw [a5 j hj, hcar, pk_mul, pk_sub (Nat.zero_le _), Nat.sub_zero, Nat.mul_comm]
  · have := hf j hj
    show 20 * f j ≤ 160
    omega
theorem FC_W {ws : L3} {l : List Nat} {c0 : Nat} (h : FC l c0) (hc : 119 ≠ c0) : FC (lnWs ws ++ l) c0 := by
  cases ws with
  | nil => exact h
  | cons x t => exact Or.inr ⟨119, _, rfl, hc, by decide, by decide⟩
theorem FC_S {ws : L3} {l : List Nat} {c0 : Nat} (h : FC l c0) (hc : 115 ≠ c0) : FC (lnSs ws ++ l) c0 := by
  cases ws with
  | nil => exact h
  | cons x t => exact Or.inr ⟨115, _, rfl, hc, by decide, by decide⟩
theorem FC_L {ws : LO} {c0 : Nat} (hc : 108 ≠ c0) : FC (lnLs ws) c0 := by
  cases ws with
  | nil => exact Or.inl rfl
  | cons x t =>
    obtain ⟨a, b, o⟩ := x
    cases o with
    | none => exact Or.inr ⟨108, _, rfl, hc, by decide, by decide⟩
    | some j => exact Or.inr ⟨108, _, rfl, hc, by decide, by decide⟩
theorem GC_str : ∀ (cs : L3) (i : Nat), GC cs → (cs.getD i (0, 0, 0)).2.1 ≤ 8
  | [], i, _ => Nat.zero_le _
  | (a, b, c) :: t, 0, g => by have := g.1; show b ≤ 8; omega
  | (a, b, c) :: t, i + 1, g => GC_str t i g.2
/-- every text of the law's is read, and what it tells is legal -/
theorem parse_good {tb : Nat → Nat} {l : List Nat} (hg : GoodTx l) (hl : ∀ j : Nat, j < l.length → tb j = gl l j) : ∃ r : Nat → Int32, sp_parse tb l.length = .ok r ∧ Leg r := by
  obtain ⟨L, cs, ws, ss, ls, rfl, hL, hcs, hws, hss, hls, gC, gW, gS, gL⟩ := hg
  have h0 : At tb (lnR L ++ lnCs cs ++ lnWs ws ++ lnSs ss ++ lnLs ls).length 0 (lnR L ++ (lnCs cs ++ (lnWs ws ++ (lnSs ss ++ lnLs ls)))) := by
    refine ⟨by simp only [List.append_assoc]; omega, fun j hj => ?_⟩
    have e := hl j (by simp only [List.append_assoc] at hj ⊢; exact hj)
    rw [Nat.zero_add, e]
    simp only [List.append_assoc]
  generalize (lnR L ++ lnCs cs ++ lnWs ws ++ lnSs ss ++ lnLs ls).length = n at h0 hl ⊢
  obtain ⟨q1, h1, e1⟩ := lineR h0 hL
  have px0 : PX L (sp_start L) 0 0 0 (fun i => (cs.getD i (0, 0, 0)).2.1) := by
    have e : ∀ k : Nat, k ≠ 0 → sp_start L k = nI 0 := fun k hk => if_neg hk
    have z : (nI 0).toNatClampNeg = 0 := by decide
    exact ⟨PK_start (by omega) (by omega), PG_start (by omega), ⟨by unfold sp_nc; rw [e 6 (by omega)]; exact z, by unfold sp_nw; rw [e 7 (by omega)]; exact z, by unfold sp_ns; rw [e 8 (by omega)]; exact z, by unfold sp_nl; rw [e 9 (by omega)]; exact z⟩, rfl, fun j hj => absurd hj (Nat.not_lt_zero j), fun j hj => absurd hj (Nat.not_lt_zero j)⟩
  have hisw : sp_isw tb (sp_tok tb n q1) 2 = true := by
    cases cs with
    | nil => simp at hcs
    | cons x t =>
      obtain ⟨a, b, c⟩ := x
      exact (lineC (l := lnCs t ++ (lnWs ws ++ (lnSs ss ++ lnLs ls))) (by have e : lnCs ((a, b, c) :: t) ++ (lnWs ws ++ (lnSs ss ++ lnLs ls)) = lnC a b c ++ (lnCs t ++ (lnWs ws ++ (lnSs ss ++ lnLs ls))) := by simp [lnCs]
                                                                          rw [← e]; exact h1) gC.1).1
  obtain ⟨q2, R2, e2, h2, px2⟩ := camels_ok (FC_W (FC_S (FC_L (by decide)) (by decide)) (by decide)) cs 10 0 q1 _ h1 gC (by omega) (by omega) px0 (fun i _ => by rw [Nat.zero_add])
  rw [Nat.zero_add] at px2
  obtain ⟨q3, R3, e3, h3, px3⟩ := wells_ok (FC_S (FC_L (by decide)) (by decide)) (by omega) (by omega) ws 8 0 q2 _ h2 gW (by omega) (by omega) px2
  rw [Nat.zero_add] at px3
  obtain ⟨q4, R4, e4, h4, px4⟩ := storms_ok (FC_L (by decide)) (by omega) (by omega) ss 6 0 q3 _ h3 gS (by omega) (by omega) px3
  rw [Nat.zero_add] at px4
  obtain ⟨hli, hal⟩ := PX_leg px4 hcs.1 (fun j _ => GC_str cs j gC)
  obtain ⟨q5, R5, e5, h5, hleg⟩ := loads_ok hcs.2 ls 20 0 q4 R4 (frC cs) h4 gL (by omega) (by omega) hli hal
  refine ⟨R5, ?_, hleg⟩
  unfold sp_parse sp_rPlan
  rw [e1]
  simp only [sp_bd]
  unfold sp_rCamels sp_rWells sp_rStorms sp_rLoads
  rw [if_pos hisw, e2]
  simp only [sp_bd]
  rw [e3]
  simp only [sp_bd]
  rw [e4]
  simp only [sp_bd]
  rw [e5]
  simp only [sp_bd]
  unfold sp_rEnd
  rw [if_pos (by rw [st_end h5])]
