/-! ===== the model: what it reads, camel by camel, well by well .. ===== -/
def md_gt (p : sp_S → Bool) (e : Except Nat sp_S) : Except Nat sp_S := sp_bd e (fun s => if p s = true then .ok s else .error s.1.2.1)
def md_nx (tb : Nat → Nat) (n : Nat) : sp_S → Except Nat sp_S := fun s => .ok (sp_nx tb n s.1, s.2)
theorem md_gt1 {tb : Nat → Nat} {n : Nat} {p : sp_S → Bool} {e : Except Nat sp_S} (h : ∀ s : sp_S, e = .ok s → p s = true) : sp_tk tb n (nI 1) e = sp_bd (md_gt p e) (md_nx tb n) := by
  rw [sp_tk1]
  cases e with
  | ok s =>
    show _ = sp_bd (if p s = true then (Except.ok s : Except Nat sp_S) else .error s.1.2.1) (md_nx tb n)
    rw [if_pos (h s rfl)]
    rfl
  | error x => rfl
theorem md_gt0 {tb : Nat → Nat} {n : Nat} {p : sp_S → Bool} {e : Except Nat sp_S} (h : ∀ s : sp_S, e = .ok s → ¬ p s = true) : sp_tk tb n (nI 0) e = sp_bd (md_gt p e) (md_nx tb n) := by
  rw [sp_tk0]
  cases e with
  | ok s =>
    show _ = sp_bd (if p s = true then (Except.ok s : Except Nat sp_S) else .error s.1.2.1) (md_nx tb n)
    rw [if_neg (h s rfl)]
    rfl
  | error x => rfl
theorem md_gt_inv {tb : Nat → Nat} {n : Nat} {p : sp_S → Bool} {e : Except Nat sp_S} {s' : sp_S} (h : sp_bd (md_gt p e) (md_nx tb n) = .ok s') : ∃ s : sp_S, e = .ok s ∧ p s = true ∧ s'.2 = s.2 := by
  obtain ⟨s1, h1, h2⟩ := sp_bd_inv h
  obtain ⟨s, h3, h4⟩ := sp_bd_inv h1
  by_cases q : p s = true
  · rw [if_pos q] at h4
    cases h4
    cases h2
    exact ⟨s1, h3, q, rfl⟩
  · rw [if_neg q] at h4; cases h4
theorem tnS_inv {tb : Nat → Nat} {n lo hi : Nat} {e : Except Nat sp_S} {s' : sp_S} (h : sp_tnS tb n lo hi e = .ok s') : ∃ s : sp_S, e = .ok s ∧ s'.2 = s.2 := by
  obtain ⟨s, h1, h2⟩ := sp_bd_inv h
  obtain ⟨a, h3, h4⟩ := sp_bd_inv h2
  cases h4
  exact ⟨s, h1, rfl⟩
theorem tsS_inv {tb : Nat → Nat} {n : Nat} {e : Except Nat sp_S} {s' : sp_S} (h : sp_tsS tb n e = .ok s') : ∃ s : sp_S, e = .ok s ∧ s'.2 = s.2 := by
  obtain ⟨s, h1, h2⟩ := sp_bd_inv h
  obtain ⟨a, h3, h4⟩ := sp_bd_inv h2
  cases h4
  exact ⟨s, h1, rfl⟩
theorem MTok_row {I I' : am_I} {J J' : am_J} {y n : Nat} {tb : Nat → Nat} {t : sp_T} (h : MTok I J y tb n t) (hI : I' y = I y) (hJ : J' y = J y) : MTok I' J' y tb n t := by
  unfold MTok at h ⊢
  rw [hI, hJ]
  exact h
theorem MP_set {I I' : am_I} {J : am_J} {y n : Nat} {tb : Nat → Nat} {s : sp_S} {r : Nat → Int32} (h : MP I J y tb n (.ok s)) (hm : MRow I' (y + 2) 0 r) (hf : am_f1 (y + 2) I I') (hB : RowB r) (hL : ∃ L : Nat, r 0 = nI L ∧ L ≤ 999) : MP I' J y tb n (.ok (s.1, r)) := by
  have e := hf y (by omega)
  exact ⟨by rw [e]; exact h.1, by rw [e]; exact h.2.1, MTok_row h.2.2.1 e rfl, hm, hB, hL⟩
theorem f1_mpf {y : Nat} {I I' : am_I} (h : am_f1 (y + 2) I I') : MPf y I I' := ⟨fun k _ => congrFun (h y (by omega)) k, fun b _ h2 => h b h2⟩
theorem RowB.c6 {r : Nat → Int32} {k : Nat} (h : RowB r) (hk : k ≤ 10) : RowB (upd r 6 (nI k)) := by
  obtain ⟨⟨h6, h7, h8, h9⟩, hb⟩ := h
  have e : sp_nc (upd r 6 (nI k)) = k := by unfold sp_nc; rw [upd_eq, nI_clamp (by omega)]
  unfold RowB
  rw [e, sp_nw_upd (by omega), sp_ns_upd (by omega), sp_nl_upd (by omega), upd_eq, upd_ne (by omega), upd_ne (by omega), upd_ne (by omega)]
  exact ⟨⟨rfl, h7, h8, h9⟩, hk, hb.2⟩
theorem RowB.c7 {r : Nat → Int32} {k : Nat} (h : RowB r) (hk : k ≤ 8) : RowB (upd r 7 (nI k)) := by
  obtain ⟨⟨h6, h7, h8, h9⟩, hb⟩ := h
  have e : sp_nw (upd r 7 (nI k)) = k := by unfold sp_nw; rw [upd_eq, nI_clamp (by omega)]
  unfold RowB
  rw [e, sp_nc_upd (by omega), sp_ns_upd (by omega), sp_nl_upd (by omega), upd_eq, upd_ne (by omega), upd_ne (by omega), upd_ne (by omega)]
  exact ⟨⟨h6, rfl, h8, h9⟩, hb.1, hk, hb.2.2⟩
theorem RowB.c8 {r : Nat → Int32} {k : Nat} (h : RowB r) (hk : k ≤ 6) : RowB (upd r 8 (nI k)) := by
  obtain ⟨⟨h6, h7, h8, h9⟩, hb⟩ := h
  have e : sp_ns (upd r 8 (nI k)) = k := by unfold sp_ns; rw [upd_eq, nI_clamp (by omega)]
  unfold RowB
  rw [e, sp_nc_upd (by omega), sp_nw_upd (by omega), sp_nl_upd (by omega), upd_eq, upd_ne (by omega), upd_ne (by omega), upd_ne (by omega)]
  exact ⟨⟨h6, h7, rfl, h9⟩, hb.1, hb.2.1, hk, hb.2.2.2⟩
theorem RowB.c9 {r : Nat → Int32} {k : Nat} (h : RowB r) (hk : k ≤ 20) : RowB (upd r 9 (nI k)) := by
  obtain ⟨⟨h6, h7, h8, h9⟩, hb⟩ := h
  have e : sp_nl (upd r 9 (nI k)) = k := by unfold sp_nl; rw [upd_eq, nI_clamp (by omega)]
  unfold RowB
  rw [e, sp_nc_upd (by omega), sp_nw_upd (by omega), sp_ns_upd (by omega), upd_eq, upd_ne (by omega), upd_ne (by omega), upd_ne (by omega)]
  exact ⟨⟨h6, h7, h8, rfl⟩, hb.1, hb.2.1, hb.2.2.1, hk⟩
theorem RowB.camel {r : Nat → Int32} {x y z : Int32} (h : RowB r) (hn : sp_nc r < 10) : RowB (sp_addCamel r x y z) := by
  unfold sp_addCamel
  exact RowB.c6 ((((h.up (by omega)).up (by omega)).up (by omega)).up (by omega)) (by omega)
theorem RowB.well {r : Nat → Int32} {x y z : Int32} (h : RowB r) (hn : sp_nw r < 8) : RowB (sp_addWell r x y z) := by
  unfold sp_addWell
  exact RowB.c7 ((((h.up (by omega)).up (by omega)).up (by omega)).up (by omega)) (by omega)
theorem RowB.storm {r : Nat → Int32} {x y z : Int32} (h : RowB r) (hn : sp_ns r < 6) : RowB (sp_addStorm r x y z) := by
  unfold sp_addStorm
  exact RowB.c8 (((h.up (by omega)).up (by omega)).up (by omega)) (by omega)
theorem RowB.bring {r : Nat → Int32} {x y : Int32} (h : RowB r) (hn : sp_nl r < 20) : RowB (sp_bring r x y) := by
  unfold sp_bring
  exact RowB.c9 ((((h.up (by omega)).up (by omega)).up (by omega)).up (by omega)) (by omega)
theorem rCamel_S {tb : Nat → Nat} {n : Nat} {g e1 e2 e3 e4 e5 : Except Nat sp_S} (h1 : e1 = sp_bd g (md_nx tb n)) (h2 : e2 = sp_tnS tb n 10 60 e1) (h3 : e3 = sp_tnS tb n 1 9 e2) (h4 : e4 = sp_tnS tb n 10 90 e3) (h5 : e5 = sp_tsS tb n e4) :
    sp_bd g (sp_rCamel tb n) = sp_bd e5 (fun s => .ok (s.1, sp_addCamel s.2 (nI (sp_tz tb n 10 60 e1)) (nI (sp_tz tb n 1 9 e2)) (nI (sp_tz tb n 10 90 e3)))) := by
  cases g with
  | error x => subst h1; subst h2; subst h3; subst h4; subst h5; rfl
  | ok s =>
    have k1 : e1 = .ok (sp_nx tb n s.1, s.2) := h1
    subst k1
    show sp_rCamel tb n s = _
    unfold sp_rCamel
    by_cases c1 : (sp_nx tb n s.1).1 = 2 ∧ 10 ≤ (sp_nx tb n s.1).2.2.2 ∧ (sp_nx tb n s.1).2.2.2 ≤ 60
    · have k2 : e2 = .ok (sp_nx tb n (sp_nx tb n s.1), s.2) := by rw [h2]; show sp_bd (sp_tn tb n 10 60 _) _ = _; rw [sp_tn_t c1]; rfl
      subst k2
      rw [sp_tn_t c1]
      have z1 : sp_tz tb n 10 60 (.ok (sp_nx tb n s.1, s.2)) = (sp_nx tb n s.1).2.2.2 := if_pos c1
      rw [z1]
      simp only [sp_bd]
      generalize (sp_nx tb n (sp_nx tb n s.1)) = t2 at h3 ⊢
      by_cases c2 : t2.1 = 2 ∧ 1 ≤ t2.2.2.2 ∧ t2.2.2.2 ≤ 9
      · have k3 : e3 = .ok (sp_nx tb n t2, s.2) := by rw [h3]; show sp_bd (sp_tn tb n 1 9 t2) _ = _; rw [sp_tn_t c2]; rfl
        subst k3
        rw [sp_tn_t c2, show sp_tz tb n 1 9 (.ok (t2, s.2)) = t2.2.2.2 from if_pos c2]
        simp only [sp_bd]
        generalize (sp_nx tb n t2) = t3 at h4 ⊢
        by_cases c3 : t3.1 = 2 ∧ 10 ≤ t3.2.2.2 ∧ t3.2.2.2 ≤ 90
        · have k4 : e4 = .ok (sp_nx tb n t3, s.2) := by rw [h4]; show sp_bd (sp_tn tb n 10 90 t3) _ = _; rw [sp_tn_t c3]; rfl
          subst k4
          rw [sp_tn_t c3, show sp_tz tb n 10 90 (.ok (t3, s.2)) = t3.2.2.2 from if_pos c3]
          simp only [sp_bd]
          have k5 : e5 = sp_bd (sp_ts tb n (sp_nx tb n t3)) (fun d => .ok (d, s.2)) := h5
          rw [k5]
          cases sp_ts tb n (sp_nx tb n t3) <;> rfl
        · have k4 : e4 = .error t3.2.1 := by rw [h4]; show sp_bd (sp_tn tb n 10 90 t3) _ = _; rw [sp_tn_f c3]; rfl
          subst k4
          rw [sp_tn_f c3, h5]
          rfl
      · have k3 : e3 = .error t2.2.1 := by rw [h3]; show sp_bd (sp_tn tb n 1 9 t2) _ = _; rw [sp_tn_f c2]; rfl
        subst k3
        subst h4
        rw [sp_tn_f c2, h5]
        rfl
    · have k2 : e2 = .error (sp_nx tb n s.1).2.1 := by rw [h2]; show sp_bd (sp_tn tb n 10 60 _) _ = _; rw [sp_tn_f c1]; rfl
      subst k2
      subst h3
      subst h4
      rw [sp_tn_f c1, h5]
      rfl
theorem rStorm_S {tb : Nat → Nat} {n : Nat} {g e1 e2 e3 e4 e5 : Except Nat sp_S} (h1 : e1 = sp_bd g (md_nx tb n)) (h2 : e2 = sp_tnS tb n 0 200 e1) (h3 : e3 = sp_tnS tb n (sp_tz tb n 0 200 e1) 200 e2) (h4 : e4 = sp_tnS tb n 1 9 e3) (h5 : e5 = sp_tsS tb n e4) :
    sp_bd g (sp_rStorm tb n) = sp_bd e5 (fun s => .ok (s.1, sp_addStorm s.2 (nI (sp_tz tb n 0 200 e1)) (nI (sp_tz tb n (sp_tz tb n 0 200 e1) 200 e2)) (nI (sp_tz tb n 1 9 e3)))) := by
  cases g with
  | error x => subst h1; subst h2; subst h3; subst h4; subst h5; rfl
  | ok s =>
    have k1 : e1 = .ok (sp_nx tb n s.1, s.2) := h1
    subst k1
    show sp_rStorm tb n s = _
    unfold sp_rStorm
    by_cases c1 : (sp_nx tb n s.1).1 = 2 ∧ 0 ≤ (sp_nx tb n s.1).2.2.2 ∧ (sp_nx tb n s.1).2.2.2 ≤ 200
    · have k2 : e2 = .ok (sp_nx tb n (sp_nx tb n s.1), s.2) := by rw [h2]; show sp_bd (sp_tn tb n 0 200 _) _ = _; rw [sp_tn_t c1]; rfl
      subst k2
      have z1 : sp_tz tb n 0 200 (.ok (sp_nx tb n s.1, s.2)) = (sp_nx tb n s.1).2.2.2 := if_pos c1
      rw [z1] at h3 ⊢
      rw [sp_tn_t c1]
      simp only [sp_bd]
      generalize (sp_nx tb n s.1).2.2.2 = a1 at h3 ⊢
      generalize (sp_nx tb n (sp_nx tb n s.1)) = t2 at h3 ⊢
      by_cases c2 : t2.1 = 2 ∧ a1 ≤ t2.2.2.2 ∧ t2.2.2.2 ≤ 200
      · have k3 : e3 = .ok (sp_nx tb n t2, s.2) := by rw [h3]; show sp_bd (sp_tn tb n a1 200 t2) _ = _; rw [sp_tn_t c2]; rfl
        subst k3
        rw [sp_tn_t c2, show sp_tz tb n a1 200 (.ok (t2, s.2)) = t2.2.2.2 from if_pos c2]
        simp only [sp_bd]
        generalize (sp_nx tb n t2) = t3 at h4 ⊢
        by_cases c3 : t3.1 = 2 ∧ 1 ≤ t3.2.2.2 ∧ t3.2.2.2 ≤ 9
        · have k4 : e4 = .ok (sp_nx tb n t3, s.2) := by rw [h4]; show sp_bd (sp_tn tb n 1 9 t3) _ = _; rw [sp_tn_t c3]; rfl
          subst k4
          rw [sp_tn_t c3, show sp_tz tb n 1 9 (.ok (t3, s.2)) = t3.2.2.2 from if_pos c3]
          simp only [sp_bd]
          have k5 : e5 = sp_bd (sp_ts tb n (sp_nx tb n t3)) (fun d => .ok (d, s.2)) := h5
          rw [k5]
          cases sp_ts tb n (sp_nx tb n t3) <;> rfl
        · have k4 : e4 = .error t3.2.1 := by rw [h4]; show sp_bd (sp_tn tb n 1 9 t3) _ = _; rw [sp_tn_f c3]; rfl
          subst k4
          rw [sp_tn_f c3, h5]
          rfl
      · have k3 : e3 = .error t2.2.1 := by rw [h3]; show sp_bd (sp_tn tb n a1 200 t2) _ = _; rw [sp_tn_f c2]; rfl
        subst k3
        subst h4
        rw [sp_tn_f c2, h5]
        rfl
    · have k2 : e2 = .error (sp_nx tb n s.1).2.1 := by rw [h2]; show sp_bd (sp_tn tb n 0 200 _) _ = _; rw [sp_tn_f c1]; rfl
      subst k2
      subst h3
      subst h4
      rw [sp_tn_f c1, h5]
      rfl
/-- a well's place -/
def md_v (e : Except Nat sp_S) : Nat := match e with
  | .ok s => s.1.2.2.2
  | .error _ => 0
def md_pw (s : sp_S) : Bool := decide (s.1.1 = 2 ∧ s.1.2.2.2 ≤ (s.2 0).toNatClampNeg ∧ sp_wellOn s.2 (nI s.1.2.2.2) = -1)
theorem rWell_S {tb : Nat → Nat} {n : Nat} {g e1 e2 e3 e4 e5 : Except Nat sp_S} (h1 : e1 = sp_bd g (md_nx tb n)) (h2 : e2 = sp_bd (md_gt md_pw e1) (md_nx tb n)) (h3 : e3 = sp_tnS tb n 1 999 e2) (h4 : e4 = sp_tnS tb n 0 99 e3) (h5 : e5 = sp_tsS tb n e4) :
    sp_bd g (sp_rWell tb n) = sp_bd e5 (fun s => .ok (s.1, sp_addWell s.2 (nI (md_v e1)) (nI (sp_tz tb n 1 999 e2)) (nI (sp_tz tb n 0 99 e3)))) := by
  cases g with
  | error x => subst h1; subst h2; subst h3; subst h4; subst h5; rfl
  | ok s =>
    have k1 : e1 = .ok (sp_nx tb n s.1, s.2) := h1
    subst k1
    show sp_rWell tb n s = _
    have hv : md_v (.ok (sp_nx tb n s.1, s.2)) = (sp_nx tb n s.1).2.2.2 := rfl
    rw [hv]
    unfold sp_rWell sp_rWell2
    generalize (sp_nx tb n s.1) = t1 at h2 ⊢
    by_cases c1 : md_pw (t1, s.2) = true
    · have c1' : t1.1 = 2 ∧ t1.2.2.2 ≤ (s.2 0).toNatClampNeg ∧ sp_wellOn s.2 (nI t1.2.2.2) = -1 := of_decide_eq_true c1
      have k2 : e2 = .ok (sp_nx tb n t1, s.2) := by
        rw [h2]
        show sp_bd (if md_pw (t1, s.2) = true then (Except.ok (t1, s.2) : Except Nat sp_S) else .error t1.2.1) (md_nx tb n) = _
        rw [if_pos c1]
        rfl
      subst k2
      rw [if_neg (fun z => z.2 c1'.2.2), sp_tn_t ⟨c1'.1, Nat.zero_le _, c1'.2.1⟩]
      simp only [sp_bd]
      generalize (sp_nx tb n t1) = t2 at h3 ⊢
      by_cases c2 : t2.1 = 2 ∧ 1 ≤ t2.2.2.2 ∧ t2.2.2.2 ≤ 999
      · have k3 : e3 = .ok (sp_nx tb n t2, s.2) := by rw [h3]; show sp_bd (sp_tn tb n 1 999 t2) _ = _; rw [sp_tn_t c2]; rfl
        subst k3
        rw [sp_tn_t c2, show sp_tz tb n 1 999 (.ok (t2, s.2)) = t2.2.2.2 from if_pos c2]
        simp only [sp_bd]
        generalize (sp_nx tb n t2) = t3 at h4 ⊢
        by_cases c3 : t3.1 = 2 ∧ 0 ≤ t3.2.2.2 ∧ t3.2.2.2 ≤ 99
        · have k4 : e4 = .ok (sp_nx tb n t3, s.2) := by rw [h4]; show sp_bd (sp_tn tb n 0 99 t3) _ = _; rw [sp_tn_t c3]; rfl
          subst k4
          rw [sp_tn_t c3, show sp_tz tb n 0 99 (.ok (t3, s.2)) = t3.2.2.2 from if_pos c3]
          simp only [sp_bd]
          have k5 : e5 = sp_bd (sp_ts tb n (sp_nx tb n t3)) (fun d => .ok (d, s.2)) := h5
          rw [k5]
          cases sp_ts tb n (sp_nx tb n t3) <;> rfl
        · have k4 : e4 = .error t3.2.1 := by rw [h4]; show sp_bd (sp_tn tb n 0 99 t3) _ = _; rw [sp_tn_f c3]; rfl
          subst k4
          rw [sp_tn_f c3, h5]
          rfl
      · have k3 : e3 = .error t2.2.1 := by rw [h3]; show sp_bd (sp_tn tb n 1 999 t2) _ = _; rw [sp_tn_f c2]; rfl
        subst k3
        subst h4
        rw [sp_tn_f c2, h5]
        rfl
    · have c1' : ¬ (t1.1 = 2 ∧ t1.2.2.2 ≤ (s.2 0).toNatClampNeg ∧ sp_wellOn s.2 (nI t1.2.2.2) = -1) := fun z => c1 (decide_eq_true z)
      have k2 : e2 = .error t1.2.1 := by
        rw [h2]
        show sp_bd (if md_pw (t1, s.2) = true then (Except.ok (t1, s.2) : Except Nat sp_S) else .error t1.2.1) (md_nx tb n) = _
        rw [if_neg c1]
        rfl
      subst k2
      subst h3
      subst h4
      rw [h5]
      by_cases d : t1.1 = 2 ∧ ¬ sp_wellOn s.2 (nI t1.2.2.2) = -1
      · rw [if_pos d]; rfl
      · rw [if_neg d, sp_tn_f (fun z => c1' ⟨z.1, z.2.2, Decidable.byContradiction (fun w => d ⟨z.1, w⟩)⟩)]
        rfl
set_option maxHeartbeats 4000000 in
set_option maxRecDepth 100000 in
theorem ct_X6_readCamel {G : am_G} {Λ : am_L} {I : am_I} {J : am_J} {y n : Nat} {tb : Nat → Nat} {e : Except Nat sp_S}  (hx : ModLay Λ y) (ht : MTxt I y tb n) (hP : MP I J y tb n e) : am_Ct G yX6_readCamel cX6_readCamel 4 none { frames := 5, cells := 0, slots := 0, locals := 105 } [.ref y] Λ I J (am_gj Λ (fun v I' J' => v = none ∧ MP I' J' y tb n (sp_bd (md_gt (fun s => sp_isw tb s.1 2 && decide (sp_nc s.2 < 10)) e) (sp_rCamel tb n)) ∧ MPf y I I' ∧ JFr y J J')) am_never := by
  refine am_ct_of (own := RX6) rfl (by decide) (Nat.le_of_ble_eq_true rfl) (fun X C => ?_)
  change am_K G X { frames := 5, cells := 0, slots := 0, locals := 105 } 4 Λ I J 0 0 0 [(0, .ref y)] []
  obtain ⟨rd, hrd, hBd, hrs⟩ := MP_row hP
  obtain ⟨⟨h6d, h7d, h8d, h9d⟩, hb6, hb7, hb8, hb9⟩ := hBd
  refine k_aload_n C (f := 0) (i := 0) (p := 0) rfl rfl dX6_readCamel_0 ?_
  refine k_aload_n C (f := 0) (i := 0) (p := 0) rfl rfl dX6_readCamel_1 ?_
  refine k_ldc2 C l_X6_195 dX6_readCamel_2 ?_
  refine k_callVp C s_X6_197 h_X6_isWord (L6_s (by assumption)) rfl (ct_X6_isWord hx) rfl rfl (Nat.le_of_ble_eq_true rfl) ⟨Nat.le_of_ble_eq_true rfl, Nat.le_of_ble_eq_true rfl⟩ ⟨Nat.le_of_ble_eq_true rfl, Nat.le_of_ble_eq_true rfl⟩ ⟨rfl, rfl⟩ dX6_readCamel_5 ?_
  refine k_ifb_eq C (tgt := 27) (by decide) dX6_readCamel_8 (fun hc8 => ?_) (fun hc8 => ?_)
  · skip
    refine k_iconst C ic_0 dX6_readCamel_27 ?_
    refine k_callVj C s_X6_191 h_X6_takes (L6_s (by assumption)) rfl (ct_X6_takes hx ht hP) rfl rfl (Nat.le_of_ble_eq_true rfl) ⟨Nat.le_of_ble_eq_true rfl, Nat.le_of_ble_eq_true rfl⟩ ⟨Nat.le_of_ble_eq_true rfl, Nat.le_of_ble_eq_true rfl⟩ ⟨rfl, rfl⟩ dX6_readCamel_28 ?_
    intro v I1 J1 hv
    obtain ⟨rfl, hP1, F1, G1⟩ := hv
    have hg1 : ∃ z : Except Nat sp_S, MP I1 J1 y tb n z ∧ z = sp_bd (md_gt (fun s => sp_isw tb s.1 2 && decide (sp_nc s.2 < 10)) e) (md_nx tb n) := ⟨_, hP1, by
      first
      | exact md_gt1 (fun s hs => by
          subst hs
          have z := hrs s rfl
          subst z
          exact Bool.and_eq_true_iff.mpr ⟨(MTok_isw (si := 2) hP.2.2.1 (by decide) (by decide)).mp ⟨hc8.1, hc8.2.trans (by decide +kernel)⟩, decide_eq_true (by omega)⟩)
      | exact md_gt0 (fun s hs w => by
          subst hs
          have z := hrs s rfl
          subst z
          have w2 := of_decide_eq_true (Bool.and_eq_true_iff.mp w).2
          omega)
      | exact md_gt0 (fun s hs w => by
          subst hs
          have w2 := (MTok_isw (si := 2) hP.2.2.1 (by decide) (by decide)).mpr (Bool.and_eq_true_iff.mp w).1
          exact hc8 ⟨w2.1, w2.2.trans (by decide +kernel)⟩)⟩
    clear hP1
    obtain ⟨e1, hP1, he1⟩ := hg1
    refine k_pop C rfl dX6_readCamel_31 ?_
    refine k_aload_n C (f := 0) (i := 0) (p := 0) rfl rfl dX6_readCamel_32 ?_
    refine k_bipush C bc_10 dX6_readCamel_33 ?_
    refine k_bipush C bc_60 dX6_readCamel_35 ?_
    refine k_callVj C s_X6_201 h_X6_takesNumber (L6_s (by assumption)) rfl (ct_X6_takesNumber hx (F1.txt ht) hP1 (by decide)) rfl rfl (Nat.le_of_ble_eq_true rfl) ⟨Nat.le_of_ble_eq_true rfl, Nat.le_of_ble_eq_true rfl⟩ ⟨Nat.le_of_ble_eq_true rfl, Nat.le_of_ble_eq_true rfl⟩ ⟨rfl, rfl⟩ dX6_readCamel_37 ?_
    intro v I2 J2 hv
    obtain ⟨rfl, hP2, F2, G2⟩ := hv
    have F2 := F1.tr F2
    have G2 := G1.tr G2
    obtain ⟨e2, he2⟩ : ∃ z : Except Nat sp_S, z = sp_tnS tb n 10 60 e1 := ⟨_, rfl⟩
    rw [← he2] at hP2
    refine k_istore_n C (f := 1) (i := 1) (lv := [(1, _), (0, _)]) rfl (Nat.le_of_ble_eq_true rfl) rfl dX6_readCamel_40 ?_
    refine k_aload_n C (f := 0) (i := 0) (p := 1) rfl rfl dX6_readCamel_41 ?_
    refine k_iconst C ic_1 dX6_readCamel_42 ?_
    refine k_bipush C bc_9 dX6_readCamel_43 ?_
    refine k_callVj C s_X6_201 h_X6_takesNumber (L6_s (by assumption)) rfl (ct_X6_takesNumber hx (F2.txt ht) hP2 (by decide)) rfl rfl (Nat.le_of_ble_eq_true rfl) ⟨Nat.le_of_ble_eq_true rfl, Nat.le_of_ble_eq_true rfl⟩ ⟨Nat.le_of_ble_eq_true rfl, Nat.le_of_ble_eq_true rfl⟩ ⟨rfl, rfl⟩ dX6_readCamel_45 ?_
    intro v I3 J3 hv
    obtain ⟨rfl, hP3, F3, G3⟩ := hv
    have F3 := F2.tr F3
    have G3 := G2.tr G3
    obtain ⟨e3, he3⟩ : ∃ z : Except Nat sp_S, z = sp_tnS tb n 1 9 e2 := ⟨_, rfl⟩
    rw [← he3] at hP3
    refine k_istore_n C (f := 2) (i := 2) (lv := [(2, _), (1, _), (0, _)]) rfl (Nat.le_of_ble_eq_true rfl) rfl dX6_readCamel_48 ?_
    refine k_aload_n C (f := 0) (i := 0) (p := 2) rfl rfl dX6_readCamel_49 ?_
    refine k_bipush C bc_10 dX6_readCamel_50 ?_
    refine k_bipush C bc_90 dX6_readCamel_52 ?_
    refine k_callVj C s_X6_201 h_X6_takesNumber (L6_s (by assumption)) rfl (ct_X6_takesNumber hx (F3.txt ht) hP3 (by decide)) rfl rfl (Nat.le_of_ble_eq_true rfl) ⟨Nat.le_of_ble_eq_true rfl, Nat.le_of_ble_eq_true rfl⟩ ⟨Nat.le_of_ble_eq_true rfl, Nat.le_of_ble_eq_true rfl⟩ ⟨rfl, rfl⟩ dX6_readCamel_54 ?_
    intro v I4 J4 hv
    obtain ⟨rfl, hP4, F4, G4⟩ := hv
    have F4 := F3.tr F4
    have G4 := G3.tr G4
    obtain ⟨e4, he4⟩ : ∃ z : Except Nat sp_S, z = sp_tnS tb n 10 90 e3 := ⟨_, rfl⟩
    rw [← he4] at hP4
    refine k_istore_n C (f := 3) (i := 3) (lv := [(3, _), (2, _), (1, _), (0, _)]) rfl (Nat.le_of_ble_eq_true rfl) rfl dX6_readCamel_57 ?_
    refine k_aload_n C (f := 0) (i := 0) (p := 3) rfl rfl dX6_readCamel_58 ?_
    refine k_aload_n C (f := 0) (i := 0) (p := 3) rfl rfl dX6_readCamel_59 ?_
    refine k_getI C f_X6_164 (L6_s (by assumption)) (fun _ _ _ => rfl) (rfl) dX6_readCamel_60 ?_
    refine k_iconst C ic_3 dX6_readCamel_63 ?_
    refine k_icmp_ne C (tgt := 71) (by decide) dX6_readCamel_64 (fun hc64 => ?_) (fun hc64 => ?_)
    · skip
      refine k_iconst C ic_0 dX6_readCamel_71 ?_
      refine k_callVj C s_X6_191 h_X6_takes (L6_s (by assumption)) rfl (ct_X6_takes hx (F4.txt ht) hP4) rfl rfl (Nat.le_of_ble_eq_true rfl) ⟨Nat.le_of_ble_eq_true rfl, Nat.le_of_ble_eq_true rfl⟩ ⟨Nat.le_of_ble_eq_true rfl, Nat.le_of_ble_eq_true rfl⟩ ⟨rfl, rfl⟩ dX6_readCamel_72 ?_
      intro v I5 J5 hv
      obtain ⟨rfl, hP5, F5, G5⟩ := hv
      have F5 := F4.tr F5
      have G5 := G4.tr G5
      rw [show sp_tk tb n _ e4 = sp_tsS tb n e4 from by first | exact sp_tkS1 hP4 hc64 | exact sp_tkS0 hP4 hc64] at hP5 ⊢
      obtain ⟨e5, he5⟩ : ∃ z : Except Nat sp_S, z = sp_tsS tb n e4 := ⟨_, rfl⟩
      rw [← he5] at hP5 ⊢
      refine k_ifb_eq C (tgt := 88) (by decide) dX6_readCamel_75 (fun hc75 => ?_) (fun hc75 => ?_)
      · skip
        exact k_vret C (Nat.le_of_ble_eq_true rfl) (Nat.le_of_ble_eq_true rfl) (⟨rfl, ⟨rfl, by
            rw [rCamel_S he1 he2 he3 he4 he5]
            first
            | (obtain ⟨x, hx5⟩ := sp_nok hc75
               rw [hx5] at hP5 ⊢
               exact hP5)
            | (rw [hs5]
               exact MP_set hPk m6 g6 (qB.camel (by rw [hs2]; exact hcnt)) (by rw [addCamel_at (by omega)]; exact qL)), by
            first
            | exact F5.tr (f1_mpf g6)
            | exact F5, G5⟩⟩) dX6_readCamel_88
      · skip
        obtain ⟨s5, hs5⟩ := sp_ok_iff.mp hc75
        have hrow : ∃ s : sp_S, e = .ok s ∧ sp_nc s.2 < 10 ∧ s5.2 = s.2 := by
          obtain ⟨a4, b4, d4⟩ := tsS_inv (he5.symm.trans hs5)
          obtain ⟨a3, b3, d3⟩ := tnS_inv (he4.symm.trans b4)
          obtain ⟨a2, b2, d2⟩ := tnS_inv (he3.symm.trans b3)
          obtain ⟨a1, b1, d1⟩ := tnS_inv (he2.symm.trans b2)
          obtain ⟨a0, b0, p0, d0⟩ := md_gt_inv (he1.symm.trans b1)
          exact ⟨a0, b0, of_decide_eq_true (Bool.and_eq_true_iff.mp p0).2, d4.trans (d3.trans (d2.trans (d1.trans d0)))⟩
        obtain ⟨s0, hs0, hcnt, hs2⟩ := hrow
        have hPk := hP5
        rw [hs5] at hPk
        obtain ⟨q17, q9, qT, qm, qB, qL⟩ := id hPk
        refine k_aload_n C (f := 0) (i := 0) (p := 3) rfl rfl dX6_readCamel_78 ?_
        refine k_getR C f_X6_13 (L6_s (by assumption)) (fun _ _ _ => rfl) (L6_1 (by assumption)) dX6_readCamel_79 ?_
        refine k_iload_n C (f := 1) (i := 1) (p := 2) rfl rfl dX6_readCamel_82 ?_
        refine k_iload_n C (f := 2) (i := 2) (p := 1) rfl rfl dX6_readCamel_83 ?_
        refine k_iload_n C (f := 3) (i := 3) (p := 0) rfl rfl dX6_readCamel_84 ?_
        refine k_callSg C s_X6_42 h_X6_addsCamel (ct_X6_addsCamel (A6_1 hx) qm qB (by rw [hs2]; exact hcnt)) rfl rfl (Nat.le_of_ble_eq_true rfl) ⟨Nat.le_of_ble_eq_true rfl, Nat.le_of_ble_eq_true rfl⟩ ⟨Nat.le_of_ble_eq_true rfl, Nat.le_of_ble_eq_true rfl⟩ ⟨rfl, rfl⟩ dX6_readCamel_85 ?_
        intro v I6 hv
        obtain ⟨rfl, m6, g6⟩ := hv
        exact k_vret C (Nat.le_of_ble_eq_true rfl) (Nat.le_of_ble_eq_true rfl) (⟨rfl, ⟨rfl, by
            rw [rCamel_S he1 he2 he3 he4 he5]
            first
            | (obtain ⟨x, hx5⟩ := sp_nok hc75
               rw [hx5] at hP5 ⊢
               exact hP5)
            | (rw [hs5]
               exact MP_set hPk m6 g6 (qB.camel (by rw [hs2]; exact hcnt)) (by rw [addCamel_at (by omega)]; exact qL)), by
            first
            | exact F5.tr (f1_mpf g6)
            | exact F5, G5⟩⟩) dX6_readCamel_88
    · skip
      refine k_iconst C ic_1 dX6_readCamel_67 ?_
      refine k_goto C (tgt := 72) (by decide) dX6_readCamel_68 ?_
      refine k_callVj C s_X6_191 h_X6_takes (L6_s (by assumption)) rfl (ct_X6_takes hx (F4.txt ht) hP4) rfl rfl (Nat.le_of_ble_eq_true rfl) ⟨Nat.le_of_ble_eq_true rfl, Nat.le_of_ble_eq_true rfl⟩ ⟨Nat.le_of_ble_eq_true rfl, Nat.le_of_ble_eq_true rfl⟩ ⟨rfl, rfl⟩ dX6_readCamel_72 ?_
      intro v I5 J5 hv
      obtain ⟨rfl, hP5, F5, G5⟩ := hv
      have F5 := F4.tr F5
      have G5 := G4.tr G5
      rw [show sp_tk tb n _ e4 = sp_tsS tb n e4 from by first | exact sp_tkS1 hP4 hc64 | exact sp_tkS0 hP4 hc64] at hP5 ⊢
      obtain ⟨e5, he5⟩ : ∃ z : Except Nat sp_S, z = sp_tsS tb n e4 := ⟨_, rfl⟩
      rw [← he5] at hP5 ⊢
      refine k_ifb_eq C (tgt := 88) (by decide) dX6_readCamel_75 (fun hc75 => ?_) (fun hc75 => ?_)
      · skip
        exact k_vret C (Nat.le_of_ble_eq_true rfl) (Nat.le_of_ble_eq_true rfl) (⟨rfl, ⟨rfl, by
            rw [rCamel_S he1 he2 he3 he4 he5]
            first
            | (obtain ⟨x, hx5⟩ := sp_nok hc75
               rw [hx5] at hP5 ⊢
               exact hP5)
            | (rw [hs5]
               exact MP_set hPk m6 g6 (qB.camel (by rw [hs2]; exact hcnt)) (by rw [addCamel_at (by omega)]; exact qL)), by
            first
            | exact F5.tr (f1_mpf g6)
            | exact F5, G5⟩⟩) dX6_readCamel_88
      · skip
        obtain ⟨s5, hs5⟩ := sp_ok_iff.mp hc75
        have hrow : ∃ s : sp_S, e = .ok s ∧ sp_nc s.2 < 10 ∧ s5.2 = s.2 := by
          obtain ⟨a4, b4, d4⟩ := tsS_inv (he5.symm.trans hs5)
          obtain ⟨a3, b3, d3⟩ := tnS_inv (he4.symm.trans b4)
          obtain ⟨a2, b2, d2⟩ := tnS_inv (he3.symm.trans b3)
          obtain ⟨a1, b1, d1⟩ := tnS_inv (he2.symm.trans b2)
          obtain ⟨a0, b0, p0, d0⟩ := md_gt_inv (he1.symm.trans b1)
          exact ⟨a0, b0, of_decide_eq_true (Bool.and_eq_true_iff.mp p0).2, d4.trans (d3.trans (d2.trans (d1.trans d0)))⟩
        obtain ⟨s0, hs0, hcnt, hs2⟩ := hrow
        have hPk := hP5
        rw [hs5] at hPk
        obtain ⟨q17, q9, qT, qm, qB, qL⟩ := id hPk
        refine k_aload_n C (f := 0) (i := 0) (p := 3) rfl rfl dX6_readCamel_78 ?_
        refine k_getR C f_X6_13 (L6_s (by assumption)) (fun _ _ _ => rfl) (L6_1 (by assumption)) dX6_readCamel_79 ?_
        refine k_iload_n C (f := 1) (i := 1) (p := 2) rfl rfl dX6_readCamel_82 ?_
        refine k_iload_n C (f := 2) (i := 2) (p := 1) rfl rfl dX6_readCamel_83 ?_
        refine k_iload_n C (f := 3) (i := 3) (p := 0) rfl rfl dX6_readCamel_84 ?_
        refine k_callSg C s_X6_42 h_X6_addsCamel (ct_X6_addsCamel (A6_1 hx) qm qB (by rw [hs2]; exact hcnt)) rfl rfl (Nat.le_of_ble_eq_true rfl) ⟨Nat.le_of_ble_eq_true rfl, Nat.le_of_ble_eq_true rfl⟩ ⟨Nat.le_of_ble_eq_true rfl, Nat.le_of_ble_eq_true rfl⟩ ⟨rfl, rfl⟩ dX6_readCamel_85 ?_
        intro v I6 hv
        obtain ⟨rfl, m6, g6⟩ := hv
        exact k_vret C (Nat.le_of_ble_eq_true rfl) (Nat.le_of_ble_eq_true rfl) (⟨rfl, ⟨rfl, by
            rw [rCamel_S he1 he2 he3 he4 he5]
            first
            | (obtain ⟨x, hx5⟩ := sp_nok hc75
               rw [hx5] at hP5 ⊢
               exact hP5)
            | (rw [hs5]
               exact MP_set hPk m6 g6 (qB.camel (by rw [hs2]; exact hcnt)) (by rw [addCamel_at (by omega)]; exact qL)), by
            first
            | exact F5.tr (f1_mpf g6)
            | exact F5, G5⟩⟩) dX6_readCamel_88
  · skip
    refine k_aload_n C (f := 0) (i := 0) (p := 0) rfl rfl dX6_readCamel_11 ?_
    refine k_getR C f_X6_13 (L6_s (by assumption)) (fun _ _ _ => rfl) (L6_1 (by assumption)) dX6_readCamel_12 ?_
    refine k_bipush C bc_6 dX6_readCamel_15 ?_
    refine k_iald C (A6_1 (by assumption)) (by first | rfl | assumption) (by omega) (by decide) ((MR hrd (by decide)).trans h6d) dX6_readCamel_17 ?_
    refine k_bipush C bc_10 dX6_readCamel_18 ?_
    refine k_icmpN_ge C (tgt := 27) (by omega) (by omega) (by decide) dX6_readCamel_20 (fun hc20 => ?_) (fun hc20 => ?_)
    · skip
      refine k_iconst C ic_0 dX6_readCamel_27 ?_
      refine k_callVj C s_X6_191 h_X6_takes (L6_s (by assumption)) rfl (ct_X6_takes hx ht hP) rfl rfl (Nat.le_of_ble_eq_true rfl) ⟨Nat.le_of_ble_eq_true rfl, Nat.le_of_ble_eq_true rfl⟩ ⟨Nat.le_of_ble_eq_true rfl, Nat.le_of_ble_eq_true rfl⟩ ⟨rfl, rfl⟩ dX6_readCamel_28 ?_
      intro v I1 J1 hv
      obtain ⟨rfl, hP1, F1, G1⟩ := hv
      have hg1 : ∃ z : Except Nat sp_S, MP I1 J1 y tb n z ∧ z = sp_bd (md_gt (fun s => sp_isw tb s.1 2 && decide (sp_nc s.2 < 10)) e) (md_nx tb n) := ⟨_, hP1, by
        first
        | exact md_gt1 (fun s hs => by
            subst hs
            have z := hrs s rfl
            subst z
            exact Bool.and_eq_true_iff.mpr ⟨(MTok_isw (si := 2) hP.2.2.1 (by decide) (by decide)).mp ⟨hc8.1, hc8.2.trans (by decide +kernel)⟩, decide_eq_true (by omega)⟩)
        | exact md_gt0 (fun s hs w => by
            subst hs
            have z := hrs s rfl
            subst z
            have w2 := of_decide_eq_true (Bool.and_eq_true_iff.mp w).2
            omega)
        | exact md_gt0 (fun s hs w => by
            subst hs
            have w2 := (MTok_isw (si := 2) hP.2.2.1 (by decide) (by decide)).mpr (Bool.and_eq_true_iff.mp w).1
            exact hc8 ⟨w2.1, w2.2.trans (by decide +kernel)⟩)⟩
      clear hP1
      obtain ⟨e1, hP1, he1⟩ := hg1
      refine k_pop C rfl dX6_readCamel_31 ?_
      refine k_aload_n C (f := 0) (i := 0) (p := 0) rfl rfl dX6_readCamel_32 ?_
      refine k_bipush C bc_10 dX6_readCamel_33 ?_
      refine k_bipush C bc_60 dX6_readCamel_35 ?_
      refine k_callVj C s_X6_201 h_X6_takesNumber (L6_s (by assumption)) rfl (ct_X6_takesNumber hx (F1.txt ht) hP1 (by decide)) rfl rfl (Nat.le_of_ble_eq_true rfl) ⟨Nat.le_of_ble_eq_true rfl, Nat.le_of_ble_eq_true rfl⟩ ⟨Nat.le_of_ble_eq_true rfl, Nat.le_of_ble_eq_true rfl⟩ ⟨rfl, rfl⟩ dX6_readCamel_37 ?_
      intro v I2 J2 hv
      obtain ⟨rfl, hP2, F2, G2⟩ := hv
      have F2 := F1.tr F2
      have G2 := G1.tr G2
      obtain ⟨e2, he2⟩ : ∃ z : Except Nat sp_S, z = sp_tnS tb n 10 60 e1 := ⟨_, rfl⟩
      rw [← he2] at hP2
      refine k_istore_n C (f := 1) (i := 1) (lv := [(1, _), (0, _)]) rfl (Nat.le_of_ble_eq_true rfl) rfl dX6_readCamel_40 ?_
      refine k_aload_n C (f := 0) (i := 0) (p := 1) rfl rfl dX6_readCamel_41 ?_
      refine k_iconst C ic_1 dX6_readCamel_42 ?_
      refine k_bipush C bc_9 dX6_readCamel_43 ?_
      refine k_callVj C s_X6_201 h_X6_takesNumber (L6_s (by assumption)) rfl (ct_X6_takesNumber hx (F2.txt ht) hP2 (by decide)) rfl rfl (Nat.le_of_ble_eq_true rfl) ⟨Nat.le_of_ble_eq_true rfl, Nat.le_of_ble_eq_true rfl⟩ ⟨Nat.le_of_ble_eq_true rfl, Nat.le_of_ble_eq_true rfl⟩ ⟨rfl, rfl⟩ dX6_readCamel_45 ?_
      intro v I3 J3 hv
      obtain ⟨rfl, hP3, F3, G3⟩ := hv
      have F3 := F2.tr F3
      have G3 := G2.tr G3
      obtain ⟨e3, he3⟩ : ∃ z : Except Nat sp_S, z = sp_tnS tb n 1 9 e2 := ⟨_, rfl⟩
      rw [← he3] at hP3
      refine k_istore_n C (f := 2) (i := 2) (lv := [(2, _), (1, _), (0, _)]) rfl (Nat.le_of_ble_eq_true rfl) rfl dX6_readCamel_48 ?_
      refine k_aload_n C (f := 0) (i := 0) (p := 2) rfl rfl dX6_readCamel_49 ?_
      refine k_bipush C bc_10 dX6_readCamel_50 ?_
      refine k_bipush C bc_90 dX6_readCamel_52 ?_
      refine k_callVj C s_X6_201 h_X6_takesNumber (L6_s (by assumption)) rfl (ct_X6_takesNumber hx (F3.txt ht) hP3 (by decide)) rfl rfl (Nat.le_of_ble_eq_true rfl) ⟨Nat.le_of_ble_eq_true rfl, Nat.le_of_ble_eq_true rfl⟩ ⟨Nat.le_of_ble_eq_true rfl, Nat.le_of_ble_eq_true rfl⟩ ⟨rfl, rfl⟩ dX6_readCamel_54 ?_
      intro v I4 J4 hv
      obtain ⟨rfl, hP4, F4, G4⟩ := hv
      have F4 := F3.tr F4
      have G4 := G3.tr G4
      obtain ⟨e4, he4⟩ : ∃ z : Except Nat sp_S, z = sp_tnS tb n 10 90 e3 := ⟨_, rfl⟩
      rw [← he4] at hP4
      refine k_istore_n C (f := 3) (i := 3) (lv := [(3, _), (2, _), (1, _), (0, _)]) rfl (Nat.le_of_ble_eq_true rfl) rfl dX6_readCamel_57 ?_
      refine k_aload_n C (f := 0) (i := 0) (p := 3) rfl rfl dX6_readCamel_58 ?_
      refine k_aload_n C (f := 0) (i := 0) (p := 3) rfl rfl dX6_readCamel_59 ?_
      refine k_getI C f_X6_164 (L6_s (by assumption)) (fun _ _ _ => rfl) (rfl) dX6_readCamel_60 ?_
      refine k_iconst C ic_3 dX6_readCamel_63 ?_
      refine k_icmp_ne C (tgt := 71) (by decide) dX6_readCamel_64 (fun hc64 => ?_) (fun hc64 => ?_)
      · skip
        refine k_iconst C ic_0 dX6_readCamel_71 ?_
        refine k_callVj C s_X6_191 h_X6_takes (L6_s (by assumption)) rfl (ct_X6_takes hx (F4.txt ht) hP4) rfl rfl (Nat.le_of_ble_eq_true rfl) ⟨Nat.le_of_ble_eq_true rfl, Nat.le_of_ble_eq_true rfl⟩ ⟨Nat.le_of_ble_eq_true rfl, Nat.le_of_ble_eq_true rfl⟩ ⟨rfl, rfl⟩ dX6_readCamel_72 ?_
        intro v I5 J5 hv
        obtain ⟨rfl, hP5, F5, G5⟩ := hv
        have F5 := F4.tr F5
        have G5 := G4.tr G5
        rw [show sp_tk tb n _ e4 = sp_tsS tb n e4 from by first | exact sp_tkS1 hP4 hc64 | exact sp_tkS0 hP4 hc64] at hP5 ⊢
        obtain ⟨e5, he5⟩ : ∃ z : Except Nat sp_S, z = sp_tsS tb n e4 := ⟨_, rfl⟩
        rw [← he5] at hP5 ⊢
        refine k_ifb_eq C (tgt := 88) (by decide) dX6_readCamel_75 (fun hc75 => ?_) (fun hc75 => ?_)
        · skip
          exact k_vret C (Nat.le_of_ble_eq_true rfl) (Nat.le_of_ble_eq_true rfl) (⟨rfl, ⟨rfl, by
              rw [rCamel_S he1 he2 he3 he4 he5]
              first
              | (obtain ⟨x, hx5⟩ := sp_nok hc75
                 rw [hx5] at hP5 ⊢
                 exact hP5)
              | (rw [hs5]
                 exact MP_set hPk m6 g6 (qB.camel (by rw [hs2]; exact hcnt)) (by rw [addCamel_at (by omega)]; exact qL)), by
              first
              | exact F5.tr (f1_mpf g6)
              | exact F5, G5⟩⟩) dX6_readCamel_88
        · skip
          obtain ⟨s5, hs5⟩ := sp_ok_iff.mp hc75
          have hrow : ∃ s : sp_S, e = .ok s ∧ sp_nc s.2 < 10 ∧ s5.2 = s.2 := by
            obtain ⟨a4, b4, d4⟩ := tsS_inv (he5.symm.trans hs5)
            obtain ⟨a3, b3, d3⟩ := tnS_inv (he4.symm.trans b4)
            obtain ⟨a2, b2, d2⟩ := tnS_inv (he3.symm.trans b3)
            obtain ⟨a1, b1, d1⟩ := tnS_inv (he2.symm.trans b2)
            obtain ⟨a0, b0, p0, d0⟩ := md_gt_inv (he1.symm.trans b1)
            exact ⟨a0, b0, of_decide_eq_true (Bool.and_eq_true_iff.mp p0).2, d4.trans (d3.trans (d2.trans (d1.trans d0)))⟩
          obtain ⟨s0, hs0, hcnt, hs2⟩ := hrow
          have hPk := hP5
          rw [hs5] at hPk
          obtain ⟨q17, q9, qT, qm, qB, qL⟩ := id hPk
          refine k_aload_n C (f := 0) (i := 0) (p := 3) rfl rfl dX6_readCamel_78 ?_
          refine k_getR C f_X6_13 (L6_s (by assumption)) (fun _ _ _ => rfl) (L6_1 (by assumption)) dX6_readCamel_79 ?_
          refine k_iload_n C (f := 1) (i := 1) (p := 2) rfl rfl dX6_readCamel_82 ?_
          refine k_iload_n C (f := 2) (i := 2) (p := 1) rfl rfl dX6_readCamel_83 ?_
          refine k_iload_n C (f := 3) (i := 3) (p := 0) rfl rfl dX6_readCamel_84 ?_
          refine k_callSg C s_X6_42 h_X6_addsCamel (ct_X6_addsCamel (A6_1 hx) qm qB (by rw [hs2]; exact hcnt)) rfl rfl (Nat.le_of_ble_eq_true rfl) ⟨Nat.le_of_ble_eq_true rfl, Nat.le_of_ble_eq_true rfl⟩ ⟨Nat.le_of_ble_eq_true rfl, Nat.le_of_ble_eq_true rfl⟩ ⟨rfl, rfl⟩ dX6_readCamel_85 ?_
          intro v I6 hv
          obtain ⟨rfl, m6, g6⟩ := hv
          exact k_vret C (Nat.le_of_ble_eq_true rfl) (Nat.le_of_ble_eq_true rfl) (⟨rfl, ⟨rfl, by
              rw [rCamel_S he1 he2 he3 he4 he5]
              first
              | (obtain ⟨x, hx5⟩ := sp_nok hc75
                 rw [hx5] at hP5 ⊢
                 exact hP5)
              | (rw [hs5]
                 exact MP_set hPk m6 g6 (qB.camel (by rw [hs2]; exact hcnt)) (by rw [addCamel_at (by omega)]; exact qL)), by
              first
              | exact F5.tr (f1_mpf g6)
              | exact F5, G5⟩⟩) dX6_readCamel_88
      · skip
        refine k_iconst C ic_1 dX6_readCamel_67 ?_
        refine k_goto C (tgt := 72) (by decide) dX6_readCamel_68 ?_
        refine k_callVj C s_X6_191 h_X6_takes (L6_s (by assumption)) rfl (ct_X6_takes hx (F4.txt ht) hP4) rfl rfl (Nat.le_of_ble_eq_true rfl) ⟨Nat.le_of_ble_eq_true rfl, Nat.le_of_ble_eq_true rfl⟩ ⟨Nat.le_of_ble_eq_true rfl, Nat.le_of_ble_eq_true rfl⟩ ⟨rfl, rfl⟩ dX6_readCamel_72 ?_
        intro v I5 J5 hv
        obtain ⟨rfl, hP5, F5, G5⟩ := hv
        have F5 := F4.tr F5
        have G5 := G4.tr G5
        rw [show sp_tk tb n _ e4 = sp_tsS tb n e4 from by first | exact sp_tkS1 hP4 hc64 | exact sp_tkS0 hP4 hc64] at hP5 ⊢
        obtain ⟨e5, he5⟩ : ∃ z : Except Nat sp_S, z = sp_tsS tb n e4 := ⟨_, rfl⟩
        rw [← he5] at hP5 ⊢
        refine k_ifb_eq C (tgt := 88) (by decide) dX6_readCamel_75 (fun hc75 => ?_) (fun hc75 => ?_)
        · skip
          exact k_vret C (Nat.le_of_ble_eq_true rfl) (Nat.le_of_ble_eq_true rfl) (⟨rfl, ⟨rfl, by
              rw [rCamel_S he1 he2 he3 he4 he5]
              first
              | (obtain ⟨x, hx5⟩ := sp_nok hc75
                 rw [hx5] at hP5 ⊢
                 exact hP5)
              | (rw [hs5]
                 exact MP_set hPk m6 g6 (qB.camel (by rw [hs2]; exact hcnt)) (by rw [addCamel_at (by omega)]; exact qL)), by
              first
              | exact F5.tr (f1_mpf g6)
              | exact F5, G5⟩⟩) dX6_readCamel_88
        · skip
          obtain ⟨s5, hs5⟩ := sp_ok_iff.mp hc75
          have hrow : ∃ s : sp_S, e = .ok s ∧ sp_nc s.2 < 10 ∧ s5.2 = s.2 := by
            obtain ⟨a4, b4, d4⟩ := tsS_inv (he5.symm.trans hs5)
            obtain ⟨a3, b3, d3⟩ := tnS_inv (he4.symm.trans b4)
            obtain ⟨a2, b2, d2⟩ := tnS_inv (he3.symm.trans b3)
            obtain ⟨a1, b1, d1⟩ := tnS_inv (he2.symm.trans b2)
            obtain ⟨a0, b0, p0, d0⟩ := md_gt_inv (he1.symm.trans b1)
            exact ⟨a0, b0, of_decide_eq_true (Bool.and_eq_true_iff.mp p0).2, d4.trans (d3.trans (d2.trans (d1.trans d0)))⟩
          obtain ⟨s0, hs0, hcnt, hs2⟩ := hrow
          have hPk := hP5
          rw [hs5] at hPk
          obtain ⟨q17, q9, qT, qm, qB, qL⟩ := id hPk
          refine k_aload_n C (f := 0) (i := 0) (p := 3) rfl rfl dX6_readCamel_78 ?_
          refine k_getR C f_X6_13 (L6_s (by assumption)) (fun _ _ _ => rfl) (L6_1 (by assumption)) dX6_readCamel_79 ?_
          refine k_iload_n C (f := 1) (i := 1) (p := 2) rfl rfl dX6_readCamel_82 ?_
          refine k_iload_n C (f := 2) (i := 2) (p := 1) rfl rfl dX6_readCamel_83 ?_
          refine k_iload_n C (f := 3) (i := 3) (p := 0) rfl rfl dX6_readCamel_84 ?_
          refine k_callSg C s_X6_42 h_X6_addsCamel (ct_X6_addsCamel (A6_1 hx) qm qB (by rw [hs2]; exact hcnt)) rfl rfl (Nat.le_of_ble_eq_true rfl) ⟨Nat.le_of_ble_eq_true rfl, Nat.le_of_ble_eq_true rfl⟩ ⟨Nat.le_of_ble_eq_true rfl, Nat.le_of_ble_eq_true rfl⟩ ⟨rfl, rfl⟩ dX6_readCamel_85 ?_
          intro v I6 hv
          obtain ⟨rfl, m6, g6⟩ := hv
          exact k_vret C (Nat.le_of_ble_eq_true rfl) (Nat.le_of_ble_eq_true rfl) (⟨rfl, ⟨rfl, by
              rw [rCamel_S he1 he2 he3 he4 he5]
              first
              | (obtain ⟨x, hx5⟩ := sp_nok hc75
                 rw [hx5] at hP5 ⊢
                 exact hP5)
              | (rw [hs5]
                 exact MP_set hPk m6 g6 (qB.camel (by rw [hs2]; exact hcnt)) (by rw [addCamel_at (by omega)]; exact qL)), by
              first
              | exact F5.tr (f1_mpf g6)
              | exact F5, G5⟩⟩) dX6_readCamel_88
    · skip
      refine k_iconst C ic_1 dX6_readCamel_23 ?_
      refine k_goto C (tgt := 28) (by decide) dX6_readCamel_24 ?_
      refine k_callVj C s_X6_191 h_X6_takes (L6_s (by assumption)) rfl (ct_X6_takes hx ht hP) rfl rfl (Nat.le_of_ble_eq_true rfl) ⟨Nat.le_of_ble_eq_true rfl, Nat.le_of_ble_eq_true rfl⟩ ⟨Nat.le_of_ble_eq_true rfl, Nat.le_of_ble_eq_true rfl⟩ ⟨rfl, rfl⟩ dX6_readCamel_28 ?_
      intro v I1 J1 hv
      obtain ⟨rfl, hP1, F1, G1⟩ := hv
      have hg1 : ∃ z : Except Nat sp_S, MP I1 J1 y tb n z ∧ z = sp_bd (md_gt (fun s => sp_isw tb s.1 2 && decide (sp_nc s.2 < 10)) e) (md_nx tb n) := ⟨_, hP1, by
        first
        | exact md_gt1 (fun s hs => by
            subst hs
            have z := hrs s rfl
            subst z
            exact Bool.and_eq_true_iff.mpr ⟨(MTok_isw (si := 2) hP.2.2.1 (by decide) (by decide)).mp ⟨hc8.1, hc8.2.trans (by decide +kernel)⟩, decide_eq_true (by omega)⟩)
        | exact md_gt0 (fun s hs w => by
            subst hs
            have z := hrs s rfl
            subst z
            have w2 := of_decide_eq_true (Bool.and_eq_true_iff.mp w).2
            omega)
        | exact md_gt0 (fun s hs w => by
            subst hs
            have w2 := (MTok_isw (si := 2) hP.2.2.1 (by decide) (by decide)).mpr (Bool.and_eq_true_iff.mp w).1
            exact hc8 ⟨w2.1, w2.2.trans (by decide +kernel)⟩)⟩
      clear hP1
      obtain ⟨e1, hP1, he1⟩ := hg1
      refine k_pop C rfl dX6_readCamel_31 ?_
      refine k_aload_n C (f := 0) (i := 0) (p := 0) rfl rfl dX6_readCamel_32 ?_
      refine k_bipush C bc_10 dX6_readCamel_33 ?_
      refine k_bipush C bc_60 dX6_readCamel_35 ?_
      refine k_callVj C s_X6_201 h_X6_takesNumber (L6_s (by assumption)) rfl (ct_X6_takesNumber hx (F1.txt ht) hP1 (by decide)) rfl rfl (Nat.le_of_ble_eq_true rfl) ⟨Nat.le_of_ble_eq_true rfl, Nat.le_of_ble_eq_true rfl⟩ ⟨Nat.le_of_ble_eq_true rfl, Nat.le_of_ble_eq_true rfl⟩ ⟨rfl, rfl⟩ dX6_readCamel_37 ?_
      intro v I2 J2 hv
      obtain ⟨rfl, hP2, F2, G2⟩ := hv
      have F2 := F1.tr F2
      have G2 := G1.tr G2
      obtain ⟨e2, he2⟩ : ∃ z : Except Nat sp_S, z = sp_tnS tb n 10 60 e1 := ⟨_, rfl⟩
      rw [← he2] at hP2
      refine k_istore_n C (f := 1) (i := 1) (lv := [(1, _), (0, _)]) rfl (Nat.le_of_ble_eq_true rfl) rfl dX6_readCamel_40 ?_
      refine k_aload_n C (f := 0) (i := 0) (p := 1) rfl rfl dX6_readCamel_41 ?_
      refine k_iconst C ic_1 dX6_readCamel_42 ?_
      refine k_bipush C bc_9 dX6_readCamel_43 ?_
      refine k_callVj C s_X6_201 h_X6_takesNumber (L6_s (by assumption)) rfl (ct_X6_takesNumber hx (F2.txt ht) hP2 (by decide)) rfl rfl (Nat.le_of_ble_eq_true rfl) ⟨Nat.le_of_ble_eq_true rfl, Nat.le_of_ble_eq_true rfl⟩ ⟨Nat.le_of_ble_eq_true rfl, Nat.le_of_ble_eq_true rfl⟩ ⟨rfl, rfl⟩ dX6_readCamel_45 ?_
      intro v I3 J3 hv
      obtain ⟨rfl, hP3, F3, G3⟩ := hv
      have F3 := F2.tr F3
      have G3 := G2.tr G3
      obtain ⟨e3, he3⟩ : ∃ z : Except Nat sp_S, z = sp_tnS tb n 1 9 e2 := ⟨_, rfl⟩
      rw [← he3] at hP3
      refine k_istore_n C (f := 2) (i := 2) (lv := [(2, _), (1, _), (0, _)]) rfl (Nat.le_of_ble_eq_true rfl) rfl dX6_readCamel_48 ?_
      refine k_aload_n C (f := 0) (i := 0) (p := 2) rfl rfl dX6_readCamel_49 ?_
      refine k_bipush C bc_10 dX6_readCamel_50 ?_
      refine k_bipush C bc_90 dX6_readCamel_52 ?_
      refine k_callVj C s_X6_201 h_X6_takesNumber (L6_s (by assumption)) rfl (ct_X6_takesNumber hx (F3.txt ht) hP3 (by decide)) rfl rfl (Nat.le_of_ble_eq_true rfl) ⟨Nat.le_of_ble_eq_true rfl, Nat.le_of_ble_eq_true rfl⟩ ⟨Nat.le_of_ble_eq_true rfl, Nat.le_of_ble_eq_true rfl⟩ ⟨rfl, rfl⟩ dX6_readCamel_54 ?_
      intro v I4 J4 hv
      obtain ⟨rfl, hP4, F4, G4⟩ := hv
      have F4 := F3.tr F4
      have G4 := G3.tr G4
      obtain ⟨e4, he4⟩ : ∃ z : Except Nat sp_S, z = sp_tnS tb n 10 90 e3 := ⟨_, rfl⟩
      rw [← he4] at hP4
      refine k_istore_n C (f := 3) (i := 3) (lv := [(3, _), (2, _), (1, _), (0, _)]) rfl (Nat.le_of_ble_eq_true rfl) rfl dX6_readCamel_57 ?_
      refine k_aload_n C (f := 0) (i := 0) (p := 3) rfl rfl dX6_readCamel_58 ?_
      refine k_aload_n C (f := 0) (i := 0) (p := 3) rfl rfl dX6_readCamel_59 ?_
      refine k_getI C f_X6_164 (L6_s (by assumption)) (fun _ _ _ => rfl) (rfl) dX6_readCamel_60 ?_
      refine k_iconst C ic_3 dX6_readCamel_63 ?_
      refine k_icmp_ne C (tgt := 71) (by decide) dX6_readCamel_64 (fun hc64 => ?_) (fun hc64 => ?_)
      · skip
        refine k_iconst C ic_0 dX6_readCamel_71 ?_
        refine k_callVj C s_X6_191 h_X6_takes (L6_s (by assumption)) rfl (ct_X6_takes hx (F4.txt ht) hP4) rfl rfl (Nat.le_of_ble_eq_true rfl) ⟨Nat.le_of_ble_eq_true rfl, Nat.le_of_ble_eq_true rfl⟩ ⟨Nat.le_of_ble_eq_true rfl, Nat.le_of_ble_eq_true rfl⟩ ⟨rfl, rfl⟩ dX6_readCamel_72 ?_
        intro v I5 J5 hv
        obtain ⟨rfl, hP5, F5, G5⟩ := hv
        have F5 := F4.tr F5
        have G5 := G4.tr G5
        rw [show sp_tk tb n _ e4 = sp_tsS tb n e4 from by first | exact sp_tkS1 hP4 hc64 | exact sp_tkS0 hP4 hc64] at hP5 ⊢
        obtain ⟨e5, he5⟩ : ∃ z : Except Nat sp_S, z = sp_tsS tb n e4 := ⟨_, rfl⟩
        rw [← he5] at hP5 ⊢
        refine k_ifb_eq C (tgt := 88) (by decide) dX6_readCamel_75 (fun hc75 => ?_) (fun hc75 => ?_)
        · skip
          exact k_vret C (Nat.le_of_ble_eq_true rfl) (Nat.le_of_ble_eq_true rfl) (⟨rfl, ⟨rfl, by
              rw [rCamel_S he1 he2 he3 he4 he5]
              first
              | (obtain ⟨x, hx5⟩ := sp_nok hc75
                 rw [hx5] at hP5 ⊢
                 exact hP5)
              | (rw [hs5]
                 exact MP_set hPk m6 g6 (qB.camel (by rw [hs2]; exact hcnt)) (by rw [addCamel_at (by omega)]; exact qL)), by
              first
              | exact F5.tr (f1_mpf g6)
              | exact F5, G5⟩⟩) dX6_readCamel_88
        · skip
          obtain ⟨s5, hs5⟩ := sp_ok_iff.mp hc75
          have hrow : ∃ s : sp_S, e = .ok s ∧ sp_nc s.2 < 10 ∧ s5.2 = s.2 := by
            obtain ⟨a4, b4, d4⟩ := tsS_inv (he5.symm.trans hs5)
            obtain ⟨a3, b3, d3⟩ := tnS_inv (he4.symm.trans b4)
            obtain ⟨a2, b2, d2⟩ := tnS_inv (he3.symm.trans b3)
            obtain ⟨a1, b1, d1⟩ := tnS_inv (he2.symm.trans b2)
            obtain ⟨a0, b0, p0, d0⟩ := md_gt_inv (he1.symm.trans b1)
            exact ⟨a0, b0, of_decide_eq_true (Bool.and_eq_true_iff.mp p0).2, d4.trans (d3.trans (d2.trans (d1.trans d0)))⟩
          obtain ⟨s0, hs0, hcnt, hs2⟩ := hrow
          have hPk := hP5
          rw [hs5] at hPk
          obtain ⟨q17, q9, qT, qm, qB, qL⟩ := id hPk
          refine k_aload_n C (f := 0) (i := 0) (p := 3) rfl rfl dX6_readCamel_78 ?_
          refine k_getR C f_X6_13 (L6_s (by assumption)) (fun _ _ _ => rfl) (L6_1 (by assumption)) dX6_readCamel_79 ?_
          refine k_iload_n C (f := 1) (i := 1) (p := 2) rfl rfl dX6_readCamel_82 ?_
          refine k_iload_n C (f := 2) (i := 2) (p := 1) rfl rfl dX6_readCamel_83 ?_
          refine k_iload_n C (f := 3) (i := 3) (p := 0) rfl rfl dX6_readCamel_84 ?_
          refine k_callSg C s_X6_42 h_X6_addsCamel (ct_X6_addsCamel (A6_1 hx) qm qB (by rw [hs2]; exact hcnt)) rfl rfl (Nat.le_of_ble_eq_true rfl) ⟨Nat.le_of_ble_eq_true rfl, Nat.le_of_ble_eq_true rfl⟩ ⟨Nat.le_of_ble_eq_true rfl, Nat.le_of_ble_eq_true rfl⟩ ⟨rfl, rfl⟩ dX6_readCamel_85 ?_
          intro v I6 hv
          obtain ⟨rfl, m6, g6⟩ := hv
          exact k_vret C (Nat.le_of_ble_eq_true rfl) (Nat.le_of_ble_eq_true rfl) (⟨rfl, ⟨rfl, by
              rw [rCamel_S he1 he2 he3 he4 he5]
              first
              | (obtain ⟨x, hx5⟩ := sp_nok hc75
                 rw [hx5] at hP5 ⊢
                 exact hP5)
              | (rw [hs5]
                 exact MP_set hPk m6 g6 (qB.camel (by rw [hs2]; exact hcnt)) (by rw [addCamel_at (by omega)]; exact qL)), by
              first
              | exact F5.tr (f1_mpf g6)
              | exact F5, G5⟩⟩) dX6_readCamel_88
      · skip
        refine k_iconst C ic_1 dX6_readCamel_67 ?_
        refine k_goto C (tgt := 72) (by decide) dX6_readCamel_68 ?_
        refine k_callVj C s_X6_191 h_X6_takes (L6_s (by assumption)) rfl (ct_X6_takes hx (F4.txt ht) hP4) rfl rfl (Nat.le_of_ble_eq_true rfl) ⟨Nat.le_of_ble_eq_true rfl, Nat.le_of_ble_eq_true rfl⟩ ⟨Nat.le_of_ble_eq_true rfl, Nat.le_of_ble_eq_true rfl⟩ ⟨rfl, rfl⟩ dX6_readCamel_72 ?_
        intro v I5 J5 hv
        obtain ⟨rfl, hP5, F5, G5⟩ := hv
        have F5 := F4.tr F5
        have G5 := G4.tr G5
        rw [show sp_tk tb n _ e4 = sp_tsS tb n e4 from by first | exact sp_tkS1 hP4 hc64 | exact sp_tkS0 hP4 hc64] at hP5 ⊢
        obtain ⟨e5, he5⟩ : ∃ z : Except Nat sp_S, z = sp_tsS tb n e4 := ⟨_, rfl⟩
        rw [← he5] at hP5 ⊢
        refine k_ifb_eq C (tgt := 88) (by decide) dX6_readCamel_75 (fun hc75 => ?_) (fun hc75 => ?_)
        · skip
          exact k_vret C (Nat.le_of_ble_eq_true rfl) (Nat.le_of_ble_eq_true rfl) (⟨rfl, ⟨rfl, by
              rw [rCamel_S he1 he2 he3 he4 he5]
              first
              | (obtain ⟨x, hx5⟩ := sp_nok hc75
                 rw [hx5] at hP5 ⊢
                 exact hP5)
              | (rw [hs5]
                 exact MP_set hPk m6 g6 (qB.camel (by rw [hs2]; exact hcnt)) (by rw [addCamel_at (by omega)]; exact qL)), by
              first
              | exact F5.tr (f1_mpf g6)
              | exact F5, G5⟩⟩) dX6_readCamel_88
        · skip
          obtain ⟨s5, hs5⟩ := sp_ok_iff.mp hc75
          have hrow : ∃ s : sp_S, e = .ok s ∧ sp_nc s.2 < 10 ∧ s5.2 = s.2 := by
            obtain ⟨a4, b4, d4⟩ := tsS_inv (he5.symm.trans hs5)
            obtain ⟨a3, b3, d3⟩ := tnS_inv (he4.symm.trans b4)
            obtain ⟨a2, b2, d2⟩ := tnS_inv (he3.symm.trans b3)
            obtain ⟨a1, b1, d1⟩ := tnS_inv (he2.symm.trans b2)
            obtain ⟨a0, b0, p0, d0⟩ := md_gt_inv (he1.symm.trans b1)
            exact ⟨a0, b0, of_decide_eq_true (Bool.and_eq_true_iff.mp p0).2, d4.trans (d3.trans (d2.trans (d1.trans d0)))⟩
          obtain ⟨s0, hs0, hcnt, hs2⟩ := hrow
          have hPk := hP5
          rw [hs5] at hPk
          obtain ⟨q17, q9, qT, qm, qB, qL⟩ := id hPk
          refine k_aload_n C (f := 0) (i := 0) (p := 3) rfl rfl dX6_readCamel_78 ?_
          refine k_getR C f_X6_13 (L6_s (by assumption)) (fun _ _ _ => rfl) (L6_1 (by assumption)) dX6_readCamel_79 ?_
          refine k_iload_n C (f := 1) (i := 1) (p := 2) rfl rfl dX6_readCamel_82 ?_
          refine k_iload_n C (f := 2) (i := 2) (p := 1) rfl rfl dX6_readCamel_83 ?_
          refine k_iload_n C (f := 3) (i := 3) (p := 0) rfl rfl dX6_readCamel_84 ?_
          refine k_callSg C s_X6_42 h_X6_addsCamel (ct_X6_addsCamel (A6_1 hx) qm qB (by rw [hs2]; exact hcnt)) rfl rfl (Nat.le_of_ble_eq_true rfl) ⟨Nat.le_of_ble_eq_true rfl, Nat.le_of_ble_eq_true rfl⟩ ⟨Nat.le_of_ble_eq_true rfl, Nat.le_of_ble_eq_true rfl⟩ ⟨rfl, rfl⟩ dX6_readCamel_85 ?_
          intro v I6 hv
          obtain ⟨rfl, m6, g6⟩ := hv
          exact k_vret C (Nat.le_of_ble_eq_true rfl) (Nat.le_of_ble_eq_true rfl) (⟨rfl, ⟨rfl, by
              rw [rCamel_S he1 he2 he3 he4 he5]
              first
              | (obtain ⟨x, hx5⟩ := sp_nok hc75
                 rw [hx5] at hP5 ⊢
                 exact hP5)
              | (rw [hs5]
                 exact MP_set hPk m6 g6 (qB.camel (by rw [hs2]; exact hcnt)) (by rw [addCamel_at (by omega)]; exact qL)), by
              first
              | exact F5.tr (f1_mpf g6)
              | exact F5, G5⟩⟩) dX6_readCamel_88
set_option maxHeartbeats 4000000 in
set_option maxRecDepth 100000 in
theorem ct_X6_readStorm {G : am_G} {Λ : am_L} {I : am_I} {J : am_J} {y n : Nat} {tb : Nat → Nat} {e : Except Nat sp_S}  (hx : ModLay Λ y) (ht : MTxt I y tb n) (hP : MP I J y tb n e) : am_Ct G yX6_readStorm cX6_readStorm 4 none { frames := 5, cells := 0, slots := 0, locals := 105 } [.ref y] Λ I J (am_gj Λ (fun v I' J' => v = none ∧ MP I' J' y tb n (sp_bd (md_gt (fun s => decide (sp_ns s.2 < 6)) e) (sp_rStorm tb n)) ∧ MPf y I I' ∧ JFr y J J')) am_never := by
  refine am_ct_of (own := RX6) rfl (by decide) (Nat.le_of_ble_eq_true rfl) (fun X C => ?_)
  change am_K G X { frames := 5, cells := 0, slots := 0, locals := 105 } 4 Λ I J 0 0 0 [(0, .ref y)] []
  obtain ⟨rd, hrd, hBd, hrs⟩ := MP_row hP
  obtain ⟨⟨h6d, h7d, h8d, h9d⟩, hb6, hb7, hb8, hb9⟩ := hBd
  refine k_aload_n C (f := 0) (i := 0) (p := 0) rfl rfl dX6_readStorm_0 ?_
  refine k_aload_n C (f := 0) (i := 0) (p := 0) rfl rfl dX6_readStorm_1 ?_
  refine k_getR C f_X6_13 (L6_s (by assumption)) (fun _ _ _ => rfl) (L6_1 (by assumption)) dX6_readStorm_2 ?_
  refine k_bipush C bc_8 dX6_readStorm_5 ?_
  refine k_iald C (A6_1 (by assumption)) (by first | rfl | assumption) (by omega) (by decide) ((MR hrd (by decide)).trans h8d) dX6_readStorm_7 ?_
  refine k_bipush C bc_6 dX6_readStorm_8 ?_
  refine k_icmpN_ge C (tgt := 17) (by omega) (by omega) (by decide) dX6_readStorm_10 (fun hc10 => ?_) (fun hc10 => ?_)
  · skip
    refine k_iconst C ic_0 dX6_readStorm_17 ?_
    refine k_callVj C s_X6_191 h_X6_takes (L6_s (by assumption)) rfl (ct_X6_takes hx ht hP) rfl rfl (Nat.le_of_ble_eq_true rfl) ⟨Nat.le_of_ble_eq_true rfl, Nat.le_of_ble_eq_true rfl⟩ ⟨Nat.le_of_ble_eq_true rfl, Nat.le_of_ble_eq_true rfl⟩ ⟨rfl, rfl⟩ dX6_readStorm_18 ?_
    intro v I1 J1 hv
    obtain ⟨rfl, hP1, F1, G1⟩ := hv
    have hg1 : ∃ z : Except Nat sp_S, MP I1 J1 y tb n z ∧ z = sp_bd (md_gt (fun s => decide (sp_ns s.2 < 6)) e) (md_nx tb n) := ⟨_, hP1, by
      first
      | exact md_gt1 (fun s hs => by
          subst hs
          have z := hrs s rfl
          subst z
          exact decide_eq_true (by omega))
      | exact md_gt0 (fun s hs w => by
          subst hs
          have z := hrs s rfl
          subst z
          have w2 := of_decide_eq_true w
          omega)⟩
    clear hP1
    obtain ⟨e1, hP1, he1⟩ := hg1
    refine k_pop C rfl dX6_readStorm_21 ?_
    refine k_aload_n C (f := 0) (i := 0) (p := 0) rfl rfl dX6_readStorm_22 ?_
    refine k_iconst C ic_0 dX6_readStorm_23 ?_
    refine k_sipush C sc_200 dX6_readStorm_24 ?_
    refine k_callVj C s_X6_201 h_X6_takesNumber (L6_s (by assumption)) rfl (ct_X6_takesNumber hx (F1.txt ht) hP1 (by decide)) rfl rfl (Nat.le_of_ble_eq_true rfl) ⟨Nat.le_of_ble_eq_true rfl, Nat.le_of_ble_eq_true rfl⟩ ⟨Nat.le_of_ble_eq_true rfl, Nat.le_of_ble_eq_true rfl⟩ ⟨rfl, rfl⟩ dX6_readStorm_27 ?_
    intro v I2 J2 hv
    obtain ⟨rfl, hP2, F2, G2⟩ := hv
    have F2 := F1.tr F2
    have G2 := G1.tr G2
    obtain ⟨e2, he2⟩ : ∃ z : Except Nat sp_S, z = sp_tnS tb n 0 200 e1 := ⟨_, rfl⟩
    rw [← he2] at hP2
    refine k_istore_n C (f := 1) (i := 1) (lv := [(1, _), (0, _)]) rfl (Nat.le_of_ble_eq_true rfl) rfl dX6_readStorm_30 ?_
    refine k_aload_n C (f := 0) (i := 0) (p := 1) rfl rfl dX6_readStorm_31 ?_
    refine k_iload_n C (f := 1) (i := 1) (p := 0) rfl rfl dX6_readStorm_32 ?_
    refine k_sipush C sc_200 dX6_readStorm_33 ?_
    refine k_callVj C s_X6_201 h_X6_takesNumber (L6_s (by assumption)) rfl (ct_X6_takesNumber hx (F2.txt ht) hP2 ⟨sp_tz_b (by decide) (by decide), by decide⟩) rfl rfl (Nat.le_of_ble_eq_true rfl) ⟨Nat.le_of_ble_eq_true rfl, Nat.le_of_ble_eq_true rfl⟩ ⟨Nat.le_of_ble_eq_true rfl, Nat.le_of_ble_eq_true rfl⟩ ⟨rfl, rfl⟩ dX6_readStorm_36 ?_
    intro v I3 J3 hv
    obtain ⟨rfl, hP3, F3, G3⟩ := hv
    have F3 := F2.tr F3
    have G3 := G2.tr G3
    obtain ⟨e3, he3⟩ : ∃ z : Except Nat sp_S, z = sp_tnS tb n (sp_tz tb n 0 200 e1) 200 e2 := ⟨_, rfl⟩
    rw [← he3] at hP3
    refine k_istore_n C (f := 2) (i := 2) (lv := [(2, _), (1, _), (0, _)]) rfl (Nat.le_of_ble_eq_true rfl) rfl dX6_readStorm_39 ?_
    refine k_aload_n C (f := 0) (i := 0) (p := 2) rfl rfl dX6_readStorm_40 ?_
    refine k_iconst C ic_1 dX6_readStorm_41 ?_
    refine k_bipush C bc_9 dX6_readStorm_42 ?_
    refine k_callVj C s_X6_201 h_X6_takesNumber (L6_s (by assumption)) rfl (ct_X6_takesNumber hx (F3.txt ht) hP3 (by decide)) rfl rfl (Nat.le_of_ble_eq_true rfl) ⟨Nat.le_of_ble_eq_true rfl, Nat.le_of_ble_eq_true rfl⟩ ⟨Nat.le_of_ble_eq_true rfl, Nat.le_of_ble_eq_true rfl⟩ ⟨rfl, rfl⟩ dX6_readStorm_44 ?_
    intro v I4 J4 hv
    obtain ⟨rfl, hP4, F4, G4⟩ := hv
    have F4 := F3.tr F4
    have G4 := G3.tr G4
    obtain ⟨e4, he4⟩ : ∃ z : Except Nat sp_S, z = sp_tnS tb n 1 9 e3 := ⟨_, rfl⟩
    rw [← he4] at hP4
    refine k_istore_n C (f := 3) (i := 3) (lv := [(3, _), (2, _), (1, _), (0, _)]) rfl (Nat.le_of_ble_eq_true rfl) rfl dX6_readStorm_47 ?_
    refine k_aload_n C (f := 0) (i := 0) (p := 3) rfl rfl dX6_readStorm_48 ?_
    refine k_aload_n C (f := 0) (i := 0) (p := 3) rfl rfl dX6_readStorm_49 ?_
    refine k_getI C f_X6_164 (L6_s (by assumption)) (fun _ _ _ => rfl) (rfl) dX6_readStorm_50 ?_
    refine k_iconst C ic_3 dX6_readStorm_53 ?_
    refine k_icmp_ne C (tgt := 61) (by decide) dX6_readStorm_54 (fun hc54 => ?_) (fun hc54 => ?_)
    · skip
      refine k_iconst C ic_0 dX6_readStorm_61 ?_
      refine k_callVj C s_X6_191 h_X6_takes (L6_s (by assumption)) rfl (ct_X6_takes hx (F4.txt ht) hP4) rfl rfl (Nat.le_of_ble_eq_true rfl) ⟨Nat.le_of_ble_eq_true rfl, Nat.le_of_ble_eq_true rfl⟩ ⟨Nat.le_of_ble_eq_true rfl, Nat.le_of_ble_eq_true rfl⟩ ⟨rfl, rfl⟩ dX6_readStorm_62 ?_
      intro v I5 J5 hv
      obtain ⟨rfl, hP5, F5, G5⟩ := hv
      have F5 := F4.tr F5
      have G5 := G4.tr G5
      rw [show sp_tk tb n _ e4 = sp_tsS tb n e4 from by first | exact sp_tkS1 hP4 hc54 | exact sp_tkS0 hP4 hc54] at hP5 ⊢
      obtain ⟨e5, he5⟩ : ∃ z : Except Nat sp_S, z = sp_tsS tb n e4 := ⟨_, rfl⟩
      rw [← he5] at hP5 ⊢
      refine k_ifb_eq C (tgt := 78) (by decide) dX6_readStorm_65 (fun hc65 => ?_) (fun hc65 => ?_)
      · skip
        exact k_vret C (Nat.le_of_ble_eq_true rfl) (Nat.le_of_ble_eq_true rfl) (⟨rfl, ⟨rfl, by
            rw [rStorm_S he1 he2 he3 he4 he5]
            first
            | (obtain ⟨x, hx5⟩ := sp_nok hc65
               rw [hx5] at hP5 ⊢
               exact hP5)
            | (rw [hs5]
               exact MP_set hPk m6 g6 (qB.storm (by rw [hs2]; exact hcnt)) (by rw [addStorm_at (by omega)]; exact qL)), by
            first
            | exact F5.tr (f1_mpf g6)
            | exact F5, G5⟩⟩) dX6_readStorm_78
      · skip
        obtain ⟨s5, hs5⟩ := sp_ok_iff.mp hc65
        have hrow : ∃ s : sp_S, e = .ok s ∧ sp_ns s.2 < 6 ∧ s5.2 = s.2 := by
          obtain ⟨a4, b4, d4⟩ := tsS_inv (he5.symm.trans hs5)
          obtain ⟨a3, b3, d3⟩ := tnS_inv (he4.symm.trans b4)
          obtain ⟨a2, b2, d2⟩ := tnS_inv (he3.symm.trans b3)
          obtain ⟨a1, b1, d1⟩ := tnS_inv (he2.symm.trans b2)
          obtain ⟨a0, b0, p0, d0⟩ := md_gt_inv (he1.symm.trans b1)
          exact ⟨a0, b0, of_decide_eq_true p0, d4.trans (d3.trans (d2.trans (d1.trans d0)))⟩
        obtain ⟨s0, hs0, hcnt, hs2⟩ := hrow
        have hPk := hP5
        rw [hs5] at hPk
        obtain ⟨q17, q9, qT, qm, qB, qL⟩ := id hPk
        refine k_aload_n C (f := 0) (i := 0) (p := 3) rfl rfl dX6_readStorm_68 ?_
        refine k_getR C f_X6_13 (L6_s (by assumption)) (fun _ _ _ => rfl) (L6_1 (by assumption)) dX6_readStorm_69 ?_
        refine k_iload_n C (f := 1) (i := 1) (p := 2) rfl rfl dX6_readStorm_72 ?_
        refine k_iload_n C (f := 2) (i := 2) (p := 1) rfl rfl dX6_readStorm_73 ?_
        refine k_iload_n C (f := 3) (i := 3) (p := 0) rfl rfl dX6_readStorm_74 ?_
        refine k_callSg C s_X6_49 h_X6_addsStorm (ct_X6_addsStorm (A6_1 hx) qm qB (by rw [hs2]; exact hcnt)) rfl rfl (Nat.le_of_ble_eq_true rfl) ⟨Nat.le_of_ble_eq_true rfl, Nat.le_of_ble_eq_true rfl⟩ ⟨Nat.le_of_ble_eq_true rfl, Nat.le_of_ble_eq_true rfl⟩ ⟨rfl, rfl⟩ dX6_readStorm_75 ?_
        intro v I6 hv
        obtain ⟨rfl, m6, g6⟩ := hv
        exact k_vret C (Nat.le_of_ble_eq_true rfl) (Nat.le_of_ble_eq_true rfl) (⟨rfl, ⟨rfl, by
            rw [rStorm_S he1 he2 he3 he4 he5]
            first
            | (obtain ⟨x, hx5⟩ := sp_nok hc65
               rw [hx5] at hP5 ⊢
               exact hP5)
            | (rw [hs5]
               exact MP_set hPk m6 g6 (qB.storm (by rw [hs2]; exact hcnt)) (by rw [addStorm_at (by omega)]; exact qL)), by
            first
            | exact F5.tr (f1_mpf g6)
            | exact F5, G5⟩⟩) dX6_readStorm_78
    · skip
      refine k_iconst C ic_1 dX6_readStorm_57 ?_
      refine k_goto C (tgt := 62) (by decide) dX6_readStorm_58 ?_
      refine k_callVj C s_X6_191 h_X6_takes (L6_s (by assumption)) rfl (ct_X6_takes hx (F4.txt ht) hP4) rfl rfl (Nat.le_of_ble_eq_true rfl) ⟨Nat.le_of_ble_eq_true rfl, Nat.le_of_ble_eq_true rfl⟩ ⟨Nat.le_of_ble_eq_true rfl, Nat.le_of_ble_eq_true rfl⟩ ⟨rfl, rfl⟩ dX6_readStorm_62 ?_
      intro v I5 J5 hv
      obtain ⟨rfl, hP5, F5, G5⟩ := hv
      have F5 := F4.tr F5
      have G5 := G4.tr G5
      rw [show sp_tk tb n _ e4 = sp_tsS tb n e4 from by first | exact sp_tkS1 hP4 hc54 | exact sp_tkS0 hP4 hc54] at hP5 ⊢
      obtain ⟨e5, he5⟩ : ∃ z : Except Nat sp_S, z = sp_tsS tb n e4 := ⟨_, rfl⟩
      rw [← he5] at hP5 ⊢
      refine k_ifb_eq C (tgt := 78) (by decide) dX6_readStorm_65 (fun hc65 => ?_) (fun hc65 => ?_)
      · skip
        exact k_vret C (Nat.le_of_ble_eq_true rfl) (Nat.le_of_ble_eq_true rfl) (⟨rfl, ⟨rfl, by
            rw [rStorm_S he1 he2 he3 he4 he5]
            first
            | (obtain ⟨x, hx5⟩ := sp_nok hc65
               rw [hx5] at hP5 ⊢
               exact hP5)
            | (rw [hs5]
               exact MP_set hPk m6 g6 (qB.storm (by rw [hs2]; exact hcnt)) (by rw [addStorm_at (by omega)]; exact qL)), by
            first
            | exact F5.tr (f1_mpf g6)
            | exact F5, G5⟩⟩) dX6_readStorm_78
      · skip
        obtain ⟨s5, hs5⟩ := sp_ok_iff.mp hc65
        have hrow : ∃ s : sp_S, e = .ok s ∧ sp_ns s.2 < 6 ∧ s5.2 = s.2 := by
          obtain ⟨a4, b4, d4⟩ := tsS_inv (he5.symm.trans hs5)
          obtain ⟨a3, b3, d3⟩ := tnS_inv (he4.symm.trans b4)
          obtain ⟨a2, b2, d2⟩ := tnS_inv (he3.symm.trans b3)
          obtain ⟨a1, b1, d1⟩ := tnS_inv (he2.symm.trans b2)
          obtain ⟨a0, b0, p0, d0⟩ := md_gt_inv (he1.symm.trans b1)
          exact ⟨a0, b0, of_decide_eq_true p0, d4.trans (d3.trans (d2.trans (d1.trans d0)))⟩
        obtain ⟨s0, hs0, hcnt, hs2⟩ := hrow
        have hPk := hP5
        rw [hs5] at hPk
        obtain ⟨q17, q9, qT, qm, qB, qL⟩ := id hPk
        refine k_aload_n C (f := 0) (i := 0) (p := 3) rfl rfl dX6_readStorm_68 ?_
        refine k_getR C f_X6_13 (L6_s (by assumption)) (fun _ _ _ => rfl) (L6_1 (by assumption)) dX6_readStorm_69 ?_
        refine k_iload_n C (f := 1) (i := 1) (p := 2) rfl rfl dX6_readStorm_72 ?_
        refine k_iload_n C (f := 2) (i := 2) (p := 1) rfl rfl dX6_readStorm_73 ?_
        refine k_iload_n C (f := 3) (i := 3) (p := 0) rfl rfl dX6_readStorm_74 ?_
        refine k_callSg C s_X6_49 h_X6_addsStorm (ct_X6_addsStorm (A6_1 hx) qm qB (by rw [hs2]; exact hcnt)) rfl rfl (Nat.le_of_ble_eq_true rfl) ⟨Nat.le_of_ble_eq_true rfl, Nat.le_of_ble_eq_true rfl⟩ ⟨Nat.le_of_ble_eq_true rfl, Nat.le_of_ble_eq_true rfl⟩ ⟨rfl, rfl⟩ dX6_readStorm_75 ?_
        intro v I6 hv
        obtain ⟨rfl, m6, g6⟩ := hv
        exact k_vret C (Nat.le_of_ble_eq_true rfl) (Nat.le_of_ble_eq_true rfl) (⟨rfl, ⟨rfl, by
            rw [rStorm_S he1 he2 he3 he4 he5]
            first
            | (obtain ⟨x, hx5⟩ := sp_nok hc65
               rw [hx5] at hP5 ⊢
               exact hP5)
            | (rw [hs5]
               exact MP_set hPk m6 g6 (qB.storm (by rw [hs2]; exact hcnt)) (by rw [addStorm_at (by omega)]; exact qL)), by
            first
            | exact F5.tr (f1_mpf g6)
            | exact F5, G5⟩⟩) dX6_readStorm_78
  · skip
    refine k_iconst C ic_1 dX6_readStorm_13 ?_
    refine k_goto C (tgt := 18) (by decide) dX6_readStorm_14 ?_
    refine k_callVj C s_X6_191 h_X6_takes (L6_s (by assumption)) rfl (ct_X6_takes hx ht hP) rfl rfl (Nat.le_of_ble_eq_true rfl) ⟨Nat.le_of_ble_eq_true rfl, Nat.le_of_ble_eq_true rfl⟩ ⟨Nat.le_of_ble_eq_true rfl, Nat.le_of_ble_eq_true rfl⟩ ⟨rfl, rfl⟩ dX6_readStorm_18 ?_
    intro v I1 J1 hv
    obtain ⟨rfl, hP1, F1, G1⟩ := hv
    have hg1 : ∃ z : Except Nat sp_S, MP I1 J1 y tb n z ∧ z = sp_bd (md_gt (fun s => decide (sp_ns s.2 < 6)) e) (md_nx tb n) := ⟨_, hP1, by
      first
      | exact md_gt1 (fun s hs => by
          subst hs
          have z := hrs s rfl
          subst z
          exact decide_eq_true (by omega))
      | exact md_gt0 (fun s hs w => by
          subst hs
          have z := hrs s rfl
          subst z
          have w2 := of_decide_eq_true w
          omega)⟩
    clear hP1
    obtain ⟨e1, hP1, he1⟩ := hg1
    refine k_pop C rfl dX6_readStorm_21 ?_
    refine k_aload_n C (f := 0) (i := 0) (p := 0) rfl rfl dX6_readStorm_22 ?_
    refine k_iconst C ic_0 dX6_readStorm_23 ?_
    refine k_sipush C sc_200 dX6_readStorm_24 ?_
    refine k_callVj C s_X6_201 h_X6_takesNumber (L6_s (by assumption)) rfl (ct_X6_takesNumber hx (F1.txt ht) hP1 (by decide)) rfl rfl (Nat.le_of_ble_eq_true rfl) ⟨Nat.le_of_ble_eq_true rfl, Nat.le_of_ble_eq_true rfl⟩ ⟨Nat.le_of_ble_eq_true rfl, Nat.le_of_ble_eq_true rfl⟩ ⟨rfl, rfl⟩ dX6_readStorm_27 ?_
    intro v I2 J2 hv
    obtain ⟨rfl, hP2, F2, G2⟩ := hv
    have F2 := F1.tr F2
    have G2 := G1.tr G2
    obtain ⟨e2, he2⟩ : ∃ z : Except Nat sp_S, z = sp_tnS tb n 0 200 e1 := ⟨_, rfl⟩
    rw [← he2] at hP2
    refine k_istore_n C (f := 1) (i := 1) (lv := [(1, _), (0, _)]) rfl (Nat.le_of_ble_eq_true rfl) rfl dX6_readStorm_30 ?_
    refine k_aload_n C (f := 0) (i := 0) (p := 1) rfl rfl dX6_readStorm_31 ?_
    refine k_iload_n C (f := 1) (i := 1) (p := 0) rfl rfl dX6_readStorm_32 ?_
    refine k_sipush C sc_200 dX6_readStorm_33 ?_
    refine k_callVj C s_X6_201 h_X6_takesNumber (L6_s (by assumption)) rfl (ct_X6_takesNumber hx (F2.txt ht) hP2 ⟨sp_tz_b (by decide) (by decide), by decide⟩) rfl rfl (Nat.le_of_ble_eq_true rfl) ⟨Nat.le_of_ble_eq_true rfl, Nat.le_of_ble_eq_true rfl⟩ ⟨Nat.le_of_ble_eq_true rfl, Nat.le_of_ble_eq_true rfl⟩ ⟨rfl, rfl⟩ dX6_readStorm_36 ?_
    intro v I3 J3 hv
    obtain ⟨rfl, hP3, F3, G3⟩ := hv
    have F3 := F2.tr F3
    have G3 := G2.tr G3
    obtain ⟨e3, he3⟩ : ∃ z : Except Nat sp_S, z = sp_tnS tb n (sp_tz tb n 0 200 e1) 200 e2 := ⟨_, rfl⟩
    rw [← he3] at hP3
    refine k_istore_n C (f := 2) (i := 2) (lv := [(2, _), (1, _), (0, _)]) rfl (Nat.le_of_ble_eq_true rfl) rfl dX6_readStorm_39 ?_
    refine k_aload_n C (f := 0) (i := 0) (p := 2) rfl rfl dX6_readStorm_40 ?_
    refine k_iconst C ic_1 dX6_readStorm_41 ?_
    refine k_bipush C bc_9 dX6_readStorm_42 ?_
    refine k_callVj C s_X6_201 h_X6_takesNumber (L6_s (by assumption)) rfl (ct_X6_takesNumber hx (F3.txt ht) hP3 (by decide)) rfl rfl (Nat.le_of_ble_eq_true rfl) ⟨Nat.le_of_ble_eq_true rfl, Nat.le_of_ble_eq_true rfl⟩ ⟨Nat.le_of_ble_eq_true rfl, Nat.le_of_ble_eq_true rfl⟩ ⟨rfl, rfl⟩ dX6_readStorm_44 ?_
    intro v I4 J4 hv
    obtain ⟨rfl, hP4, F4, G4⟩ := hv
    have F4 := F3.tr F4
    have G4 := G3.tr G4
    obtain ⟨e4, he4⟩ : ∃ z : Except Nat sp_S, z = sp_tnS tb n 1 9 e3 := ⟨_, rfl⟩
    rw [← he4] at hP4
    refine k_istore_n C (f := 3) (i := 3) (lv := [(3, _), (2, _), (1, _), (0, _)]) rfl (Nat.le_of_ble_eq_true rfl) rfl dX6_readStorm_47 ?_
    refine k_aload_n C (f := 0) (i := 0) (p := 3) rfl rfl dX6_readStorm_48 ?_
    refine k_aload_n C (f := 0) (i := 0) (p := 3) rfl rfl dX6_readStorm_49 ?_
    refine k_getI C f_X6_164 (L6_s (by assumption)) (fun _ _ _ => rfl) (rfl) dX6_readStorm_50 ?_
    refine k_iconst C ic_3 dX6_readStorm_53 ?_
    refine k_icmp_ne C (tgt := 61) (by decide) dX6_readStorm_54 (fun hc54 => ?_) (fun hc54 => ?_)
    · skip
      refine k_iconst C ic_0 dX6_readStorm_61 ?_
      refine k_callVj C s_X6_191 h_X6_takes (L6_s (by assumption)) rfl (ct_X6_takes hx (F4.txt ht) hP4) rfl rfl (Nat.le_of_ble_eq_true rfl) ⟨Nat.le_of_ble_eq_true rfl, Nat.le_of_ble_eq_true rfl⟩ ⟨Nat.le_of_ble_eq_true rfl, Nat.le_of_ble_eq_true rfl⟩ ⟨rfl, rfl⟩ dX6_readStorm_62 ?_
      intro v I5 J5 hv
      obtain ⟨rfl, hP5, F5, G5⟩ := hv
      have F5 := F4.tr F5
      have G5 := G4.tr G5
      rw [show sp_tk tb n _ e4 = sp_tsS tb n e4 from by first | exact sp_tkS1 hP4 hc54 | exact sp_tkS0 hP4 hc54] at hP5 ⊢
      obtain ⟨e5, he5⟩ : ∃ z : Except Nat sp_S, z = sp_tsS tb n e4 := ⟨_, rfl⟩
      rw [← he5] at hP5 ⊢
      refine k_ifb_eq C (tgt := 78) (by decide) dX6_readStorm_65 (fun hc65 => ?_) (fun hc65 => ?_)
      · skip
        exact k_vret C (Nat.le_of_ble_eq_true rfl) (Nat.le_of_ble_eq_true rfl) (⟨rfl, ⟨rfl, by
            rw [rStorm_S he1 he2 he3 he4 he5]
            first
            | (obtain ⟨x, hx5⟩ := sp_nok hc65
               rw [hx5] at hP5 ⊢
               exact hP5)
            | (rw [hs5]
               exact MP_set hPk m6 g6 (qB.storm (by rw [hs2]; exact hcnt)) (by rw [addStorm_at (by omega)]; exact qL)), by
            first
            | exact F5.tr (f1_mpf g6)
            | exact F5, G5⟩⟩) dX6_readStorm_78
      · skip
        obtain ⟨s5, hs5⟩ := sp_ok_iff.mp hc65
        have hrow : ∃ s : sp_S, e = .ok s ∧ sp_ns s.2 < 6 ∧ s5.2 = s.2 := by
          obtain ⟨a4, b4, d4⟩ := tsS_inv (he5.symm.trans hs5)
          obtain ⟨a3, b3, d3⟩ := tnS_inv (he4.symm.trans b4)
          obtain ⟨a2, b2, d2⟩ := tnS_inv (he3.symm.trans b3)
          obtain ⟨a1, b1, d1⟩ := tnS_inv (he2.symm.trans b2)
          obtain ⟨a0, b0, p0, d0⟩ := md_gt_inv (he1.symm.trans b1)
          exact ⟨a0, b0, of_decide_eq_true p0, d4.trans (d3.trans (d2.trans (d1.trans d0)))⟩
        obtain ⟨s0, hs0, hcnt, hs2⟩ := hrow
        have hPk := hP5
        rw [hs5] at hPk
        obtain ⟨q17, q9, qT, qm, qB, qL⟩ := id hPk
        refine k_aload_n C (f := 0) (i := 0) (p := 3) rfl rfl dX6_readStorm_68 ?_
        refine k_getR C f_X6_13 (L6_s (by assumption)) (fun _ _ _ => rfl) (L6_1 (by assumption)) dX6_readStorm_69 ?_
        refine k_iload_n C (f := 1) (i := 1) (p := 2) rfl rfl dX6_readStorm_72 ?_
        refine k_iload_n C (f := 2) (i := 2) (p := 1) rfl rfl dX6_readStorm_73 ?_
        refine k_iload_n C (f := 3) (i := 3) (p := 0) rfl rfl dX6_readStorm_74 ?_
        refine k_callSg C s_X6_49 h_X6_addsStorm (ct_X6_addsStorm (A6_1 hx) qm qB (by rw [hs2]; exact hcnt)) rfl rfl (Nat.le_of_ble_eq_true rfl) ⟨Nat.le_of_ble_eq_true rfl, Nat.le_of_ble_eq_true rfl⟩ ⟨Nat.le_of_ble_eq_true rfl, Nat.le_of_ble_eq_true rfl⟩ ⟨rfl, rfl⟩ dX6_readStorm_75 ?_
        intro v I6 hv
        obtain ⟨rfl, m6, g6⟩ := hv
        exact k_vret C (Nat.le_of_ble_eq_true rfl) (Nat.le_of_ble_eq_true rfl) (⟨rfl, ⟨rfl, by
            rw [rStorm_S he1 he2 he3 he4 he5]
            first
            | (obtain ⟨x, hx5⟩ := sp_nok hc65
               rw [hx5] at hP5 ⊢
               exact hP5)
            | (rw [hs5]
               exact MP_set hPk m6 g6 (qB.storm (by rw [hs2]; exact hcnt)) (by rw [addStorm_at (by omega)]; exact qL)), by
            first
            | exact F5.tr (f1_mpf g6)
            | exact F5, G5⟩⟩) dX6_readStorm_78
    · skip
      refine k_iconst C ic_1 dX6_readStorm_57 ?_
      refine k_goto C (tgt := 62) (by decide) dX6_readStorm_58 ?_
      refine k_callVj C s_X6_191 h_X6_takes (L6_s (by assumption)) rfl (ct_X6_takes hx (F4.txt ht) hP4) rfl rfl (Nat.le_of_ble_eq_true rfl) ⟨Nat.le_of_ble_eq_true rfl, Nat.le_of_ble_eq_true rfl⟩ ⟨Nat.le_of_ble_eq_true rfl, Nat.le_of_ble_eq_true rfl⟩ ⟨rfl, rfl⟩ dX6_readStorm_62 ?_
      intro v I5 J5 hv
      obtain ⟨rfl, hP5, F5, G5⟩ := hv
      have F5 := F4.tr F5
      have G5 := G4.tr G5
      rw [show sp_tk tb n _ e4 = sp_tsS tb n e4 from by first | exact sp_tkS1 hP4 hc54 | exact sp_tkS0 hP4 hc54] at hP5 ⊢
      obtain ⟨e5, he5⟩ : ∃ z : Except Nat sp_S, z = sp_tsS tb n e4 := ⟨_, rfl⟩
      rw [← he5] at hP5 ⊢
      refine k_ifb_eq C (tgt := 78) (by decide) dX6_readStorm_65 (fun hc65 => ?_) (fun hc65 => ?_)
      · skip
        exact k_vret C (Nat.le_of_ble_eq_true rfl) (Nat.le_of_ble_eq_true rfl) (⟨rfl, ⟨rfl, by
            rw [rStorm_S he1 he2 he3 he4 he5]
            first
            | (obtain ⟨x, hx5⟩ := sp_nok hc65
               rw [hx5] at hP5 ⊢
               exact hP5)
            | (rw [hs5]
               exact MP_set hPk m6 g6 (qB.storm (by rw [hs2]; exact hcnt)) (by rw [addStorm_at (by omega)]; exact qL)), by
            first
            | exact F5.tr (f1_mpf g6)
            | exact F5, G5⟩⟩) dX6_readStorm_78
      · skip
        obtain ⟨s5, hs5⟩ := sp_ok_iff.mp hc65
        have hrow : ∃ s : sp_S, e = .ok s ∧ sp_ns s.2 < 6 ∧ s5.2 = s.2 := by
          obtain ⟨a4, b4, d4⟩ := tsS_inv (he5.symm.trans hs5)
          obtain ⟨a3, b3, d3⟩ := tnS_inv (he4.symm.trans b4)
          obtain ⟨a2, b2, d2⟩ := tnS_inv (he3.symm.trans b3)
          obtain ⟨a1, b1, d1⟩ := tnS_inv (he2.symm.trans b2)
          obtain ⟨a0, b0, p0, d0⟩ := md_gt_inv (he1.symm.trans b1)
          exact ⟨a0, b0, of_decide_eq_true p0, d4.trans (d3.trans (d2.trans (d1.trans d0)))⟩
        obtain ⟨s0, hs0, hcnt, hs2⟩ := hrow
        have hPk := hP5
        rw [hs5] at hPk
        obtain ⟨q17, q9, qT, qm, qB, qL⟩ := id hPk
        refine k_aload_n C (f := 0) (i := 0) (p := 3) rfl rfl dX6_readStorm_68 ?_
        refine k_getR C f_X6_13 (L6_s (by assumption)) (fun _ _ _ => rfl) (L6_1 (by assumption)) dX6_readStorm_69 ?_
        refine k_iload_n C (f := 1) (i := 1) (p := 2) rfl rfl dX6_readStorm_72 ?_
        refine k_iload_n C (f := 2) (i := 2) (p := 1) rfl rfl dX6_readStorm_73 ?_
        refine k_iload_n C (f := 3) (i := 3) (p := 0) rfl rfl dX6_readStorm_74 ?_
        refine k_callSg C s_X6_49 h_X6_addsStorm (ct_X6_addsStorm (A6_1 hx) qm qB (by rw [hs2]; exact hcnt)) rfl rfl (Nat.le_of_ble_eq_true rfl) ⟨Nat.le_of_ble_eq_true rfl, Nat.le_of_ble_eq_true rfl⟩ ⟨Nat.le_of_ble_eq_true rfl, Nat.le_of_ble_eq_true rfl⟩ ⟨rfl, rfl⟩ dX6_readStorm_75 ?_
        intro v I6 hv
        obtain ⟨rfl, m6, g6⟩ := hv
        exact k_vret C (Nat.le_of_ble_eq_true rfl) (Nat.le_of_ble_eq_true rfl) (⟨rfl, ⟨rfl, by
            rw [rStorm_S he1 he2 he3 he4 he5]
            first
            | (obtain ⟨x, hx5⟩ := sp_nok hc65
               rw [hx5] at hP5 ⊢
               exact hP5)
            | (rw [hs5]
               exact MP_set hPk m6 g6 (qB.storm (by rw [hs2]; exact hcnt)) (by rw [addStorm_at (by omega)]; exact qL)), by
            first
            | exact F5.tr (f1_mpf g6)
            | exact F5, G5⟩⟩) dX6_readStorm_78
set_option maxHeartbeats 4000000 in
set_option maxRecDepth 100000 in
theorem ct_X6_readWell {G : am_G} {Λ : am_L} {I : am_I} {J : am_J} {y n : Nat} {tb : Nat → Nat} {e : Except Nat sp_S}  (hx : ModLay Λ y) (ht : MTxt I y tb n) (hP : MP I J y tb n e) : am_Ct G yX6_readWell cX6_readWell 4 none { frames := 5, cells := 0, slots := 0, locals := 105 } [.ref y] Λ I J (am_gj Λ (fun v I' J' => v = none ∧ MP I' J' y tb n (sp_bd (md_gt (fun s => decide (sp_nw s.2 < 8)) e) (sp_rWell tb n)) ∧ MPf y I I' ∧ JFr y J J')) am_never := by
  refine am_ct_of (own := RX6) rfl (by decide) (Nat.le_of_ble_eq_true rfl) (fun X C => ?_)
  change am_K G X { frames := 5, cells := 0, slots := 0, locals := 105 } 4 Λ I J 0 0 0 [(0, .ref y)] []
  obtain ⟨rd, hrd, hBd, hrs⟩ := MP_row hP
  obtain ⟨⟨h6d, h7d, h8d, h9d⟩, hb6, hb7, hb8, hb9⟩ := hBd
  refine k_aload_n C (f := 0) (i := 0) (p := 0) rfl rfl dX6_readWell_0 ?_
  refine k_aload_n C (f := 0) (i := 0) (p := 0) rfl rfl dX6_readWell_1 ?_
  refine k_getR C f_X6_13 (L6_s (by assumption)) (fun _ _ _ => rfl) (L6_1 (by assumption)) dX6_readWell_2 ?_
  refine k_bipush C bc_7 dX6_readWell_5 ?_
  refine k_iald C (A6_1 (by assumption)) (by first | rfl | assumption) (by omega) (by decide) ((MR hrd (by decide)).trans h7d) dX6_readWell_7 ?_
  refine k_bipush C bc_8 dX6_readWell_8 ?_
  refine k_icmpN_ge C (tgt := 17) (by omega) (by omega) (by decide) dX6_readWell_10 (fun hc10 => ?_) (fun hc10 => ?_)
  · skip
    refine k_iconst C ic_0 dX6_readWell_17 ?_
    refine k_callVj C s_X6_191 h_X6_takes (L6_s (by assumption)) rfl (ct_X6_takes hx ht hP) rfl rfl (Nat.le_of_ble_eq_true rfl) ⟨Nat.le_of_ble_eq_true rfl, Nat.le_of_ble_eq_true rfl⟩ ⟨Nat.le_of_ble_eq_true rfl, Nat.le_of_ble_eq_true rfl⟩ ⟨rfl, rfl⟩ dX6_readWell_18 ?_
    intro v I1 J1 hv
    obtain ⟨rfl, hP1, F1, G1⟩ := hv
    have hg1 : ∃ z : Except Nat sp_S, MP I1 J1 y tb n z ∧ z = sp_bd (md_gt (fun s => decide (sp_nw s.2 < 8)) e) (md_nx tb n) := ⟨_, hP1, by
      first
      | exact md_gt1 (fun s hs => by
          subst hs
          have z := hrs s rfl
          subst z
          exact decide_eq_true (by omega))
      | exact md_gt0 (fun s hs w => by
          subst hs
          have z := hrs s rfl
          subst z
          have w2 := of_decide_eq_true w
          omega)⟩
    clear hP1
    obtain ⟨e1, hP1, he1⟩ := hg1
    obtain ⟨rd1, hrd1, hBd1, hrs1⟩ := MP_row hP1
    obtain ⟨⟨g6d, g7d, g8d, g9d⟩, gb6, gb7, gb8, gb9⟩ := id hBd1
    refine k_pop C rfl dX6_readWell_21 ?_
    refine k_aload_n C (f := 0) (i := 0) (p := 0) rfl rfl dX6_readWell_22 ?_
    refine k_getI C f_X6_157 (L6_s (by assumption)) (fun _ _ _ => rfl) (rfl) dX6_readWell_23 ?_
    refine k_istore_n C (f := 1) (i := 1) (lv := [(1, _), (0, _)]) rfl (Nat.le_of_ble_eq_true rfl) rfl dX6_readWell_26 ?_
    refine k_aload_n C (f := 0) (i := 0) (p := 1) rfl rfl dX6_readWell_27 ?_
    refine k_aload_n C (f := 0) (i := 0) (p := 1) rfl rfl dX6_readWell_28 ?_
    refine k_getI C f_X6_164 (L6_s (by assumption)) (fun _ _ _ => rfl) (rfl) dX6_readWell_29 ?_
    refine k_iconst C ic_2 dX6_readWell_32 ?_
    refine k_icmp_ne C (tgt := 61) (by decide) dX6_readWell_33 (fun hc33 => ?_) (fun hc33 => ?_)
    · skip
      refine k_iconst C ic_0 dX6_readWell_61 ?_
      refine k_callVj C s_X6_191 h_X6_takes (L6_s (by assumption)) rfl (ct_X6_takes hx (F1.txt ht) hP1) rfl rfl (Nat.le_of_ble_eq_true rfl) ⟨Nat.le_of_ble_eq_true rfl, Nat.le_of_ble_eq_true rfl⟩ ⟨Nat.le_of_ble_eq_true rfl, Nat.le_of_ble_eq_true rfl⟩ ⟨rfl, rfl⟩ dX6_readWell_62 ?_
      intro v I2 J2 hv
      obtain ⟨rfl, hP2, F2, G2⟩ := hv
      have F2 := F1.tr F2
      have G2 := G1.tr G2
      have hg2 : ∃ z : Except Nat sp_S, MP I2 J2 y tb n z ∧ z = sp_bd (md_gt md_pw e1) (md_nx tb n) := ⟨_, hP2, by
        first
        | exact md_gt1 (fun s hs => by
            subst hs
            obtain ⟨L, hL, hL9⟩ := hP1.2.2.2.2.2
            have z := hrs1 s rfl
            subst z
            have m15 := hP1.2.2.1.2.2.2.1
            have m14 := hP1.2.2.1.1
            have mb4 := hP1.2.2.1.2.2.2.2.2.2.2.2
            have mb1 := hP1.2.2.1.2.2.2.2.2.1
            rw [m14] at hc33
            rw [m15] at hc43 hc54
            rw [hL] at hc43
            exact decide_eq_true ⟨(nI_eq (by omega) (by decide)).mp hc33, by rw [hL, nI_clamp (by omega)]; exact (nI_leI (by omega) (by omega)).mp (Int32.not_lt.mp hc43), (wellOn_or s.2 _).resolve_right (fun ⟨i, e, hi⟩ => by rw [e] at hc54; exact hc54 (nI_pos' (by omega)))⟩)
        | exact md_gt0 (fun s hs w => by
            subst hs
            obtain ⟨L, hL, hL9⟩ := hP1.2.2.2.2.2
            have z := hrs1 s rfl
            subst z
            have w2 := of_decide_eq_true w
            have m15 := hP1.2.2.1.2.2.2.1
            have m14 := hP1.2.2.1.1
            have mb4 := hP1.2.2.1.2.2.2.2.2.2.2.2
            first
            | exact hc33 (by rw [m14, w2.1])
            | exact absurd hc43 (by rw [m15, hL]; have w3 := w2.2.1; rw [hL, nI_clamp (by omega)] at w3; exact Int32.not_lt.mpr (nI_le w3 (by omega)))
            | exact absurd hc54 (by rw [m15, w2.2.2]; decide))⟩
      clear hP2
      obtain ⟨e2, hP2, he2⟩ := hg2
      refine k_pop C rfl dX6_readWell_65 ?_
      refine k_aload_n C (f := 0) (i := 0) (p := 1) rfl rfl dX6_readWell_66 ?_
      refine k_iconst C ic_1 dX6_readWell_67 ?_
      refine k_sipush C sc_999 dX6_readWell_68 ?_
      refine k_callVj C s_X6_201 h_X6_takesNumber (L6_s (by assumption)) rfl (ct_X6_takesNumber hx (F2.txt ht) hP2 (by decide)) rfl rfl (Nat.le_of_ble_eq_true rfl) ⟨Nat.le_of_ble_eq_true rfl, Nat.le_of_ble_eq_true rfl⟩ ⟨Nat.le_of_ble_eq_true rfl, Nat.le_of_ble_eq_true rfl⟩ ⟨rfl, rfl⟩ dX6_readWell_71 ?_
      intro v I3 J3 hv
      obtain ⟨rfl, hP3, F3, G3⟩ := hv
      have F3 := F2.tr F3
      have G3 := G2.tr G3
      obtain ⟨e3, he3⟩ : ∃ z : Except Nat sp_S, z = sp_tnS tb n 1 999 e2 := ⟨_, rfl⟩
      rw [← he3] at hP3
      refine k_istore_n C (f := 2) (i := 2) (lv := [(2, _), (1, _), (0, _)]) rfl (Nat.le_of_ble_eq_true rfl) rfl dX6_readWell_74 ?_
      refine k_aload_n C (f := 0) (i := 0) (p := 2) rfl rfl dX6_readWell_75 ?_
      refine k_iconst C ic_0 dX6_readWell_76 ?_
      refine k_bipush C bc_99 dX6_readWell_77 ?_
      refine k_callVj C s_X6_201 h_X6_takesNumber (L6_s (by assumption)) rfl (ct_X6_takesNumber hx (F3.txt ht) hP3 (by decide)) rfl rfl (Nat.le_of_ble_eq_true rfl) ⟨Nat.le_of_ble_eq_true rfl, Nat.le_of_ble_eq_true rfl⟩ ⟨Nat.le_of_ble_eq_true rfl, Nat.le_of_ble_eq_true rfl⟩ ⟨rfl, rfl⟩ dX6_readWell_79 ?_
      intro v I4 J4 hv
      obtain ⟨rfl, hP4, F4, G4⟩ := hv
      have F4 := F3.tr F4
      have G4 := G3.tr G4
      obtain ⟨e4, he4⟩ : ∃ z : Except Nat sp_S, z = sp_tnS tb n 0 99 e3 := ⟨_, rfl⟩
      rw [← he4] at hP4
      refine k_istore_n C (f := 3) (i := 3) (lv := [(3, _), (2, _), (1, _), (0, _)]) rfl (Nat.le_of_ble_eq_true rfl) rfl dX6_readWell_82 ?_
      refine k_aload_n C (f := 0) (i := 0) (p := 3) rfl rfl dX6_readWell_83 ?_
      refine k_aload_n C (f := 0) (i := 0) (p := 3) rfl rfl dX6_readWell_84 ?_
      refine k_getI C f_X6_164 (L6_s (by assumption)) (fun _ _ _ => rfl) (rfl) dX6_readWell_85 ?_
      refine k_iconst C ic_3 dX6_readWell_88 ?_
      refine k_icmp_ne C (tgt := 96) (by decide) dX6_readWell_89 (fun hc89 => ?_) (fun hc89 => ?_)
      · skip
        refine k_iconst C ic_0 dX6_readWell_96 ?_
        refine k_callVj C s_X6_191 h_X6_takes (L6_s (by assumption)) rfl (ct_X6_takes hx (F4.txt ht) hP4) rfl rfl (Nat.le_of_ble_eq_true rfl) ⟨Nat.le_of_ble_eq_true rfl, Nat.le_of_ble_eq_true rfl⟩ ⟨Nat.le_of_ble_eq_true rfl, Nat.le_of_ble_eq_true rfl⟩ ⟨rfl, rfl⟩ dX6_readWell_97 ?_
        intro v I5 J5 hv
        obtain ⟨rfl, hP5, F5, G5⟩ := hv
        have F5 := F4.tr F5
        have G5 := G4.tr G5
        rw [show sp_tk tb n _ e4 = sp_tsS tb n e4 from by first | exact sp_tkS1 hP4 hc89 | exact sp_tkS0 hP4 hc89] at hP5 ⊢
        obtain ⟨e5, he5⟩ : ∃ z : Except Nat sp_S, z = sp_tsS tb n e4 := ⟨_, rfl⟩
        rw [← he5] at hP5 ⊢
        refine k_ifb_eq C (tgt := 113) (by decide) dX6_readWell_100 (fun hc100 => ?_) (fun hc100 => ?_)
        · skip
          exact k_vret C (Nat.le_of_ble_eq_true rfl) (Nat.le_of_ble_eq_true rfl) (⟨rfl, ⟨rfl, by
              rw [rWell_S he1 he2 he3 he4 he5]
              first
              | (obtain ⟨x, hx5⟩ := sp_nok hc100
                 rw [hx5] at hP5 ⊢
                 exact hP5)
              | (rw [hs5]
                 exact MP_set hPk m6 g6 (qB.well (by rw [hs2]; exact hcnt)) (by rw [addWell_at (by omega)]; exact qL)), by
              first
              | exact F5.tr (f1_mpf g6)
              | exact F5, G5⟩⟩) dX6_readWell_113
        · skip
          obtain ⟨s5, hs5⟩ := sp_ok_iff.mp hc100
          have hrow : ∃ s : sp_S, e = .ok s ∧ sp_nw s.2 < 8 ∧ s5.2 = s.2 := by
            obtain ⟨a4, b4, d4⟩ := tsS_inv (he5.symm.trans hs5)
            obtain ⟨a3, b3, d3⟩ := tnS_inv (he4.symm.trans b4)
            obtain ⟨a2, b2, d2⟩ := tnS_inv (he3.symm.trans b3)
            obtain ⟨a1, b1, p1, d1⟩ := md_gt_inv (he2.symm.trans b2)
            obtain ⟨a0, b0, p0, d0⟩ := md_gt_inv (he1.symm.trans b1)
            exact ⟨a0, b0, of_decide_eq_true p0, d4.trans (d3.trans (d2.trans (d1.trans d0)))⟩
          have hv1 : I1 y 15 = nI (md_v e1) := by
            obtain ⟨a4, b4, d4⟩ := tsS_inv (he5.symm.trans hs5)
            obtain ⟨a3, b3, d3⟩ := tnS_inv (he4.symm.trans b4)
            obtain ⟨a2, b2, d2⟩ := tnS_inv (he3.symm.trans b3)
            obtain ⟨a1, b1, p1, d1⟩ := md_gt_inv (he2.symm.trans b2)
            rw [b1] at hP1 ⊢
            exact hP1.2.2.1.2.2.2.1
          rw [hv1]
          obtain ⟨s0, hs0, hcnt, hs2⟩ := hrow
          have hPk := hP5
          rw [hs5] at hPk
          obtain ⟨q17, q9, qT, qm, qB, qL⟩ := id hPk
          refine k_aload_n C (f := 0) (i := 0) (p := 3) rfl rfl dX6_readWell_103 ?_
          refine k_getR C f_X6_13 (L6_s (by assumption)) (fun _ _ _ => rfl) (L6_1 (by assumption)) dX6_readWell_104 ?_
          refine k_iload_n C (f := 1) (i := 1) (p := 2) rfl rfl dX6_readWell_107 ?_
          refine k_iload_n C (f := 2) (i := 2) (p := 1) rfl rfl dX6_readWell_108 ?_
          refine k_iload_n C (f := 3) (i := 3) (p := 0) rfl rfl dX6_readWell_109 ?_
          refine k_callSg C s_X6_46 h_X6_addsWell (ct_X6_addsWell (A6_1 hx) qm qB (by rw [hs2]; exact hcnt)) rfl rfl (Nat.le_of_ble_eq_true rfl) ⟨Nat.le_of_ble_eq_true rfl, Nat.le_of_ble_eq_true rfl⟩ ⟨Nat.le_of_ble_eq_true rfl, Nat.le_of_ble_eq_true rfl⟩ ⟨rfl, rfl⟩ dX6_readWell_110 ?_
          intro v I6 hv
          obtain ⟨rfl, m6, g6⟩ := hv
          exact k_vret C (Nat.le_of_ble_eq_true rfl) (Nat.le_of_ble_eq_true rfl) (⟨rfl, ⟨rfl, by
              rw [rWell_S he1 he2 he3 he4 he5]
              first
              | (obtain ⟨x, hx5⟩ := sp_nok hc100
                 rw [hx5] at hP5 ⊢
                 exact hP5)
              | (rw [hs5]
                 exact MP_set hPk m6 g6 (qB.well (by rw [hs2]; exact hcnt)) (by rw [addWell_at (by omega)]; exact qL)), by
              first
              | exact F5.tr (f1_mpf g6)
              | exact F5, G5⟩⟩) dX6_readWell_113
      · skip
        refine k_iconst C ic_1 dX6_readWell_92 ?_
        refine k_goto C (tgt := 97) (by decide) dX6_readWell_93 ?_
        refine k_callVj C s_X6_191 h_X6_takes (L6_s (by assumption)) rfl (ct_X6_takes hx (F4.txt ht) hP4) rfl rfl (Nat.le_of_ble_eq_true rfl) ⟨Nat.le_of_ble_eq_true rfl, Nat.le_of_ble_eq_true rfl⟩ ⟨Nat.le_of_ble_eq_true rfl, Nat.le_of_ble_eq_true rfl⟩ ⟨rfl, rfl⟩ dX6_readWell_97 ?_
        intro v I5 J5 hv
        obtain ⟨rfl, hP5, F5, G5⟩ := hv
        have F5 := F4.tr F5
        have G5 := G4.tr G5
        rw [show sp_tk tb n _ e4 = sp_tsS tb n e4 from by first | exact sp_tkS1 hP4 hc89 | exact sp_tkS0 hP4 hc89] at hP5 ⊢
        obtain ⟨e5, he5⟩ : ∃ z : Except Nat sp_S, z = sp_tsS tb n e4 := ⟨_, rfl⟩
        rw [← he5] at hP5 ⊢
        refine k_ifb_eq C (tgt := 113) (by decide) dX6_readWell_100 (fun hc100 => ?_) (fun hc100 => ?_)
        · skip
          exact k_vret C (Nat.le_of_ble_eq_true rfl) (Nat.le_of_ble_eq_true rfl) (⟨rfl, ⟨rfl, by
              rw [rWell_S he1 he2 he3 he4 he5]
              first
              | (obtain ⟨x, hx5⟩ := sp_nok hc100
                 rw [hx5] at hP5 ⊢
                 exact hP5)
              | (rw [hs5]
                 exact MP_set hPk m6 g6 (qB.well (by rw [hs2]; exact hcnt)) (by rw [addWell_at (by omega)]; exact qL)), by
              first
              | exact F5.tr (f1_mpf g6)
              | exact F5, G5⟩⟩) dX6_readWell_113
        · skip
          obtain ⟨s5, hs5⟩ := sp_ok_iff.mp hc100
          have hrow : ∃ s : sp_S, e = .ok s ∧ sp_nw s.2 < 8 ∧ s5.2 = s.2 := by
            obtain ⟨a4, b4, d4⟩ := tsS_inv (he5.symm.trans hs5)
            obtain ⟨a3, b3, d3⟩ := tnS_inv (he4.symm.trans b4)
            obtain ⟨a2, b2, d2⟩ := tnS_inv (he3.symm.trans b3)
            obtain ⟨a1, b1, p1, d1⟩ := md_gt_inv (he2.symm.trans b2)
            obtain ⟨a0, b0, p0, d0⟩ := md_gt_inv (he1.symm.trans b1)
            exact ⟨a0, b0, of_decide_eq_true p0, d4.trans (d3.trans (d2.trans (d1.trans d0)))⟩
          have hv1 : I1 y 15 = nI (md_v e1) := by
            obtain ⟨a4, b4, d4⟩ := tsS_inv (he5.symm.trans hs5)
            obtain ⟨a3, b3, d3⟩ := tnS_inv (he4.symm.trans b4)
            obtain ⟨a2, b2, d2⟩ := tnS_inv (he3.symm.trans b3)
            obtain ⟨a1, b1, p1, d1⟩ := md_gt_inv (he2.symm.trans b2)
            rw [b1] at hP1 ⊢
            exact hP1.2.2.1.2.2.2.1
          rw [hv1]
          obtain ⟨s0, hs0, hcnt, hs2⟩ := hrow
          have hPk := hP5
          rw [hs5] at hPk
          obtain ⟨q17, q9, qT, qm, qB, qL⟩ := id hPk
          refine k_aload_n C (f := 0) (i := 0) (p := 3) rfl rfl dX6_readWell_103 ?_
          refine k_getR C f_X6_13 (L6_s (by assumption)) (fun _ _ _ => rfl) (L6_1 (by assumption)) dX6_readWell_104 ?_
          refine k_iload_n C (f := 1) (i := 1) (p := 2) rfl rfl dX6_readWell_107 ?_
          refine k_iload_n C (f := 2) (i := 2) (p := 1) rfl rfl dX6_readWell_108 ?_
          refine k_iload_n C (f := 3) (i := 3) (p := 0) rfl rfl dX6_readWell_109 ?_
          refine k_callSg C s_X6_46 h_X6_addsWell (ct_X6_addsWell (A6_1 hx) qm qB (by rw [hs2]; exact hcnt)) rfl rfl (Nat.le_of_ble_eq_true rfl) ⟨Nat.le_of_ble_eq_true rfl, Nat.le_of_ble_eq_true rfl⟩ ⟨Nat.le_of_ble_eq_true rfl, Nat.le_of_ble_eq_true rfl⟩ ⟨rfl, rfl⟩ dX6_readWell_110 ?_
          intro v I6 hv
          obtain ⟨rfl, m6, g6⟩ := hv
          exact k_vret C (Nat.le_of_ble_eq_true rfl) (Nat.le_of_ble_eq_true rfl) (⟨rfl, ⟨rfl, by
              rw [rWell_S he1 he2 he3 he4 he5]
              first
              | (obtain ⟨x, hx5⟩ := sp_nok hc100
                 rw [hx5] at hP5 ⊢
                 exact hP5)
              | (rw [hs5]
                 exact MP_set hPk m6 g6 (qB.well (by rw [hs2]; exact hcnt)) (by rw [addWell_at (by omega)]; exact qL)), by
              first
              | exact F5.tr (f1_mpf g6)
              | exact F5, G5⟩⟩) dX6_readWell_113
    · skip
      refine k_iload_n C (f := 1) (i := 1) (p := 0) rfl rfl dX6_readWell_36 ?_
      refine k_aload_n C (f := 0) (i := 0) (p := 1) rfl rfl dX6_readWell_37 ?_
      refine k_getR C f_X6_13 (L6_s (by assumption)) (fun _ _ _ => rfl) (L6_1 (by assumption)) dX6_readWell_38 ?_
      refine k_iconst C ic_0 dX6_readWell_41 ?_
      refine k_iald C (A6_1 (by assumption)) (by first | rfl | assumption) (by omega) (by decide) (MR hrd1 (by decide)) dX6_readWell_42 ?_
      refine k_icmp_gt C (tgt := 61) (by decide) dX6_readWell_43 (fun hc43 => ?_) (fun hc43 => ?_)
      · skip
        refine k_iconst C ic_0 dX6_readWell_61 ?_
        refine k_callVj C s_X6_191 h_X6_takes (L6_s (by assumption)) rfl (ct_X6_takes hx (F1.txt ht) hP1) rfl rfl (Nat.le_of_ble_eq_true rfl) ⟨Nat.le_of_ble_eq_true rfl, Nat.le_of_ble_eq_true rfl⟩ ⟨Nat.le_of_ble_eq_true rfl, Nat.le_of_ble_eq_true rfl⟩ ⟨rfl, rfl⟩ dX6_readWell_62 ?_
        intro v I2 J2 hv
        obtain ⟨rfl, hP2, F2, G2⟩ := hv
        have F2 := F1.tr F2
        have G2 := G1.tr G2
        have hg2 : ∃ z : Except Nat sp_S, MP I2 J2 y tb n z ∧ z = sp_bd (md_gt md_pw e1) (md_nx tb n) := ⟨_, hP2, by
          first
          | exact md_gt1 (fun s hs => by
              subst hs
              obtain ⟨L, hL, hL9⟩ := hP1.2.2.2.2.2
              have z := hrs1 s rfl
              subst z
              have m15 := hP1.2.2.1.2.2.2.1
              have m14 := hP1.2.2.1.1
              have mb4 := hP1.2.2.1.2.2.2.2.2.2.2.2
              have mb1 := hP1.2.2.1.2.2.2.2.2.1
              rw [m14] at hc33
              rw [m15] at hc43 hc54
              rw [hL] at hc43
              exact decide_eq_true ⟨(nI_eq (by omega) (by decide)).mp hc33, by rw [hL, nI_clamp (by omega)]; exact (nI_leI (by omega) (by omega)).mp (Int32.not_lt.mp hc43), (wellOn_or s.2 _).resolve_right (fun ⟨i, e, hi⟩ => by rw [e] at hc54; exact hc54 (nI_pos' (by omega)))⟩)
          | exact md_gt0 (fun s hs w => by
              subst hs
              obtain ⟨L, hL, hL9⟩ := hP1.2.2.2.2.2
              have z := hrs1 s rfl
              subst z
              have w2 := of_decide_eq_true w
              have m15 := hP1.2.2.1.2.2.2.1
              have m14 := hP1.2.2.1.1
              have mb4 := hP1.2.2.1.2.2.2.2.2.2.2.2
              first
              | exact hc33 (by rw [m14, w2.1])
              | exact absurd hc43 (by rw [m15, hL]; have w3 := w2.2.1; rw [hL, nI_clamp (by omega)] at w3; exact Int32.not_lt.mpr (nI_le w3 (by omega)))
              | exact absurd hc54 (by rw [m15, w2.2.2]; decide))⟩
        clear hP2
        obtain ⟨e2, hP2, he2⟩ := hg2
        refine k_pop C rfl dX6_readWell_65 ?_
        refine k_aload_n C (f := 0) (i := 0) (p := 1) rfl rfl dX6_readWell_66 ?_
        refine k_iconst C ic_1 dX6_readWell_67 ?_
        refine k_sipush C sc_999 dX6_readWell_68 ?_
        refine k_callVj C s_X6_201 h_X6_takesNumber (L6_s (by assumption)) rfl (ct_X6_takesNumber hx (F2.txt ht) hP2 (by decide)) rfl rfl (Nat.le_of_ble_eq_true rfl) ⟨Nat.le_of_ble_eq_true rfl, Nat.le_of_ble_eq_true rfl⟩ ⟨Nat.le_of_ble_eq_true rfl, Nat.le_of_ble_eq_true rfl⟩ ⟨rfl, rfl⟩ dX6_readWell_71 ?_
        intro v I3 J3 hv
        obtain ⟨rfl, hP3, F3, G3⟩ := hv
        have F3 := F2.tr F3
        have G3 := G2.tr G3
        obtain ⟨e3, he3⟩ : ∃ z : Except Nat sp_S, z = sp_tnS tb n 1 999 e2 := ⟨_, rfl⟩
        rw [← he3] at hP3
        refine k_istore_n C (f := 2) (i := 2) (lv := [(2, _), (1, _), (0, _)]) rfl (Nat.le_of_ble_eq_true rfl) rfl dX6_readWell_74 ?_
        refine k_aload_n C (f := 0) (i := 0) (p := 2) rfl rfl dX6_readWell_75 ?_
        refine k_iconst C ic_0 dX6_readWell_76 ?_
        refine k_bipush C bc_99 dX6_readWell_77 ?_
        refine k_callVj C s_X6_201 h_X6_takesNumber (L6_s (by assumption)) rfl (ct_X6_takesNumber hx (F3.txt ht) hP3 (by decide)) rfl rfl (Nat.le_of_ble_eq_true rfl) ⟨Nat.le_of_ble_eq_true rfl, Nat.le_of_ble_eq_true rfl⟩ ⟨Nat.le_of_ble_eq_true rfl, Nat.le_of_ble_eq_true rfl⟩ ⟨rfl, rfl⟩ dX6_readWell_79 ?_
        intro v I4 J4 hv
        obtain ⟨rfl, hP4, F4, G4⟩ := hv
        have F4 := F3.tr F4
        have G4 := G3.tr G4
        obtain ⟨e4, he4⟩ : ∃ z : Except Nat sp_S, z = sp_tnS tb n 0 99 e3 := ⟨_, rfl⟩
        rw [← he4] at hP4
        refine k_istore_n C (f := 3) (i := 3) (lv := [(3, _), (2, _), (1, _), (0, _)]) rfl (Nat.le_of_ble_eq_true rfl) rfl dX6_readWell_82 ?_
        refine k_aload_n C (f := 0) (i := 0) (p := 3) rfl rfl dX6_readWell_83 ?_
        refine k_aload_n C (f := 0) (i := 0) (p := 3) rfl rfl dX6_readWell_84 ?_
        refine k_getI C f_X6_164 (L6_s (by assumption)) (fun _ _ _ => rfl) (rfl) dX6_readWell_85 ?_
        refine k_iconst C ic_3 dX6_readWell_88 ?_
        refine k_icmp_ne C (tgt := 96) (by decide) dX6_readWell_89 (fun hc89 => ?_) (fun hc89 => ?_)
        · skip
          refine k_iconst C ic_0 dX6_readWell_96 ?_
          refine k_callVj C s_X6_191 h_X6_takes (L6_s (by assumption)) rfl (ct_X6_takes hx (F4.txt ht) hP4) rfl rfl (Nat.le_of_ble_eq_true rfl) ⟨Nat.le_of_ble_eq_true rfl, Nat.le_of_ble_eq_true rfl⟩ ⟨Nat.le_of_ble_eq_true rfl, Nat.le_of_ble_eq_true rfl⟩ ⟨rfl, rfl⟩ dX6_readWell_97 ?_
          intro v I5 J5 hv
          obtain ⟨rfl, hP5, F5, G5⟩ := hv
          have F5 := F4.tr F5
          have G5 := G4.tr G5
          rw [show sp_tk tb n _ e4 = sp_tsS tb n e4 from by first | exact sp_tkS1 hP4 hc89 | exact sp_tkS0 hP4 hc89] at hP5 ⊢
          obtain ⟨e5, he5⟩ : ∃ z : Except Nat sp_S, z = sp_tsS tb n e4 := ⟨_, rfl⟩
          rw [← he5] at hP5 ⊢
          refine k_ifb_eq C (tgt := 113) (by decide) dX6_readWell_100 (fun hc100 => ?_) (fun hc100 => ?_)
          · skip
            exact k_vret C (Nat.le_of_ble_eq_true rfl) (Nat.le_of_ble_eq_true rfl) (⟨rfl, ⟨rfl, by
                rw [rWell_S he1 he2 he3 he4 he5]
                first
                | (obtain ⟨x, hx5⟩ := sp_nok hc100
                   rw [hx5] at hP5 ⊢
                   exact hP5)
                | (rw [hs5]
                   exact MP_set hPk m6 g6 (qB.well (by rw [hs2]; exact hcnt)) (by rw [addWell_at (by omega)]; exact qL)), by
                first
                | exact F5.tr (f1_mpf g6)
                | exact F5, G5⟩⟩) dX6_readWell_113
          · skip
            obtain ⟨s5, hs5⟩ := sp_ok_iff.mp hc100
            have hrow : ∃ s : sp_S, e = .ok s ∧ sp_nw s.2 < 8 ∧ s5.2 = s.2 := by
              obtain ⟨a4, b4, d4⟩ := tsS_inv (he5.symm.trans hs5)
              obtain ⟨a3, b3, d3⟩ := tnS_inv (he4.symm.trans b4)
              obtain ⟨a2, b2, d2⟩ := tnS_inv (he3.symm.trans b3)
              obtain ⟨a1, b1, p1, d1⟩ := md_gt_inv (he2.symm.trans b2)
              obtain ⟨a0, b0, p0, d0⟩ := md_gt_inv (he1.symm.trans b1)
              exact ⟨a0, b0, of_decide_eq_true p0, d4.trans (d3.trans (d2.trans (d1.trans d0)))⟩
            have hv1 : I1 y 15 = nI (md_v e1) := by
              obtain ⟨a4, b4, d4⟩ := tsS_inv (he5.symm.trans hs5)
              obtain ⟨a3, b3, d3⟩ := tnS_inv (he4.symm.trans b4)
              obtain ⟨a2, b2, d2⟩ := tnS_inv (he3.symm.trans b3)
              obtain ⟨a1, b1, p1, d1⟩ := md_gt_inv (he2.symm.trans b2)
              rw [b1] at hP1 ⊢
              exact hP1.2.2.1.2.2.2.1
            rw [hv1]
            obtain ⟨s0, hs0, hcnt, hs2⟩ := hrow
            have hPk := hP5
            rw [hs5] at hPk
            obtain ⟨q17, q9, qT, qm, qB, qL⟩ := id hPk
            refine k_aload_n C (f := 0) (i := 0) (p := 3) rfl rfl dX6_readWell_103 ?_
            refine k_getR C f_X6_13 (L6_s (by assumption)) (fun _ _ _ => rfl) (L6_1 (by assumption)) dX6_readWell_104 ?_
            refine k_iload_n C (f := 1) (i := 1) (p := 2) rfl rfl dX6_readWell_107 ?_
            refine k_iload_n C (f := 2) (i := 2) (p := 1) rfl rfl dX6_readWell_108 ?_
            refine k_iload_n C (f := 3) (i := 3) (p := 0) rfl rfl dX6_readWell_109 ?_
            refine k_callSg C s_X6_46 h_X6_addsWell (ct_X6_addsWell (A6_1 hx) qm qB (by rw [hs2]; exact hcnt)) rfl rfl (Nat.le_of_ble_eq_true rfl) ⟨Nat.le_of_ble_eq_true rfl, Nat.le_of_ble_eq_true rfl⟩ ⟨Nat.le_of_ble_eq_true rfl, Nat.le_of_ble_eq_true rfl⟩ ⟨rfl, rfl⟩ dX6_readWell_110 ?_
            intro v I6 hv
            obtain ⟨rfl, m6, g6⟩ := hv
            exact k_vret C (Nat.le_of_ble_eq_true rfl) (Nat.le_of_ble_eq_true rfl) (⟨rfl, ⟨rfl, by
                rw [rWell_S he1 he2 he3 he4 he5]
                first
                | (obtain ⟨x, hx5⟩ := sp_nok hc100
                   rw [hx5] at hP5 ⊢
                   exact hP5)
                | (rw [hs5]
                   exact MP_set hPk m6 g6 (qB.well (by rw [hs2]; exact hcnt)) (by rw [addWell_at (by omega)]; exact qL)), by
                first
                | exact F5.tr (f1_mpf g6)
                | exact F5, G5⟩⟩) dX6_readWell_113
        · skip
          refine k_iconst C ic_1 dX6_readWell_92 ?_
          refine k_goto C (tgt := 97) (by decide) dX6_readWell_93 ?_
          refine k_callVj C s_X6_191 h_X6_takes (L6_s (by assumption)) rfl (ct_X6_takes hx (F4.txt ht) hP4) rfl rfl (Nat.le_of_ble_eq_true rfl) ⟨Nat.le_of_ble_eq_true rfl, Nat.le_of_ble_eq_true rfl⟩ ⟨Nat.le_of_ble_eq_true rfl, Nat.le_of_ble_eq_true rfl⟩ ⟨rfl, rfl⟩ dX6_readWell_97 ?_
          intro v I5 J5 hv
          obtain ⟨rfl, hP5, F5, G5⟩ := hv
          have F5 := F4.tr F5
          have G5 := G4.tr G5
          rw [show sp_tk tb n _ e4 = sp_tsS tb n e4 from by first | exact sp_tkS1 hP4 hc89 | exact sp_tkS0 hP4 hc89] at hP5 ⊢
          obtain ⟨e5, he5⟩ : ∃ z : Except Nat sp_S, z = sp_tsS tb n e4 := ⟨_, rfl⟩
          rw [← he5] at hP5 ⊢
          refine k_ifb_eq C (tgt := 113) (by decide) dX6_readWell_100 (fun hc100 => ?_) (fun hc100 => ?_)
          · skip
            exact k_vret C (Nat.le_of_ble_eq_true rfl) (Nat.le_of_ble_eq_true rfl) (⟨rfl, ⟨rfl, by
                rw [rWell_S he1 he2 he3 he4 he5]
                first
                | (obtain ⟨x, hx5⟩ := sp_nok hc100
                   rw [hx5] at hP5 ⊢
                   exact hP5)
                | (rw [hs5]
                   exact MP_set hPk m6 g6 (qB.well (by rw [hs2]; exact hcnt)) (by rw [addWell_at (by omega)]; exact qL)), by
                first
                | exact F5.tr (f1_mpf g6)
                | exact F5, G5⟩⟩) dX6_readWell_113
          · skip
            obtain ⟨s5, hs5⟩ := sp_ok_iff.mp hc100
            have hrow : ∃ s : sp_S, e = .ok s ∧ sp_nw s.2 < 8 ∧ s5.2 = s.2 := by
              obtain ⟨a4, b4, d4⟩ := tsS_inv (he5.symm.trans hs5)
              obtain ⟨a3, b3, d3⟩ := tnS_inv (he4.symm.trans b4)
              obtain ⟨a2, b2, d2⟩ := tnS_inv (he3.symm.trans b3)
              obtain ⟨a1, b1, p1, d1⟩ := md_gt_inv (he2.symm.trans b2)
              obtain ⟨a0, b0, p0, d0⟩ := md_gt_inv (he1.symm.trans b1)
              exact ⟨a0, b0, of_decide_eq_true p0, d4.trans (d3.trans (d2.trans (d1.trans d0)))⟩
            have hv1 : I1 y 15 = nI (md_v e1) := by
              obtain ⟨a4, b4, d4⟩ := tsS_inv (he5.symm.trans hs5)
              obtain ⟨a3, b3, d3⟩ := tnS_inv (he4.symm.trans b4)
              obtain ⟨a2, b2, d2⟩ := tnS_inv (he3.symm.trans b3)
              obtain ⟨a1, b1, p1, d1⟩ := md_gt_inv (he2.symm.trans b2)
              rw [b1] at hP1 ⊢
              exact hP1.2.2.1.2.2.2.1
            rw [hv1]
            obtain ⟨s0, hs0, hcnt, hs2⟩ := hrow
            have hPk := hP5
            rw [hs5] at hPk
            obtain ⟨q17, q9, qT, qm, qB, qL⟩ := id hPk
            refine k_aload_n C (f := 0) (i := 0) (p := 3) rfl rfl dX6_readWell_103 ?_
            refine k_getR C f_X6_13 (L6_s (by assumption)) (fun _ _ _ => rfl) (L6_1 (by assumption)) dX6_readWell_104 ?_
            refine k_iload_n C (f := 1) (i := 1) (p := 2) rfl rfl dX6_readWell_107 ?_
            refine k_iload_n C (f := 2) (i := 2) (p := 1) rfl rfl dX6_readWell_108 ?_
            refine k_iload_n C (f := 3) (i := 3) (p := 0) rfl rfl dX6_readWell_109 ?_
            refine k_callSg C s_X6_46 h_X6_addsWell (ct_X6_addsWell (A6_1 hx) qm qB (by rw [hs2]; exact hcnt)) rfl rfl (Nat.le_of_ble_eq_true rfl) ⟨Nat.le_of_ble_eq_true rfl, Nat.le_of_ble_eq_true rfl⟩ ⟨Nat.le_of_ble_eq_true rfl, Nat.le_of_ble_eq_true rfl⟩ ⟨rfl, rfl⟩ dX6_readWell_110 ?_
            intro v I6 hv
            obtain ⟨rfl, m6, g6⟩ := hv
            exact k_vret C (Nat.le_of_ble_eq_true rfl) (Nat.le_of_ble_eq_true rfl) (⟨rfl, ⟨rfl, by
                rw [rWell_S he1 he2 he3 he4 he5]
                first
                | (obtain ⟨x, hx5⟩ := sp_nok hc100
                   rw [hx5] at hP5 ⊢
                   exact hP5)
                | (rw [hs5]
                   exact MP_set hPk m6 g6 (qB.well (by rw [hs2]; exact hcnt)) (by rw [addWell_at (by omega)]; exact qL)), by
                first
                | exact F5.tr (f1_mpf g6)
                | exact F5, G5⟩⟩) dX6_readWell_113
      · skip
        refine k_aload_n C (f := 0) (i := 0) (p := 1) rfl rfl dX6_readWell_46 ?_
        refine k_getR C f_X6_13 (L6_s (by assumption)) (fun _ _ _ => rfl) (L6_1 (by assumption)) dX6_readWell_47 ?_
        refine k_iload_n C (f := 1) (i := 1) (p := 0) rfl rfl dX6_readWell_50 ?_
        refine k_callSp C s_X6_204 h_X6_wellOn (ct_X6_wellOn (A6_1 hx) hrd1 hBd1) rfl rfl (Nat.le_of_ble_eq_true rfl) ⟨Nat.le_of_ble_eq_true rfl, Nat.le_of_ble_eq_true rfl⟩ ⟨Nat.le_of_ble_eq_true rfl, Nat.le_of_ble_eq_true rfl⟩ ⟨rfl, rfl⟩ dX6_readWell_51 ?_
        refine k_if_ge C (tgt := 61) (by decide) dX6_readWell_54 (fun hc54 => ?_) (fun hc54 => ?_)
        · skip
          refine k_iconst C ic_0 dX6_readWell_61 ?_
          refine k_callVj C s_X6_191 h_X6_takes (L6_s (by assumption)) rfl (ct_X6_takes hx (F1.txt ht) hP1) rfl rfl (Nat.le_of_ble_eq_true rfl) ⟨Nat.le_of_ble_eq_true rfl, Nat.le_of_ble_eq_true rfl⟩ ⟨Nat.le_of_ble_eq_true rfl, Nat.le_of_ble_eq_true rfl⟩ ⟨rfl, rfl⟩ dX6_readWell_62 ?_
          intro v I2 J2 hv
          obtain ⟨rfl, hP2, F2, G2⟩ := hv
          have F2 := F1.tr F2
          have G2 := G1.tr G2
          have hg2 : ∃ z : Except Nat sp_S, MP I2 J2 y tb n z ∧ z = sp_bd (md_gt md_pw e1) (md_nx tb n) := ⟨_, hP2, by
            first
            | exact md_gt1 (fun s hs => by
                subst hs
                obtain ⟨L, hL, hL9⟩ := hP1.2.2.2.2.2
                have z := hrs1 s rfl
                subst z
                have m15 := hP1.2.2.1.2.2.2.1
                have m14 := hP1.2.2.1.1
                have mb4 := hP1.2.2.1.2.2.2.2.2.2.2.2
                have mb1 := hP1.2.2.1.2.2.2.2.2.1
                rw [m14] at hc33
                rw [m15] at hc43 hc54
                rw [hL] at hc43
                exact decide_eq_true ⟨(nI_eq (by omega) (by decide)).mp hc33, by rw [hL, nI_clamp (by omega)]; exact (nI_leI (by omega) (by omega)).mp (Int32.not_lt.mp hc43), (wellOn_or s.2 _).resolve_right (fun ⟨i, e, hi⟩ => by rw [e] at hc54; exact hc54 (nI_pos' (by omega)))⟩)
            | exact md_gt0 (fun s hs w => by
                subst hs
                obtain ⟨L, hL, hL9⟩ := hP1.2.2.2.2.2
                have z := hrs1 s rfl
                subst z
                have w2 := of_decide_eq_true w
                have m15 := hP1.2.2.1.2.2.2.1
                have m14 := hP1.2.2.1.1
                have mb4 := hP1.2.2.1.2.2.2.2.2.2.2.2
                first
                | exact hc33 (by rw [m14, w2.1])
                | exact absurd hc43 (by rw [m15, hL]; have w3 := w2.2.1; rw [hL, nI_clamp (by omega)] at w3; exact Int32.not_lt.mpr (nI_le w3 (by omega)))
                | exact absurd hc54 (by rw [m15, w2.2.2]; decide))⟩
          clear hP2
          obtain ⟨e2, hP2, he2⟩ := hg2
          refine k_pop C rfl dX6_readWell_65 ?_
          refine k_aload_n C (f := 0) (i := 0) (p := 1) rfl rfl dX6_readWell_66 ?_
          refine k_iconst C ic_1 dX6_readWell_67 ?_
          refine k_sipush C sc_999 dX6_readWell_68 ?_
          refine k_callVj C s_X6_201 h_X6_takesNumber (L6_s (by assumption)) rfl (ct_X6_takesNumber hx (F2.txt ht) hP2 (by decide)) rfl rfl (Nat.le_of_ble_eq_true rfl) ⟨Nat.le_of_ble_eq_true rfl, Nat.le_of_ble_eq_true rfl⟩ ⟨Nat.le_of_ble_eq_true rfl, Nat.le_of_ble_eq_true rfl⟩ ⟨rfl, rfl⟩ dX6_readWell_71 ?_
          intro v I3 J3 hv
          obtain ⟨rfl, hP3, F3, G3⟩ := hv
          have F3 := F2.tr F3
          have G3 := G2.tr G3
          obtain ⟨e3, he3⟩ : ∃ z : Except Nat sp_S, z = sp_tnS tb n 1 999 e2 := ⟨_, rfl⟩
          rw [← he3] at hP3
          refine k_istore_n C (f := 2) (i := 2) (lv := [(2, _), (1, _), (0, _)]) rfl (Nat.le_of_ble_eq_true rfl) rfl dX6_readWell_74 ?_
          refine k_aload_n C (f := 0) (i := 0) (p := 2) rfl rfl dX6_readWell_75 ?_
          refine k_iconst C ic_0 dX6_readWell_76 ?_
          refine k_bipush C bc_99 dX6_readWell_77 ?_
          refine k_callVj C s_X6_201 h_X6_takesNumber (L6_s (by assumption)) rfl (ct_X6_takesNumber hx (F3.txt ht) hP3 (by decide)) rfl rfl (Nat.le_of_ble_eq_true rfl) ⟨Nat.le_of_ble_eq_true rfl, Nat.le_of_ble_eq_true rfl⟩ ⟨Nat.le_of_ble_eq_true rfl, Nat.le_of_ble_eq_true rfl⟩ ⟨rfl, rfl⟩ dX6_readWell_79 ?_
          intro v I4 J4 hv
          obtain ⟨rfl, hP4, F4, G4⟩ := hv
          have F4 := F3.tr F4
          have G4 := G3.tr G4
          obtain ⟨e4, he4⟩ : ∃ z : Except Nat sp_S, z = sp_tnS tb n 0 99 e3 := ⟨_, rfl⟩
          rw [← he4] at hP4
          refine k_istore_n C (f := 3) (i := 3) (lv := [(3, _), (2, _), (1, _), (0, _)]) rfl (Nat.le_of_ble_eq_true rfl) rfl dX6_readWell_82 ?_
          refine k_aload_n C (f := 0) (i := 0) (p := 3) rfl rfl dX6_readWell_83 ?_
          refine k_aload_n C (f := 0) (i := 0) (p := 3) rfl rfl dX6_readWell_84 ?_
          refine k_getI C f_X6_164 (L6_s (by assumption)) (fun _ _ _ => rfl) (rfl) dX6_readWell_85 ?_
          refine k_iconst C ic_3 dX6_readWell_88 ?_
          refine k_icmp_ne C (tgt := 96) (by decide) dX6_readWell_89 (fun hc89 => ?_) (fun hc89 => ?_)
          · skip
            refine k_iconst C ic_0 dX6_readWell_96 ?_
            refine k_callVj C s_X6_191 h_X6_takes (L6_s (by assumption)) rfl (ct_X6_takes hx (F4.txt ht) hP4) rfl rfl (Nat.le_of_ble_eq_true rfl) ⟨Nat.le_of_ble_eq_true rfl, Nat.le_of_ble_eq_true rfl⟩ ⟨Nat.le_of_ble_eq_true rfl, Nat.le_of_ble_eq_true rfl⟩ ⟨rfl, rfl⟩ dX6_readWell_97 ?_
            intro v I5 J5 hv
            obtain ⟨rfl, hP5, F5, G5⟩ := hv
            have F5 := F4.tr F5
            have G5 := G4.tr G5
            rw [show sp_tk tb n _ e4 = sp_tsS tb n e4 from by first | exact sp_tkS1 hP4 hc89 | exact sp_tkS0 hP4 hc89] at hP5 ⊢
            obtain ⟨e5, he5⟩ : ∃ z : Except Nat sp_S, z = sp_tsS tb n e4 := ⟨_, rfl⟩
            rw [← he5] at hP5 ⊢
            refine k_ifb_eq C (tgt := 113) (by decide) dX6_readWell_100 (fun hc100 => ?_) (fun hc100 => ?_)
            · skip
              exact k_vret C (Nat.le_of_ble_eq_true rfl) (Nat.le_of_ble_eq_true rfl) (⟨rfl, ⟨rfl, by
                  rw [rWell_S he1 he2 he3 he4 he5]
                  first
                  | (obtain ⟨x, hx5⟩ := sp_nok hc100
                     rw [hx5] at hP5 ⊢
                     exact hP5)
                  | (rw [hs5]
                     exact MP_set hPk m6 g6 (qB.well (by rw [hs2]; exact hcnt)) (by rw [addWell_at (by omega)]; exact qL)), by
                  first
                  | exact F5.tr (f1_mpf g6)
                  | exact F5, G5⟩⟩) dX6_readWell_113
            · skip
              obtain ⟨s5, hs5⟩ := sp_ok_iff.mp hc100
              have hrow : ∃ s : sp_S, e = .ok s ∧ sp_nw s.2 < 8 ∧ s5.2 = s.2 := by
                obtain ⟨a4, b4, d4⟩ := tsS_inv (he5.symm.trans hs5)
                obtain ⟨a3, b3, d3⟩ := tnS_inv (he4.symm.trans b4)
                obtain ⟨a2, b2, d2⟩ := tnS_inv (he3.symm.trans b3)
                obtain ⟨a1, b1, p1, d1⟩ := md_gt_inv (he2.symm.trans b2)
                obtain ⟨a0, b0, p0, d0⟩ := md_gt_inv (he1.symm.trans b1)
                exact ⟨a0, b0, of_decide_eq_true p0, d4.trans (d3.trans (d2.trans (d1.trans d0)))⟩
              have hv1 : I1 y 15 = nI (md_v e1) := by
                obtain ⟨a4, b4, d4⟩ := tsS_inv (he5.symm.trans hs5)
                obtain ⟨a3, b3, d3⟩ := tnS_inv (he4.symm.trans b4)
                obtain ⟨a2, b2, d2⟩ := tnS_inv (he3.symm.trans b3)
                obtain ⟨a1, b1, p1, d1⟩ := md_gt_inv (he2.symm.trans b2)
                rw [b1] at hP1 ⊢
                exact hP1.2.2.1.2.2.2.1
              rw [hv1]
              obtain ⟨s0, hs0, hcnt, hs2⟩ := hrow
              have hPk := hP5
              rw [hs5] at hPk
              obtain ⟨q17, q9, qT, qm, qB, qL⟩ := id hPk
              refine k_aload_n C (f := 0) (i := 0) (p := 3) rfl rfl dX6_readWell_103 ?_
              refine k_getR C f_X6_13 (L6_s (by assumption)) (fun _ _ _ => rfl) (L6_1 (by assumption)) dX6_readWell_104 ?_
              refine k_iload_n C (f := 1) (i := 1) (p := 2) rfl rfl dX6_readWell_107 ?_
              refine k_iload_n C (f := 2) (i := 2) (p := 1) rfl rfl dX6_readWell_108 ?_
              refine k_iload_n C (f := 3) (i := 3) (p := 0) rfl rfl dX6_readWell_109 ?_
              refine k_callSg C s_X6_46 h_X6_addsWell (ct_X6_addsWell (A6_1 hx) qm qB (by rw [hs2]; exact hcnt)) rfl rfl (Nat.le_of_ble_eq_true rfl) ⟨Nat.le_of_ble_eq_true rfl, Nat.le_of_ble_eq_true rfl⟩ ⟨Nat.le_of_ble_eq_true rfl, Nat.le_of_ble_eq_true rfl⟩ ⟨rfl, rfl⟩ dX6_readWell_110 ?_
              intro v I6 hv
              obtain ⟨rfl, m6, g6⟩ := hv
              exact k_vret C (Nat.le_of_ble_eq_true rfl) (Nat.le_of_ble_eq_true rfl) (⟨rfl, ⟨rfl, by
                  rw [rWell_S he1 he2 he3 he4 he5]
                  first
                  | (obtain ⟨x, hx5⟩ := sp_nok hc100
                     rw [hx5] at hP5 ⊢
                     exact hP5)
                  | (rw [hs5]
                     exact MP_set hPk m6 g6 (qB.well (by rw [hs2]; exact hcnt)) (by rw [addWell_at (by omega)]; exact qL)), by
                  first
                  | exact F5.tr (f1_mpf g6)
                  | exact F5, G5⟩⟩) dX6_readWell_113
          · skip
            refine k_iconst C ic_1 dX6_readWell_92 ?_
            refine k_goto C (tgt := 97) (by decide) dX6_readWell_93 ?_
            refine k_callVj C s_X6_191 h_X6_takes (L6_s (by assumption)) rfl (ct_X6_takes hx (F4.txt ht) hP4) rfl rfl (Nat.le_of_ble_eq_true rfl) ⟨Nat.le_of_ble_eq_true rfl, Nat.le_of_ble_eq_true rfl⟩ ⟨Nat.le_of_ble_eq_true rfl, Nat.le_of_ble_eq_true rfl⟩ ⟨rfl, rfl⟩ dX6_readWell_97 ?_
            intro v I5 J5 hv
            obtain ⟨rfl, hP5, F5, G5⟩ := hv
            have F5 := F4.tr F5
            have G5 := G4.tr G5
            rw [show sp_tk tb n _ e4 = sp_tsS tb n e4 from by first | exact sp_tkS1 hP4 hc89 | exact sp_tkS0 hP4 hc89] at hP5 ⊢
            obtain ⟨e5, he5⟩ : ∃ z : Except Nat sp_S, z = sp_tsS tb n e4 := ⟨_, rfl⟩
            rw [← he5] at hP5 ⊢
            refine k_ifb_eq C (tgt := 113) (by decide) dX6_readWell_100 (fun hc100 => ?_) (fun hc100 => ?_)
            · skip
              exact k_vret C (Nat.le_of_ble_eq_true rfl) (Nat.le_of_ble_eq_true rfl) (⟨rfl, ⟨rfl, by
                  rw [rWell_S he1 he2 he3 he4 he5]
                  first
                  | (obtain ⟨x, hx5⟩ := sp_nok hc100
                     rw [hx5] at hP5 ⊢
                     exact hP5)
                  | (rw [hs5]
                     exact MP_set hPk m6 g6 (qB.well (by rw [hs2]; exact hcnt)) (by rw [addWell_at (by omega)]; exact qL)), by
                  first
                  | exact F5.tr (f1_mpf g6)
                  | exact F5, G5⟩⟩) dX6_readWell_113
            · skip
              obtain ⟨s5, hs5⟩ := sp_ok_iff.mp hc100
              have hrow : ∃ s : sp_S, e = .ok s ∧ sp_nw s.2 < 8 ∧ s5.2 = s.2 := by
                obtain ⟨a4, b4, d4⟩ := tsS_inv (he5.symm.trans hs5)
                obtain ⟨a3, b3, d3⟩ := tnS_inv (he4.symm.trans b4)
                obtain ⟨a2, b2, d2⟩ := tnS_inv (he3.symm.trans b3)
                obtain ⟨a1, b1, p1, d1⟩ := md_gt_inv (he2.symm.trans b2)
                obtain ⟨a0, b0, p0, d0⟩ := md_gt_inv (he1.symm.trans b1)
                exact ⟨a0, b0, of_decide_eq_true p0, d4.trans (d3.trans (d2.trans (d1.trans d0)))⟩
              have hv1 : I1 y 15 = nI (md_v e1) := by
                obtain ⟨a4, b4, d4⟩ := tsS_inv (he5.symm.trans hs5)
                obtain ⟨a3, b3, d3⟩ := tnS_inv (he4.symm.trans b4)
                obtain ⟨a2, b2, d2⟩ := tnS_inv (he3.symm.trans b3)
                obtain ⟨a1, b1, p1, d1⟩ := md_gt_inv (he2.symm.trans b2)
                rw [b1] at hP1 ⊢
                exact hP1.2.2.1.2.2.2.1
              rw [hv1]
              obtain ⟨s0, hs0, hcnt, hs2⟩ := hrow
              have hPk := hP5
              rw [hs5] at hPk
              obtain ⟨q17, q9, qT, qm, qB, qL⟩ := id hPk
              refine k_aload_n C (f := 0) (i := 0) (p := 3) rfl rfl dX6_readWell_103 ?_
              refine k_getR C f_X6_13 (L6_s (by assumption)) (fun _ _ _ => rfl) (L6_1 (by assumption)) dX6_readWell_104 ?_
              refine k_iload_n C (f := 1) (i := 1) (p := 2) rfl rfl dX6_readWell_107 ?_
              refine k_iload_n C (f := 2) (i := 2) (p := 1) rfl rfl dX6_readWell_108 ?_
              refine k_iload_n C (f := 3) (i := 3) (p := 0) rfl rfl dX6_readWell_109 ?_
              refine k_callSg C s_X6_46 h_X6_addsWell (ct_X6_addsWell (A6_1 hx) qm qB (by rw [hs2]; exact hcnt)) rfl rfl (Nat.le_of_ble_eq_true rfl) ⟨Nat.le_of_ble_eq_true rfl, Nat.le_of_ble_eq_true rfl⟩ ⟨Nat.le_of_ble_eq_true rfl, Nat.le_of_ble_eq_true rfl⟩ ⟨rfl, rfl⟩ dX6_readWell_110 ?_
              intro v I6 hv
              obtain ⟨rfl, m6, g6⟩ := hv
              exact k_vret C (Nat.le_of_ble_eq_true rfl) (Nat.le_of_ble_eq_true rfl) (⟨rfl, ⟨rfl, by
                  rw [rWell_S he1 he2 he3 he4 he5]
                  first
                  | (obtain ⟨x, hx5⟩ := sp_nok hc100
                     rw [hx5] at hP5 ⊢
                     exact hP5)
                  | (rw [hs5]
                     exact MP_set hPk m6 g6 (qB.well (by rw [hs2]; exact hcnt)) (by rw [addWell_at (by omega)]; exact qL)), by
                  first
                  | exact F5.tr (f1_mpf g6)
                  | exact F5, G5⟩⟩) dX6_readWell_113
        · skip
          refine k_iconst C ic_1 dX6_readWell_57 ?_
          refine k_goto C (tgt := 62) (by decide) dX6_readWell_58 ?_
          refine k_callVj C s_X6_191 h_X6_takes (L6_s (by assumption)) rfl (ct_X6_takes hx (F1.txt ht) hP1) rfl rfl (Nat.le_of_ble_eq_true rfl) ⟨Nat.le_of_ble_eq_true rfl, Nat.le_of_ble_eq_true rfl⟩ ⟨Nat.le_of_ble_eq_true rfl, Nat.le_of_ble_eq_true rfl⟩ ⟨rfl, rfl⟩ dX6_readWell_62 ?_
          intro v I2 J2 hv
          obtain ⟨rfl, hP2, F2, G2⟩ := hv
          have F2 := F1.tr F2
          have G2 := G1.tr G2
          have hg2 : ∃ z : Except Nat sp_S, MP I2 J2 y tb n z ∧ z = sp_bd (md_gt md_pw e1) (md_nx tb n) := ⟨_, hP2, by
            first
            | exact md_gt1 (fun s hs => by
                subst hs
                obtain ⟨L, hL, hL9⟩ := hP1.2.2.2.2.2
                have z := hrs1 s rfl
                subst z
                have m15 := hP1.2.2.1.2.2.2.1
                have m14 := hP1.2.2.1.1
                have mb4 := hP1.2.2.1.2.2.2.2.2.2.2.2
                have mb1 := hP1.2.2.1.2.2.2.2.2.1
                rw [m14] at hc33
                rw [m15] at hc43 hc54
                rw [hL] at hc43
                exact decide_eq_true ⟨(nI_eq (by omega) (by decide)).mp hc33, by rw [hL, nI_clamp (by omega)]; exact (nI_leI (by omega) (by omega)).mp (Int32.not_lt.mp hc43), (wellOn_or s.2 _).resolve_right (fun ⟨i, e, hi⟩ => by rw [e] at hc54; exact hc54 (nI_pos' (by omega)))⟩)
            | exact md_gt0 (fun s hs w => by
                subst hs
                obtain ⟨L, hL, hL9⟩ := hP1.2.2.2.2.2
                have z := hrs1 s rfl
                subst z
                have w2 := of_decide_eq_true w
                have m15 := hP1.2.2.1.2.2.2.1
                have m14 := hP1.2.2.1.1
                have mb4 := hP1.2.2.1.2.2.2.2.2.2.2.2
                first
                | exact hc33 (by rw [m14, w2.1])
                | exact absurd hc43 (by rw [m15, hL]; have w3 := w2.2.1; rw [hL, nI_clamp (by omega)] at w3; exact Int32.not_lt.mpr (nI_le w3 (by omega)))
                | exact absurd hc54 (by rw [m15, w2.2.2]; decide))⟩
          clear hP2
          obtain ⟨e2, hP2, he2⟩ := hg2
          refine k_pop C rfl dX6_readWell_65 ?_
          refine k_aload_n C (f := 0) (i := 0) (p := 1) rfl rfl dX6_readWell_66 ?_
          refine k_iconst C ic_1 dX6_readWell_67 ?_
          refine k_sipush C sc_999 dX6_readWell_68 ?_
          refine k_callVj C s_X6_201 h_X6_takesNumber (L6_s (by assumption)) rfl (ct_X6_takesNumber hx (F2.txt ht) hP2 (by decide)) rfl rfl (Nat.le_of_ble_eq_true rfl) ⟨Nat.le_of_ble_eq_true rfl, Nat.le_of_ble_eq_true rfl⟩ ⟨Nat.le_of_ble_eq_true rfl, Nat.le_of_ble_eq_true rfl⟩ ⟨rfl, rfl⟩ dX6_readWell_71 ?_
          intro v I3 J3 hv
          obtain ⟨rfl, hP3, F3, G3⟩ := hv
          have F3 := F2.tr F3
          have G3 := G2.tr G3
          obtain ⟨e3, he3⟩ : ∃ z : Except Nat sp_S, z = sp_tnS tb n 1 999 e2 := ⟨_, rfl⟩
          rw [← he3] at hP3
          refine k_istore_n C (f := 2) (i := 2) (lv := [(2, _), (1, _), (0, _)]) rfl (Nat.le_of_ble_eq_true rfl) rfl dX6_readWell_74 ?_
          refine k_aload_n C (f := 0) (i := 0) (p := 2) rfl rfl dX6_readWell_75 ?_
          refine k_iconst C ic_0 dX6_readWell_76 ?_
          refine k_bipush C bc_99 dX6_readWell_77 ?_
          refine k_callVj C s_X6_201 h_X6_takesNumber (L6_s (by assumption)) rfl (ct_X6_takesNumber hx (F3.txt ht) hP3 (by decide)) rfl rfl (Nat.le_of_ble_eq_true rfl) ⟨Nat.le_of_ble_eq_true rfl, Nat.le_of_ble_eq_true rfl⟩ ⟨Nat.le_of_ble_eq_true rfl, Nat.le_of_ble_eq_true rfl⟩ ⟨rfl, rfl⟩ dX6_readWell_79 ?_
          intro v I4 J4 hv
          obtain ⟨rfl, hP4, F4, G4⟩ := hv
          have F4 := F3.tr F4
          have G4 := G3.tr G4
          obtain ⟨e4, he4⟩ : ∃ z : Except Nat sp_S, z = sp_tnS tb n 0 99 e3 := ⟨_, rfl⟩
          rw [← he4] at hP4
          refine k_istore_n C (f := 3) (i := 3) (lv := [(3, _), (2, _), (1, _), (0, _)]) rfl (Nat.le_of_ble_eq_true rfl) rfl dX6_readWell_82 ?_
          refine k_aload_n C (f := 0) (i := 0) (p := 3) rfl rfl dX6_readWell_83 ?_
          refine k_aload_n C (f := 0) (i := 0) (p := 3) rfl rfl dX6_readWell_84 ?_
          refine k_getI C f_X6_164 (L6_s (by assumption)) (fun _ _ _ => rfl) (rfl) dX6_readWell_85 ?_
          refine k_iconst C ic_3 dX6_readWell_88 ?_
          refine k_icmp_ne C (tgt := 96) (by decide) dX6_readWell_89 (fun hc89 => ?_) (fun hc89 => ?_)
          · skip
            refine k_iconst C ic_0 dX6_readWell_96 ?_
            refine k_callVj C s_X6_191 h_X6_takes (L6_s (by assumption)) rfl (ct_X6_takes hx (F4.txt ht) hP4) rfl rfl (Nat.le_of_ble_eq_true rfl) ⟨Nat.le_of_ble_eq_true rfl, Nat.le_of_ble_eq_true rfl⟩ ⟨Nat.le_of_ble_eq_true rfl, Nat.le_of_ble_eq_true rfl⟩ ⟨rfl, rfl⟩ dX6_readWell_97 ?_
            intro v I5 J5 hv
            obtain ⟨rfl, hP5, F5, G5⟩ := hv
            have F5 := F4.tr F5
            have G5 := G4.tr G5
            rw [show sp_tk tb n _ e4 = sp_tsS tb n e4 from by first | exact sp_tkS1 hP4 hc89 | exact sp_tkS0 hP4 hc89] at hP5 ⊢
            obtain ⟨e5, he5⟩ : ∃ z : Except Nat sp_S, z = sp_tsS tb n e4 := ⟨_, rfl⟩
            rw [← he5] at hP5 ⊢
            refine k_ifb_eq C (tgt := 113) (by decide) dX6_readWell_100 (fun hc100 => ?_) (fun hc100 => ?_)
            · skip
              exact k_vret C (Nat.le_of_ble_eq_true rfl) (Nat.le_of_ble_eq_true rfl) (⟨rfl, ⟨rfl, by
                  rw [rWell_S he1 he2 he3 he4 he5]
                  first
                  | (obtain ⟨x, hx5⟩ := sp_nok hc100
                     rw [hx5] at hP5 ⊢
                     exact hP5)
                  | (rw [hs5]
                     exact MP_set hPk m6 g6 (qB.well (by rw [hs2]; exact hcnt)) (by rw [addWell_at (by omega)]; exact qL)), by
                  first
                  | exact F5.tr (f1_mpf g6)
                  | exact F5, G5⟩⟩) dX6_readWell_113
            · skip
              obtain ⟨s5, hs5⟩ := sp_ok_iff.mp hc100
              have hrow : ∃ s : sp_S, e = .ok s ∧ sp_nw s.2 < 8 ∧ s5.2 = s.2 := by
                obtain ⟨a4, b4, d4⟩ := tsS_inv (he5.symm.trans hs5)
                obtain ⟨a3, b3, d3⟩ := tnS_inv (he4.symm.trans b4)
                obtain ⟨a2, b2, d2⟩ := tnS_inv (he3.symm.trans b3)
                obtain ⟨a1, b1, p1, d1⟩ := md_gt_inv (he2.symm.trans b2)
                obtain ⟨a0, b0, p0, d0⟩ := md_gt_inv (he1.symm.trans b1)
                exact ⟨a0, b0, of_decide_eq_true p0, d4.trans (d3.trans (d2.trans (d1.trans d0)))⟩
              have hv1 : I1 y 15 = nI (md_v e1) := by
                obtain ⟨a4, b4, d4⟩ := tsS_inv (he5.symm.trans hs5)
                obtain ⟨a3, b3, d3⟩ := tnS_inv (he4.symm.trans b4)
                obtain ⟨a2, b2, d2⟩ := tnS_inv (he3.symm.trans b3)
                obtain ⟨a1, b1, p1, d1⟩ := md_gt_inv (he2.symm.trans b2)
                rw [b1] at hP1 ⊢
                exact hP1.2.2.1.2.2.2.1
              rw [hv1]
              obtain ⟨s0, hs0, hcnt, hs2⟩ := hrow
              have hPk := hP5
              rw [hs5] at hPk
              obtain ⟨q17, q9, qT, qm, qB, qL⟩ := id hPk
              refine k_aload_n C (f := 0) (i := 0) (p := 3) rfl rfl dX6_readWell_103 ?_
              refine k_getR C f_X6_13 (L6_s (by assumption)) (fun _ _ _ => rfl) (L6_1 (by assumption)) dX6_readWell_104 ?_
              refine k_iload_n C (f := 1) (i := 1) (p := 2) rfl rfl dX6_readWell_107 ?_
              refine k_iload_n C (f := 2) (i := 2) (p := 1) rfl rfl dX6_readWell_108 ?_
              refine k_iload_n C (f := 3) (i := 3) (p := 0) rfl rfl dX6_readWell_109 ?_
              refine k_callSg C s_X6_46 h_X6_addsWell (ct_X6_addsWell (A6_1 hx) qm qB (by rw [hs2]; exact hcnt)) rfl rfl (Nat.le_of_ble_eq_true rfl) ⟨Nat.le_of_ble_eq_true rfl, Nat.le_of_ble_eq_true rfl⟩ ⟨Nat.le_of_ble_eq_true rfl, Nat.le_of_ble_eq_true rfl⟩ ⟨rfl, rfl⟩ dX6_readWell_110 ?_
              intro v I6 hv
              obtain ⟨rfl, m6, g6⟩ := hv
              exact k_vret C (Nat.le_of_ble_eq_true rfl) (Nat.le_of_ble_eq_true rfl) (⟨rfl, ⟨rfl, by
                  rw [rWell_S he1 he2 he3 he4 he5]
                  first
                  | (obtain ⟨x, hx5⟩ := sp_nok hc100
                     rw [hx5] at hP5 ⊢
                     exact hP5)
                  | (rw [hs5]
                     exact MP_set hPk m6 g6 (qB.well (by rw [hs2]; exact hcnt)) (by rw [addWell_at (by omega)]; exact qL)), by
                  first
                  | exact F5.tr (f1_mpf g6)
                  | exact F5, G5⟩⟩) dX6_readWell_113
          · skip
            refine k_iconst C ic_1 dX6_readWell_92 ?_
            refine k_goto C (tgt := 97) (by decide) dX6_readWell_93 ?_
            refine k_callVj C s_X6_191 h_X6_takes (L6_s (by assumption)) rfl (ct_X6_takes hx (F4.txt ht) hP4) rfl rfl (Nat.le_of_ble_eq_true rfl) ⟨Nat.le_of_ble_eq_true rfl, Nat.le_of_ble_eq_true rfl⟩ ⟨Nat.le_of_ble_eq_true rfl, Nat.le_of_ble_eq_true rfl⟩ ⟨rfl, rfl⟩ dX6_readWell_97 ?_
            intro v I5 J5 hv
            obtain ⟨rfl, hP5, F5, G5⟩ := hv
            have F5 := F4.tr F5
            have G5 := G4.tr G5
            rw [show sp_tk tb n _ e4 = sp_tsS tb n e4 from by first | exact sp_tkS1 hP4 hc89 | exact sp_tkS0 hP4 hc89] at hP5 ⊢
            obtain ⟨e5, he5⟩ : ∃ z : Except Nat sp_S, z = sp_tsS tb n e4 := ⟨_, rfl⟩
            rw [← he5] at hP5 ⊢
            refine k_ifb_eq C (tgt := 113) (by decide) dX6_readWell_100 (fun hc100 => ?_) (fun hc100 => ?_)
            · skip
              exact k_vret C (Nat.le_of_ble_eq_true rfl) (Nat.le_of_ble_eq_true rfl) (⟨rfl, ⟨rfl, by
                  rw [rWell_S he1 he2 he3 he4 he5]
                  first
                  | (obtain ⟨x, hx5⟩ := sp_nok hc100
                     rw [hx5] at hP5 ⊢
                     exact hP5)
                  | (rw [hs5]
                     exact MP_set hPk m6 g6 (qB.well (by rw [hs2]; exact hcnt)) (by rw [addWell_at (by omega)]; exact qL)), by
                  first
                  | exact F5.tr (f1_mpf g6)
                  | exact F5, G5⟩⟩) dX6_readWell_113
            · skip
              obtain ⟨s5, hs5⟩ := sp_ok_iff.mp hc100
              have hrow : ∃ s : sp_S, e = .ok s ∧ sp_nw s.2 < 8 ∧ s5.2 = s.2 := by
                obtain ⟨a4, b4, d4⟩ := tsS_inv (he5.symm.trans hs5)
                obtain ⟨a3, b3, d3⟩ := tnS_inv (he4.symm.trans b4)
                obtain ⟨a2, b2, d2⟩ := tnS_inv (he3.symm.trans b3)
                obtain ⟨a1, b1, p1, d1⟩ := md_gt_inv (he2.symm.trans b2)
                obtain ⟨a0, b0, p0, d0⟩ := md_gt_inv (he1.symm.trans b1)
                exact ⟨a0, b0, of_decide_eq_true p0, d4.trans (d3.trans (d2.trans (d1.trans d0)))⟩
              have hv1 : I1 y 15 = nI (md_v e1) := by
                obtain ⟨a4, b4, d4⟩ := tsS_inv (he5.symm.trans hs5)
                obtain ⟨a3, b3, d3⟩ := tnS_inv (he4.symm.trans b4)
                obtain ⟨a2, b2, d2⟩ := tnS_inv (he3.symm.trans b3)
                obtain ⟨a1, b1, p1, d1⟩ := md_gt_inv (he2.symm.trans b2)
                rw [b1] at hP1 ⊢
                exact hP1.2.2.1.2.2.2.1
              rw [hv1]
              obtain ⟨s0, hs0, hcnt, hs2⟩ := hrow
              have hPk := hP5
              rw [hs5] at hPk
              obtain ⟨q17, q9, qT, qm, qB, qL⟩ := id hPk
              refine k_aload_n C (f := 0) (i := 0) (p := 3) rfl rfl dX6_readWell_103 ?_
              refine k_getR C f_X6_13 (L6_s (by assumption)) (fun _ _ _ => rfl) (L6_1 (by assumption)) dX6_readWell_104 ?_
              refine k_iload_n C (f := 1) (i := 1) (p := 2) rfl rfl dX6_readWell_107 ?_
              refine k_iload_n C (f := 2) (i := 2) (p := 1) rfl rfl dX6_readWell_108 ?_
              refine k_iload_n C (f := 3) (i := 3) (p := 0) rfl rfl dX6_readWell_109 ?_
              refine k_callSg C s_X6_46 h_X6_addsWell (ct_X6_addsWell (A6_1 hx) qm qB (by rw [hs2]; exact hcnt)) rfl rfl (Nat.le_of_ble_eq_true rfl) ⟨Nat.le_of_ble_eq_true rfl, Nat.le_of_ble_eq_true rfl⟩ ⟨Nat.le_of_ble_eq_true rfl, Nat.le_of_ble_eq_true rfl⟩ ⟨rfl, rfl⟩ dX6_readWell_110 ?_
              intro v I6 hv
              obtain ⟨rfl, m6, g6⟩ := hv
              exact k_vret C (Nat.le_of_ble_eq_true rfl) (Nat.le_of_ble_eq_true rfl) (⟨rfl, ⟨rfl, by
                  rw [rWell_S he1 he2 he3 he4 he5]
                  first
                  | (obtain ⟨x, hx5⟩ := sp_nok hc100
                     rw [hx5] at hP5 ⊢
                     exact hP5)
                  | (rw [hs5]
                     exact MP_set hPk m6 g6 (qB.well (by rw [hs2]; exact hcnt)) (by rw [addWell_at (by omega)]; exact qL)), by
                  first
                  | exact F5.tr (f1_mpf g6)
                  | exact F5, G5⟩⟩) dX6_readWell_113
  · skip
    refine k_iconst C ic_1 dX6_readWell_13 ?_
    refine k_goto C (tgt := 18) (by decide) dX6_readWell_14 ?_
    refine k_callVj C s_X6_191 h_X6_takes (L6_s (by assumption)) rfl (ct_X6_takes hx ht hP) rfl rfl (Nat.le_of_ble_eq_true rfl) ⟨Nat.le_of_ble_eq_true rfl, Nat.le_of_ble_eq_true rfl⟩ ⟨Nat.le_of_ble_eq_true rfl, Nat.le_of_ble_eq_true rfl⟩ ⟨rfl, rfl⟩ dX6_readWell_18 ?_
    intro v I1 J1 hv
    obtain ⟨rfl, hP1, F1, G1⟩ := hv
    have hg1 : ∃ z : Except Nat sp_S, MP I1 J1 y tb n z ∧ z = sp_bd (md_gt (fun s => decide (sp_nw s.2 < 8)) e) (md_nx tb n) := ⟨_, hP1, by
      first
      | exact md_gt1 (fun s hs => by
          subst hs
          have z := hrs s rfl
          subst z
          exact decide_eq_true (by omega))
      | exact md_gt0 (fun s hs w => by
          subst hs
          have z := hrs s rfl
          subst z
          have w2 := of_decide_eq_true w
          omega)⟩
    clear hP1
    obtain ⟨e1, hP1, he1⟩ := hg1
    obtain ⟨rd1, hrd1, hBd1, hrs1⟩ := MP_row hP1
    obtain ⟨⟨g6d, g7d, g8d, g9d⟩, gb6, gb7, gb8, gb9⟩ := id hBd1
    refine k_pop C rfl dX6_readWell_21 ?_
    refine k_aload_n C (f := 0) (i := 0) (p := 0) rfl rfl dX6_readWell_22 ?_
    refine k_getI C f_X6_157 (L6_s (by assumption)) (fun _ _ _ => rfl) (rfl) dX6_readWell_23 ?_
    refine k_istore_n C (f := 1) (i := 1) (lv := [(1, _), (0, _)]) rfl (Nat.le_of_ble_eq_true rfl) rfl dX6_readWell_26 ?_
    refine k_aload_n C (f := 0) (i := 0) (p := 1) rfl rfl dX6_readWell_27 ?_
    refine k_aload_n C (f := 0) (i := 0) (p := 1) rfl rfl dX6_readWell_28 ?_
    refine k_getI C f_X6_164 (L6_s (by assumption)) (fun _ _ _ => rfl) (rfl) dX6_readWell_29 ?_
    refine k_iconst C ic_2 dX6_readWell_32 ?_
    refine k_icmp_ne C (tgt := 61) (by decide) dX6_readWell_33 (fun hc33 => ?_) (fun hc33 => ?_)
    · skip
      refine k_iconst C ic_0 dX6_readWell_61 ?_
      refine k_callVj C s_X6_191 h_X6_takes (L6_s (by assumption)) rfl (ct_X6_takes hx (F1.txt ht) hP1) rfl rfl (Nat.le_of_ble_eq_true rfl) ⟨Nat.le_of_ble_eq_true rfl, Nat.le_of_ble_eq_true rfl⟩ ⟨Nat.le_of_ble_eq_true rfl, Nat.le_of_ble_eq_true rfl⟩ ⟨rfl, rfl⟩ dX6_readWell_62 ?_
      intro v I2 J2 hv
      obtain ⟨rfl, hP2, F2, G2⟩ := hv
      have F2 := F1.tr F2
      have G2 := G1.tr G2
      have hg2 : ∃ z : Except Nat sp_S, MP I2 J2 y tb n z ∧ z = sp_bd (md_gt md_pw e1) (md_nx tb n) := ⟨_, hP2, by
        first
        | exact md_gt1 (fun s hs => by
            subst hs
            obtain ⟨L, hL, hL9⟩ := hP1.2.2.2.2.2
            have z := hrs1 s rfl
            subst z
            have m15 := hP1.2.2.1.2.2.2.1
            have m14 := hP1.2.2.1.1
            have mb4 := hP1.2.2.1.2.2.2.2.2.2.2.2
            have mb1 := hP1.2.2.1.2.2.2.2.2.1
            rw [m14] at hc33
            rw [m15] at hc43 hc54
            rw [hL] at hc43
            exact decide_eq_true ⟨(nI_eq (by omega) (by decide)).mp hc33, by rw [hL, nI_clamp (by omega)]; exact (nI_leI (by omega) (by omega)).mp (Int32.not_lt.mp hc43), (wellOn_or s.2 _).resolve_right (fun ⟨i, e, hi⟩ => by rw [e] at hc54; exact hc54 (nI_pos' (by omega)))⟩)
        | exact md_gt0 (fun s hs w => by
            subst hs
            obtain ⟨L, hL, hL9⟩ := hP1.2.2.2.2.2
            have z := hrs1 s rfl
            subst z
            have w2 := of_decide_eq_true w
            have m15 := hP1.2.2.1.2.2.2.1
            have m14 := hP1.2.2.1.1
            have mb4 := hP1.2.2.1.2.2.2.2.2.2.2.2
            first
            | exact hc33 (by rw [m14, w2.1])
            | exact absurd hc43 (by rw [m15, hL]; have w3 := w2.2.1; rw [hL, nI_clamp (by omega)] at w3; exact Int32.not_lt.mpr (nI_le w3 (by omega)))
            | exact absurd hc54 (by rw [m15, w2.2.2]; decide))⟩
      clear hP2
      obtain ⟨e2, hP2, he2⟩ := hg2
      refine k_pop C rfl dX6_readWell_65 ?_
      refine k_aload_n C (f := 0) (i := 0) (p := 1) rfl rfl dX6_readWell_66 ?_
      refine k_iconst C ic_1 dX6_readWell_67 ?_
      refine k_sipush C sc_999 dX6_readWell_68 ?_
      refine k_callVj C s_X6_201 h_X6_takesNumber (L6_s (by assumption)) rfl (ct_X6_takesNumber hx (F2.txt ht) hP2 (by decide)) rfl rfl (Nat.le_of_ble_eq_true rfl) ⟨Nat.le_of_ble_eq_true rfl, Nat.le_of_ble_eq_true rfl⟩ ⟨Nat.le_of_ble_eq_true rfl, Nat.le_of_ble_eq_true rfl⟩ ⟨rfl, rfl⟩ dX6_readWell_71 ?_
      intro v I3 J3 hv
      obtain ⟨rfl, hP3, F3, G3⟩ := hv
      have F3 := F2.tr F3
      have G3 := G2.tr G3
      obtain ⟨e3, he3⟩ : ∃ z : Except Nat sp_S, z = sp_tnS tb n 1 999 e2 := ⟨_, rfl⟩
      rw [← he3] at hP3
      refine k_istore_n C (f := 2) (i := 2) (lv := [(2, _), (1, _), (0, _)]) rfl (Nat.le_of_ble_eq_true rfl) rfl dX6_readWell_74 ?_
      refine k_aload_n C (f := 0) (i := 0) (p := 2) rfl rfl dX6_readWell_75 ?_
      refine k_iconst C ic_0 dX6_readWell_76 ?_
      refine k_bipush C bc_99 dX6_readWell_77 ?_
      refine k_callVj C s_X6_201 h_X6_takesNumber (L6_s (by assumption)) rfl (ct_X6_takesNumber hx (F3.txt ht) hP3 (by decide)) rfl rfl (Nat.le_of_ble_eq_true rfl) ⟨Nat.le_of_ble_eq_true rfl, Nat.le_of_ble_eq_true rfl⟩ ⟨Nat.le_of_ble_eq_true rfl, Nat.le_of_ble_eq_true rfl⟩ ⟨rfl, rfl⟩ dX6_readWell_79 ?_
      intro v I4 J4 hv
      obtain ⟨rfl, hP4, F4, G4⟩ := hv
      have F4 := F3.tr F4
      have G4 := G3.tr G4
      obtain ⟨e4, he4⟩ : ∃ z : Except Nat sp_S, z = sp_tnS tb n 0 99 e3 := ⟨_, rfl⟩
      rw [← he4] at hP4
      refine k_istore_n C (f := 3) (i := 3) (lv := [(3, _), (2, _), (1, _), (0, _)]) rfl (Nat.le_of_ble_eq_true rfl) rfl dX6_readWell_82 ?_
      refine k_aload_n C (f := 0) (i := 0) (p := 3) rfl rfl dX6_readWell_83 ?_
      refine k_aload_n C (f := 0) (i := 0) (p := 3) rfl rfl dX6_readWell_84 ?_
      refine k_getI C f_X6_164 (L6_s (by assumption)) (fun _ _ _ => rfl) (rfl) dX6_readWell_85 ?_
      refine k_iconst C ic_3 dX6_readWell_88 ?_
      refine k_icmp_ne C (tgt := 96) (by decide) dX6_readWell_89 (fun hc89 => ?_) (fun hc89 => ?_)
      · skip
        refine k_iconst C ic_0 dX6_readWell_96 ?_
        refine k_callVj C s_X6_191 h_X6_takes (L6_s (by assumption)) rfl (ct_X6_takes hx (F4.txt ht) hP4) rfl rfl (Nat.le_of_ble_eq_true rfl) ⟨Nat.le_of_ble_eq_true rfl, Nat.le_of_ble_eq_true rfl⟩ ⟨Nat.le_of_ble_eq_true rfl, Nat.le_of_ble_eq_true rfl⟩ ⟨rfl, rfl⟩ dX6_readWell_97 ?_
        intro v I5 J5 hv
        obtain ⟨rfl, hP5, F5, G5⟩ := hv
        have F5 := F4.tr F5
        have G5 := G4.tr G5
        rw [show sp_tk tb n _ e4 = sp_tsS tb n e4 from by first | exact sp_tkS1 hP4 hc89 | exact sp_tkS0 hP4 hc89] at hP5 ⊢
        obtain ⟨e5, he5⟩ : ∃ z : Except Nat sp_S, z = sp_tsS tb n e4 := ⟨_, rfl⟩
        rw [← he5] at hP5 ⊢
        refine k_ifb_eq C (tgt := 113) (by decide) dX6_readWell_100 (fun hc100 => ?_) (fun hc100 => ?_)
        · skip
          exact k_vret C (Nat.le_of_ble_eq_true rfl) (Nat.le_of_ble_eq_true rfl) (⟨rfl, ⟨rfl, by
              rw [rWell_S he1 he2 he3 he4 he5]
              first
              | (obtain ⟨x, hx5⟩ := sp_nok hc100
                 rw [hx5] at hP5 ⊢
                 exact hP5)
              | (rw [hs5]
                 exact MP_set hPk m6 g6 (qB.well (by rw [hs2]; exact hcnt)) (by rw [addWell_at (by omega)]; exact qL)), by
              first
              | exact F5.tr (f1_mpf g6)
              | exact F5, G5⟩⟩) dX6_readWell_113
        · skip
          obtain ⟨s5, hs5⟩ := sp_ok_iff.mp hc100
          have hrow : ∃ s : sp_S, e = .ok s ∧ sp_nw s.2 < 8 ∧ s5.2 = s.2 := by
            obtain ⟨a4, b4, d4⟩ := tsS_inv (he5.symm.trans hs5)
            obtain ⟨a3, b3, d3⟩ := tnS_inv (he4.symm.trans b4)
            obtain ⟨a2, b2, d2⟩ := tnS_inv (he3.symm.trans b3)
            obtain ⟨a1, b1, p1, d1⟩ := md_gt_inv (he2.symm.trans b2)
            obtain ⟨a0, b0, p0, d0⟩ := md_gt_inv (he1.symm.trans b1)
            exact ⟨a0, b0, of_decide_eq_true p0, d4.trans (d3.trans (d2.trans (d1.trans d0)))⟩
          have hv1 : I1 y 15 = nI (md_v e1) := by
            obtain ⟨a4, b4, d4⟩ := tsS_inv (he5.symm.trans hs5)
            obtain ⟨a3, b3, d3⟩ := tnS_inv (he4.symm.trans b4)
            obtain ⟨a2, b2, d2⟩ := tnS_inv (he3.symm.trans b3)
            obtain ⟨a1, b1, p1, d1⟩ := md_gt_inv (he2.symm.trans b2)
            rw [b1] at hP1 ⊢
            exact hP1.2.2.1.2.2.2.1
          rw [hv1]
          obtain ⟨s0, hs0, hcnt, hs2⟩ := hrow
          have hPk := hP5
          rw [hs5] at hPk
          obtain ⟨q17, q9, qT, qm, qB, qL⟩ := id hPk
          refine k_aload_n C (f := 0) (i := 0) (p := 3) rfl rfl dX6_readWell_103 ?_
          refine k_getR C f_X6_13 (L6_s (by assumption)) (fun _ _ _ => rfl) (L6_1 (by assumption)) dX6_readWell_104 ?_
          refine k_iload_n C (f := 1) (i := 1) (p := 2) rfl rfl dX6_readWell_107 ?_
          refine k_iload_n C (f := 2) (i := 2) (p := 1) rfl rfl dX6_readWell_108 ?_
          refine k_iload_n C (f := 3) (i := 3) (p := 0) rfl rfl dX6_readWell_109 ?_
          refine k_callSg C s_X6_46 h_X6_addsWell (ct_X6_addsWell (A6_1 hx) qm qB (by rw [hs2]; exact hcnt)) rfl rfl (Nat.le_of_ble_eq_true rfl) ⟨Nat.le_of_ble_eq_true rfl, Nat.le_of_ble_eq_true rfl⟩ ⟨Nat.le_of_ble_eq_true rfl, Nat.le_of_ble_eq_true rfl⟩ ⟨rfl, rfl⟩ dX6_readWell_110 ?_
          intro v I6 hv
          obtain ⟨rfl, m6, g6⟩ := hv
          exact k_vret C (Nat.le_of_ble_eq_true rfl) (Nat.le_of_ble_eq_true rfl) (⟨rfl, ⟨rfl, by
              rw [rWell_S he1 he2 he3 he4 he5]
              first
              | (obtain ⟨x, hx5⟩ := sp_nok hc100
                 rw [hx5] at hP5 ⊢
                 exact hP5)
              | (rw [hs5]
                 exact MP_set hPk m6 g6 (qB.well (by rw [hs2]; exact hcnt)) (by rw [addWell_at (by omega)]; exact qL)), by
              first
              | exact F5.tr (f1_mpf g6)
              | exact F5, G5⟩⟩) dX6_readWell_113
      · skip
        refine k_iconst C ic_1 dX6_readWell_92 ?_
        refine k_goto C (tgt := 97) (by decide) dX6_readWell_93 ?_
        refine k_callVj C s_X6_191 h_X6_takes (L6_s (by assumption)) rfl (ct_X6_takes hx (F4.txt ht) hP4) rfl rfl (Nat.le_of_ble_eq_true rfl) ⟨Nat.le_of_ble_eq_true rfl, Nat.le_of_ble_eq_true rfl⟩ ⟨Nat.le_of_ble_eq_true rfl, Nat.le_of_ble_eq_true rfl⟩ ⟨rfl, rfl⟩ dX6_readWell_97 ?_
        intro v I5 J5 hv
        obtain ⟨rfl, hP5, F5, G5⟩ := hv
        have F5 := F4.tr F5
        have G5 := G4.tr G5
        rw [show sp_tk tb n _ e4 = sp_tsS tb n e4 from by first | exact sp_tkS1 hP4 hc89 | exact sp_tkS0 hP4 hc89] at hP5 ⊢
        obtain ⟨e5, he5⟩ : ∃ z : Except Nat sp_S, z = sp_tsS tb n e4 := ⟨_, rfl⟩
        rw [← he5] at hP5 ⊢
        refine k_ifb_eq C (tgt := 113) (by decide) dX6_readWell_100 (fun hc100 => ?_) (fun hc100 => ?_)
        · skip
          exact k_vret C (Nat.le_of_ble_eq_true rfl) (Nat.le_of_ble_eq_true rfl) (⟨rfl, ⟨rfl, by
              rw [rWell_S he1 he2 he3 he4 he5]
              first
              | (obtain ⟨x, hx5⟩ := sp_nok hc100
                 rw [hx5] at hP5 ⊢
                 exact hP5)
              | (rw [hs5]
                 exact MP_set hPk m6 g6 (qB.well (by rw [hs2]; exact hcnt)) (by rw [addWell_at (by omega)]; exact qL)), by
              first
              | exact F5.tr (f1_mpf g6)
              | exact F5, G5⟩⟩) dX6_readWell_113
        · skip
          obtain ⟨s5, hs5⟩ := sp_ok_iff.mp hc100
          have hrow : ∃ s : sp_S, e = .ok s ∧ sp_nw s.2 < 8 ∧ s5.2 = s.2 := by
            obtain ⟨a4, b4, d4⟩ := tsS_inv (he5.symm.trans hs5)
            obtain ⟨a3, b3, d3⟩ := tnS_inv (he4.symm.trans b4)
            obtain ⟨a2, b2, d2⟩ := tnS_inv (he3.symm.trans b3)
            obtain ⟨a1, b1, p1, d1⟩ := md_gt_inv (he2.symm.trans b2)
            obtain ⟨a0, b0, p0, d0⟩ := md_gt_inv (he1.symm.trans b1)
            exact ⟨a0, b0, of_decide_eq_true p0, d4.trans (d3.trans (d2.trans (d1.trans d0)))⟩
          have hv1 : I1 y 15 = nI (md_v e1) := by
            obtain ⟨a4, b4, d4⟩ := tsS_inv (he5.symm.trans hs5)
            obtain ⟨a3, b3, d3⟩ := tnS_inv (he4.symm.trans b4)
            obtain ⟨a2, b2, d2⟩ := tnS_inv (he3.symm.trans b3)
            obtain ⟨a1, b1, p1, d1⟩ := md_gt_inv (he2.symm.trans b2)
            rw [b1] at hP1 ⊢
            exact hP1.2.2.1.2.2.2.1
          rw [hv1]
          obtain ⟨s0, hs0, hcnt, hs2⟩ := hrow
          have hPk := hP5
          rw [hs5] at hPk
          obtain ⟨q17, q9, qT, qm, qB, qL⟩ := id hPk
          refine k_aload_n C (f := 0) (i := 0) (p := 3) rfl rfl dX6_readWell_103 ?_
          refine k_getR C f_X6_13 (L6_s (by assumption)) (fun _ _ _ => rfl) (L6_1 (by assumption)) dX6_readWell_104 ?_
          refine k_iload_n C (f := 1) (i := 1) (p := 2) rfl rfl dX6_readWell_107 ?_
          refine k_iload_n C (f := 2) (i := 2) (p := 1) rfl rfl dX6_readWell_108 ?_
          refine k_iload_n C (f := 3) (i := 3) (p := 0) rfl rfl dX6_readWell_109 ?_
          refine k_callSg C s_X6_46 h_X6_addsWell (ct_X6_addsWell (A6_1 hx) qm qB (by rw [hs2]; exact hcnt)) rfl rfl (Nat.le_of_ble_eq_true rfl) ⟨Nat.le_of_ble_eq_true rfl, Nat.le_of_ble_eq_true rfl⟩ ⟨Nat.le_of_ble_eq_true rfl, Nat.le_of_ble_eq_true rfl⟩ ⟨rfl, rfl⟩ dX6_readWell_110 ?_
          intro v I6 hv
          obtain ⟨rfl, m6, g6⟩ := hv
          exact k_vret C (Nat.le_of_ble_eq_true rfl) (Nat.le_of_ble_eq_true rfl) (⟨rfl, ⟨rfl, by
              rw [rWell_S he1 he2 he3 he4 he5]
              first
              | (obtain ⟨x, hx5⟩ := sp_nok hc100
                 rw [hx5] at hP5 ⊢
                 exact hP5)
              | (rw [hs5]
                 exact MP_set hPk m6 g6 (qB.well (by rw [hs2]; exact hcnt)) (by rw [addWell_at (by omega)]; exact qL)), by
              first
              | exact F5.tr (f1_mpf g6)
              | exact F5, G5⟩⟩) dX6_readWell_113
    · skip
      refine k_iload_n C (f := 1) (i := 1) (p := 0) rfl rfl dX6_readWell_36 ?_
      refine k_aload_n C (f := 0) (i := 0) (p := 1) rfl rfl dX6_readWell_37 ?_
      refine k_getR C f_X6_13 (L6_s (by assumption)) (fun _ _ _ => rfl) (L6_1 (by assumption)) dX6_readWell_38 ?_
      refine k_iconst C ic_0 dX6_readWell_41 ?_
      refine k_iald C (A6_1 (by assumption)) (by first | rfl | assumption) (by omega) (by decide) (MR hrd1 (by decide)) dX6_readWell_42 ?_
      refine k_icmp_gt C (tgt := 61) (by decide) dX6_readWell_43 (fun hc43 => ?_) (fun hc43 => ?_)
      · skip
        refine k_iconst C ic_0 dX6_readWell_61 ?_
        refine k_callVj C s_X6_191 h_X6_takes (L6_s (by assumption)) rfl (ct_X6_takes hx (F1.txt ht) hP1) rfl rfl (Nat.le_of_ble_eq_true rfl) ⟨Nat.le_of_ble_eq_true rfl, Nat.le_of_ble_eq_true rfl⟩ ⟨Nat.le_of_ble_eq_true rfl, Nat.le_of_ble_eq_true rfl⟩ ⟨rfl, rfl⟩ dX6_readWell_62 ?_
        intro v I2 J2 hv
        obtain ⟨rfl, hP2, F2, G2⟩ := hv
        have F2 := F1.tr F2
        have G2 := G1.tr G2
        have hg2 : ∃ z : Except Nat sp_S, MP I2 J2 y tb n z ∧ z = sp_bd (md_gt md_pw e1) (md_nx tb n) := ⟨_, hP2, by
          first
          | exact md_gt1 (fun s hs => by
              subst hs
              obtain ⟨L, hL, hL9⟩ := hP1.2.2.2.2.2
              have z := hrs1 s rfl
              subst z
              have m15 := hP1.2.2.1.2.2.2.1
              have m14 := hP1.2.2.1.1
              have mb4 := hP1.2.2.1.2.2.2.2.2.2.2.2
              have mb1 := hP1.2.2.1.2.2.2.2.2.1
              rw [m14] at hc33
              rw [m15] at hc43 hc54
              rw [hL] at hc43
              exact decide_eq_true ⟨(nI_eq (by omega) (by decide)).mp hc33, by rw [hL, nI_clamp (by omega)]; exact (nI_leI (by omega) (by omega)).mp (Int32.not_lt.mp hc43), (wellOn_or s.2 _).resolve_right (fun ⟨i, e, hi⟩ => by rw [e] at hc54; exact hc54 (nI_pos' (by omega)))⟩)
          | exact md_gt0 (fun s hs w => by
              subst hs
              obtain ⟨L, hL, hL9⟩ := hP1.2.2.2.2.2
              have z := hrs1 s rfl
              subst z
              have w2 := of_decide_eq_true w
              have m15 := hP1.2.2.1.2.2.2.1
              have m14 := hP1.2.2.1.1
              have mb4 := hP1.2.2.1.2.2.2.2.2.2.2.2
              first
              | exact hc33 (by rw [m14, w2.1])
              | exact absurd hc43 (by rw [m15, hL]; have w3 := w2.2.1; rw [hL, nI_clamp (by omega)] at w3; exact Int32.not_lt.mpr (nI_le w3 (by omega)))
              | exact absurd hc54 (by rw [m15, w2.2.2]; decide))⟩
        clear hP2
        obtain ⟨e2, hP2, he2⟩ := hg2
        refine k_pop C rfl dX6_readWell_65 ?_
        refine k_aload_n C (f := 0) (i := 0) (p := 1) rfl rfl dX6_readWell_66 ?_
        refine k_iconst C ic_1 dX6_readWell_67 ?_
        refine k_sipush C sc_999 dX6_readWell_68 ?_
        refine k_callVj C s_X6_201 h_X6_takesNumber (L6_s (by assumption)) rfl (ct_X6_takesNumber hx (F2.txt ht) hP2 (by decide)) rfl rfl (Nat.le_of_ble_eq_true rfl) ⟨Nat.le_of_ble_eq_true rfl, Nat.le_of_ble_eq_true rfl⟩ ⟨Nat.le_of_ble_eq_true rfl, Nat.le_of_ble_eq_true rfl⟩ ⟨rfl, rfl⟩ dX6_readWell_71 ?_
        intro v I3 J3 hv
        obtain ⟨rfl, hP3, F3, G3⟩ := hv
        have F3 := F2.tr F3
        have G3 := G2.tr G3
        obtain ⟨e3, he3⟩ : ∃ z : Except Nat sp_S, z = sp_tnS tb n 1 999 e2 := ⟨_, rfl⟩
        rw [← he3] at hP3
        refine k_istore_n C (f := 2) (i := 2) (lv := [(2, _), (1, _), (0, _)]) rfl (Nat.le_of_ble_eq_true rfl) rfl dX6_readWell_74 ?_
        refine k_aload_n C (f := 0) (i := 0) (p := 2) rfl rfl dX6_readWell_75 ?_
        refine k_iconst C ic_0 dX6_readWell_76 ?_
        refine k_bipush C bc_99 dX6_readWell_77 ?_
        refine k_callVj C s_X6_201 h_X6_takesNumber (L6_s (by assumption)) rfl (ct_X6_takesNumber hx (F3.txt ht) hP3 (by decide)) rfl rfl (Nat.le_of_ble_eq_true rfl) ⟨Nat.le_of_ble_eq_true rfl, Nat.le_of_ble_eq_true rfl⟩ ⟨Nat.le_of_ble_eq_true rfl, Nat.le_of_ble_eq_true rfl⟩ ⟨rfl, rfl⟩ dX6_readWell_79 ?_
        intro v I4 J4 hv
        obtain ⟨rfl, hP4, F4, G4⟩ := hv
        have F4 := F3.tr F4
        have G4 := G3.tr G4
        obtain ⟨e4, he4⟩ : ∃ z : Except Nat sp_S, z = sp_tnS tb n 0 99 e3 := ⟨_, rfl⟩
        rw [← he4] at hP4
        refine k_istore_n C (f := 3) (i := 3) (lv := [(3, _), (2, _), (1, _), (0, _)]) rfl (Nat.le_of_ble_eq_true rfl) rfl dX6_readWell_82 ?_
        refine k_aload_n C (f := 0) (i := 0) (p := 3) rfl rfl dX6_readWell_83 ?_
        refine k_aload_n C (f := 0) (i := 0) (p := 3) rfl rfl dX6_readWell_84 ?_
        refine k_getI C f_X6_164 (L6_s (by assumption)) (fun _ _ _ => rfl) (rfl) dX6_readWell_85 ?_
        refine k_iconst C ic_3 dX6_readWell_88 ?_
        refine k_icmp_ne C (tgt := 96) (by decide) dX6_readWell_89 (fun hc89 => ?_) (fun hc89 => ?_)
        · skip
          refine k_iconst C ic_0 dX6_readWell_96 ?_
          refine k_callVj C s_X6_191 h_X6_takes (L6_s (by assumption)) rfl (ct_X6_takes hx (F4.txt ht) hP4) rfl rfl (Nat.le_of_ble_eq_true rfl) ⟨Nat.le_of_ble_eq_true rfl, Nat.le_of_ble_eq_true rfl⟩ ⟨Nat.le_of_ble_eq_true rfl, Nat.le_of_ble_eq_true rfl⟩ ⟨rfl, rfl⟩ dX6_readWell_97 ?_
          intro v I5 J5 hv
          obtain ⟨rfl, hP5, F5, G5⟩ := hv
          have F5 := F4.tr F5
          have G5 := G4.tr G5
          rw [show sp_tk tb n _ e4 = sp_tsS tb n e4 from by first | exact sp_tkS1 hP4 hc89 | exact sp_tkS0 hP4 hc89] at hP5 ⊢
          obtain ⟨e5, he5⟩ : ∃ z : Except Nat sp_S, z = sp_tsS tb n e4 := ⟨_, rfl⟩
          rw [← he5] at hP5 ⊢
          refine k_ifb_eq C (tgt := 113) (by decide) dX6_readWell_100 (fun hc100 => ?_) (fun hc100 => ?_)
          · skip
            exact k_vret C (Nat.le_of_ble_eq_true rfl) (Nat.le_of_ble_eq_true rfl) (⟨rfl, ⟨rfl, by
                rw [rWell_S he1 he2 he3 he4 he5]
                first
                | (obtain ⟨x, hx5⟩ := sp_nok hc100
                   rw [hx5] at hP5 ⊢
                   exact hP5)
                | (rw [hs5]
                   exact MP_set hPk m6 g6 (qB.well (by rw [hs2]; exact hcnt)) (by rw [addWell_at (by omega)]; exact qL)), by
                first
                | exact F5.tr (f1_mpf g6)
                | exact F5, G5⟩⟩) dX6_readWell_113
          · skip
            obtain ⟨s5, hs5⟩ := sp_ok_iff.mp hc100
            have hrow : ∃ s : sp_S, e = .ok s ∧ sp_nw s.2 < 8 ∧ s5.2 = s.2 := by
              obtain ⟨a4, b4, d4⟩ := tsS_inv (he5.symm.trans hs5)
              obtain ⟨a3, b3, d3⟩ := tnS_inv (he4.symm.trans b4)
              obtain ⟨a2, b2, d2⟩ := tnS_inv (he3.symm.trans b3)
              obtain ⟨a1, b1, p1, d1⟩ := md_gt_inv (he2.symm.trans b2)
              obtain ⟨a0, b0, p0, d0⟩ := md_gt_inv (he1.symm.trans b1)
              exact ⟨a0, b0, of_decide_eq_true p0, d4.trans (d3.trans (d2.trans (d1.trans d0)))⟩
            have hv1 : I1 y 15 = nI (md_v e1) := by
              obtain ⟨a4, b4, d4⟩ := tsS_inv (he5.symm.trans hs5)
              obtain ⟨a3, b3, d3⟩ := tnS_inv (he4.symm.trans b4)
              obtain ⟨a2, b2, d2⟩ := tnS_inv (he3.symm.trans b3)
              obtain ⟨a1, b1, p1, d1⟩ := md_gt_inv (he2.symm.trans b2)
              rw [b1] at hP1 ⊢
              exact hP1.2.2.1.2.2.2.1
            rw [hv1]
            obtain ⟨s0, hs0, hcnt, hs2⟩ := hrow
            have hPk := hP5
            rw [hs5] at hPk
            obtain ⟨q17, q9, qT, qm, qB, qL⟩ := id hPk
            refine k_aload_n C (f := 0) (i := 0) (p := 3) rfl rfl dX6_readWell_103 ?_
            refine k_getR C f_X6_13 (L6_s (by assumption)) (fun _ _ _ => rfl) (L6_1 (by assumption)) dX6_readWell_104 ?_
            refine k_iload_n C (f := 1) (i := 1) (p := 2) rfl rfl dX6_readWell_107 ?_
            refine k_iload_n C (f := 2) (i := 2) (p := 1) rfl rfl dX6_readWell_108 ?_
            refine k_iload_n C (f := 3) (i := 3) (p := 0) rfl rfl dX6_readWell_109 ?_
            refine k_callSg C s_X6_46 h_X6_addsWell (ct_X6_addsWell (A6_1 hx) qm qB (by rw [hs2]; exact hcnt)) rfl rfl (Nat.le_of_ble_eq_true rfl) ⟨Nat.le_of_ble_eq_true rfl, Nat.le_of_ble_eq_true rfl⟩ ⟨Nat.le_of_ble_eq_true rfl, Nat.le_of_ble_eq_true rfl⟩ ⟨rfl, rfl⟩ dX6_readWell_110 ?_
            intro v I6 hv
            obtain ⟨rfl, m6, g6⟩ := hv
            exact k_vret C (Nat.le_of_ble_eq_true rfl) (Nat.le_of_ble_eq_true rfl) (⟨rfl, ⟨rfl, by
                rw [rWell_S he1 he2 he3 he4 he5]
                first
                | (obtain ⟨x, hx5⟩ := sp_nok hc100
                   rw [hx5] at hP5 ⊢
                   exact hP5)
                | (rw [hs5]
                   exact MP_set hPk m6 g6 (qB.well (by rw [hs2]; exact hcnt)) (by rw [addWell_at (by omega)]; exact qL)), by
                first
                | exact F5.tr (f1_mpf g6)
                | exact F5, G5⟩⟩) dX6_readWell_113
        · skip
          refine k_iconst C ic_1 dX6_readWell_92 ?_
          refine k_goto C (tgt := 97) (by decide) dX6_readWell_93 ?_
          refine k_callVj C s_X6_191 h_X6_takes (L6_s (by assumption)) rfl (ct_X6_takes hx (F4.txt ht) hP4) rfl rfl (Nat.le_of_ble_eq_true rfl) ⟨Nat.le_of_ble_eq_true rfl, Nat.le_of_ble_eq_true rfl⟩ ⟨Nat.le_of_ble_eq_true rfl, Nat.le_of_ble_eq_true rfl⟩ ⟨rfl, rfl⟩ dX6_readWell_97 ?_
          intro v I5 J5 hv
          obtain ⟨rfl, hP5, F5, G5⟩ := hv
          have F5 := F4.tr F5
          have G5 := G4.tr G5
          rw [show sp_tk tb n _ e4 = sp_tsS tb n e4 from by first | exact sp_tkS1 hP4 hc89 | exact sp_tkS0 hP4 hc89] at hP5 ⊢
          obtain ⟨e5, he5⟩ : ∃ z : Except Nat sp_S, z = sp_tsS tb n e4 := ⟨_, rfl⟩
          rw [← he5] at hP5 ⊢
          refine k_ifb_eq C (tgt := 113) (by decide) dX6_readWell_100 (fun hc100 => ?_) (fun hc100 => ?_)
          · skip
            exact k_vret C (Nat.le_of_ble_eq_true rfl) (Nat.le_of_ble_eq_true rfl) (⟨rfl, ⟨rfl, by
                rw [rWell_S he1 he2 he3 he4 he5]
                first
                | (obtain ⟨x, hx5⟩ := sp_nok hc100
                   rw [hx5] at hP5 ⊢
                   exact hP5)
                | (rw [hs5]
                   exact MP_set hPk m6 g6 (qB.well (by rw [hs2]; exact hcnt)) (by rw [addWell_at (by omega)]; exact qL)), by
                first
                | exact F5.tr (f1_mpf g6)
                | exact F5, G5⟩⟩) dX6_readWell_113
          · skip
            obtain ⟨s5, hs5⟩ := sp_ok_iff.mp hc100
            have hrow : ∃ s : sp_S, e = .ok s ∧ sp_nw s.2 < 8 ∧ s5.2 = s.2 := by
              obtain ⟨a4, b4, d4⟩ := tsS_inv (he5.symm.trans hs5)
              obtain ⟨a3, b3, d3⟩ := tnS_inv (he4.symm.trans b4)
              obtain ⟨a2, b2, d2⟩ := tnS_inv (he3.symm.trans b3)
              obtain ⟨a1, b1, p1, d1⟩ := md_gt_inv (he2.symm.trans b2)
              obtain ⟨a0, b0, p0, d0⟩ := md_gt_inv (he1.symm.trans b1)
              exact ⟨a0, b0, of_decide_eq_true p0, d4.trans (d3.trans (d2.trans (d1.trans d0)))⟩
            have hv1 : I1 y 15 = nI (md_v e1) := by
              obtain ⟨a4, b4, d4⟩ := tsS_inv (he5.symm.trans hs5)
              obtain ⟨a3, b3, d3⟩ := tnS_inv (he4.symm.trans b4)
              obtain ⟨a2, b2, d2⟩ := tnS_inv (he3.symm.trans b3)
              obtain ⟨a1, b1, p1, d1⟩ := md_gt_inv (he2.symm.trans b2)
              rw [b1] at hP1 ⊢
              exact hP1.2.2.1.2.2.2.1
            rw [hv1]
            obtain ⟨s0, hs0, hcnt, hs2⟩ := hrow
            have hPk := hP5
            rw [hs5] at hPk
            obtain ⟨q17, q9, qT, qm, qB, qL⟩ := id hPk
            refine k_aload_n C (f := 0) (i := 0) (p := 3) rfl rfl dX6_readWell_103 ?_
            refine k_getR C f_X6_13 (L6_s (by assumption)) (fun _ _ _ => rfl) (L6_1 (by assumption)) dX6_readWell_104 ?_
            refine k_iload_n C (f := 1) (i := 1) (p := 2) rfl rfl dX6_readWell_107 ?_
            refine k_iload_n C (f := 2) (i := 2) (p := 1) rfl rfl dX6_readWell_108 ?_
            refine k_iload_n C (f := 3) (i := 3) (p := 0) rfl rfl dX6_readWell_109 ?_
            refine k_callSg C s_X6_46 h_X6_addsWell (ct_X6_addsWell (A6_1 hx) qm qB (by rw [hs2]; exact hcnt)) rfl rfl (Nat.le_of_ble_eq_true rfl) ⟨Nat.le_of_ble_eq_true rfl, Nat.le_of_ble_eq_true rfl⟩ ⟨Nat.le_of_ble_eq_true rfl, Nat.le_of_ble_eq_true rfl⟩ ⟨rfl, rfl⟩ dX6_readWell_110 ?_
            intro v I6 hv
            obtain ⟨rfl, m6, g6⟩ := hv
            exact k_vret C (Nat.le_of_ble_eq_true rfl) (Nat.le_of_ble_eq_true rfl) (⟨rfl, ⟨rfl, by
                rw [rWell_S he1 he2 he3 he4 he5]
                first
                | (obtain ⟨x, hx5⟩ := sp_nok hc100
                   rw [hx5] at hP5 ⊢
                   exact hP5)
                | (rw [hs5]
                   exact MP_set hPk m6 g6 (qB.well (by rw [hs2]; exact hcnt)) (by rw [addWell_at (by omega)]; exact qL)), by
                first
                | exact F5.tr (f1_mpf g6)
                | exact F5, G5⟩⟩) dX6_readWell_113
      · skip
        refine k_aload_n C (f := 0) (i := 0) (p := 1) rfl rfl dX6_readWell_46 ?_
        refine k_getR C f_X6_13 (L6_s (by assumption)) (fun _ _ _ => rfl) (L6_1 (by assumption)) dX6_readWell_47 ?_
        refine k_iload_n C (f := 1) (i := 1) (p := 0) rfl rfl dX6_readWell_50 ?_
        refine k_callSp C s_X6_204 h_X6_wellOn (ct_X6_wellOn (A6_1 hx) hrd1 hBd1) rfl rfl (Nat.le_of_ble_eq_true rfl) ⟨Nat.le_of_ble_eq_true rfl, Nat.le_of_ble_eq_true rfl⟩ ⟨Nat.le_of_ble_eq_true rfl, Nat.le_of_ble_eq_true rfl⟩ ⟨rfl, rfl⟩ dX6_readWell_51 ?_
        refine k_if_ge C (tgt := 61) (by decide) dX6_readWell_54 (fun hc54 => ?_) (fun hc54 => ?_)
        · skip
          refine k_iconst C ic_0 dX6_readWell_61 ?_
          refine k_callVj C s_X6_191 h_X6_takes (L6_s (by assumption)) rfl (ct_X6_takes hx (F1.txt ht) hP1) rfl rfl (Nat.le_of_ble_eq_true rfl) ⟨Nat.le_of_ble_eq_true rfl, Nat.le_of_ble_eq_true rfl⟩ ⟨Nat.le_of_ble_eq_true rfl, Nat.le_of_ble_eq_true rfl⟩ ⟨rfl, rfl⟩ dX6_readWell_62 ?_
          intro v I2 J2 hv
          obtain ⟨rfl, hP2, F2, G2⟩ := hv
          have F2 := F1.tr F2
          have G2 := G1.tr G2
          have hg2 : ∃ z : Except Nat sp_S, MP I2 J2 y tb n z ∧ z = sp_bd (md_gt md_pw e1) (md_nx tb n) := ⟨_, hP2, by
            first
            | exact md_gt1 (fun s hs => by
                subst hs
                obtain ⟨L, hL, hL9⟩ := hP1.2.2.2.2.2
                have z := hrs1 s rfl
                subst z
                have m15 := hP1.2.2.1.2.2.2.1
                have m14 := hP1.2.2.1.1
                have mb4 := hP1.2.2.1.2.2.2.2.2.2.2.2
                have mb1 := hP1.2.2.1.2.2.2.2.2.1
                rw [m14] at hc33
                rw [m15] at hc43 hc54
                rw [hL] at hc43
                exact decide_eq_true ⟨(nI_eq (by omega) (by decide)).mp hc33, by rw [hL, nI_clamp (by omega)]; exact (nI_leI (by omega) (by omega)).mp (Int32.not_lt.mp hc43), (wellOn_or s.2 _).resolve_right (fun ⟨i, e, hi⟩ => by rw [e] at hc54; exact hc54 (nI_pos' (by omega)))⟩)
            | exact md_gt0 (fun s hs w => by
                subst hs
                obtain ⟨L, hL, hL9⟩ := hP1.2.2.2.2.2
                have z := hrs1 s rfl
                subst z
                have w2 := of_decide_eq_true w
                have m15 := hP1.2.2.1.2.2.2.1
                have m14 := hP1.2.2.1.1
                have mb4 := hP1.2.2.1.2.2.2.2.2.2.2.2
                first
                | exact hc33 (by rw [m14, w2.1])
                | exact absurd hc43 (by rw [m15, hL]; have w3 := w2.2.1; rw [hL, nI_clamp (by omega)] at w3; exact Int32.not_lt.mpr (nI_le w3 (by omega)))
                | exact absurd hc54 (by rw [m15, w2.2.2]; decide))⟩
          clear hP2
          obtain ⟨e2, hP2, he2⟩ := hg2
          refine k_pop C rfl dX6_readWell_65 ?_
          refine k_aload_n C (f := 0) (i := 0) (p := 1) rfl rfl dX6_readWell_66 ?_
          refine k_iconst C ic_1 dX6_readWell_67 ?_
          refine k_sipush C sc_999 dX6_readWell_68 ?_
          refine k_callVj C s_X6_201 h_X6_takesNumber (L6_s (by assumption)) rfl (ct_X6_takesNumber hx (F2.txt ht) hP2 (by decide)) rfl rfl (Nat.le_of_ble_eq_true rfl) ⟨Nat.le_of_ble_eq_true rfl, Nat.le_of_ble_eq_true rfl⟩ ⟨Nat.le_of_ble_eq_true rfl, Nat.le_of_ble_eq_true rfl⟩ ⟨rfl, rfl⟩ dX6_readWell_71 ?_
          intro v I3 J3 hv
          obtain ⟨rfl, hP3, F3, G3⟩ := hv
          have F3 := F2.tr F3
          have G3 := G2.tr G3
          obtain ⟨e3, he3⟩ : ∃ z : Except Nat sp_S, z = sp_tnS tb n 1 999 e2 := ⟨_, rfl⟩
          rw [← he3] at hP3
          refine k_istore_n C (f := 2) (i := 2) (lv := [(2, _), (1, _), (0, _)]) rfl (Nat.le_of_ble_eq_true rfl) rfl dX6_readWell_74 ?_
          refine k_aload_n C (f := 0) (i := 0) (p := 2) rfl rfl dX6_readWell_75 ?_
          refine k_iconst C ic_0 dX6_readWell_76 ?_
          refine k_bipush C bc_99 dX6_readWell_77 ?_
          refine k_callVj C s_X6_201 h_X6_takesNumber (L6_s (by assumption)) rfl (ct_X6_takesNumber hx (F3.txt ht) hP3 (by decide)) rfl rfl (Nat.le_of_ble_eq_true rfl) ⟨Nat.le_of_ble_eq_true rfl, Nat.le_of_ble_eq_true rfl⟩ ⟨Nat.le_of_ble_eq_true rfl, Nat.le_of_ble_eq_true rfl⟩ ⟨rfl, rfl⟩ dX6_readWell_79 ?_
          intro v I4 J4 hv
          obtain ⟨rfl, hP4, F4, G4⟩ := hv
          have F4 := F3.tr F4
          have G4 := G3.tr G4
          obtain ⟨e4, he4⟩ : ∃ z : Except Nat sp_S, z = sp_tnS tb n 0 99 e3 := ⟨_, rfl⟩
          rw [← he4] at hP4
          refine k_istore_n C (f := 3) (i := 3) (lv := [(3, _), (2, _), (1, _), (0, _)]) rfl (Nat.le_of_ble_eq_true rfl) rfl dX6_readWell_82 ?_
          refine k_aload_n C (f := 0) (i := 0) (p := 3) rfl rfl dX6_readWell_83 ?_
          refine k_aload_n C (f := 0) (i := 0) (p := 3) rfl rfl dX6_readWell_84 ?_
          refine k_getI C f_X6_164 (L6_s (by assumption)) (fun _ _ _ => rfl) (rfl) dX6_readWell_85 ?_
          refine k_iconst C ic_3 dX6_readWell_88 ?_
          refine k_icmp_ne C (tgt := 96) (by decide) dX6_readWell_89 (fun hc89 => ?_) (fun hc89 => ?_)
          · skip
            refine k_iconst C ic_0 dX6_readWell_96 ?_
            refine k_callVj C s_X6_191 h_X6_takes (L6_s (by assumption)) rfl (ct_X6_takes hx (F4.txt ht) hP4) rfl rfl (Nat.le_of_ble_eq_true rfl) ⟨Nat.le_of_ble_eq_true rfl, Nat.le_of_ble_eq_true rfl⟩ ⟨Nat.le_of_ble_eq_true rfl, Nat.le_of_ble_eq_true rfl⟩ ⟨rfl, rfl⟩ dX6_readWell_97 ?_
            intro v I5 J5 hv
            obtain ⟨rfl, hP5, F5, G5⟩ := hv
            have F5 := F4.tr F5
            have G5 := G4.tr G5
            rw [show sp_tk tb n _ e4 = sp_tsS tb n e4 from by first | exact sp_tkS1 hP4 hc89 | exact sp_tkS0 hP4 hc89] at hP5 ⊢
            obtain ⟨e5, he5⟩ : ∃ z : Except Nat sp_S, z = sp_tsS tb n e4 := ⟨_, rfl⟩
            rw [← he5] at hP5 ⊢
            refine k_ifb_eq C (tgt := 113) (by decide) dX6_readWell_100 (fun hc100 => ?_) (fun hc100 => ?_)
            · skip
              exact k_vret C (Nat.le_of_ble_eq_true rfl) (Nat.le_of_ble_eq_true rfl) (⟨rfl, ⟨rfl, by
                  rw [rWell_S he1 he2 he3 he4 he5]
                  first
                  | (obtain ⟨x, hx5⟩ := sp_nok hc100
                     rw [hx5] at hP5 ⊢
                     exact hP5)
                  | (rw [hs5]
                     exact MP_set hPk m6 g6 (qB.well (by rw [hs2]; exact hcnt)) (by rw [addWell_at (by omega)]; exact qL)), by
                  first
                  | exact F5.tr (f1_mpf g6)
                  | exact F5, G5⟩⟩) dX6_readWell_113
            · skip
              obtain ⟨s5, hs5⟩ := sp_ok_iff.mp hc100
              have hrow : ∃ s : sp_S, e = .ok s ∧ sp_nw s.2 < 8 ∧ s5.2 = s.2 := by
                obtain ⟨a4, b4, d4⟩ := tsS_inv (he5.symm.trans hs5)
                obtain ⟨a3, b3, d3⟩ := tnS_inv (he4.symm.trans b4)
                obtain ⟨a2, b2, d2⟩ := tnS_inv (he3.symm.trans b3)
                obtain ⟨a1, b1, p1, d1⟩ := md_gt_inv (he2.symm.trans b2)
                obtain ⟨a0, b0, p0, d0⟩ := md_gt_inv (he1.symm.trans b1)
                exact ⟨a0, b0, of_decide_eq_true p0, d4.trans (d3.trans (d2.trans (d1.trans d0)))⟩
              have hv1 : I1 y 15 = nI (md_v e1) := by
                obtain ⟨a4, b4, d4⟩ := tsS_inv (he5.symm.trans hs5)
                obtain ⟨a3, b3, d3⟩ := tnS_inv (he4.symm.trans b4)
                obtain ⟨a2, b2, d2⟩ := tnS_inv (he3.symm.trans b3)
                obtain ⟨a1, b1, p1, d1⟩ := md_gt_inv (he2.symm.trans b2)
                rw [b1] at hP1 ⊢
                exact hP1.2.2.1.2.2.2.1
              rw [hv1]
              obtain ⟨s0, hs0, hcnt, hs2⟩ := hrow
              have hPk := hP5
              rw [hs5] at hPk
              obtain ⟨q17, q9, qT, qm, qB, qL⟩ := id hPk
              refine k_aload_n C (f := 0) (i := 0) (p := 3) rfl rfl dX6_readWell_103 ?_
              refine k_getR C f_X6_13 (L6_s (by assumption)) (fun _ _ _ => rfl) (L6_1 (by assumption)) dX6_readWell_104 ?_
              refine k_iload_n C (f := 1) (i := 1) (p := 2) rfl rfl dX6_readWell_107 ?_
              refine k_iload_n C (f := 2) (i := 2) (p := 1) rfl rfl dX6_readWell_108 ?_
              refine k_iload_n C (f := 3) (i := 3) (p := 0) rfl rfl dX6_readWell_109 ?_
              refine k_callSg C s_X6_46 h_X6_addsWell (ct_X6_addsWell (A6_1 hx) qm qB (by rw [hs2]; exact hcnt)) rfl rfl (Nat.le_of_ble_eq_true rfl) ⟨Nat.le_of_ble_eq_true rfl, Nat.le_of_ble_eq_true rfl⟩ ⟨Nat.le_of_ble_eq_true rfl, Nat.le_of_ble_eq_true rfl⟩ ⟨rfl, rfl⟩ dX6_readWell_110 ?_
              intro v I6 hv
              obtain ⟨rfl, m6, g6⟩ := hv
              exact k_vret C (Nat.le_of_ble_eq_true rfl) (Nat.le_of_ble_eq_true rfl) (⟨rfl, ⟨rfl, by
                  rw [rWell_S he1 he2 he3 he4 he5]
                  first
                  | (obtain ⟨x, hx5⟩ := sp_nok hc100
                     rw [hx5] at hP5 ⊢
                     exact hP5)
                  | (rw [hs5]
                     exact MP_set hPk m6 g6 (qB.well (by rw [hs2]; exact hcnt)) (by rw [addWell_at (by omega)]; exact qL)), by
                  first
                  | exact F5.tr (f1_mpf g6)
                  | exact F5, G5⟩⟩) dX6_readWell_113
          · skip
            refine k_iconst C ic_1 dX6_readWell_92 ?_
            refine k_goto C (tgt := 97) (by decide) dX6_readWell_93 ?_
            refine k_callVj C s_X6_191 h_X6_takes (L6_s (by assumption)) rfl (ct_X6_takes hx (F4.txt ht) hP4) rfl rfl (Nat.le_of_ble_eq_true rfl) ⟨Nat.le_of_ble_eq_true rfl, Nat.le_of_ble_eq_true rfl⟩ ⟨Nat.le_of_ble_eq_true rfl, Nat.le_of_ble_eq_true rfl⟩ ⟨rfl, rfl⟩ dX6_readWell_97 ?_
            intro v I5 J5 hv
            obtain ⟨rfl, hP5, F5, G5⟩ := hv
            have F5 := F4.tr F5
            have G5 := G4.tr G5
            rw [show sp_tk tb n _ e4 = sp_tsS tb n e4 from by first | exact sp_tkS1 hP4 hc89 | exact sp_tkS0 hP4 hc89] at hP5 ⊢
            obtain ⟨e5, he5⟩ : ∃ z : Except Nat sp_S, z = sp_tsS tb n e4 := ⟨_, rfl⟩
            rw [← he5] at hP5 ⊢
            refine k_ifb_eq C (tgt := 113) (by decide) dX6_readWell_100 (fun hc100 => ?_) (fun hc100 => ?_)
            · skip
              exact k_vret C (Nat.le_of_ble_eq_true rfl) (Nat.le_of_ble_eq_true rfl) (⟨rfl, ⟨rfl, by
                  rw [rWell_S he1 he2 he3 he4 he5]
                  first
                  | (obtain ⟨x, hx5⟩ := sp_nok hc100
                     rw [hx5] at hP5 ⊢
                     exact hP5)
                  | (rw [hs5]
                     exact MP_set hPk m6 g6 (qB.well (by rw [hs2]; exact hcnt)) (by rw [addWell_at (by omega)]; exact qL)), by
                  first
                  | exact F5.tr (f1_mpf g6)
                  | exact F5, G5⟩⟩) dX6_readWell_113
            · skip
              obtain ⟨s5, hs5⟩ := sp_ok_iff.mp hc100
              have hrow : ∃ s : sp_S, e = .ok s ∧ sp_nw s.2 < 8 ∧ s5.2 = s.2 := by
                obtain ⟨a4, b4, d4⟩ := tsS_inv (he5.symm.trans hs5)
                obtain ⟨a3, b3, d3⟩ := tnS_inv (he4.symm.trans b4)
                obtain ⟨a2, b2, d2⟩ := tnS_inv (he3.symm.trans b3)
                obtain ⟨a1, b1, p1, d1⟩ := md_gt_inv (he2.symm.trans b2)
                obtain ⟨a0, b0, p0, d0⟩ := md_gt_inv (he1.symm.trans b1)
                exact ⟨a0, b0, of_decide_eq_true p0, d4.trans (d3.trans (d2.trans (d1.trans d0)))⟩
              have hv1 : I1 y 15 = nI (md_v e1) := by
                obtain ⟨a4, b4, d4⟩ := tsS_inv (he5.symm.trans hs5)
                obtain ⟨a3, b3, d3⟩ := tnS_inv (he4.symm.trans b4)
                obtain ⟨a2, b2, d2⟩ := tnS_inv (he3.symm.trans b3)
                obtain ⟨a1, b1, p1, d1⟩ := md_gt_inv (he2.symm.trans b2)
                rw [b1] at hP1 ⊢
                exact hP1.2.2.1.2.2.2.1
              rw [hv1]
              obtain ⟨s0, hs0, hcnt, hs2⟩ := hrow
              have hPk := hP5
              rw [hs5] at hPk
              obtain ⟨q17, q9, qT, qm, qB, qL⟩ := id hPk
              refine k_aload_n C (f := 0) (i := 0) (p := 3) rfl rfl dX6_readWell_103 ?_
              refine k_getR C f_X6_13 (L6_s (by assumption)) (fun _ _ _ => rfl) (L6_1 (by assumption)) dX6_readWell_104 ?_
              refine k_iload_n C (f := 1) (i := 1) (p := 2) rfl rfl dX6_readWell_107 ?_
              refine k_iload_n C (f := 2) (i := 2) (p := 1) rfl rfl dX6_readWell_108 ?_
              refine k_iload_n C (f := 3) (i := 3) (p := 0) rfl rfl dX6_readWell_109 ?_
              refine k_callSg C s_X6_46 h_X6_addsWell (ct_X6_addsWell (A6_1 hx) qm qB (by rw [hs2]; exact hcnt)) rfl rfl (Nat.le_of_ble_eq_true rfl) ⟨Nat.le_of_ble_eq_true rfl, Nat.le_of_ble_eq_true rfl⟩ ⟨Nat.le_of_ble_eq_true rfl, Nat.le_of_ble_eq_true rfl⟩ ⟨rfl, rfl⟩ dX6_readWell_110 ?_
              intro v I6 hv
              obtain ⟨rfl, m6, g6⟩ := hv
              exact k_vret C (Nat.le_of_ble_eq_true rfl) (Nat.le_of_ble_eq_true rfl) (⟨rfl, ⟨rfl, by
                  rw [rWell_S he1 he2 he3 he4 he5]
                  first
                  | (obtain ⟨x, hx5⟩ := sp_nok hc100
                     rw [hx5] at hP5 ⊢
                     exact hP5)
                  | (rw [hs5]
                     exact MP_set hPk m6 g6 (qB.well (by rw [hs2]; exact hcnt)) (by rw [addWell_at (by omega)]; exact qL)), by
                  first
                  | exact F5.tr (f1_mpf g6)
                  | exact F5, G5⟩⟩) dX6_readWell_113
        · skip
          refine k_iconst C ic_1 dX6_readWell_57 ?_
          refine k_goto C (tgt := 62) (by decide) dX6_readWell_58 ?_
          refine k_callVj C s_X6_191 h_X6_takes (L6_s (by assumption)) rfl (ct_X6_takes hx (F1.txt ht) hP1) rfl rfl (Nat.le_of_ble_eq_true rfl) ⟨Nat.le_of_ble_eq_true rfl, Nat.le_of_ble_eq_true rfl⟩ ⟨Nat.le_of_ble_eq_true rfl, Nat.le_of_ble_eq_true rfl⟩ ⟨rfl, rfl⟩ dX6_readWell_62 ?_
          intro v I2 J2 hv
          obtain ⟨rfl, hP2, F2, G2⟩ := hv
          have F2 := F1.tr F2
          have G2 := G1.tr G2
          have hg2 : ∃ z : Except Nat sp_S, MP I2 J2 y tb n z ∧ z = sp_bd (md_gt md_pw e1) (md_nx tb n) := ⟨_, hP2, by
            first
            | exact md_gt1 (fun s hs => by
                subst hs
                obtain ⟨L, hL, hL9⟩ := hP1.2.2.2.2.2
                have z := hrs1 s rfl
                subst z
                have m15 := hP1.2.2.1.2.2.2.1
                have m14 := hP1.2.2.1.1
                have mb4 := hP1.2.2.1.2.2.2.2.2.2.2.2
                have mb1 := hP1.2.2.1.2.2.2.2.2.1
                rw [m14] at hc33
                rw [m15] at hc43 hc54
                rw [hL] at hc43
                exact decide_eq_true ⟨(nI_eq (by omega) (by decide)).mp hc33, by rw [hL, nI_clamp (by omega)]; exact (nI_leI (by omega) (by omega)).mp (Int32.not_lt.mp hc43), (wellOn_or s.2 _).resolve_right (fun ⟨i, e, hi⟩ => by rw [e] at hc54; exact hc54 (nI_pos' (by omega)))⟩)
            | exact md_gt0 (fun s hs w => by
                subst hs
                obtain ⟨L, hL, hL9⟩ := hP1.2.2.2.2.2
                have z := hrs1 s rfl
                subst z
                have w2 := of_decide_eq_true w
                have m15 := hP1.2.2.1.2.2.2.1
                have m14 := hP1.2.2.1.1
                have mb4 := hP1.2.2.1.2.2.2.2.2.2.2.2
                first
                | exact hc33 (by rw [m14, w2.1])
                | exact absurd hc43 (by rw [m15, hL]; have w3 := w2.2.1; rw [hL, nI_clamp (by omega)] at w3; exact Int32.not_lt.mpr (nI_le w3 (by omega)))
                | exact absurd hc54 (by rw [m15, w2.2.2]; decide))⟩
          clear hP2
          obtain ⟨e2, hP2, he2⟩ := hg2
          refine k_pop C rfl dX6_readWell_65 ?_
          refine k_aload_n C (f := 0) (i := 0) (p := 1) rfl rfl dX6_readWell_66 ?_
          refine k_iconst C ic_1 dX6_readWell_67 ?_
          refine k_sipush C sc_999 dX6_readWell_68 ?_
          refine k_callVj C s_X6_201 h_X6_takesNumber (L6_s (by assumption)) rfl (ct_X6_takesNumber hx (F2.txt ht) hP2 (by decide)) rfl rfl (Nat.le_of_ble_eq_true rfl) ⟨Nat.le_of_ble_eq_true rfl, Nat.le_of_ble_eq_true rfl⟩ ⟨Nat.le_of_ble_eq_true rfl, Nat.le_of_ble_eq_true rfl⟩ ⟨rfl, rfl⟩ dX6_readWell_71 ?_
          intro v I3 J3 hv
          obtain ⟨rfl, hP3, F3, G3⟩ := hv
          have F3 := F2.tr F3
          have G3 := G2.tr G3
          obtain ⟨e3, he3⟩ : ∃ z : Except Nat sp_S, z = sp_tnS tb n 1 999 e2 := ⟨_, rfl⟩
          rw [← he3] at hP3
          refine k_istore_n C (f := 2) (i := 2) (lv := [(2, _), (1, _), (0, _)]) rfl (Nat.le_of_ble_eq_true rfl) rfl dX6_readWell_74 ?_
          refine k_aload_n C (f := 0) (i := 0) (p := 2) rfl rfl dX6_readWell_75 ?_
          refine k_iconst C ic_0 dX6_readWell_76 ?_
          refine k_bipush C bc_99 dX6_readWell_77 ?_
          refine k_callVj C s_X6_201 h_X6_takesNumber (L6_s (by assumption)) rfl (ct_X6_takesNumber hx (F3.txt ht) hP3 (by decide)) rfl rfl (Nat.le_of_ble_eq_true rfl) ⟨Nat.le_of_ble_eq_true rfl, Nat.le_of_ble_eq_true rfl⟩ ⟨Nat.le_of_ble_eq_true rfl, Nat.le_of_ble_eq_true rfl⟩ ⟨rfl, rfl⟩ dX6_readWell_79 ?_
          intro v I4 J4 hv
          obtain ⟨rfl, hP4, F4, G4⟩ := hv
          have F4 := F3.tr F4
          have G4 := G3.tr G4
          obtain ⟨e4, he4⟩ : ∃ z : Except Nat sp_S, z = sp_tnS tb n 0 99 e3 := ⟨_, rfl⟩
          rw [← he4] at hP4
          refine k_istore_n C (f := 3) (i := 3) (lv := [(3, _), (2, _), (1, _), (0, _)]) rfl (Nat.le_of_ble_eq_true rfl) rfl dX6_readWell_82 ?_
          refine k_aload_n C (f := 0) (i := 0) (p := 3) rfl rfl dX6_readWell_83 ?_
          refine k_aload_n C (f := 0) (i := 0) (p := 3) rfl rfl dX6_readWell_84 ?_
          refine k_getI C f_X6_164 (L6_s (by assumption)) (fun _ _ _ => rfl) (rfl) dX6_readWell_85 ?_
          refine k_iconst C ic_3 dX6_readWell_88 ?_
          refine k_icmp_ne C (tgt := 96) (by decide) dX6_readWell_89 (fun hc89 => ?_) (fun hc89 => ?_)
          · skip
            refine k_iconst C ic_0 dX6_readWell_96 ?_
            refine k_callVj C s_X6_191 h_X6_takes (L6_s (by assumption)) rfl (ct_X6_takes hx (F4.txt ht) hP4) rfl rfl (Nat.le_of_ble_eq_true rfl) ⟨Nat.le_of_ble_eq_true rfl, Nat.le_of_ble_eq_true rfl⟩ ⟨Nat.le_of_ble_eq_true rfl, Nat.le_of_ble_eq_true rfl⟩ ⟨rfl, rfl⟩ dX6_readWell_97 ?_
            intro v I5 J5 hv
            obtain ⟨rfl, hP5, F5, G5⟩ := hv
            have F5 := F4.tr F5
            have G5 := G4.tr G5
            rw [show sp_tk tb n _ e4 = sp_tsS tb n e4 from by first | exact sp_tkS1 hP4 hc89 | exact sp_tkS0 hP4 hc89] at hP5 ⊢
            obtain ⟨e5, he5⟩ : ∃ z : Except Nat sp_S, z = sp_tsS tb n e4 := ⟨_, rfl⟩
            rw [← he5] at hP5 ⊢
            refine k_ifb_eq C (tgt := 113) (by decide) dX6_readWell_100 (fun hc100 => ?_) (fun hc100 => ?_)
            · skip
              exact k_vret C (Nat.le_of_ble_eq_true rfl) (Nat.le_of_ble_eq_true rfl) (⟨rfl, ⟨rfl, by
                  rw [rWell_S he1 he2 he3 he4 he5]
                  first
                  | (obtain ⟨x, hx5⟩ := sp_nok hc100
                     rw [hx5] at hP5 ⊢
                     exact hP5)
                  | (rw [hs5]
                     exact MP_set hPk m6 g6 (qB.well (by rw [hs2]; exact hcnt)) (by rw [addWell_at (by omega)]; exact qL)), by
                  first
                  | exact F5.tr (f1_mpf g6)
                  | exact F5, G5⟩⟩) dX6_readWell_113
            · skip
              obtain ⟨s5, hs5⟩ := sp_ok_iff.mp hc100
              have hrow : ∃ s : sp_S, e = .ok s ∧ sp_nw s.2 < 8 ∧ s5.2 = s.2 := by
                obtain ⟨a4, b4, d4⟩ := tsS_inv (he5.symm.trans hs5)
                obtain ⟨a3, b3, d3⟩ := tnS_inv (he4.symm.trans b4)
                obtain ⟨a2, b2, d2⟩ := tnS_inv (he3.symm.trans b3)
                obtain ⟨a1, b1, p1, d1⟩ := md_gt_inv (he2.symm.trans b2)
                obtain ⟨a0, b0, p0, d0⟩ := md_gt_inv (he1.symm.trans b1)
                exact ⟨a0, b0, of_decide_eq_true p0, d4.trans (d3.trans (d2.trans (d1.trans d0)))⟩
              have hv1 : I1 y 15 = nI (md_v e1) := by
                obtain ⟨a4, b4, d4⟩ := tsS_inv (he5.symm.trans hs5)
                obtain ⟨a3, b3, d3⟩ := tnS_inv (he4.symm.trans b4)
                obtain ⟨a2, b2, d2⟩ := tnS_inv (he3.symm.trans b3)
                obtain ⟨a1, b1, p1, d1⟩ := md_gt_inv (he2.symm.trans b2)
                rw [b1] at hP1 ⊢
                exact hP1.2.2.1.2.2.2.1
              rw [hv1]
              obtain ⟨s0, hs0, hcnt, hs2⟩ := hrow
              have hPk := hP5
              rw [hs5] at hPk
              obtain ⟨q17, q9, qT, qm, qB, qL⟩ := id hPk
              refine k_aload_n C (f := 0) (i := 0) (p := 3) rfl rfl dX6_readWell_103 ?_
              refine k_getR C f_X6_13 (L6_s (by assumption)) (fun _ _ _ => rfl) (L6_1 (by assumption)) dX6_readWell_104 ?_
              refine k_iload_n C (f := 1) (i := 1) (p := 2) rfl rfl dX6_readWell_107 ?_
              refine k_iload_n C (f := 2) (i := 2) (p := 1) rfl rfl dX6_readWell_108 ?_
              refine k_iload_n C (f := 3) (i := 3) (p := 0) rfl rfl dX6_readWell_109 ?_
              refine k_callSg C s_X6_46 h_X6_addsWell (ct_X6_addsWell (A6_1 hx) qm qB (by rw [hs2]; exact hcnt)) rfl rfl (Nat.le_of_ble_eq_true rfl) ⟨Nat.le_of_ble_eq_true rfl, Nat.le_of_ble_eq_true rfl⟩ ⟨Nat.le_of_ble_eq_true rfl, Nat.le_of_ble_eq_true rfl⟩ ⟨rfl, rfl⟩ dX6_readWell_110 ?_
              intro v I6 hv
              obtain ⟨rfl, m6, g6⟩ := hv
              exact k_vret C (Nat.le_of_ble_eq_true rfl) (Nat.le_of_ble_eq_true rfl) (⟨rfl, ⟨rfl, by
                  rw [rWell_S he1 he2 he3 he4 he5]
                  first
                  | (obtain ⟨x, hx5⟩ := sp_nok hc100
                     rw [hx5] at hP5 ⊢
                     exact hP5)
                  | (rw [hs5]
                     exact MP_set hPk m6 g6 (qB.well (by rw [hs2]; exact hcnt)) (by rw [addWell_at (by omega)]; exact qL)), by
                  first
                  | exact F5.tr (f1_mpf g6)
                  | exact F5, G5⟩⟩) dX6_readWell_113
          · skip
            refine k_iconst C ic_1 dX6_readWell_92 ?_
            refine k_goto C (tgt := 97) (by decide) dX6_readWell_93 ?_
            refine k_callVj C s_X6_191 h_X6_takes (L6_s (by assumption)) rfl (ct_X6_takes hx (F4.txt ht) hP4) rfl rfl (Nat.le_of_ble_eq_true rfl) ⟨Nat.le_of_ble_eq_true rfl, Nat.le_of_ble_eq_true rfl⟩ ⟨Nat.le_of_ble_eq_true rfl, Nat.le_of_ble_eq_true rfl⟩ ⟨rfl, rfl⟩ dX6_readWell_97 ?_
            intro v I5 J5 hv
            obtain ⟨rfl, hP5, F5, G5⟩ := hv
            have F5 := F4.tr F5
            have G5 := G4.tr G5
            rw [show sp_tk tb n _ e4 = sp_tsS tb n e4 from by first | exact sp_tkS1 hP4 hc89 | exact sp_tkS0 hP4 hc89] at hP5 ⊢
            obtain ⟨e5, he5⟩ : ∃ z : Except Nat sp_S, z = sp_tsS tb n e4 := ⟨_, rfl⟩
            rw [← he5] at hP5 ⊢
            refine k_ifb_eq C (tgt := 113) (by decide) dX6_readWell_100 (fun hc100 => ?_) (fun hc100 => ?_)
            · skip
              exact k_vret C (Nat.le_of_ble_eq_true rfl) (Nat.le_of_ble_eq_true rfl) (⟨rfl, ⟨rfl, by
                  rw [rWell_S he1 he2 he3 he4 he5]
                  first
                  | (obtain ⟨x, hx5⟩ := sp_nok hc100
                     rw [hx5] at hP5 ⊢
                     exact hP5)
                  | (rw [hs5]
                     exact MP_set hPk m6 g6 (qB.well (by rw [hs2]; exact hcnt)) (by rw [addWell_at (by omega)]; exact qL)), by
                  first
                  | exact F5.tr (f1_mpf g6)
                  | exact F5, G5⟩⟩) dX6_readWell_113
            · skip
              obtain ⟨s5, hs5⟩ := sp_ok_iff.mp hc100
              have hrow : ∃ s : sp_S, e = .ok s ∧ sp_nw s.2 < 8 ∧ s5.2 = s.2 := by
                obtain ⟨a4, b4, d4⟩ := tsS_inv (he5.symm.trans hs5)
                obtain ⟨a3, b3, d3⟩ := tnS_inv (he4.symm.trans b4)
                obtain ⟨a2, b2, d2⟩ := tnS_inv (he3.symm.trans b3)
                obtain ⟨a1, b1, p1, d1⟩ := md_gt_inv (he2.symm.trans b2)
                obtain ⟨a0, b0, p0, d0⟩ := md_gt_inv (he1.symm.trans b1)
                exact ⟨a0, b0, of_decide_eq_true p0, d4.trans (d3.trans (d2.trans (d1.trans d0)))⟩
              have hv1 : I1 y 15 = nI (md_v e1) := by
                obtain ⟨a4, b4, d4⟩ := tsS_inv (he5.symm.trans hs5)
                obtain ⟨a3, b3, d3⟩ := tnS_inv (he4.symm.trans b4)
                obtain ⟨a2, b2, d2⟩ := tnS_inv (he3.symm.trans b3)
                obtain ⟨a1, b1, p1, d1⟩ := md_gt_inv (he2.symm.trans b2)
                rw [b1] at hP1 ⊢
                exact hP1.2.2.1.2.2.2.1
              rw [hv1]
              obtain ⟨s0, hs0, hcnt, hs2⟩ := hrow
              have hPk := hP5
              rw [hs5] at hPk
              obtain ⟨q17, q9, qT, qm, qB, qL⟩ := id hPk
              refine k_aload_n C (f := 0) (i := 0) (p := 3) rfl rfl dX6_readWell_103 ?_
              refine k_getR C f_X6_13 (L6_s (by assumption)) (fun _ _ _ => rfl) (L6_1 (by assumption)) dX6_readWell_104 ?_
              refine k_iload_n C (f := 1) (i := 1) (p := 2) rfl rfl dX6_readWell_107 ?_
              refine k_iload_n C (f := 2) (i := 2) (p := 1) rfl rfl dX6_readWell_108 ?_
              refine k_iload_n C (f := 3) (i := 3) (p := 0) rfl rfl dX6_readWell_109 ?_
              refine k_callSg C s_X6_46 h_X6_addsWell (ct_X6_addsWell (A6_1 hx) qm qB (by rw [hs2]; exact hcnt)) rfl rfl (Nat.le_of_ble_eq_true rfl) ⟨Nat.le_of_ble_eq_true rfl, Nat.le_of_ble_eq_true rfl⟩ ⟨Nat.le_of_ble_eq_true rfl, Nat.le_of_ble_eq_true rfl⟩ ⟨rfl, rfl⟩ dX6_readWell_110 ?_
              intro v I6 hv
              obtain ⟨rfl, m6, g6⟩ := hv
              exact k_vret C (Nat.le_of_ble_eq_true rfl) (Nat.le_of_ble_eq_true rfl) (⟨rfl, ⟨rfl, by
                  rw [rWell_S he1 he2 he3 he4 he5]
                  first
                  | (obtain ⟨x, hx5⟩ := sp_nok hc100
                     rw [hx5] at hP5 ⊢
                     exact hP5)
                  | (rw [hs5]
                     exact MP_set hPk m6 g6 (qB.well (by rw [hs2]; exact hcnt)) (by rw [addWell_at (by omega)]; exact qL)), by
                  first
                  | exact F5.tr (f1_mpf g6)
                  | exact F5, G5⟩⟩) dX6_readWell_113
