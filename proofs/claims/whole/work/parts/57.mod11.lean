/-! ===== the model: its loops of reading are the document's ===== -/
theorem sp_bd_as {α β γ : Type} {e : Except Nat α} {f : α → Except Nat β} {g : β → Except Nat γ} : sp_bd (sp_bd e f) g = sp_bd e (fun s => sp_bd (f s) g) := by cases e <;> rfl
def md_pc (tb : Nat → Nat) : sp_S → Bool := fun s => sp_isw tb s.1 2 && decide (sp_nc s.2 < 10)
def md_pwl : sp_S → Bool := fun s => decide (sp_nw s.2 < 8)
def md_ps : sp_S → Bool := fun s => decide (sp_ns s.2 < 6)
def md_pl : sp_S → Bool := fun s => decide (sp_nl s.2 < 20)
def md_lp (tb : Nat → Nat) (w : Nat) (p : sp_S → Bool) (f : sp_S → Except Nat sp_S) : Nat → Except Nat sp_S → Except Nat sp_S
  | 0, e => e
  | _ + 1, .error x => .error x
  | k + 1, .ok s => if sp_isw tb s.1 w = true then md_lp tb w p f k (sp_bd (md_gt p (.ok s)) f) else .ok s
theorem md_lp_e {tb : Nat → Nat} {w : Nat} {p : sp_S → Bool} {f : sp_S → Except Nat sp_S} {k x : Nat} : md_lp tb w p f k (.error x) = .error x := by cases k <;> rfl
theorem md_lp_n {tb : Nat → Nat} {w : Nat} {p : sp_S → Bool} {f : sp_S → Except Nat sp_S} {k : Nat} {s : sp_S} (h : ¬ sp_isw tb s.1 w = true) : md_lp tb w p f k (.ok s) = .ok s := by
  cases k with
  | zero => rfl
  | succ k => exact if_neg h
theorem md_lp_y {tb : Nat → Nat} {w : Nat} {p : sp_S → Bool} {f : sp_S → Except Nat sp_S} {k : Nat} {s : sp_S} (h : sp_isw tb s.1 w = true) : md_lp tb w p f (k + 1) (.ok s) = md_lp tb w p f k (sp_bd (md_gt p (.ok s)) f) := if_pos h
theorem md_gt_t {p : sp_S → Bool} {f : sp_S → Except Nat sp_S} {s : sp_S} (h : p s = true) : sp_bd (md_gt p (.ok s)) f = f s := by
  show sp_bd (if p s = true then (Except.ok s : Except Nat sp_S) else .error s.1.2.1) f = _
  rw [if_pos h]
  rfl
theorem md_gt_f {p : sp_S → Bool} {f : sp_S → Except Nat sp_S} {s : sp_S} (h : ¬ p s = true) : sp_bd (md_gt p (.ok s)) f = .error s.1.2.1 := by
  show sp_bd (if p s = true then (Except.ok s : Except Nat sp_S) else .error s.1.2.1) f = _
  rw [if_neg h]
  rfl
/-- how a kind of line counts -/
def md_Cn (tb : Nat → Nat) (w lim : Nat) (p : sp_S → Bool) (f : sp_S → Except Nat sp_S) (cnt : sp_S → Nat) : Prop := (∀ s : sp_S, sp_isw tb s.1 w = true → (p s = true ↔ cnt s < lim)) ∧ ∀ s s' : sp_S, cnt s < lim → f s = .ok s' → cnt s' = cnt s + 1
theorem md_lp_eq {tb : Nat → Nat} {w lim : Nat} {p : sp_S → Bool} {f : sp_S → Except Nat sp_S} {cnt : sp_S → Nat} {β : Type} {rest : sp_S → Except Nat β} (hC : md_Cn tb w lim p f cnt) (hr : ∀ s : sp_S, sp_isw tb s.1 w = true → rest s = .error s.1.2.1) :
    ∀ (k j : Nat) (e : Except Nat sp_S), (∀ s : sp_S, e = .ok s → lim + 2 ≤ k + cnt s ∧ j + cnt s = lim) → sp_bd (md_lp tb w p f k e) rest = sp_bd (sp_lp tb w f j e) rest := by
  intro k
  induction k with
  | zero =>
    intro j e h
    cases e with
    | error x => rw [md_lp_e, sp_lp_e]
    | ok s => have := h s rfl; omega
  | succ k ih =>
    intro j e h
    cases e with
    | error x => rw [md_lp_e, sp_lp_e]
    | ok s =>
      obtain ⟨h1, h2⟩ := h s rfl
      by_cases q : sp_isw tb s.1 w = true
      · rw [md_lp_y q]
        by_cases c : cnt s < lim
        · rw [md_gt_t ((hC.1 s q).mpr c)]
          obtain ⟨j2, rfl⟩ : ∃ j2, j = j2 + 1 := ⟨j - 1, by omega⟩
          rw [sp_lp_y q]
          exact ih j2 (f s) (fun s' hs' => by have := hC.2 s s' c hs'; omega)
        · rw [md_gt_f (fun z => c ((hC.1 s q).mp z)), md_lp_e]
          obtain rfl : j = 0 := by omega
          show _ = rest s
          rw [hr s q]
          rfl
      · rw [md_lp_n q, sp_lp_n q]
theorem md_lp_keep {tb : Nat → Nat} {w : Nat} {p : sp_S → Bool} {f : sp_S → Except Nat sp_S} {Q : sp_S → Prop} (hf : ∀ s s' : sp_S, Q s → p s = true → f s = .ok s' → Q s') : ∀ (k : Nat) (e : Except Nat sp_S), (∀ s : sp_S, e = .ok s → Q s) → ∀ s : sp_S, md_lp tb w p f k e = .ok s → Q s := by
  intro k
  induction k with
  | zero => intro e h s hs; exact h s hs
  | succ k ih =>
    intro e h s hs
    cases e with
    | error x => rw [md_lp_e] at hs; cases hs
    | ok s0 =>
      by_cases q : sp_isw tb s0.1 w = true
      · rw [md_lp_y q] at hs
        refine ih _ (fun s1 h1 => ?_) s hs
        by_cases c : p s0 = true
        · rw [md_gt_t c] at h1
          exact hf s0 s1 (h s0 rfl) c h1
        · rw [md_gt_f c] at h1; cases h1
      · rw [md_lp_n q] at hs
        exact h s hs
theorem rCamel_c {tb : Nat → Nat} {n : Nat} {s s' : sp_S} (h : sp_rCamel tb n s = .ok s') (hn : sp_nc s.2 < 10) : sp_nc s'.2 = sp_nc s.2 + 1 ∧ sp_nw s'.2 = sp_nw s.2 ∧ sp_ns s'.2 = sp_ns s.2 ∧ sp_nl s'.2 = sp_nl s.2 := by
  obtain ⟨x, z, v, -, e⟩ := rCamel_inv h
  rw [e]
  refine ⟨?_, ?_, ?_, ?_⟩
  · unfold sp_addCamel
    show (upd _ 6 _ 6).toNatClampNeg = _
    rw [upd_eq, nI_clamp (by omega)]
  · unfold sp_nw; rw [addCamel_at (by omega)]
  · unfold sp_ns; rw [addCamel_at (by omega)]
  · unfold sp_nl; rw [addCamel_at (by omega)]
theorem rWell_c {tb : Nat → Nat} {n : Nat} {s s' : sp_S} (h : sp_rWell tb n s = .ok s') (hn : sp_nw s.2 < 8) : sp_nw s'.2 = sp_nw s.2 + 1 ∧ sp_ns s'.2 = sp_ns s.2 ∧ sp_nl s'.2 = sp_nl s.2 := by
  obtain ⟨x, z, v, -, e⟩ := rWell_inv h
  rw [e]
  refine ⟨?_, ?_, ?_⟩
  · unfold sp_addWell
    show (upd _ 7 _ 7).toNatClampNeg = _
    rw [upd_eq, nI_clamp (by omega)]
  · unfold sp_ns; rw [addWell_at (by omega)]
  · unfold sp_nl; rw [addWell_at (by omega)]
theorem rStorm_c {tb : Nat → Nat} {n : Nat} {s s' : sp_S} (h : sp_rStorm tb n s = .ok s') (hn : sp_ns s.2 < 6) : sp_ns s'.2 = sp_ns s.2 + 1 ∧ sp_nl s'.2 = sp_nl s.2 := by
  obtain ⟨x, z, v, -, e⟩ := rStorm_inv h
  rw [e]
  refine ⟨?_, ?_⟩
  · unfold sp_addStorm
    show (upd _ 8 _ 8).toNatClampNeg = _
    rw [upd_eq, nI_clamp (by omega)]
  · unfold sp_nl; rw [addStorm_at (by omega)]
theorem rTail_inv {tb : Nat → Nat} {n k w : Nat} {t : sp_T} {r : Nat → Int32} {s' : sp_S} (h : sp_rTail tb n t r k w = .ok s') : s'.2 = r ∨ ∃ j : Nat, j < sp_nc r ∧ ¬ sp_free r j < nI w ∧ s'.2 = sp_hang r k j := by
  unfold sp_rTail at h
  by_cases c : sp_isw tb t 6 = true
  · rw [if_pos c] at h
    by_cases d : (sp_nx tb n t).1 = 2 ∧ (sp_nx tb n t).2.2.2 < sp_nc r ∧ ¬ sp_free r (sp_nx tb n t).2.2.2 < nI w
    · rw [if_pos d] at h
      obtain ⟨a, h1, h2⟩ := sp_bd_inv h
      cases h2
      exact Or.inr ⟨_, d.2.1, d.2.2, rfl⟩
    · rw [if_neg d] at h; cases h
  · rw [if_neg c] at h
    obtain ⟨a, h1, h2⟩ := sp_bd_inv h
    cases h2
    exact Or.inl rfl
theorem rLoad_iv {tb : Nat → Nat} {n : Nat} {s s' : sp_S} (h : sp_rLoad tb n s = .ok s') : ∃ a b : Nat, (1 ≤ a ∧ a ≤ 99 ∧ 1 ≤ b ∧ b ≤ 99) ∧ (s'.2 = sp_bring s.2 (nI a) (nI b) ∨ ∃ j : Nat, j < sp_nc (sp_bring s.2 (nI a) (nI b)) ∧ ¬ sp_free (sp_bring s.2 (nI a) (nI b)) j < nI a ∧ s'.2 = sp_hang (sp_bring s.2 (nI a) (nI b)) (sp_nl s.2) j) := by
  obtain ⟨a, h1, h2⟩ := sp_bd_inv h
  obtain ⟨b, h3, h4⟩ := sp_bd_inv h2
  obtain ⟨c1, rfl⟩ := sp_tn_inv h1
  obtain ⟨c2, rfl⟩ := sp_tn_inv h3
  exact ⟨_, _, ⟨c1.2.1, c1.2.2, c2.2.1, c2.2.2⟩, rTail_inv h4⟩
theorem rLoad_c {tb : Nat → Nat} {n : Nat} {s s' : sp_S} (h : sp_rLoad tb n s = .ok s') (hn : sp_nl s.2 < 20) : sp_nl s'.2 = sp_nl s.2 + 1 := by
  obtain ⟨a, b, -, e⟩ := rLoad_iv h
  have e1 := bring_nl (r := s.2) (x := nI a) (y := nI b) (by omega)
  rcases e with e | ⟨j, -, -, e⟩
  · rw [e, e1]
  · rw [e, ← e1]
    unfold sp_hang
    exact sp_nl_upd (by omega)
theorem md_cn_ne : ∀ a : Nat, a < 6 → ∀ b : Nat, b < 6 → ¬ (2 ≤ a ∧ 2 ≤ b ∧ ¬ a = b ∧ am_slen.getD a 0 = am_slen.getD b 0 ∧ am_ch a 0 = am_ch b 0) := by decide +kernel
theorem md_cn_pos : ∀ a : Nat, a < 6 → 2 ≤ a → 0 < am_slen.getD a 0 := by decide +kernel
theorem isw_ne {tb : Nat → Nat} {t : sp_T} {a b : Nat} (h : sp_isw tb t a = true) (ha : 2 ≤ a ∧ a < 6) (hb : 2 ≤ b ∧ b < 6) (hab : ¬ a = b) : ¬ sp_isw tb t b = true := by
  intro h2
  have n1 := md_cn_ne a ha.2 b hb.2
  have n2 := md_cn_pos a ha.2 ha.1
  obtain ⟨-, l1, c1⟩ := sp_isw_iff.mp h
  obtain ⟨-, l2, c2⟩ := sp_isw_iff.mp h2
  exact n1 ⟨ha.1, hb.1, hab, by omega, (c1 0 n2).symm.trans (c2 0 (by omega))⟩
theorem isw_1 {tb : Nat → Nat} {t : sp_T} {a : Nat} (h : sp_isw tb t a = true) : t.1 = 1 := (sp_isw_iff.mp h).1
theorem md_Cc (tb : Nat → Nat) (n : Nat) : md_Cn tb 2 10 (md_pc tb) (sp_rCamel tb n) (fun s => sp_nc s.2) := ⟨fun s h => ⟨fun z => of_decide_eq_true (Bool.and_eq_true_iff.mp z).2, fun z => Bool.and_eq_true_iff.mpr ⟨h, decide_eq_true z⟩⟩, fun s s' h h2 => (rCamel_c h2 h).1⟩
theorem md_Cw (tb : Nat → Nat) (n : Nat) : md_Cn tb 3 8 md_pwl (sp_rWell tb n) (fun s => sp_nw s.2) := ⟨fun s _ => ⟨of_decide_eq_true, decide_eq_true⟩, fun s s' h h2 => (rWell_c h2 h).1⟩
theorem md_Cs (tb : Nat → Nat) (n : Nat) : md_Cn tb 4 6 md_ps (sp_rStorm tb n) (fun s => sp_ns s.2) := ⟨fun s _ => ⟨of_decide_eq_true, decide_eq_true⟩, fun s s' h h2 => (rStorm_c h2 h).1⟩
theorem md_Cl (tb : Nat → Nat) (n : Nat) : md_Cn tb 5 20 md_pl (sp_rLoad tb n) (fun s => sp_nl s.2) := ⟨fun s _ => ⟨of_decide_eq_true, decide_eq_true⟩, fun s s' h h2 => rLoad_c h2 h⟩
def md_fin (e : Except Nat sp_S) : Except Nat sp_S := sp_bd e (fun s => if s.1.1 = 0 then .ok s else .error s.1.2.1)
def md_rd1 (tb : Nat → Nat) (n : Nat) (e : Except Nat sp_S) : Except Nat sp_S := sp_bd (md_gt (fun s => sp_isw tb s.1 1) e) (md_nx tb n)
def md_rd2 (tb : Nat → Nat) (n : Nat) (e1 : Except Nat sp_S) : Except Nat sp_S := sp_bd (sp_tnS tb n 10 999 e1) (fun s => .ok (s.1, upd s.2 0 (nI (sp_tz tb n 10 999 e1))))
def md_rd4 (tb : Nat → Nat) (n : Nat) (e3 : Except Nat sp_S) : Except Nat sp_S := md_fin (md_lp tb 5 md_pl (sp_rLoad tb n) 22 (md_lp tb 4 md_ps (sp_rStorm tb n) 8 (md_lp tb 3 md_pwl (sp_rWell tb n) 10 (md_lp tb 2 (md_pc tb) (sp_rCamel tb n) 12 (sp_bd (md_gt (md_pc tb) e3) (sp_rCamel tb n))))))
def md_read (tb : Nat → Nat) (n : Nat) (e : Except Nat sp_S) : Except Nat sp_S := md_rd4 tb n (sp_tsS tb n (md_rd2 tb n (md_rd1 tb n e)))
theorem md_route {tb : Nat → Nat} {n : Nat} {t : sp_T} : sp_tsS tb n (md_rd2 tb n (md_rd1 tb n (.ok (t, fun _ => nI 0)))) = sp_rRoute tb n t := by
  unfold md_rd1 sp_rRoute
  by_cases c : sp_isw tb t 1 = true
  · rw [md_gt_t c, if_pos c]
    unfold md_rd2
    show sp_tsS tb n (sp_bd (sp_bd (sp_tn tb n 10 999 (sp_nx tb n t)) _) _) = _
    by_cases c1 : (sp_nx tb n t).1 = 2 ∧ 10 ≤ (sp_nx tb n t).2.2.2 ∧ (sp_nx tb n t).2.2.2 ≤ 999
    · have z : sp_tz tb n 10 999 (md_nx tb n (t, fun _ => nI 0)) = (sp_nx tb n t).2.2.2 := if_pos c1
      rw [sp_tn_t c1, z]
      show sp_bd (sp_ts tb n (sp_nx tb n (sp_nx tb n t))) _ = sp_bd (sp_ts tb n (sp_nx tb n (sp_nx tb n t))) _
      have e : upd (fun _ => nI 0) 0 (nI (sp_nx tb n t).2.2.2) = sp_start (sp_nx tb n t).2.2.2 := by
        funext k
        by_cases h : k = 0
        · subst h; rw [upd_eq]; rfl
        · rw [upd_ne h]; exact (if_neg h).symm
      rw [e]
    · rw [sp_tn_f c1]; rfl
  · rw [md_gt_f c, if_neg c]
    rfl
theorem md_read_eq {tb : Nat → Nat} {n : Nat} : sp_bd (md_read tb n (.ok (sp_tok tb n 0, fun _ => nI 0))) (fun s => .ok s.2) = sp_parse tb n := by
  have e0 : ∀ e : Except Nat sp_S, sp_bd (md_fin e) (fun s => .ok s.2) = sp_bd e sp_rEnd := fun e => by
    cases e with
    | error x => rfl
    | ok s =>
      show sp_bd (if s.1.1 = 0 then (Except.ok s : Except Nat sp_S) else .error s.1.2.1) _ = if s.1.1 = 0 then .ok s.2 else .error s.1.2.1
      split <;> rfl
  have hend : ∀ (s : sp_S) (a : Nat), sp_isw tb s.1 a = true → sp_rEnd s = .error s.1.2.1 := fun s a h => if_neg (fun z => by have := isw_1 h; omega)
  unfold md_read md_rd4
  rw [md_route, e0]
  -- counts after each kind of line
  have hz : ∀ s : sp_S, sp_rRoute tb n (sp_tok tb n 0) = .ok s → sp_nc s.2 = 0 ∧ sp_nw s.2 = 0 ∧ sp_ns s.2 = 0 ∧ sp_nl s.2 = 0 := by
    intro s h
    unfold sp_rRoute at h
    by_cases c : sp_isw tb (sp_tok tb n 0) 1 = true
    · rw [if_pos c] at h
      obtain ⟨a, h1, h2⟩ := sp_bd_inv h
      obtain ⟨d, h3, h4⟩ := sp_bd_inv h2
      cases h4
      exact ⟨(by show (nI 0).toNatClampNeg = 0; decide), (by show (nI 0).toNatClampNeg = 0; decide), (by show (nI 0).toNatClampNeg = 0; decide), (by show (nI 0).toNatClampNeg = 0; decide)⟩
    · rw [if_neg c] at h; cases h
  have p3 : sp_parse tb n = sp_bd (sp_rRoute tb n (sp_tok tb n 0)) (fun s => sp_bd (sp_rCamels tb n s) (fun s => sp_bd (sp_rWells tb n s) (fun s => sp_bd (sp_rStorms tb n s) (fun s => sp_bd (sp_rLoads tb n s) sp_rEnd)))) := by
    unfold sp_parse sp_rPlan
    rw [sp_bd_as, sp_bd_as, sp_bd_as, sp_bd_as]
  rw [p3]
  generalize sp_rRoute tb n (sp_tok tb n 0) = e3 at hz
  -- the roads behind each kind of line
  have hL : ∀ (s : sp_S) (a : Nat), sp_isw tb s.1 a = true → 2 ≤ a → a < 5 → sp_bd (sp_rLoads tb n s) sp_rEnd = .error s.1.2.1 := fun s a h h2 h5 => by
    unfold sp_rLoads
    rw [sp_lp_n (isw_ne h ⟨h2, by omega⟩ ⟨by decide, by decide⟩ (by omega))]
    exact hend s a h
  have hS : ∀ (s : sp_S) (a : Nat), sp_isw tb s.1 a = true → 2 ≤ a → a < 4 → sp_bd (sp_rStorms tb n s) (fun s => sp_bd (sp_rLoads tb n s) sp_rEnd) = .error s.1.2.1 := fun s a h h2 h5 => by
    unfold sp_rStorms
    rw [sp_lp_n (isw_ne h ⟨h2, by omega⟩ ⟨by decide, by decide⟩ (by omega))]
    exact hL s a h h2 (by omega)
  have hW : ∀ (s : sp_S) (a : Nat), sp_isw tb s.1 a = true → 2 ≤ a → a < 3 → sp_bd (sp_rWells tb n s) (fun s => sp_bd (sp_rStorms tb n s) (fun s => sp_bd (sp_rLoads tb n s) sp_rEnd)) = .error s.1.2.1 := fun s a h h2 h5 => by
    unfold sp_rWells
    rw [sp_lp_n (isw_ne h ⟨h2, by omega⟩ ⟨by decide, by decide⟩ (by omega))]
    exact hS s a h h2 (by omega)
  -- each loop
  have gL : ∀ e : Except Nat sp_S, (∀ s : sp_S, e = .ok s → sp_nl s.2 = 0) → sp_bd (md_lp tb 5 md_pl (sp_rLoad tb n) 22 e) sp_rEnd = sp_bd e (fun s => sp_bd (sp_rLoads tb n s) sp_rEnd) := fun e h => by
    rw [md_lp_eq (md_Cl tb n) (fun s q => hend s 5 q) 22 20 e (fun s hs => by have := h s hs; show _ ≤ 22 + sp_nl s.2 ∧ 20 + sp_nl s.2 = 20; omega)]
    cases e with
    | error x => rw [sp_lp_e]; rfl
    | ok s => rfl
  have gS : ∀ e : Except Nat sp_S, (∀ s : sp_S, e = .ok s → sp_ns s.2 = 0) → sp_bd (md_lp tb 4 md_ps (sp_rStorm tb n) 8 e) (fun s => sp_bd (sp_rLoads tb n s) sp_rEnd) = sp_bd e (fun s => sp_bd (sp_rStorms tb n s) (fun s => sp_bd (sp_rLoads tb n s) sp_rEnd)) := fun e h => by
    rw [md_lp_eq (md_Cs tb n) (fun s q => hL s 4 q (by decide) (by decide)) 8 6 e (fun s hs => by have := h s hs; show _ ≤ 8 + sp_ns s.2 ∧ 6 + sp_ns s.2 = 6; omega)]
    cases e with
    | error x => rw [sp_lp_e]; rfl
    | ok s => rfl
  have gW : ∀ e : Except Nat sp_S, (∀ s : sp_S, e = .ok s → sp_nw s.2 = 0) → sp_bd (md_lp tb 3 md_pwl (sp_rWell tb n) 10 e) (fun s => sp_bd (sp_rStorms tb n s) (fun s => sp_bd (sp_rLoads tb n s) sp_rEnd)) = sp_bd e (fun s => sp_bd (sp_rWells tb n s) (fun s => sp_bd (sp_rStorms tb n s) (fun s => sp_bd (sp_rLoads tb n s) sp_rEnd))) := fun e h => by
    rw [md_lp_eq (md_Cw tb n) (fun s q => hS s 3 q (by decide) (by decide)) 10 8 e (fun s hs => by have := h s hs; show _ ≤ 10 + sp_nw s.2 ∧ 8 + sp_nw s.2 = 8; omega)]
    cases e with
    | error x => rw [sp_lp_e]; rfl
    | ok s => rfl
  have k4 : ∀ s : sp_S, sp_bd (md_gt (md_pc tb) e3) (sp_rCamel tb n) = .ok s → sp_nc s.2 = 1 ∧ sp_nw s.2 = 0 ∧ sp_ns s.2 = 0 ∧ sp_nl s.2 = 0 := fun s h => by
    obtain ⟨s1, h1, h2⟩ := sp_bd_inv h
    obtain ⟨s0, h3, h4⟩ := sp_bd_inv h1
    by_cases q : md_pc tb s0 = true
    · rw [if_pos q] at h4
      cases h4
      obtain ⟨z1, z2, z3, z4⟩ := hz s1 h3
      obtain ⟨c1, c2, c3, c4⟩ := rCamel_c h2 (by omega)
      omega
    · rw [if_neg q] at h4; cases h4
  have k5 := md_lp_keep (tb := tb) (w := 2) (p := md_pc tb) (f := sp_rCamel tb n) (Q := fun s => sp_nw s.2 = 0 ∧ sp_ns s.2 = 0 ∧ sp_nl s.2 = 0) (fun s s' q c h => by
    obtain ⟨-, c2, c3, c4⟩ := rCamel_c h (of_decide_eq_true (Bool.and_eq_true_iff.mp c).2)
    omega) 12 _ (fun s h => (k4 s h).2)
  have k6 := md_lp_keep (tb := tb) (w := 3) (p := md_pwl) (f := sp_rWell tb n) (Q := fun s => sp_ns s.2 = 0 ∧ sp_nl s.2 = 0) (fun s s' q c h => by
    obtain ⟨-, c3, c4⟩ := rWell_c h (of_decide_eq_true c)
    omega) 10 _ (fun s h => (k5 s h).2)
  have k7 := md_lp_keep (tb := tb) (w := 4) (p := md_ps) (f := sp_rStorm tb n) (Q := fun s => sp_nl s.2 = 0) (fun s s' q c h => by
    obtain ⟨-, c4⟩ := rStorm_c h (of_decide_eq_true c)
    omega) 8 _ (fun s h => (k6 s h).2)
  rw [gL _ k7, gS _ (fun s h => (k6 s h).1), gW _ (fun s h => (k5 s h).1)]
  cases e3 with
  | error x =>
    show sp_bd (md_lp tb 2 (md_pc tb) (sp_rCamel tb n) 12 (.error x)) _ = _
    rw [md_lp_e]
    rfl
  | ok s =>
    obtain ⟨z1, z2, z3, z4⟩ := hz s rfl
    show _ = sp_bd (sp_rCamels tb n s) _
    unfold sp_rCamels
    by_cases q : sp_isw tb s.1 2 = true
    · rw [md_gt_t (Bool.and_eq_true_iff.mpr ⟨q, decide_eq_true (by omega)⟩), if_pos q, sp_lp_y q]
      exact md_lp_eq (md_Cc tb n) (fun s q => hW s 2 q (by decide) (by decide)) 12 9 (sp_rCamel tb n s) (fun s' hs => by
        have := (rCamel_c hs (by omega)).1
        show _ ≤ 12 + sp_nc s'.2 ∧ 9 + sp_nc s'.2 = 10
        omega)
    · rw [md_gt_f (fun z => q (Bool.and_eq_true_iff.mp z).1), md_lp_e, if_neg q, sp_lp_e]
theorem MP_route {I : am_I} {J : am_J} {y n z : Nat} {tb : Nat → Nat} {e : Except Nat sp_S} (h : MP I J y tb n e) (hz : z ≤ 999) : MP (am_up I (y + 2) 0 (nI z)) J y tb n (sp_bd e (fun s => .ok (s.1, upd s.2 0 (nI z)))) := by
  cases e with
  | ok s => exact MP_set h (MR_up h.2.2.2.1 rfl) (fun b hb => am_up_ne hb) (h.2.2.2.2.1.up (by omega)) ⟨z, upd_eq, hz⟩
  | error x =>
    obtain ⟨h1, h2, h3, r, h4, h5⟩ := h
    exact ⟨by rw [am_up_ne (by omega)]; exact h1, by rw [am_up_ne (by omega)]; exact h2, h3, _, MR_up h4 rfl, h5.up (by omega)⟩
theorem md_first {I : am_I} {J : am_J} {y n : Nat} {tb : Nat → Nat} {s : sp_S} (h : MP I J y tb n (.ok s)) : sp_tk tb n (am_b (I y 14 = nI 1 ∧ J y 16 = 9877037)) (.ok s) = md_rd1 tb n (.ok s) := by
  have o : md_own 1 = 9877037 := by decide +kernel
  have q := MTok_isw (si := 1) h.2.2.1 (by decide) (by decide)
  rw [o] at q
  unfold md_rd1
  by_cases c : sp_isw tb s.1 1 = true
  · rw [md_gt_t c, ← am_bt (q.mpr c), sp_tk1]
    rfl
  · rw [md_gt_f c, ← am_bf (fun z => c (q.mp z)), sp_tk0]
    rfl
set_option maxHeartbeats 4000000 in
set_option maxRecDepth 100000 in
theorem ct_X6_readText {G : am_G} {Λ : am_L} {I : am_I} {J : am_J} {y n : Nat} {tb : Nat → Nat} {s0 : sp_S}  (hx : ModLay Λ y) (ht : MTxt I y tb n) (hP : MP I J y tb n (.ok s0)) : am_Ct G yX6_readText cX6_readText 1 none { frames := 6, cells := 0, slots := 0, locals := 129 } [.ref y] Λ I J (am_gj Λ (fun v I' J' => v = none ∧ MP I' J' y tb n (md_read tb n (.ok s0)) ∧ MPf y I I' ∧ JFr y J J')) am_never := by
  refine am_ct_of (own := RX6) rfl (by decide) (Nat.le_of_ble_eq_true rfl) (fun X C => ?_)
  change am_K G X { frames := 6, cells := 0, slots := 0, locals := 129 } 1 Λ I J 0 0 0 [(0, .ref y)] []
  refine k_aload_n C (f := 0) (i := 0) (p := 0) rfl rfl dX6_readText_0 ?_
  refine k_aload_n C (f := 0) (i := 0) (p := 0) rfl rfl dX6_readText_1 ?_
  refine k_ldc2 C l_X6_212 dX6_readText_2 ?_
  refine k_callVp C s_X6_197 h_X6_isWord (L6_s (by assumption)) rfl (ct_X6_isWord hx) rfl rfl (Nat.le_of_ble_eq_true rfl) ⟨Nat.le_of_ble_eq_true rfl, Nat.le_of_ble_eq_true rfl⟩ ⟨Nat.le_of_ble_eq_true rfl, Nat.le_of_ble_eq_true rfl⟩ ⟨rfl, rfl⟩ dX6_readText_5 ?_
  refine k_callVj C s_X6_191 h_X6_takes (L6_s (by assumption)) rfl (ct_X6_takes hx ht hP) rfl rfl (Nat.le_of_ble_eq_true rfl) ⟨Nat.le_of_ble_eq_true rfl, Nat.le_of_ble_eq_true rfl⟩ ⟨Nat.le_of_ble_eq_true rfl, Nat.le_of_ble_eq_true rfl⟩ ⟨rfl, rfl⟩ dX6_readText_8 ?_
  intro v I1 J1 hv
  obtain ⟨rfl, hP1, F1, G1⟩ := hv
  rw [md_first hP] at hP1
  obtain ⟨e1, he1⟩ : ∃ z : Except Nat sp_S, z = md_rd1 tb n (.ok s0) := ⟨_, rfl⟩
  rw [← he1] at hP1
  refine k_pop C rfl dX6_readText_11 ?_
  refine k_aload_n C (f := 0) (i := 0) (p := 0) rfl rfl dX6_readText_12 ?_
  refine k_getR C f_X6_13 (L6_s (by assumption)) (fun _ _ _ => rfl) (L6_1 (by assumption)) dX6_readText_13 ?_
  refine k_iconst C ic_0 dX6_readText_16 ?_
  refine k_aload_n C (f := 0) (i := 0) (p := 0) rfl rfl dX6_readText_17 ?_
  refine k_bipush C bc_10 dX6_readText_18 ?_
  refine k_sipush C sc_999 dX6_readText_20 ?_
  refine k_callVj C s_X6_201 h_X6_takesNumber (L6_s (by assumption)) rfl (ct_X6_takesNumber hx (F1.txt ht) hP1 (by decide)) rfl rfl (Nat.le_of_ble_eq_true rfl) ⟨Nat.le_of_ble_eq_true rfl, Nat.le_of_ble_eq_true rfl⟩ ⟨Nat.le_of_ble_eq_true rfl, Nat.le_of_ble_eq_true rfl⟩ ⟨rfl, rfl⟩ dX6_readText_23 ?_
  intro v I2 J2 hv
  obtain ⟨rfl, hP2, F2, G2⟩ := hv
  have F2 := F1.tr F2
  have G2 := G1.tr G2
  refine k_iast C (A6_1 (by assumption)) (by first | rfl | assumption) (by omega) (by decide) dX6_readText_26 ?_
  obtain ⟨I2b, hI2b⟩ : ∃ z : am_I, z = am_up I2 (y + 2) 0 (nI (sp_tz tb n 10 999 e1)) := ⟨_, rfl⟩
  rw [← hI2b]
  obtain ⟨e2, he2⟩ : ∃ z : Except Nat sp_S, z = md_rd2 tb n e1 := ⟨_, rfl⟩
  replace hP2 : MP I2b J2 y tb n e2 := by rw [hI2b, he2]; exact MP_route hP2 (sp_tz_b (by decide) (by decide))
  replace F2 : MPf y I I2b := by rw [hI2b]; exact ⟨fun k hk => (am_up_n2 (by omega)).trans (F2.1 k hk), fun b h1 h2 => (am_up_ne h2).trans (F2.2 b h1 h2)⟩
  refine k_aload_n C (f := 0) (i := 0) (p := 0) rfl rfl dX6_readText_27 ?_
  refine k_aload_n C (f := 0) (i := 0) (p := 0) rfl rfl dX6_readText_28 ?_
  refine k_getI C f_X6_164 (L6_s (by assumption)) (fun _ _ _ => rfl) (by first | assumption | rfl) dX6_readText_29 ?_
  refine k_iconst C ic_3 dX6_readText_32 ?_
  refine k_icmp_ne C (tgt := 40) (by decide) dX6_readText_33 (fun hc33 => ?_) (fun hc33 => ?_)
  · skip
    refine k_iconst C ic_0 dX6_readText_40 ?_
    refine k_callVj C s_X6_191 h_X6_takes (L6_s (by assumption)) rfl (ct_X6_takes hx (F2.txt ht) hP2) rfl rfl (Nat.le_of_ble_eq_true rfl) ⟨Nat.le_of_ble_eq_true rfl, Nat.le_of_ble_eq_true rfl⟩ ⟨Nat.le_of_ble_eq_true rfl, Nat.le_of_ble_eq_true rfl⟩ ⟨rfl, rfl⟩ dX6_readText_41 ?_
    intro v I3 J3 hv
    obtain ⟨rfl, hP3, F3, G3⟩ := hv
    have F3 := F2.tr F3
    have G3 := G2.tr G3
    rw [show sp_tk tb n _ e2 = sp_tsS tb n e2 from by first | exact sp_tkS1 hP2 hc33 | exact sp_tkS0 hP2 hc33] at hP3 ⊢
    obtain ⟨e3, he3⟩ : ∃ z : Except Nat sp_S, z = sp_tsS tb n e2 := ⟨_, rfl⟩
    rw [← he3] at hP3 ⊢
    refine k_pop C rfl dX6_readText_44 ?_
    refine k_aload_n C (f := 0) (i := 0) (p := 0) rfl rfl dX6_readText_45 ?_
    refine k_callVj C s_X6_214 h_X6_readCamel (L6_s (by assumption)) rfl (ct_X6_readCamel hx (F3.txt ht) hP3) rfl rfl (Nat.le_of_ble_eq_true rfl) ⟨Nat.le_of_ble_eq_true rfl, Nat.le_of_ble_eq_true rfl⟩ ⟨Nat.le_of_ble_eq_true rfl, Nat.le_of_ble_eq_true rfl⟩ ⟨rfl, rfl⟩ dX6_readText_46 ?_
    intro v I4 J4 hv
    obtain ⟨rfl, hP4, F4, G4⟩ := hv
    have F4 := F3.tr F4
    have G4 := G3.tr G4
    obtain ⟨e4, he4⟩ : ∃ z : Except Nat sp_S, z = sp_bd (md_gt (md_pc tb) e3) (sp_rCamel tb n) := ⟨_, rfl⟩
    replace hP4 : MP I4 J4 y tb n e4 := by rw [he4]; exact hP4
    obtain ⟨EE5, hEE5⟩ : ∃ z : Except Nat sp_S, z = md_lp tb 2 (md_pc tb) (sp_rCamel tb n) 12 e4 := ⟨_, rfl⟩
    have loop49 : ∀ (f : Nat) (k : Nat) (I5 : am_I) (J5 : am_J) (e5 : Except Nat sp_S), (MP I5 J5 y tb n e5) → (1 ≤ k ∧ ∀ s : sp_S, e5 = .ok s → 12 ≤ k + sp_nc s.2) → (md_lp tb 2 (md_pc tb) (sp_rCamel tb n) k e5 = EE5) → (MPf y I I5) → (JFr y J J5) → (k) < f → am_K G X { frames := 6, cells := 0, slots := 0, locals := 129 } 1 Λ I5 J5 0 0 49 [(0, .ref y)] [] := by
      intro f
      induction f with
      | zero => intro k I5 J5 e5 hP5 hK5 hE5 F5 G5 hf; exact absurd hf (Nat.not_lt_zero _)
      | succ f ih49 =>
        intro k I5 J5 e5 hP5 hK5 hE5 F5 G5 hf
        refine k_aload_n C (f := 0) (i := 0) (p := 0) rfl rfl dX6_readText_49 ?_
        refine k_getI C f_X6_184 (L6_s (by assumption)) (fun _ _ _ => rfl) (MP_17 hP5) dX6_readText_50 ?_
        refine k_ifb_ne C (tgt := 73) (by decide) dX6_readText_53 (fun hc53 => ?_) (fun hc53 => ?_)
        · skip
          have hX5 : EE5 = e5 := by
            rw [← hE5]
            obtain ⟨x, hx9⟩ := sp_nok hc53
            rw [hx9, md_lp_e]
          obtain ⟨EE6, hEE6⟩ : ∃ z : Except Nat sp_S, z = md_lp tb 3 md_pwl (sp_rWell tb n) 10 e5 := ⟨_, rfl⟩
          have loop73 : ∀ (f : Nat) (k : Nat) (I6 : am_I) (J6 : am_J) (e6 : Except Nat sp_S), (MP I6 J6 y tb n e6) → (1 ≤ k ∧ ∀ s : sp_S, e6 = .ok s → 10 ≤ k + sp_nw s.2) → (md_lp tb 3 md_pwl (sp_rWell tb n) k e6 = EE6) → (MPf y I I6) → (JFr y J J6) → (k) < f → am_K G X { frames := 6, cells := 0, slots := 0, locals := 129 } 1 Λ I6 J6 0 0 73 [(0, .ref y)] [] := by
            intro f
            induction f with
            | zero => intro k I6 J6 e6 hP6 hK6 hE6 F6 G6 hf; exact absurd hf (Nat.not_lt_zero _)
            | succ f ih73 =>
              intro k I6 J6 e6 hP6 hK6 hE6 F6 G6 hf
              refine k_aload_n C (f := 0) (i := 0) (p := 0) rfl rfl dX6_readText_73 ?_
              refine k_getI C f_X6_184 (L6_s (by assumption)) (fun _ _ _ => rfl) (MP_17 hP6) dX6_readText_74 ?_
              refine k_ifb_ne C (tgt := 97) (by decide) dX6_readText_77 (fun hc77 => ?_) (fun hc77 => ?_)
              · skip
                have hX6 : EE6 = e6 := by
                  rw [← hE6]
                  obtain ⟨x, hx9⟩ := sp_nok hc77
                  rw [hx9, md_lp_e]
                obtain ⟨EE7, hEE7⟩ : ∃ z : Except Nat sp_S, z = md_lp tb 4 md_ps (sp_rStorm tb n) 8 e6 := ⟨_, rfl⟩
                have loop97 : ∀ (f : Nat) (k : Nat) (I7 : am_I) (J7 : am_J) (e7 : Except Nat sp_S), (MP I7 J7 y tb n e7) → (1 ≤ k ∧ ∀ s : sp_S, e7 = .ok s → 8 ≤ k + sp_ns s.2) → (md_lp tb 4 md_ps (sp_rStorm tb n) k e7 = EE7) → (MPf y I I7) → (JFr y J J7) → (k) < f → am_K G X { frames := 6, cells := 0, slots := 0, locals := 129 } 1 Λ I7 J7 0 0 97 [(0, .ref y)] [] := by
                  intro f
                  induction f with
                  | zero => intro k I7 J7 e7 hP7 hK7 hE7 F7 G7 hf; exact absurd hf (Nat.not_lt_zero _)
                  | succ f ih97 =>
                    intro k I7 J7 e7 hP7 hK7 hE7 F7 G7 hf
                    refine k_aload_n C (f := 0) (i := 0) (p := 0) rfl rfl dX6_readText_97 ?_
                    refine k_getI C f_X6_184 (L6_s (by assumption)) (fun _ _ _ => rfl) (MP_17 hP7) dX6_readText_98 ?_
                    refine k_ifb_ne C (tgt := 121) (by decide) dX6_readText_101 (fun hc101 => ?_) (fun hc101 => ?_)
                    · skip
                      have hX7 : EE7 = e7 := by
                        rw [← hE7]
                        obtain ⟨x, hx9⟩ := sp_nok hc101
                        rw [hx9, md_lp_e]
                      obtain ⟨EE8, hEE8⟩ : ∃ z : Except Nat sp_S, z = md_lp tb 5 md_pl (sp_rLoad tb n) 22 e7 := ⟨_, rfl⟩
                      have loop121 : ∀ (f : Nat) (k : Nat) (I8 : am_I) (J8 : am_J) (e8 : Except Nat sp_S), (MP I8 J8 y tb n e8) → (1 ≤ k ∧ ∀ s : sp_S, e8 = .ok s → 22 ≤ k + sp_nl s.2) → (md_lp tb 5 md_pl (sp_rLoad tb n) k e8 = EE8) → (MPf y I I8) → (JFr y J J8) → (k) < f → am_K G X { frames := 6, cells := 0, slots := 0, locals := 129 } 1 Λ I8 J8 0 0 121 [(0, .ref y)] [] := by
                        intro f
                        induction f with
                        | zero => intro k I8 J8 e8 hP8 hK8 hE8 F8 G8 hf; exact absurd hf (Nat.not_lt_zero _)
                        | succ f ih121 =>
                          intro k I8 J8 e8 hP8 hK8 hE8 F8 G8 hf
                          refine k_aload_n C (f := 0) (i := 0) (p := 0) rfl rfl dX6_readText_121 ?_
                          refine k_getI C f_X6_184 (L6_s (by assumption)) (fun _ _ _ => rfl) (MP_17 hP8) dX6_readText_122 ?_
                          refine k_ifb_ne C (tgt := 145) (by decide) dX6_readText_125 (fun hc125 => ?_) (fun hc125 => ?_)
                          · skip
                            have hX8 : EE8 = e8 := by
                              rw [← hE8]
                              obtain ⟨x, hx9⟩ := sp_nok hc125
                              rw [hx9, md_lp_e]
                            refine k_aload_n C (f := 0) (i := 0) (p := 0) rfl rfl dX6_readText_145 ?_
                            refine k_getI C f_X6_184 (L6_s (by assumption)) (fun _ _ _ => rfl) (MP_17 hP8) dX6_readText_146 ?_
                            refine k_ifb_ne C (tgt := 165) (by decide) dX6_readText_149 (fun hc149 => ?_) (fun hc149 => ?_)
                            · skip
                              exact k_vret C (Nat.le_of_ble_eq_true rfl) (Nat.le_of_ble_eq_true rfl) (⟨rfl, by
                                have hfin : md_read tb n (.ok s0) = md_fin e8 := by
                                  unfold md_read md_rd4
                                  rw [← he1, ← he2, ← he3, ← he4, ← hEE5, hX5, ← hEE6, hX6, ← hEE7, hX7, ← hEE8, hX8]
                                first
                                | (obtain ⟨x, hx9⟩ := sp_nok hc149
                                   refine ⟨rfl, ?_, F8, G8⟩
                                   rw [hfin, hx9]
                                   rw [hx9] at hP8
                                   exact hP8)
                                | (have q : s9.1.1 = 0 := (nI_eq (b := 0) (by omega) (by decide)).mp hc156
                                   refine ⟨rfl, ?_, F8, G8⟩
                                   rw [hfin, hs9]
                                   rw [hs9] at hP8
                                   show MP _ _ y tb n (if s9.1.1 = 0 then (Except.ok s9 : Except Nat sp_S) else .error s9.1.2.1)
                                   rw [if_pos q]
                                   exact hP8)
                                | (have q : ¬ s9.1.1 = 0 := fun z => hc156 (by rw [z]; rfl)
                                   refine ⟨rfl, ?_, F8.tr F9, G8.tr G9⟩
                                   rw [hfin, hs9]
                                   rw [sp_tk0, hs9] at hP9
                                   show MP _ _ y tb n (if s9.1.1 = 0 then (Except.ok s9 : Except Nat sp_S) else .error s9.1.2.1)
                                   rw [if_neg q]
                                   exact hP9)⟩) dX6_readText_165
                            · skip
                              obtain ⟨s9, hs9⟩ := sp_ok_iff.mp (Decidable.byContradiction hc149)
                              have hQ9 := hP8
                              rw [hs9] at hQ9
                              have m14 := hQ9.2.2.1.1
                              have mb1 := hQ9.2.2.1.2.2.2.2.2.1
                              refine k_aload_n C (f := 0) (i := 0) (p := 0) rfl rfl dX6_readText_152 ?_
                              refine k_getI C f_X6_164 (L6_s (by assumption)) (fun _ _ _ => rfl) (m14) dX6_readText_153 ?_
                              refine k_if_eq C (tgt := 165) (by decide) dX6_readText_156 (fun hc156 => ?_) (fun hc156 => ?_)
                              · skip
                                exact k_vret C (Nat.le_of_ble_eq_true rfl) (Nat.le_of_ble_eq_true rfl) (⟨rfl, by
                                  have hfin : md_read tb n (.ok s0) = md_fin e8 := by
                                    unfold md_read md_rd4
                                    rw [← he1, ← he2, ← he3, ← he4, ← hEE5, hX5, ← hEE6, hX6, ← hEE7, hX7, ← hEE8, hX8]
                                  first
                                  | (obtain ⟨x, hx9⟩ := sp_nok hc149
                                     refine ⟨rfl, ?_, F8, G8⟩
                                     rw [hfin, hx9]
                                     rw [hx9] at hP8
                                     exact hP8)
                                  | (have q : s9.1.1 = 0 := (nI_eq (b := 0) (by omega) (by decide)).mp hc156
                                     refine ⟨rfl, ?_, F8, G8⟩
                                     rw [hfin, hs9]
                                     rw [hs9] at hP8
                                     show MP _ _ y tb n (if s9.1.1 = 0 then (Except.ok s9 : Except Nat sp_S) else .error s9.1.2.1)
                                     rw [if_pos q]
                                     exact hP8)
                                  | (have q : ¬ s9.1.1 = 0 := fun z => hc156 (by rw [z]; rfl)
                                     refine ⟨rfl, ?_, F8.tr F9, G8.tr G9⟩
                                     rw [hfin, hs9]
                                     rw [sp_tk0, hs9] at hP9
                                     show MP _ _ y tb n (if s9.1.1 = 0 then (Except.ok s9 : Except Nat sp_S) else .error s9.1.2.1)
                                     rw [if_neg q]
                                     exact hP9)⟩) dX6_readText_165
                              · skip
                                refine k_aload_n C (f := 0) (i := 0) (p := 0) rfl rfl dX6_readText_159 ?_
                                refine k_iconst C ic_0 dX6_readText_160 ?_
                                refine k_callVj C s_X6_191 h_X6_takes (L6_s (by assumption)) rfl (ct_X6_takes hx (F8.txt ht) hP8) rfl rfl (Nat.le_of_ble_eq_true rfl) ⟨Nat.le_of_ble_eq_true rfl, Nat.le_of_ble_eq_true rfl⟩ ⟨Nat.le_of_ble_eq_true rfl, Nat.le_of_ble_eq_true rfl⟩ ⟨rfl, rfl⟩ dX6_readText_161 ?_
                                intro v I9 J9 hv
                                obtain ⟨rfl, hP9, F9, G9⟩ := hv
                                refine k_pop C rfl dX6_readText_164 ?_
                                exact k_vret C (Nat.le_of_ble_eq_true rfl) (Nat.le_of_ble_eq_true rfl) (⟨rfl, by
                                  have hfin : md_read tb n (.ok s0) = md_fin e8 := by
                                    unfold md_read md_rd4
                                    rw [← he1, ← he2, ← he3, ← he4, ← hEE5, hX5, ← hEE6, hX6, ← hEE7, hX7, ← hEE8, hX8]
                                  first
                                  | (obtain ⟨x, hx9⟩ := sp_nok hc149
                                     refine ⟨rfl, ?_, F8, G8⟩
                                     rw [hfin, hx9]
                                     rw [hx9] at hP8
                                     exact hP8)
                                  | (have q : s9.1.1 = 0 := (nI_eq (b := 0) (by omega) (by decide)).mp hc156
                                     refine ⟨rfl, ?_, F8, G8⟩
                                     rw [hfin, hs9]
                                     rw [hs9] at hP8
                                     show MP _ _ y tb n (if s9.1.1 = 0 then (Except.ok s9 : Except Nat sp_S) else .error s9.1.2.1)
                                     rw [if_pos q]
                                     exact hP8)
                                  | (have q : ¬ s9.1.1 = 0 := fun z => hc156 (by rw [z]; rfl)
                                     refine ⟨rfl, ?_, F8.tr F9, G8.tr G9⟩
                                     rw [hfin, hs9]
                                     rw [sp_tk0, hs9] at hP9
                                     show MP _ _ y tb n (if s9.1.1 = 0 then (Except.ok s9 : Except Nat sp_S) else .error s9.1.2.1)
                                     rw [if_neg q]
                                     exact hP9)⟩) dX6_readText_165
                          · skip
                            obtain ⟨s8, hs8⟩ := sp_ok_iff.mp (Decidable.byContradiction hc125)
                            have hQ8 := hP8
                            rw [hs8] at hQ8
                            have hB8 : sp_nl s8.2 ≤ 20 := hQ8.2.2.2.2.1.2.2.2.2
                            refine k_aload_n C (f := 0) (i := 0) (p := 0) rfl rfl dX6_readText_128 ?_
                            refine k_ldc2 C l_X6_227 dX6_readText_129 ?_
                            refine k_callVp C s_X6_197 h_X6_isWord (L6_s (by assumption)) rfl (ct_X6_isWord hx) rfl rfl (Nat.le_of_ble_eq_true rfl) ⟨Nat.le_of_ble_eq_true rfl, Nat.le_of_ble_eq_true rfl⟩ ⟨Nat.le_of_ble_eq_true rfl, Nat.le_of_ble_eq_true rfl⟩ ⟨rfl, rfl⟩ dX6_readText_132 ?_
                            refine k_ifb_eq C (tgt := 145) (by decide) dX6_readText_135 (fun hc135 => ?_) (fun hc135 => ?_)
                            · skip
                              have hX8 : EE8 = e8 := by
                                rw [← hE8, hs8, md_lp_n (fun z => hc135 (by
                                  have q := (MTok_isw (si := 5) hQ8.2.2.1 (by decide) (by decide)).mpr z
                                  exact ⟨q.1, q.2.trans (show md_own 5 = (247162 : Int64) by decide +kernel)⟩))]
                              refine k_aload_n C (f := 0) (i := 0) (p := 0) rfl rfl dX6_readText_145 ?_
                              refine k_getI C f_X6_184 (L6_s (by assumption)) (fun _ _ _ => rfl) (MP_17 hP8) dX6_readText_146 ?_
                              refine k_ifb_ne C (tgt := 165) (by decide) dX6_readText_149 (fun hc149 => ?_) (fun hc149 => ?_)
                              · skip
                                exact k_vret C (Nat.le_of_ble_eq_true rfl) (Nat.le_of_ble_eq_true rfl) (⟨rfl, by
                                  have hfin : md_read tb n (.ok s0) = md_fin e8 := by
                                    unfold md_read md_rd4
                                    rw [← he1, ← he2, ← he3, ← he4, ← hEE5, hX5, ← hEE6, hX6, ← hEE7, hX7, ← hEE8, hX8]
                                  first
                                  | (obtain ⟨x, hx9⟩ := sp_nok hc149
                                     refine ⟨rfl, ?_, F8, G8⟩
                                     rw [hfin, hx9]
                                     rw [hx9] at hP8
                                     exact hP8)
                                  | (have q : s9.1.1 = 0 := (nI_eq (b := 0) (by omega) (by decide)).mp hc156
                                     refine ⟨rfl, ?_, F8, G8⟩
                                     rw [hfin, hs9]
                                     rw [hs9] at hP8
                                     show MP _ _ y tb n (if s9.1.1 = 0 then (Except.ok s9 : Except Nat sp_S) else .error s9.1.2.1)
                                     rw [if_pos q]
                                     exact hP8)
                                  | (have q : ¬ s9.1.1 = 0 := fun z => hc156 (by rw [z]; rfl)
                                     refine ⟨rfl, ?_, F8.tr F9, G8.tr G9⟩
                                     rw [hfin, hs9]
                                     rw [sp_tk0, hs9] at hP9
                                     show MP _ _ y tb n (if s9.1.1 = 0 then (Except.ok s9 : Except Nat sp_S) else .error s9.1.2.1)
                                     rw [if_neg q]
                                     exact hP9)⟩) dX6_readText_165
                              · skip
                                obtain ⟨s9, hs9⟩ := sp_ok_iff.mp (Decidable.byContradiction hc149)
                                have hQ9 := hP8
                                rw [hs9] at hQ9
                                have m14 := hQ9.2.2.1.1
                                have mb1 := hQ9.2.2.1.2.2.2.2.2.1
                                refine k_aload_n C (f := 0) (i := 0) (p := 0) rfl rfl dX6_readText_152 ?_
                                refine k_getI C f_X6_164 (L6_s (by assumption)) (fun _ _ _ => rfl) (m14) dX6_readText_153 ?_
                                refine k_if_eq C (tgt := 165) (by decide) dX6_readText_156 (fun hc156 => ?_) (fun hc156 => ?_)
                                · skip
                                  exact k_vret C (Nat.le_of_ble_eq_true rfl) (Nat.le_of_ble_eq_true rfl) (⟨rfl, by
                                    have hfin : md_read tb n (.ok s0) = md_fin e8 := by
                                      unfold md_read md_rd4
                                      rw [← he1, ← he2, ← he3, ← he4, ← hEE5, hX5, ← hEE6, hX6, ← hEE7, hX7, ← hEE8, hX8]
                                    first
                                    | (obtain ⟨x, hx9⟩ := sp_nok hc149
                                       refine ⟨rfl, ?_, F8, G8⟩
                                       rw [hfin, hx9]
                                       rw [hx9] at hP8
                                       exact hP8)
                                    | (have q : s9.1.1 = 0 := (nI_eq (b := 0) (by omega) (by decide)).mp hc156
                                       refine ⟨rfl, ?_, F8, G8⟩
                                       rw [hfin, hs9]
                                       rw [hs9] at hP8
                                       show MP _ _ y tb n (if s9.1.1 = 0 then (Except.ok s9 : Except Nat sp_S) else .error s9.1.2.1)
                                       rw [if_pos q]
                                       exact hP8)
                                    | (have q : ¬ s9.1.1 = 0 := fun z => hc156 (by rw [z]; rfl)
                                       refine ⟨rfl, ?_, F8.tr F9, G8.tr G9⟩
                                       rw [hfin, hs9]
                                       rw [sp_tk0, hs9] at hP9
                                       show MP _ _ y tb n (if s9.1.1 = 0 then (Except.ok s9 : Except Nat sp_S) else .error s9.1.2.1)
                                       rw [if_neg q]
                                       exact hP9)⟩) dX6_readText_165
                                · skip
                                  refine k_aload_n C (f := 0) (i := 0) (p := 0) rfl rfl dX6_readText_159 ?_
                                  refine k_iconst C ic_0 dX6_readText_160 ?_
                                  refine k_callVj C s_X6_191 h_X6_takes (L6_s (by assumption)) rfl (ct_X6_takes hx (F8.txt ht) hP8) rfl rfl (Nat.le_of_ble_eq_true rfl) ⟨Nat.le_of_ble_eq_true rfl, Nat.le_of_ble_eq_true rfl⟩ ⟨Nat.le_of_ble_eq_true rfl, Nat.le_of_ble_eq_true rfl⟩ ⟨rfl, rfl⟩ dX6_readText_161 ?_
                                  intro v I9 J9 hv
                                  obtain ⟨rfl, hP9, F9, G9⟩ := hv
                                  refine k_pop C rfl dX6_readText_164 ?_
                                  exact k_vret C (Nat.le_of_ble_eq_true rfl) (Nat.le_of_ble_eq_true rfl) (⟨rfl, by
                                    have hfin : md_read tb n (.ok s0) = md_fin e8 := by
                                      unfold md_read md_rd4
                                      rw [← he1, ← he2, ← he3, ← he4, ← hEE5, hX5, ← hEE6, hX6, ← hEE7, hX7, ← hEE8, hX8]
                                    first
                                    | (obtain ⟨x, hx9⟩ := sp_nok hc149
                                       refine ⟨rfl, ?_, F8, G8⟩
                                       rw [hfin, hx9]
                                       rw [hx9] at hP8
                                       exact hP8)
                                    | (have q : s9.1.1 = 0 := (nI_eq (b := 0) (by omega) (by decide)).mp hc156
                                       refine ⟨rfl, ?_, F8, G8⟩
                                       rw [hfin, hs9]
                                       rw [hs9] at hP8
                                       show MP _ _ y tb n (if s9.1.1 = 0 then (Except.ok s9 : Except Nat sp_S) else .error s9.1.2.1)
                                       rw [if_pos q]
                                       exact hP8)
                                    | (have q : ¬ s9.1.1 = 0 := fun z => hc156 (by rw [z]; rfl)
                                       refine ⟨rfl, ?_, F8.tr F9, G8.tr G9⟩
                                       rw [hfin, hs9]
                                       rw [sp_tk0, hs9] at hP9
                                       show MP _ _ y tb n (if s9.1.1 = 0 then (Except.ok s9 : Except Nat sp_S) else .error s9.1.2.1)
                                       rw [if_neg q]
                                       exact hP9)⟩) dX6_readText_165
                            · skip
                              have hw8 : sp_isw tb s8.1 5 = true := (MTok_isw hQ8.2.2.1 (by decide) (by decide)).mp ⟨hc135.1, hc135.2.trans (show (247162 : Int64) = md_own 5 by decide +kernel)⟩
                              refine k_aload_n C (f := 0) (i := 0) (p := 0) rfl rfl dX6_readText_138 ?_
                              refine k_callVj C s_X6_229 h_X6_readLoad (L6_s (by assumption)) rfl (ct_X6_readLoad hx (F8.txt ht) hP8) rfl rfl (Nat.le_of_ble_eq_true rfl) ⟨Nat.le_of_ble_eq_true rfl, Nat.le_of_ble_eq_true rfl⟩ ⟨Nat.le_of_ble_eq_true rfl, Nat.le_of_ble_eq_true rfl⟩ ⟨rfl, rfl⟩ dX6_readText_139 ?_
                              intro v I8' J8' hv
                              obtain ⟨rfl, hP8', F8', G8'⟩ := hv
                              have F8' := F8.tr F8'
                              have G8' := G8.tr G8'
                              refine k_goto C (tgt := 121) (by decide) dX6_readText_142 ?_
                              refine k_sub [0] rfl ?_
                              obtain ⟨k0, rfl⟩ : ∃ k0, k = k0 + 1 := ⟨k - 1, by omega⟩
                              rw [hs8] at hE8 hK8 hP8'
                              exact ih121 k0 I8' J8' _ hP8' (by
                                have z := hK8.2 s8 rfl
                                have zb := hB8
                                refine ⟨by omega, fun s' hs' => ?_⟩
                                by_cases c : md_pl s8 = true
                                · replace hs' : sp_bd (md_gt md_pl (.ok s8)) (sp_rLoad tb n) = .ok s' := hs'
                                  rw [md_gt_t c] at hs'
                                  have c2 := ((md_Cl tb n).1 s8 hw8).mp c
                                  have c3 : sp_nl s'.2 = sp_nl s8.2 + 1 := (md_Cl tb n).2 s8 s' c2 hs'
                                  omega
                                · replace hs' : sp_bd (md_gt md_pl (.ok s8)) (sp_rLoad tb n) = .ok s' := hs'
                                  rw [md_gt_f c] at hs'; cases hs') (by rw [md_lp_y hw8] at hE8; exact hE8) F8' G8' (by omega)
                      refine k_sub [0] rfl ?_
                      exact loop121 23 22 I7 J7 e7 hP7 ⟨by decide, fun s _ => by omega⟩ hEE8.symm F7 G7 (by decide)
                    · skip
                      obtain ⟨s7, hs7⟩ := sp_ok_iff.mp (Decidable.byContradiction hc101)
                      have hQ7 := hP7
                      rw [hs7] at hQ7
                      have hB7 : sp_ns s7.2 ≤ 6 := hQ7.2.2.2.2.1.2.2.2.1
                      refine k_aload_n C (f := 0) (i := 0) (p := 0) rfl rfl dX6_readText_104 ?_
                      refine k_ldc2 C l_X6_222 dX6_readText_105 ?_
                      refine k_callVp C s_X6_197 h_X6_isWord (L6_s (by assumption)) rfl (ct_X6_isWord hx) rfl rfl (Nat.le_of_ble_eq_true rfl) ⟨Nat.le_of_ble_eq_true rfl, Nat.le_of_ble_eq_true rfl⟩ ⟨Nat.le_of_ble_eq_true rfl, Nat.le_of_ble_eq_true rfl⟩ ⟨rfl, rfl⟩ dX6_readText_108 ?_
                      refine k_ifb_eq C (tgt := 121) (by decide) dX6_readText_111 (fun hc111 => ?_) (fun hc111 => ?_)
                      · skip
                        have hX7 : EE7 = e7 := by
                          rw [← hE7, hs7, md_lp_n (fun z => hc111 (by
                            have q := (MTok_isw (si := 4) hQ7.2.2.1 (by decide) (by decide)).mpr z
                            exact ⟨q.1, q.2.trans (show md_own 4 = (10502473 : Int64) by decide +kernel)⟩))]
                        obtain ⟨EE8, hEE8⟩ : ∃ z : Except Nat sp_S, z = md_lp tb 5 md_pl (sp_rLoad tb n) 22 e7 := ⟨_, rfl⟩
                        have loop121 : ∀ (f : Nat) (k : Nat) (I8 : am_I) (J8 : am_J) (e8 : Except Nat sp_S), (MP I8 J8 y tb n e8) → (1 ≤ k ∧ ∀ s : sp_S, e8 = .ok s → 22 ≤ k + sp_nl s.2) → (md_lp tb 5 md_pl (sp_rLoad tb n) k e8 = EE8) → (MPf y I I8) → (JFr y J J8) → (k) < f → am_K G X { frames := 6, cells := 0, slots := 0, locals := 129 } 1 Λ I8 J8 0 0 121 [(0, .ref y)] [] := by
                          intro f
                          induction f with
                          | zero => intro k I8 J8 e8 hP8 hK8 hE8 F8 G8 hf; exact absurd hf (Nat.not_lt_zero _)
                          | succ f ih121 =>
                            intro k I8 J8 e8 hP8 hK8 hE8 F8 G8 hf
                            refine k_aload_n C (f := 0) (i := 0) (p := 0) rfl rfl dX6_readText_121 ?_
                            refine k_getI C f_X6_184 (L6_s (by assumption)) (fun _ _ _ => rfl) (MP_17 hP8) dX6_readText_122 ?_
                            refine k_ifb_ne C (tgt := 145) (by decide) dX6_readText_125 (fun hc125 => ?_) (fun hc125 => ?_)
                            · skip
                              have hX8 : EE8 = e8 := by
                                rw [← hE8]
                                obtain ⟨x, hx9⟩ := sp_nok hc125
                                rw [hx9, md_lp_e]
                              refine k_aload_n C (f := 0) (i := 0) (p := 0) rfl rfl dX6_readText_145 ?_
                              refine k_getI C f_X6_184 (L6_s (by assumption)) (fun _ _ _ => rfl) (MP_17 hP8) dX6_readText_146 ?_
                              refine k_ifb_ne C (tgt := 165) (by decide) dX6_readText_149 (fun hc149 => ?_) (fun hc149 => ?_)
                              · skip
                                exact k_vret C (Nat.le_of_ble_eq_true rfl) (Nat.le_of_ble_eq_true rfl) (⟨rfl, by
                                  have hfin : md_read tb n (.ok s0) = md_fin e8 := by
                                    unfold md_read md_rd4
                                    rw [← he1, ← he2, ← he3, ← he4, ← hEE5, hX5, ← hEE6, hX6, ← hEE7, hX7, ← hEE8, hX8]
                                  first
                                  | (obtain ⟨x, hx9⟩ := sp_nok hc149
                                     refine ⟨rfl, ?_, F8, G8⟩
                                     rw [hfin, hx9]
                                     rw [hx9] at hP8
                                     exact hP8)
                                  | (have q : s9.1.1 = 0 := (nI_eq (b := 0) (by omega) (by decide)).mp hc156
                                     refine ⟨rfl, ?_, F8, G8⟩
                                     rw [hfin, hs9]
                                     rw [hs9] at hP8
                                     show MP _ _ y tb n (if s9.1.1 = 0 then (Except.ok s9 : Except Nat sp_S) else .error s9.1.2.1)
                                     rw [if_pos q]
                                     exact hP8)
                                  | (have q : ¬ s9.1.1 = 0 := fun z => hc156 (by rw [z]; rfl)
                                     refine ⟨rfl, ?_, F8.tr F9, G8.tr G9⟩
                                     rw [hfin, hs9]
                                     rw [sp_tk0, hs9] at hP9
                                     show MP _ _ y tb n (if s9.1.1 = 0 then (Except.ok s9 : Except Nat sp_S) else .error s9.1.2.1)
                                     rw [if_neg q]
                                     exact hP9)⟩) dX6_readText_165
                              · skip
                                obtain ⟨s9, hs9⟩ := sp_ok_iff.mp (Decidable.byContradiction hc149)
                                have hQ9 := hP8
                                rw [hs9] at hQ9
                                have m14 := hQ9.2.2.1.1
                                have mb1 := hQ9.2.2.1.2.2.2.2.2.1
                                refine k_aload_n C (f := 0) (i := 0) (p := 0) rfl rfl dX6_readText_152 ?_
                                refine k_getI C f_X6_164 (L6_s (by assumption)) (fun _ _ _ => rfl) (m14) dX6_readText_153 ?_
                                refine k_if_eq C (tgt := 165) (by decide) dX6_readText_156 (fun hc156 => ?_) (fun hc156 => ?_)
                                · skip
                                  exact k_vret C (Nat.le_of_ble_eq_true rfl) (Nat.le_of_ble_eq_true rfl) (⟨rfl, by
                                    have hfin : md_read tb n (.ok s0) = md_fin e8 := by
                                      unfold md_read md_rd4
                                      rw [← he1, ← he2, ← he3, ← he4, ← hEE5, hX5, ← hEE6, hX6, ← hEE7, hX7, ← hEE8, hX8]
                                    first
                                    | (obtain ⟨x, hx9⟩ := sp_nok hc149
                                       refine ⟨rfl, ?_, F8, G8⟩
                                       rw [hfin, hx9]
                                       rw [hx9] at hP8
                                       exact hP8)
                                    | (have q : s9.1.1 = 0 := (nI_eq (b := 0) (by omega) (by decide)).mp hc156
                                       refine ⟨rfl, ?_, F8, G8⟩
                                       rw [hfin, hs9]
                                       rw [hs9] at hP8
                                       show MP _ _ y tb n (if s9.1.1 = 0 then (Except.ok s9 : Except Nat sp_S) else .error s9.1.2.1)
                                       rw [if_pos q]
                                       exact hP8)
                                    | (have q : ¬ s9.1.1 = 0 := fun z => hc156 (by rw [z]; rfl)
                                       refine ⟨rfl, ?_, F8.tr F9, G8.tr G9⟩
                                       rw [hfin, hs9]
                                       rw [sp_tk0, hs9] at hP9
                                       show MP _ _ y tb n (if s9.1.1 = 0 then (Except.ok s9 : Except Nat sp_S) else .error s9.1.2.1)
                                       rw [if_neg q]
                                       exact hP9)⟩) dX6_readText_165
                                · skip
                                  refine k_aload_n C (f := 0) (i := 0) (p := 0) rfl rfl dX6_readText_159 ?_
                                  refine k_iconst C ic_0 dX6_readText_160 ?_
                                  refine k_callVj C s_X6_191 h_X6_takes (L6_s (by assumption)) rfl (ct_X6_takes hx (F8.txt ht) hP8) rfl rfl (Nat.le_of_ble_eq_true rfl) ⟨Nat.le_of_ble_eq_true rfl, Nat.le_of_ble_eq_true rfl⟩ ⟨Nat.le_of_ble_eq_true rfl, Nat.le_of_ble_eq_true rfl⟩ ⟨rfl, rfl⟩ dX6_readText_161 ?_
                                  intro v I9 J9 hv
                                  obtain ⟨rfl, hP9, F9, G9⟩ := hv
                                  refine k_pop C rfl dX6_readText_164 ?_
                                  exact k_vret C (Nat.le_of_ble_eq_true rfl) (Nat.le_of_ble_eq_true rfl) (⟨rfl, by
                                    have hfin : md_read tb n (.ok s0) = md_fin e8 := by
                                      unfold md_read md_rd4
                                      rw [← he1, ← he2, ← he3, ← he4, ← hEE5, hX5, ← hEE6, hX6, ← hEE7, hX7, ← hEE8, hX8]
                                    first
                                    | (obtain ⟨x, hx9⟩ := sp_nok hc149
                                       refine ⟨rfl, ?_, F8, G8⟩
                                       rw [hfin, hx9]
                                       rw [hx9] at hP8
                                       exact hP8)
                                    | (have q : s9.1.1 = 0 := (nI_eq (b := 0) (by omega) (by decide)).mp hc156
                                       refine ⟨rfl, ?_, F8, G8⟩
                                       rw [hfin, hs9]
                                       rw [hs9] at hP8
                                       show MP _ _ y tb n (if s9.1.1 = 0 then (Except.ok s9 : Except Nat sp_S) else .error s9.1.2.1)
                                       rw [if_pos q]
                                       exact hP8)
                                    | (have q : ¬ s9.1.1 = 0 := fun z => hc156 (by rw [z]; rfl)
                                       refine ⟨rfl, ?_, F8.tr F9, G8.tr G9⟩
                                       rw [hfin, hs9]
                                       rw [sp_tk0, hs9] at hP9
                                       show MP _ _ y tb n (if s9.1.1 = 0 then (Except.ok s9 : Except Nat sp_S) else .error s9.1.2.1)
                                       rw [if_neg q]
                                       exact hP9)⟩) dX6_readText_165
                            · skip
                              obtain ⟨s8, hs8⟩ := sp_ok_iff.mp (Decidable.byContradiction hc125)
                              have hQ8 := hP8
                              rw [hs8] at hQ8
                              have hB8 : sp_nl s8.2 ≤ 20 := hQ8.2.2.2.2.1.2.2.2.2
                              refine k_aload_n C (f := 0) (i := 0) (p := 0) rfl rfl dX6_readText_128 ?_
                              refine k_ldc2 C l_X6_227 dX6_readText_129 ?_
                              refine k_callVp C s_X6_197 h_X6_isWord (L6_s (by assumption)) rfl (ct_X6_isWord hx) rfl rfl (Nat.le_of_ble_eq_true rfl) ⟨Nat.le_of_ble_eq_true rfl, Nat.le_of_ble_eq_true rfl⟩ ⟨Nat.le_of_ble_eq_true rfl, Nat.le_of_ble_eq_true rfl⟩ ⟨rfl, rfl⟩ dX6_readText_132 ?_
                              refine k_ifb_eq C (tgt := 145) (by decide) dX6_readText_135 (fun hc135 => ?_) (fun hc135 => ?_)
                              · skip
                                have hX8 : EE8 = e8 := by
                                  rw [← hE8, hs8, md_lp_n (fun z => hc135 (by
                                    have q := (MTok_isw (si := 5) hQ8.2.2.1 (by decide) (by decide)).mpr z
                                    exact ⟨q.1, q.2.trans (show md_own 5 = (247162 : Int64) by decide +kernel)⟩))]
                                refine k_aload_n C (f := 0) (i := 0) (p := 0) rfl rfl dX6_readText_145 ?_
                                refine k_getI C f_X6_184 (L6_s (by assumption)) (fun _ _ _ => rfl) (MP_17 hP8) dX6_readText_146 ?_
                                refine k_ifb_ne C (tgt := 165) (by decide) dX6_readText_149 (fun hc149 => ?_) (fun hc149 => ?_)
                                · skip
                                  exact k_vret C (Nat.le_of_ble_eq_true rfl) (Nat.le_of_ble_eq_true rfl) (⟨rfl, by
                                    have hfin : md_read tb n (.ok s0) = md_fin e8 := by
                                      unfold md_read md_rd4
                                      rw [← he1, ← he2, ← he3, ← he4, ← hEE5, hX5, ← hEE6, hX6, ← hEE7, hX7, ← hEE8, hX8]
                                    first
                                    | (obtain ⟨x, hx9⟩ := sp_nok hc149
                                       refine ⟨rfl, ?_, F8, G8⟩
                                       rw [hfin, hx9]
                                       rw [hx9] at hP8
                                       exact hP8)
                                    | (have q : s9.1.1 = 0 := (nI_eq (b := 0) (by omega) (by decide)).mp hc156
                                       refine ⟨rfl, ?_, F8, G8⟩
                                       rw [hfin, hs9]
                                       rw [hs9] at hP8
                                       show MP _ _ y tb n (if s9.1.1 = 0 then (Except.ok s9 : Except Nat sp_S) else .error s9.1.2.1)
                                       rw [if_pos q]
                                       exact hP8)
                                    | (have q : ¬ s9.1.1 = 0 := fun z => hc156 (by rw [z]; rfl)
                                       refine ⟨rfl, ?_, F8.tr F9, G8.tr G9⟩
                                       rw [hfin, hs9]
                                       rw [sp_tk0, hs9] at hP9
                                       show MP _ _ y tb n (if s9.1.1 = 0 then (Except.ok s9 : Except Nat sp_S) else .error s9.1.2.1)
                                       rw [if_neg q]
                                       exact hP9)⟩) dX6_readText_165
                                · skip
                                  obtain ⟨s9, hs9⟩ := sp_ok_iff.mp (Decidable.byContradiction hc149)
                                  have hQ9 := hP8
                                  rw [hs9] at hQ9
                                  have m14 := hQ9.2.2.1.1
                                  have mb1 := hQ9.2.2.1.2.2.2.2.2.1
                                  refine k_aload_n C (f := 0) (i := 0) (p := 0) rfl rfl dX6_readText_152 ?_
                                  refine k_getI C f_X6_164 (L6_s (by assumption)) (fun _ _ _ => rfl) (m14) dX6_readText_153 ?_
                                  refine k_if_eq C (tgt := 165) (by decide) dX6_readText_156 (fun hc156 => ?_) (fun hc156 => ?_)
                                  · skip
                                    exact k_vret C (Nat.le_of_ble_eq_true rfl) (Nat.le_of_ble_eq_true rfl) (⟨rfl, by
                                      have hfin : md_read tb n (.ok s0) = md_fin e8 := by
                                        unfold md_read md_rd4
                                        rw [← he1, ← he2, ← he3, ← he4, ← hEE5, hX5, ← hEE6, hX6, ← hEE7, hX7, ← hEE8, hX8]
                                      first
                                      | (obtain ⟨x, hx9⟩ := sp_nok hc149
                                         refine ⟨rfl, ?_, F8, G8⟩
                                         rw [hfin, hx9]
                                         rw [hx9] at hP8
                                         exact hP8)
                                      | (have q : s9.1.1 = 0 := (nI_eq (b := 0) (by omega) (by decide)).mp hc156
                                         refine ⟨rfl, ?_, F8, G8⟩
                                         rw [hfin, hs9]
                                         rw [hs9] at hP8
                                         show MP _ _ y tb n (if s9.1.1 = 0 then (Except.ok s9 : Except Nat sp_S) else .error s9.1.2.1)
                                         rw [if_pos q]
                                         exact hP8)
                                      | (have q : ¬ s9.1.1 = 0 := fun z => hc156 (by rw [z]; rfl)
                                         refine ⟨rfl, ?_, F8.tr F9, G8.tr G9⟩
                                         rw [hfin, hs9]
                                         rw [sp_tk0, hs9] at hP9
                                         show MP _ _ y tb n (if s9.1.1 = 0 then (Except.ok s9 : Except Nat sp_S) else .error s9.1.2.1)
                                         rw [if_neg q]
                                         exact hP9)⟩) dX6_readText_165
                                  · skip
                                    refine k_aload_n C (f := 0) (i := 0) (p := 0) rfl rfl dX6_readText_159 ?_
                                    refine k_iconst C ic_0 dX6_readText_160 ?_
                                    refine k_callVj C s_X6_191 h_X6_takes (L6_s (by assumption)) rfl (ct_X6_takes hx (F8.txt ht) hP8) rfl rfl (Nat.le_of_ble_eq_true rfl) ⟨Nat.le_of_ble_eq_true rfl, Nat.le_of_ble_eq_true rfl⟩ ⟨Nat.le_of_ble_eq_true rfl, Nat.le_of_ble_eq_true rfl⟩ ⟨rfl, rfl⟩ dX6_readText_161 ?_
                                    intro v I9 J9 hv
                                    obtain ⟨rfl, hP9, F9, G9⟩ := hv
                                    refine k_pop C rfl dX6_readText_164 ?_
                                    exact k_vret C (Nat.le_of_ble_eq_true rfl) (Nat.le_of_ble_eq_true rfl) (⟨rfl, by
                                      have hfin : md_read tb n (.ok s0) = md_fin e8 := by
                                        unfold md_read md_rd4
                                        rw [← he1, ← he2, ← he3, ← he4, ← hEE5, hX5, ← hEE6, hX6, ← hEE7, hX7, ← hEE8, hX8]
                                      first
                                      | (obtain ⟨x, hx9⟩ := sp_nok hc149
                                         refine ⟨rfl, ?_, F8, G8⟩
                                         rw [hfin, hx9]
                                         rw [hx9] at hP8
                                         exact hP8)
                                      | (have q : s9.1.1 = 0 := (nI_eq (b := 0) (by omega) (by decide)).mp hc156
                                         refine ⟨rfl, ?_, F8, G8⟩
                                         rw [hfin, hs9]
                                         rw [hs9] at hP8
                                         show MP _ _ y tb n (if s9.1.1 = 0 then (Except.ok s9 : Except Nat sp_S) else .error s9.1.2.1)
                                         rw [if_pos q]
                                         exact hP8)
                                      | (have q : ¬ s9.1.1 = 0 := fun z => hc156 (by rw [z]; rfl)
                                         refine ⟨rfl, ?_, F8.tr F9, G8.tr G9⟩
                                         rw [hfin, hs9]
                                         rw [sp_tk0, hs9] at hP9
                                         show MP _ _ y tb n (if s9.1.1 = 0 then (Except.ok s9 : Except Nat sp_S) else .error s9.1.2.1)
                                         rw [if_neg q]
                                         exact hP9)⟩) dX6_readText_165
                              · skip
                                have hw8 : sp_isw tb s8.1 5 = true := (MTok_isw hQ8.2.2.1 (by decide) (by decide)).mp ⟨hc135.1, hc135.2.trans (show (247162 : Int64) = md_own 5 by decide +kernel)⟩
                                refine k_aload_n C (f := 0) (i := 0) (p := 0) rfl rfl dX6_readText_138 ?_
                                refine k_callVj C s_X6_229 h_X6_readLoad (L6_s (by assumption)) rfl (ct_X6_readLoad hx (F8.txt ht) hP8) rfl rfl (Nat.le_of_ble_eq_true rfl) ⟨Nat.le_of_ble_eq_true rfl, Nat.le_of_ble_eq_true rfl⟩ ⟨Nat.le_of_ble_eq_true rfl, Nat.le_of_ble_eq_true rfl⟩ ⟨rfl, rfl⟩ dX6_readText_139 ?_
                                intro v I8' J8' hv
                                obtain ⟨rfl, hP8', F8', G8'⟩ := hv
                                have F8' := F8.tr F8'
                                have G8' := G8.tr G8'
                                refine k_goto C (tgt := 121) (by decide) dX6_readText_142 ?_
                                refine k_sub [0] rfl ?_
                                obtain ⟨k0, rfl⟩ : ∃ k0, k = k0 + 1 := ⟨k - 1, by omega⟩
                                rw [hs8] at hE8 hK8 hP8'
                                exact ih121 k0 I8' J8' _ hP8' (by
                                  have z := hK8.2 s8 rfl
                                  have zb := hB8
                                  refine ⟨by omega, fun s' hs' => ?_⟩
                                  by_cases c : md_pl s8 = true
                                  · replace hs' : sp_bd (md_gt md_pl (.ok s8)) (sp_rLoad tb n) = .ok s' := hs'
                                    rw [md_gt_t c] at hs'
                                    have c2 := ((md_Cl tb n).1 s8 hw8).mp c
                                    have c3 : sp_nl s'.2 = sp_nl s8.2 + 1 := (md_Cl tb n).2 s8 s' c2 hs'
                                    omega
                                  · replace hs' : sp_bd (md_gt md_pl (.ok s8)) (sp_rLoad tb n) = .ok s' := hs'
                                    rw [md_gt_f c] at hs'; cases hs') (by rw [md_lp_y hw8] at hE8; exact hE8) F8' G8' (by omega)
                        refine k_sub [0] rfl ?_
                        exact loop121 23 22 I7 J7 e7 hP7 ⟨by decide, fun s _ => by omega⟩ hEE8.symm F7 G7 (by decide)
                      · skip
                        have hw7 : sp_isw tb s7.1 4 = true := (MTok_isw hQ7.2.2.1 (by decide) (by decide)).mp ⟨hc111.1, hc111.2.trans (show (10502473 : Int64) = md_own 4 by decide +kernel)⟩
                        refine k_aload_n C (f := 0) (i := 0) (p := 0) rfl rfl dX6_readText_114 ?_
                        refine k_callVj C s_X6_224 h_X6_readStorm (L6_s (by assumption)) rfl (ct_X6_readStorm hx (F7.txt ht) hP7) rfl rfl (Nat.le_of_ble_eq_true rfl) ⟨Nat.le_of_ble_eq_true rfl, Nat.le_of_ble_eq_true rfl⟩ ⟨Nat.le_of_ble_eq_true rfl, Nat.le_of_ble_eq_true rfl⟩ ⟨rfl, rfl⟩ dX6_readText_115 ?_
                        intro v I7' J7' hv
                        obtain ⟨rfl, hP7', F7', G7'⟩ := hv
                        have F7' := F7.tr F7'
                        have G7' := G7.tr G7'
                        refine k_goto C (tgt := 97) (by decide) dX6_readText_118 ?_
                        refine k_sub [0] rfl ?_
                        obtain ⟨k0, rfl⟩ : ∃ k0, k = k0 + 1 := ⟨k - 1, by omega⟩
                        rw [hs7] at hE7 hK7 hP7'
                        exact ih97 k0 I7' J7' _ hP7' (by
                          have z := hK7.2 s7 rfl
                          have zb := hB7
                          refine ⟨by omega, fun s' hs' => ?_⟩
                          by_cases c : md_ps s7 = true
                          · replace hs' : sp_bd (md_gt md_ps (.ok s7)) (sp_rStorm tb n) = .ok s' := hs'
                            rw [md_gt_t c] at hs'
                            have c2 := ((md_Cs tb n).1 s7 hw7).mp c
                            have c3 : sp_ns s'.2 = sp_ns s7.2 + 1 := (md_Cs tb n).2 s7 s' c2 hs'
                            omega
                          · replace hs' : sp_bd (md_gt md_ps (.ok s7)) (sp_rStorm tb n) = .ok s' := hs'
                            rw [md_gt_f c] at hs'; cases hs') (by rw [md_lp_y hw7] at hE7; exact hE7) F7' G7' (by omega)
                refine k_sub [0] rfl ?_
                exact loop97 9 8 I6 J6 e6 hP6 ⟨by decide, fun s _ => by omega⟩ hEE7.symm F6 G6 (by decide)
              · skip
                obtain ⟨s6, hs6⟩ := sp_ok_iff.mp (Decidable.byContradiction hc77)
                have hQ6 := hP6
                rw [hs6] at hQ6
                have hB6 : sp_nw s6.2 ≤ 8 := hQ6.2.2.2.2.1.2.2.1
                refine k_aload_n C (f := 0) (i := 0) (p := 0) rfl rfl dX6_readText_80 ?_
                refine k_ldc2 C l_X6_217 dX6_readText_81 ?_
                refine k_callVp C s_X6_197 h_X6_isWord (L6_s (by assumption)) rfl (ct_X6_isWord hx) rfl rfl (Nat.le_of_ble_eq_true rfl) ⟨Nat.le_of_ble_eq_true rfl, Nat.le_of_ble_eq_true rfl⟩ ⟨Nat.le_of_ble_eq_true rfl, Nat.le_of_ble_eq_true rfl⟩ ⟨rfl, rfl⟩ dX6_readText_84 ?_
                refine k_ifb_eq C (tgt := 97) (by decide) dX6_readText_87 (fun hc87 => ?_) (fun hc87 => ?_)
                · skip
                  have hX6 : EE6 = e6 := by
                    rw [← hE6, hs6, md_lp_n (fun z => hc87 (by
                      have q := (MTok_isw (si := 3) hQ6.2.2.1 (by decide) (by decide)).mpr z
                      exact ⟨q.1, q.2.trans (show md_own 3 = (456690 : Int64) by decide +kernel)⟩))]
                  obtain ⟨EE7, hEE7⟩ : ∃ z : Except Nat sp_S, z = md_lp tb 4 md_ps (sp_rStorm tb n) 8 e6 := ⟨_, rfl⟩
                  have loop97 : ∀ (f : Nat) (k : Nat) (I7 : am_I) (J7 : am_J) (e7 : Except Nat sp_S), (MP I7 J7 y tb n e7) → (1 ≤ k ∧ ∀ s : sp_S, e7 = .ok s → 8 ≤ k + sp_ns s.2) → (md_lp tb 4 md_ps (sp_rStorm tb n) k e7 = EE7) → (MPf y I I7) → (JFr y J J7) → (k) < f → am_K G X { frames := 6, cells := 0, slots := 0, locals := 129 } 1 Λ I7 J7 0 0 97 [(0, .ref y)] [] := by
                    intro f
                    induction f with
                    | zero => intro k I7 J7 e7 hP7 hK7 hE7 F7 G7 hf; exact absurd hf (Nat.not_lt_zero _)
                    | succ f ih97 =>
                      intro k I7 J7 e7 hP7 hK7 hE7 F7 G7 hf
                      refine k_aload_n C (f := 0) (i := 0) (p := 0) rfl rfl dX6_readText_97 ?_
                      refine k_getI C f_X6_184 (L6_s (by assumption)) (fun _ _ _ => rfl) (MP_17 hP7) dX6_readText_98 ?_
                      refine k_ifb_ne C (tgt := 121) (by decide) dX6_readText_101 (fun hc101 => ?_) (fun hc101 => ?_)
                      · skip
                        have hX7 : EE7 = e7 := by
                          rw [← hE7]
                          obtain ⟨x, hx9⟩ := sp_nok hc101
                          rw [hx9, md_lp_e]
                        obtain ⟨EE8, hEE8⟩ : ∃ z : Except Nat sp_S, z = md_lp tb 5 md_pl (sp_rLoad tb n) 22 e7 := ⟨_, rfl⟩
                        have loop121 : ∀ (f : Nat) (k : Nat) (I8 : am_I) (J8 : am_J) (e8 : Except Nat sp_S), (MP I8 J8 y tb n e8) → (1 ≤ k ∧ ∀ s : sp_S, e8 = .ok s → 22 ≤ k + sp_nl s.2) → (md_lp tb 5 md_pl (sp_rLoad tb n) k e8 = EE8) → (MPf y I I8) → (JFr y J J8) → (k) < f → am_K G X { frames := 6, cells := 0, slots := 0, locals := 129 } 1 Λ I8 J8 0 0 121 [(0, .ref y)] [] := by
                          intro f
                          induction f with
                          | zero => intro k I8 J8 e8 hP8 hK8 hE8 F8 G8 hf; exact absurd hf (Nat.not_lt_zero _)
                          | succ f ih121 =>
                            intro k I8 J8 e8 hP8 hK8 hE8 F8 G8 hf
                            refine k_aload_n C (f := 0) (i := 0) (p := 0) rfl rfl dX6_readText_121 ?_
                            refine k_getI C f_X6_184 (L6_s (by assumption)) (fun _ _ _ => rfl) (MP_17 hP8) dX6_readText_122 ?_
                            refine k_ifb_ne C (tgt := 145) (by decide) dX6_readText_125 (fun hc125 => ?_) (fun hc125 => ?_)
                            · skip
                              have hX8 : EE8 = e8 := by
                                rw [← hE8]
                                obtain ⟨x, hx9⟩ := sp_nok hc125
                                rw [hx9, md_lp_e]
                              refine k_aload_n C (f := 0) (i := 0) (p := 0) rfl rfl dX6_readText_145 ?_
                              refine k_getI C f_X6_184 (L6_s (by assumption)) (fun _ _ _ => rfl) (MP_17 hP8) dX6_readText_146 ?_
                              refine k_ifb_ne C (tgt := 165) (by decide) dX6_readText_149 (fun hc149 => ?_) (fun hc149 => ?_)
                              · skip
                                exact k_vret C (Nat.le_of_ble_eq_true rfl) (Nat.le_of_ble_eq_true rfl) (⟨rfl, by
                                  have hfin : md_read tb n (.ok s0) = md_fin e8 := by
                                    unfold md_read md_rd4
                                    rw [← he1, ← he2, ← he3, ← he4, ← hEE5, hX5, ← hEE6, hX6, ← hEE7, hX7, ← hEE8, hX8]
                                  first
                                  | (obtain ⟨x, hx9⟩ := sp_nok hc149
                                     refine ⟨rfl, ?_, F8, G8⟩
                                     rw [hfin, hx9]
                                     rw [hx9] at hP8
                                     exact hP8)
                                  | (have q : s9.1.1 = 0 := (nI_eq (b := 0) (by omega) (by decide)).mp hc156
                                     refine ⟨rfl, ?_, F8, G8⟩
                                     rw [hfin, hs9]
                                     rw [hs9] at hP8
                                     show MP _ _ y tb n (if s9.1.1 = 0 then (Except.ok s9 : Except Nat sp_S) else .error s9.1.2.1)
                                     rw [if_pos q]
                                     exact hP8)
                                  | (have q : ¬ s9.1.1 = 0 := fun z => hc156 (by rw [z]; rfl)
                                     refine ⟨rfl, ?_, F8.tr F9, G8.tr G9⟩
                                     rw [hfin, hs9]
                                     rw [sp_tk0, hs9] at hP9
                                     show MP _ _ y tb n (if s9.1.1 = 0 then (Except.ok s9 : Except Nat sp_S) else .error s9.1.2.1)
                                     rw [if_neg q]
                                     exact hP9)⟩) dX6_readText_165
                              · skip
                                obtain ⟨s9, hs9⟩ := sp_ok_iff.mp (Decidable.byContradiction hc149)
                                have hQ9 := hP8
                                rw [hs9] at hQ9
                                have m14 := hQ9.2.2.1.1
                                have mb1 := hQ9.2.2.1.2.2.2.2.2.1
                                refine k_aload_n C (f := 0) (i := 0) (p := 0) rfl rfl dX6_readText_152 ?_
                                refine k_getI C f_X6_164 (L6_s (by assumption)) (fun _ _ _ => rfl) (m14) dX6_readText_153 ?_
                                refine k_if_eq C (tgt := 165) (by decide) dX6_readText_156 (fun hc156 => ?_) (fun hc156 => ?_)
                                · skip
                                  exact k_vret C (Nat.le_of_ble_eq_true rfl) (Nat.le_of_ble_eq_true rfl) (⟨rfl, by
                                    have hfin : md_read tb n (.ok s0) = md_fin e8 := by
                                      unfold md_read md_rd4
                                      rw [← he1, ← he2, ← he3, ← he4, ← hEE5, hX5, ← hEE6, hX6, ← hEE7, hX7, ← hEE8, hX8]
                                    first
                                    | (obtain ⟨x, hx9⟩ := sp_nok hc149
                                       refine ⟨rfl, ?_, F8, G8⟩
                                       rw [hfin, hx9]
                                       rw [hx9] at hP8
                                       exact hP8)
                                    | (have q : s9.1.1 = 0 := (nI_eq (b := 0) (by omega) (by decide)).mp hc156
                                       refine ⟨rfl, ?_, F8, G8⟩
                                       rw [hfin, hs9]
                                       rw [hs9] at hP8
                                       show MP _ _ y tb n (if s9.1.1 = 0 then (Except.ok s9 : Except Nat sp_S) else .error s9.1.2.1)
                                       rw [if_pos q]
                                       exact hP8)
                                    | (have q : ¬ s9.1.1 = 0 := fun z => hc156 (by rw [z]; rfl)
                                       refine ⟨rfl, ?_, F8.tr F9, G8.tr G9⟩
                                       rw [hfin, hs9]
                                       rw [sp_tk0, hs9] at hP9
                                       show MP _ _ y tb n (if s9.1.1 = 0 then (Except.ok s9 : Except Nat sp_S) else .error s9.1.2.1)
                                       rw [if_neg q]
                                       exact hP9)⟩) dX6_readText_165
                                · skip
                                  refine k_aload_n C (f := 0) (i := 0) (p := 0) rfl rfl dX6_readText_159 ?_
                                  refine k_iconst C ic_0 dX6_readText_160 ?_
                                  refine k_callVj C s_X6_191 h_X6_takes (L6_s (by assumption)) rfl (ct_X6_takes hx (F8.txt ht) hP8) rfl rfl (Nat.le_of_ble_eq_true rfl) ⟨Nat.le_of_ble_eq_true rfl, Nat.le_of_ble_eq_true rfl⟩ ⟨Nat.le_of_ble_eq_true rfl, Nat.le_of_ble_eq_true rfl⟩ ⟨rfl, rfl⟩ dX6_readText_161 ?_
                                  intro v I9 J9 hv
                                  obtain ⟨rfl, hP9, F9, G9⟩ := hv
                                  refine k_pop C rfl dX6_readText_164 ?_
                                  exact k_vret C (Nat.le_of_ble_eq_true rfl) (Nat.le_of_ble_eq_true rfl) (⟨rfl, by
                                    have hfin : md_read tb n (.ok s0) = md_fin e8 := by
                                      unfold md_read md_rd4
                                      rw [← he1, ← he2, ← he3, ← he4, ← hEE5, hX5, ← hEE6, hX6, ← hEE7, hX7, ← hEE8, hX8]
                                    first
                                    | (obtain ⟨x, hx9⟩ := sp_nok hc149
                                       refine ⟨rfl, ?_, F8, G8⟩
                                       rw [hfin, hx9]
                                       rw [hx9] at hP8
                                       exact hP8)
                                    | (have q : s9.1.1 = 0 := (nI_eq (b := 0) (by omega) (by decide)).mp hc156
                                       refine ⟨rfl, ?_, F8, G8⟩
                                       rw [hfin, hs9]
                                       rw [hs9] at hP8
                                       show MP _ _ y tb n (if s9.1.1 = 0 then (Except.ok s9 : Except Nat sp_S) else .error s9.1.2.1)
                                       rw [if_pos q]
                                       exact hP8)
                                    | (have q : ¬ s9.1.1 = 0 := fun z => hc156 (by rw [z]; rfl)
                                       refine ⟨rfl, ?_, F8.tr F9, G8.tr G9⟩
                                       rw [hfin, hs9]
                                       rw [sp_tk0, hs9] at hP9
                                       show MP _ _ y tb n (if s9.1.1 = 0 then (Except.ok s9 : Except Nat sp_S) else .error s9.1.2.1)
                                       rw [if_neg q]
                                       exact hP9)⟩) dX6_readText_165
                            · skip
                              obtain ⟨s8, hs8⟩ := sp_ok_iff.mp (Decidable.byContradiction hc125)
                              have hQ8 := hP8
                              rw [hs8] at hQ8
                              have hB8 : sp_nl s8.2 ≤ 20 := hQ8.2.2.2.2.1.2.2.2.2
                              refine k_aload_n C (f := 0) (i := 0) (p := 0) rfl rfl dX6_readText_128 ?_
                              refine k_ldc2 C l_X6_227 dX6_readText_129 ?_
                              refine k_callVp C s_X6_197 h_X6_isWord (L6_s (by assumption)) rfl (ct_X6_isWord hx) rfl rfl (Nat.le_of_ble_eq_true rfl) ⟨Nat.le_of_ble_eq_true rfl, Nat.le_of_ble_eq_true rfl⟩ ⟨Nat.le_of_ble_eq_true rfl, Nat.le_of_ble_eq_true rfl⟩ ⟨rfl, rfl⟩ dX6_readText_132 ?_
                              refine k_ifb_eq C (tgt := 145) (by decide) dX6_readText_135 (fun hc135 => ?_) (fun hc135 => ?_)
                              · skip
                                have hX8 : EE8 = e8 := by
                                  rw [← hE8, hs8, md_lp_n (fun z => hc135 (by
                                    have q := (MTok_isw (si := 5) hQ8.2.2.1 (by decide) (by decide)).mpr z
                                    exact ⟨q.1, q.2.trans (show md_own 5 = (247162 : Int64) by decide +kernel)⟩))]
                                refine k_aload_n C (f := 0) (i := 0) (p := 0) rfl rfl dX6_readText_145 ?_
                                refine k_getI C f_X6_184 (L6_s (by assumption)) (fun _ _ _ => rfl) (MP_17 hP8) dX6_readText_146 ?_
                                refine k_ifb_ne C (tgt := 165) (by decide) dX6_readText_149 (fun hc149 => ?_) (fun hc149 => ?_)
                                · skip
                                  exact k_vret C (Nat.le_of_ble_eq_true rfl) (Nat.le_of_ble_eq_true rfl) (⟨rfl, by
                                    have hfin : md_read tb n (.ok s0) = md_fin e8 := by
                                      unfold md_read md_rd4
                                      rw [← he1, ← he2, ← he3, ← he4, ← hEE5, hX5, ← hEE6, hX6, ← hEE7, hX7, ← hEE8, hX8]
                                    first
                                    | (obtain ⟨x, hx9⟩ := sp_nok hc149
                                       refine ⟨rfl, ?_, F8, G8⟩
                                       rw [hfin, hx9]
                                       rw [hx9] at hP8
                                       exact hP8)
                                    | (have q : s9.1.1 = 0 := (nI_eq (b := 0) (by omega) (by decide)).mp hc156
                                       refine ⟨rfl, ?_, F8, G8⟩
                                       rw [hfin, hs9]
                                       rw [hs9] at hP8
                                       show MP _ _ y tb n (if s9.1.1 = 0 then (Except.ok s9 : Except Nat sp_S) else .error s9.1.2.1)
                                       rw [if_pos q]
                                       exact hP8)
                                    | (have q : ¬ s9.1.1 = 0 := fun z => hc156 (by rw [z]; rfl)
                                       refine ⟨rfl, ?_, F8.tr F9, G8.tr G9⟩
                                       rw [hfin, hs9]
                                       rw [sp_tk0, hs9] at hP9
                                       show MP _ _ y tb n (if s9.1.1 = 0 then (Except.ok s9 : Except Nat sp_S) else .error s9.1.2.1)
                                       rw [if_neg q]
                                       exact hP9)⟩) dX6_readText_165
                                · skip
                                  obtain ⟨s9, hs9⟩ := sp_ok_iff.mp (Decidable.byContradiction hc149)
                                  have hQ9 := hP8
                                  rw [hs9] at hQ9
                                  have m14 := hQ9.2.2.1.1
                                  have mb1 := hQ9.2.2.1.2.2.2.2.2.1
                                  refine k_aload_n C (f := 0) (i := 0) (p := 0) rfl rfl dX6_readText_152 ?_
                                  refine k_getI C f_X6_164 (L6_s (by assumption)) (fun _ _ _ => rfl) (m14) dX6_readText_153 ?_
                                  refine k_if_eq C (tgt := 165) (by decide) dX6_readText_156 (fun hc156 => ?_) (fun hc156 => ?_)
                                  · skip
                                    exact k_vret C (Nat.le_of_ble_eq_true rfl) (Nat.le_of_ble_eq_true rfl) (⟨rfl, by
                                      have hfin : md_read tb n (.ok s0) = md_fin e8 := by
                                        unfold md_read md_rd4
                                        rw [← he1, ← he2, ← he3, ← he4, ← hEE5, hX5, ← hEE6, hX6, ← hEE7, hX7, ← hEE8, hX8]
                                      first
                                      | (obtain ⟨x, hx9⟩ := sp_nok hc149
                                         refine ⟨rfl, ?_, F8, G8⟩
                                         rw [hfin, hx9]
                                         rw [hx9] at hP8
                                         exact hP8)
                                      | (have q : s9.1.1 = 0 := (nI_eq (b := 0) (by omega) (by decide)).mp hc156
                                         refine ⟨rfl, ?_, F8, G8⟩
                                         rw [hfin, hs9]
                                         rw [hs9] at hP8
                                         show MP _ _ y tb n (if s9.1.1 = 0 then (Except.ok s9 : Except Nat sp_S) else .error s9.1.2.1)
                                         rw [if_pos q]
                                         exact hP8)
                                      | (have q : ¬ s9.1.1 = 0 := fun z => hc156 (by rw [z]; rfl)
                                         refine ⟨rfl, ?_, F8.tr F9, G8.tr G9⟩
                                         rw [hfin, hs9]
                                         rw [sp_tk0, hs9] at hP9
                                         show MP _ _ y tb n (if s9.1.1 = 0 then (Except.ok s9 : Except Nat sp_S) else .error s9.1.2.1)
                                         rw [if_neg q]
                                         exact hP9)⟩) dX6_readText_165
                                  · skip
                                    refine k_aload_n C (f := 0) (i := 0) (p := 0) rfl rfl dX6_readText_159 ?_
                                    refine k_iconst C ic_0 dX6_readText_160 ?_
                                    refine k_callVj C s_X6_191 h_X6_takes (L6_s (by assumption)) rfl (ct_X6_takes hx (F8.txt ht) hP8) rfl rfl (Nat.le_of_ble_eq_true rfl) ⟨Nat.le_of_ble_eq_true rfl, Nat.le_of_ble_eq_true rfl⟩ ⟨Nat.le_of_ble_eq_true rfl, Nat.le_of_ble_eq_true rfl⟩ ⟨rfl, rfl⟩ dX6_readText_161 ?_
                                    intro v I9 J9 hv
                                    obtain ⟨rfl, hP9, F9, G9⟩ := hv
                                    refine k_pop C rfl dX6_readText_164 ?_
                                    exact k_vret C (Nat.le_of_ble_eq_true rfl) (Nat.le_of_ble_eq_true rfl) (⟨rfl, by
                                      have hfin : md_read tb n (.ok s0) = md_fin e8 := by
                                        unfold md_read md_rd4
                                        rw [← he1, ← he2, ← he3, ← he4, ← hEE5, hX5, ← hEE6, hX6, ← hEE7, hX7, ← hEE8, hX8]
                                      first
                                      | (obtain ⟨x, hx9⟩ := sp_nok hc149
                                         refine ⟨rfl, ?_, F8, G8⟩
                                         rw [hfin, hx9]
                                         rw [hx9] at hP8
                                         exact hP8)
                                      | (have q : s9.1.1 = 0 := (nI_eq (b := 0) (by omega) (by decide)).mp hc156
                                         refine ⟨rfl, ?_, F8, G8⟩
                                         rw [hfin, hs9]
                                         rw [hs9] at hP8
                                         show MP _ _ y tb n (if s9.1.1 = 0 then (Except.ok s9 : Except Nat sp_S) else .error s9.1.2.1)
                                         rw [if_pos q]
                                         exact hP8)
                                      | (have q : ¬ s9.1.1 = 0 := fun z => hc156 (by rw [z]; rfl)
                                         refine ⟨rfl, ?_, F8.tr F9, G8.tr G9⟩
                                         rw [hfin, hs9]
                                         rw [sp_tk0, hs9] at hP9
                                         show MP _ _ y tb n (if s9.1.1 = 0 then (Except.ok s9 : Except Nat sp_S) else .error s9.1.2.1)
                                         rw [if_neg q]
                                         exact hP9)⟩) dX6_readText_165
                              · skip
                                have hw8 : sp_isw tb s8.1 5 = true := (MTok_isw hQ8.2.2.1 (by decide) (by decide)).mp ⟨hc135.1, hc135.2.trans (show (247162 : Int64) = md_own 5 by decide +kernel)⟩
                                refine k_aload_n C (f := 0) (i := 0) (p := 0) rfl rfl dX6_readText_138 ?_
                                refine k_callVj C s_X6_229 h_X6_readLoad (L6_s (by assumption)) rfl (ct_X6_readLoad hx (F8.txt ht) hP8) rfl rfl (Nat.le_of_ble_eq_true rfl) ⟨Nat.le_of_ble_eq_true rfl, Nat.le_of_ble_eq_true rfl⟩ ⟨Nat.le_of_ble_eq_true rfl, Nat.le_of_ble_eq_true rfl⟩ ⟨rfl, rfl⟩ dX6_readText_139 ?_
                                intro v I8' J8' hv
                                obtain ⟨rfl, hP8', F8', G8'⟩ := hv
                                have F8' := F8.tr F8'
                                have G8' := G8.tr G8'
                                refine k_goto C (tgt := 121) (by decide) dX6_readText_142 ?_
                                refine k_sub [0] rfl ?_
                                obtain ⟨k0, rfl⟩ : ∃ k0, k = k0 + 1 := ⟨k - 1, by omega⟩
                                rw [hs8] at hE8 hK8 hP8'
                                exact ih121 k0 I8' J8' _ hP8' (by
                                  have z := hK8.2 s8 rfl
                                  have zb := hB8
                                  refine ⟨by omega, fun s' hs' => ?_⟩
                                  by_cases c : md_pl s8 = true
                                  · replace hs' : sp_bd (md_gt md_pl (.ok s8)) (sp_rLoad tb n) = .ok s' := hs'
                                    rw [md_gt_t c] at hs'
                                    have c2 := ((md_Cl tb n).1 s8 hw8).mp c
                                    have c3 : sp_nl s'.2 = sp_nl s8.2 + 1 := (md_Cl tb n).2 s8 s' c2 hs'
                                    omega
                                  · replace hs' : sp_bd (md_gt md_pl (.ok s8)) (sp_rLoad tb n) = .ok s' := hs'
                                    rw [md_gt_f c] at hs'; cases hs') (by rw [md_lp_y hw8] at hE8; exact hE8) F8' G8' (by omega)
                        refine k_sub [0] rfl ?_
                        exact loop121 23 22 I7 J7 e7 hP7 ⟨by decide, fun s _ => by omega⟩ hEE8.symm F7 G7 (by decide)
                      · skip
                        obtain ⟨s7, hs7⟩ := sp_ok_iff.mp (Decidable.byContradiction hc101)
                        have hQ7 := hP7
                        rw [hs7] at hQ7
                        have hB7 : sp_ns s7.2 ≤ 6 := hQ7.2.2.2.2.1.2.2.2.1
                        refine k_aload_n C (f := 0) (i := 0) (p := 0) rfl rfl dX6_readText_104 ?_
                        refine k_ldc2 C l_X6_222 dX6_readText_105 ?_
                        refine k_callVp C s_X6_197 h_X6_isWord (L6_s (by assumption)) rfl (ct_X6_isWord hx) rfl rfl (Nat.le_of_ble_eq_true rfl) ⟨Nat.le_of_ble_eq_true rfl, Nat.le_of_ble_eq_true rfl⟩ ⟨Nat.le_of_ble_eq_true rfl, Nat.le_of_ble_eq_true rfl⟩ ⟨rfl, rfl⟩ dX6_readText_108 ?_
                        refine k_ifb_eq C (tgt := 121) (by decide) dX6_readText_111 (fun hc111 => ?_) (fun hc111 => ?_)
                        · skip
                          have hX7 : EE7 = e7 := by
                            rw [← hE7, hs7, md_lp_n (fun z => hc111 (by
                              have q := (MTok_isw (si := 4) hQ7.2.2.1 (by decide) (by decide)).mpr z
                              exact ⟨q.1, q.2.trans (show md_own 4 = (10502473 : Int64) by decide +kernel)⟩))]
                          obtain ⟨EE8, hEE8⟩ : ∃ z : Except Nat sp_S, z = md_lp tb 5 md_pl (sp_rLoad tb n) 22 e7 := ⟨_, rfl⟩
                          have loop121 : ∀ (f : Nat) (k : Nat) (I8 : am_I) (J8 : am_J) (e8 : Except Nat sp_S), (MP I8 J8 y tb n e8) → (1 ≤ k ∧ ∀ s : sp_S, e8 = .ok s → 22 ≤ k + sp_nl s.2) → (md_lp tb 5 md_pl (sp_rLoad tb n) k e8 = EE8) → (MPf y I I8) → (JFr y J J8) → (k) < f → am_K G X { frames := 6, cells := 0, slots := 0, locals := 129 } 1 Λ I8 J8 0 0 121 [(0, .ref y)] [] := by
                            intro f
                            induction f with
                            | zero => intro k I8 J8 e8 hP8 hK8 hE8 F8 G8 hf; exact absurd hf (Nat.not_lt_zero _)
                            | succ f ih121 =>
                              intro k I8 J8 e8 hP8 hK8 hE8 F8 G8 hf
                              refine k_aload_n C (f := 0) (i := 0) (p := 0) rfl rfl dX6_readText_121 ?_
                              refine k_getI C f_X6_184 (L6_s (by assumption)) (fun _ _ _ => rfl) (MP_17 hP8) dX6_readText_122 ?_
                              refine k_ifb_ne C (tgt := 145) (by decide) dX6_readText_125 (fun hc125 => ?_) (fun hc125 => ?_)
                              · skip
                                have hX8 : EE8 = e8 := by
                                  rw [← hE8]
                                  obtain ⟨x, hx9⟩ := sp_nok hc125
                                  rw [hx9, md_lp_e]
                                refine k_aload_n C (f := 0) (i := 0) (p := 0) rfl rfl dX6_readText_145 ?_
                                refine k_getI C f_X6_184 (L6_s (by assumption)) (fun _ _ _ => rfl) (MP_17 hP8) dX6_readText_146 ?_
                                refine k_ifb_ne C (tgt := 165) (by decide) dX6_readText_149 (fun hc149 => ?_) (fun hc149 => ?_)
                                · skip
                                  exact k_vret C (Nat.le_of_ble_eq_true rfl) (Nat.le_of_ble_eq_true rfl) (⟨rfl, by
                                    have hfin : md_read tb n (.ok s0) = md_fin e8 := by
                                      unfold md_read md_rd4
                                      rw [← he1, ← he2, ← he3, ← he4, ← hEE5, hX5, ← hEE6, hX6, ← hEE7, hX7, ← hEE8, hX8]
                                    first
                                    | (obtain ⟨x, hx9⟩ := sp_nok hc149
                                       refine ⟨rfl, ?_, F8, G8⟩
                                       rw [hfin, hx9]
                                       rw [hx9] at hP8
                                       exact hP8)
                                    | (have q : s9.1.1 = 0 := (nI_eq (b := 0) (by omega) (by decide)).mp hc156
                                       refine ⟨rfl, ?_, F8, G8⟩
                                       rw [hfin, hs9]
                                       rw [hs9] at hP8
                                       show MP _ _ y tb n (if s9.1.1 = 0 then (Except.ok s9 : Except Nat sp_S) else .error s9.1.2.1)
                                       rw [if_pos q]
                                       exact hP8)
                                    | (have q : ¬ s9.1.1 = 0 := fun z => hc156 (by rw [z]; rfl)
                                       refine ⟨rfl, ?_, F8.tr F9, G8.tr G9⟩
                                       rw [hfin, hs9]
                                       rw [sp_tk0, hs9] at hP9
                                       show MP _ _ y tb n (if s9.1.1 = 0 then (Except.ok s9 : Except Nat sp_S) else .error s9.1.2.1)
                                       rw [if_neg q]
                                       exact hP9)⟩) dX6_readText_165
                                · skip
                                  obtain ⟨s9, hs9⟩ := sp_ok_iff.mp (Decidable.byContradiction hc149)
                                  have hQ9 := hP8
                                  rw [hs9] at hQ9
                                  have m14 := hQ9.2.2.1.1
                                  have mb1 := hQ9.2.2.1.2.2.2.2.2.1
                                  refine k_aload_n C (f := 0) (i := 0) (p := 0) rfl rfl dX6_readText_152 ?_
                                  refine k_getI C f_X6_164 (L6_s (by assumption)) (fun _ _ _ => rfl) (m14) dX6_readText_153 ?_
                                  refine k_if_eq C (tgt := 165) (by decide) dX6_readText_156 (fun hc156 => ?_) (fun hc156 => ?_)
                                  · skip
                                    exact k_vret C (Nat.le_of_ble_eq_true rfl) (Nat.le_of_ble_eq_true rfl) (⟨rfl, by
                                      have hfin : md_read tb n (.ok s0) = md_fin e8 := by
                                        unfold md_read md_rd4
                                        rw [← he1, ← he2, ← he3, ← he4, ← hEE5, hX5, ← hEE6, hX6, ← hEE7, hX7, ← hEE8, hX8]
                                      first
                                      | (obtain ⟨x, hx9⟩ := sp_nok hc149
                                         refine ⟨rfl, ?_, F8, G8⟩
                                         rw [hfin, hx9]
                                         rw [hx9] at hP8
                                         exact hP8)
                                      | (have q : s9.1.1 = 0 := (nI_eq (b := 0) (by omega) (by decide)).mp hc156
                                         refine ⟨rfl, ?_, F8, G8⟩
                                         rw [hfin, hs9]
                                         rw [hs9] at hP8
                                         show MP _ _ y tb n (if s9.1.1 = 0 then (Except.ok s9 : Except Nat sp_S) else .error s9.1.2.1)
                                         rw [if_pos q]
                                         exact hP8)
                                      | (have q : ¬ s9.1.1 = 0 := fun z => hc156 (by rw [z]; rfl)
                                         refine ⟨rfl, ?_, F8.tr F9, G8.tr G9⟩
                                         rw [hfin, hs9]
                                         rw [sp_tk0, hs9] at hP9
                                         show MP _ _ y tb n (if s9.1.1 = 0 then (Except.ok s9 : Except Nat sp_S) else .error s9.1.2.1)
                                         rw [if_neg q]
                                         exact hP9)⟩) dX6_readText_165
                                  · skip
                                    refine k_aload_n C (f := 0) (i := 0) (p := 0) rfl rfl dX6_readText_159 ?_
                                    refine k_iconst C ic_0 dX6_readText_160 ?_
                                    refine k_callVj C s_X6_191 h_X6_takes (L6_s (by assumption)) rfl (ct_X6_takes hx (F8.txt ht) hP8) rfl rfl (Nat.le_of_ble_eq_true rfl) ⟨Nat.le_of_ble_eq_true rfl, Nat.le_of_ble_eq_true rfl⟩ ⟨Nat.le_of_ble_eq_true rfl, Nat.le_of_ble_eq_true rfl⟩ ⟨rfl, rfl⟩ dX6_readText_161 ?_
                                    intro v I9 J9 hv
                                    obtain ⟨rfl, hP9, F9, G9⟩ := hv
                                    refine k_pop C rfl dX6_readText_164 ?_
                                    exact k_vret C (Nat.le_of_ble_eq_true rfl) (Nat.le_of_ble_eq_true rfl) (⟨rfl, by
                                      have hfin : md_read tb n (.ok s0) = md_fin e8 := by
                                        unfold md_read md_rd4
                                        rw [← he1, ← he2, ← he3, ← he4, ← hEE5, hX5, ← hEE6, hX6, ← hEE7, hX7, ← hEE8, hX8]
                                      first
                                      | (obtain ⟨x, hx9⟩ := sp_nok hc149
                                         refine ⟨rfl, ?_, F8, G8⟩
                                         rw [hfin, hx9]
                                         rw [hx9] at hP8
                                         exact hP8)
                                      | (have q : s9.1.1 = 0 := (nI_eq (b := 0) (by omega) (by decide)).mp hc156
                                         refine ⟨rfl, ?_, F8, G8⟩
                                         rw [hfin, hs9]
                                         rw [hs9] at hP8
                                         show MP _ _ y tb n (if s9.1.1 = 0 then (Except.ok s9 : Except Nat sp_S) else .error s9.1.2.1)
                                         rw [if_pos q]
                                         exact hP8)
                                      | (have q : ¬ s9.1.1 = 0 := fun z => hc156 (by rw [z]; rfl)
                                         refine ⟨rfl, ?_, F8.tr F9, G8.tr G9⟩
                                         rw [hfin, hs9]
                                         rw [sp_tk0, hs9] at hP9
                                         show MP _ _ y tb n (if s9.1.1 = 0 then (Except.ok s9 : Except Nat sp_S) else .error s9.1.2.1)
                                         rw [if_neg q]
                                         exact hP9)⟩) dX6_readText_165
                              · skip
                                obtain ⟨s8, hs8⟩ := sp_ok_iff.mp (Decidable.byContradiction hc125)
                                have hQ8 := hP8
                                rw [hs8] at hQ8
                                have hB8 : sp_nl s8.2 ≤ 20 := hQ8.2.2.2.2.1.2.2.2.2
                                refine k_aload_n C (f := 0) (i := 0) (p := 0) rfl rfl dX6_readText_128 ?_
                                refine k_ldc2 C l_X6_227 dX6_readText_129 ?_
                                refine k_callVp C s_X6_197 h_X6_isWord (L6_s (by assumption)) rfl (ct_X6_isWord hx) rfl rfl (Nat.le_of_ble_eq_true rfl) ⟨Nat.le_of_ble_eq_true rfl, Nat.le_of_ble_eq_true rfl⟩ ⟨Nat.le_of_ble_eq_true rfl, Nat.le_of_ble_eq_true rfl⟩ ⟨rfl, rfl⟩ dX6_readText_132 ?_
                                refine k_ifb_eq C (tgt := 145) (by decide) dX6_readText_135 (fun hc135 => ?_) (fun hc135 => ?_)
                                · skip
                                  have hX8 : EE8 = e8 := by
                                    rw [← hE8, hs8, md_lp_n (fun z => hc135 (by
                                      have q := (MTok_isw (si := 5) hQ8.2.2.1 (by decide) (by decide)).mpr z
                                      exact ⟨q.1, q.2.trans (show md_own 5 = (247162 : Int64) by decide +kernel)⟩))]
                                  refine k_aload_n C (f := 0) (i := 0) (p := 0) rfl rfl dX6_readText_145 ?_
                                  refine k_getI C f_X6_184 (L6_s (by assumption)) (fun _ _ _ => rfl) (MP_17 hP8) dX6_readText_146 ?_
                                  refine k_ifb_ne C (tgt := 165) (by decide) dX6_readText_149 (fun hc149 => ?_) (fun hc149 => ?_)
                                  · skip
                                    exact k_vret C (Nat.le_of_ble_eq_true rfl) (Nat.le_of_ble_eq_true rfl) (⟨rfl, by
                                      have hfin : md_read tb n (.ok s0) = md_fin e8 := by
                                        unfold md_read md_rd4
                                        rw [← he1, ← he2, ← he3, ← he4, ← hEE5, hX5, ← hEE6, hX6, ← hEE7, hX7, ← hEE8, hX8]
                                      first
                                      | (obtain ⟨x, hx9⟩ := sp_nok hc149
                                         refine ⟨rfl, ?_, F8, G8⟩
                                         rw [hfin, hx9]
                                         rw [hx9] at hP8
                                         exact hP8)
                                      | (have q : s9.1.1 = 0 := (nI_eq (b := 0) (by omega) (by decide)).mp hc156
                                         refine ⟨rfl, ?_, F8, G8⟩
                                         rw [hfin, hs9]
                                         rw [hs9] at hP8
                                         show MP _ _ y tb n (if s9.1.1 = 0 then (Except.ok s9 : Except Nat sp_S) else .error s9.1.2.1)
                                         rw [if_pos q]
                                         exact hP8)
                                      | (have q : ¬ s9.1.1 = 0 := fun z => hc156 (by rw [z]; rfl)
                                         refine ⟨rfl, ?_, F8.tr F9, G8.tr G9⟩
                                         rw [hfin, hs9]
                                         rw [sp_tk0, hs9] at hP9
                                         show MP _ _ y tb n (if s9.1.1 = 0 then (Except.ok s9 : Except Nat sp_S) else .error s9.1.2.1)
                                         rw [if_neg q]
                                         exact hP9)⟩) dX6_readText_165
                                  · skip
                                    obtain ⟨s9, hs9⟩ := sp_ok_iff.mp (Decidable.byContradiction hc149)
                                    have hQ9 := hP8
                                    rw [hs9] at hQ9
                                    have m14 := hQ9.2.2.1.1
                                    have mb1 := hQ9.2.2.1.2.2.2.2.2.1
                                    refine k_aload_n C (f := 0) (i := 0) (p := 0) rfl rfl dX6_readText_152 ?_
                                    refine k_getI C f_X6_164 (L6_s (by assumption)) (fun _ _ _ => rfl) (m14) dX6_readText_153 ?_
                                    refine k_if_eq C (tgt := 165) (by decide) dX6_readText_156 (fun hc156 => ?_) (fun hc156 => ?_)
                                    · skip
                                      exact k_vret C (Nat.le_of_ble_eq_true rfl) (Nat.le_of_ble_eq_true rfl) (⟨rfl, by
                                        have hfin : md_read tb n (.ok s0) = md_fin e8 := by
                                          unfold md_read md_rd4
                                          rw [← he1, ← he2, ← he3, ← he4, ← hEE5, hX5, ← hEE6, hX6, ← hEE7, hX7, ← hEE8, hX8]
                                        first
                                        | (obtain ⟨x, hx9⟩ := sp_nok hc149
                                           refine ⟨rfl, ?_, F8, G8⟩
                                           rw [hfin, hx9]
                                           rw [hx9] at hP8
                                           exact hP8)
                                        | (have q : s9.1.1 = 0 := (nI_eq (b := 0) (by omega) (by decide)).mp hc156
                                           refine ⟨rfl, ?_, F8, G8⟩
                                           rw [hfin, hs9]
                                           rw [hs9] at hP8
                                           show MP _ _ y tb n (if s9.1.1 = 0 then (Except.ok s9 : Except Nat sp_S) else .error s9.1.2.1)
                                           rw [if_pos q]
                                           exact hP8)
                                        | (have q : ¬ s9.1.1 = 0 := fun z => hc156 (by rw [z]; rfl)
                                           refine ⟨rfl, ?_, F8.tr F9, G8.tr G9⟩
                                           rw [hfin, hs9]
                                           rw [sp_tk0, hs9] at hP9
                                           show MP _ _ y tb n (if s9.1.1 = 0 then (Except.ok s9 : Except Nat sp_S) else .error s9.1.2.1)
                                           rw [if_neg q]
                                           exact hP9)⟩) dX6_readText_165
                                    · skip
                                      refine k_aload_n C (f := 0) (i := 0) (p := 0) rfl rfl dX6_readText_159 ?_
                                      refine k_iconst C ic_0 dX6_readText_160 ?_
                                      refine k_callVj C s_X6_191 h_X6_takes (L6_s (by assumption)) rfl (ct_X6_takes hx (F8.txt ht) hP8) rfl rfl (Nat.le_of_ble_eq_true rfl) ⟨Nat.le_of_ble_eq_true rfl, Nat.le_of_ble_eq_true rfl⟩ ⟨Nat.le_of_ble_eq_true rfl, Nat.le_of_ble_eq_true rfl⟩ ⟨rfl, rfl⟩ dX6_readText_161 ?_
                                      intro v I9 J9 hv
                                      obtain ⟨rfl, hP9, F9, G9⟩ := hv
                                      refine k_pop C rfl dX6_readText_164 ?_
                                      exact k_vret C (Nat.le_of_ble_eq_true rfl) (Nat.le_of_ble_eq_true rfl) (⟨rfl, by
                                        have hfin : md_read tb n (.ok s0) = md_fin e8 := by
                                          unfold md_read md_rd4
                                          rw [← he1, ← he2, ← he3, ← he4, ← hEE5, hX5, ← hEE6, hX6, ← hEE7, hX7, ← hEE8, hX8]
                                        first
                                        | (obtain ⟨x, hx9⟩ := sp_nok hc149
                                           refine ⟨rfl, ?_, F8, G8⟩
                                           rw [hfin, hx9]
                                           rw [hx9] at hP8
                                           exact hP8)
                                        | (have q : s9.1.1 = 0 := (nI_eq (b := 0) (by omega) (by decide)).mp hc156
                                           refine ⟨rfl, ?_, F8, G8⟩
                                           rw [hfin, hs9]
                                           rw [hs9] at hP8
                                           show MP _ _ y tb n (if s9.1.1 = 0 then (Except.ok s9 : Except Nat sp_S) else .error s9.1.2.1)
                                           rw [if_pos q]
                                           exact hP8)
                                        | (have q : ¬ s9.1.1 = 0 := fun z => hc156 (by rw [z]; rfl)
                                           refine ⟨rfl, ?_, F8.tr F9, G8.tr G9⟩
                                           rw [hfin, hs9]
                                           rw [sp_tk0, hs9] at hP9
                                           show MP _ _ y tb n (if s9.1.1 = 0 then (Except.ok s9 : Except Nat sp_S) else .error s9.1.2.1)
                                           rw [if_neg q]
                                           exact hP9)⟩) dX6_readText_165
                                · skip
                                  have hw8 : sp_isw tb s8.1 5 = true := (MTok_isw hQ8.2.2.1 (by decide) (by decide)).mp ⟨hc135.1, hc135.2.trans (show (247162 : Int64) = md_own 5 by decide +kernel)⟩
                                  refine k_aload_n C (f := 0) (i := 0) (p := 0) rfl rfl dX6_readText_138 ?_
                                  refine k_callVj C s_X6_229 h_X6_readLoad (L6_s (by assumption)) rfl (ct_X6_readLoad hx (F8.txt ht) hP8) rfl rfl (Nat.le_of_ble_eq_true rfl) ⟨Nat.le_of_ble_eq_true rfl, Nat.le_of_ble_eq_true rfl⟩ ⟨Nat.le_of_ble_eq_true rfl, Nat.le_of_ble_eq_true rfl⟩ ⟨rfl, rfl⟩ dX6_readText_139 ?_
                                  intro v I8' J8' hv
                                  obtain ⟨rfl, hP8', F8', G8'⟩ := hv
                                  have F8' := F8.tr F8'
                                  have G8' := G8.tr G8'
                                  refine k_goto C (tgt := 121) (by decide) dX6_readText_142 ?_
                                  refine k_sub [0] rfl ?_
                                  obtain ⟨k0, rfl⟩ : ∃ k0, k = k0 + 1 := ⟨k - 1, by omega⟩
                                  rw [hs8] at hE8 hK8 hP8'
                                  exact ih121 k0 I8' J8' _ hP8' (by
                                    have z := hK8.2 s8 rfl
                                    have zb := hB8
                                    refine ⟨by omega, fun s' hs' => ?_⟩
                                    by_cases c : md_pl s8 = true
                                    · replace hs' : sp_bd (md_gt md_pl (.ok s8)) (sp_rLoad tb n) = .ok s' := hs'
                                      rw [md_gt_t c] at hs'
                                      have c2 := ((md_Cl tb n).1 s8 hw8).mp c
                                      have c3 : sp_nl s'.2 = sp_nl s8.2 + 1 := (md_Cl tb n).2 s8 s' c2 hs'
                                      omega
                                    · replace hs' : sp_bd (md_gt md_pl (.ok s8)) (sp_rLoad tb n) = .ok s' := hs'
                                      rw [md_gt_f c] at hs'; cases hs') (by rw [md_lp_y hw8] at hE8; exact hE8) F8' G8' (by omega)
                          refine k_sub [0] rfl ?_
                          exact loop121 23 22 I7 J7 e7 hP7 ⟨by decide, fun s _ => by omega⟩ hEE8.symm F7 G7 (by decide)
                        · skip
                          have hw7 : sp_isw tb s7.1 4 = true := (MTok_isw hQ7.2.2.1 (by decide) (by decide)).mp ⟨hc111.1, hc111.2.trans (show (10502473 : Int64) = md_own 4 by decide +kernel)⟩
                          refine k_aload_n C (f := 0) (i := 0) (p := 0) rfl rfl dX6_readText_114 ?_
                          refine k_callVj C s_X6_224 h_X6_readStorm (L6_s (by assumption)) rfl (ct_X6_readStorm hx (F7.txt ht) hP7) rfl rfl (Nat.le_of_ble_eq_true rfl) ⟨Nat.le_of_ble_eq_true rfl, Nat.le_of_ble_eq_true rfl⟩ ⟨Nat.le_of_ble_eq_true rfl, Nat.le_of_ble_eq_true rfl⟩ ⟨rfl, rfl⟩ dX6_readText_115 ?_
                          intro v I7' J7' hv
                          obtain ⟨rfl, hP7', F7', G7'⟩ := hv
                          have F7' := F7.tr F7'
                          have G7' := G7.tr G7'
                          refine k_goto C (tgt := 97) (by decide) dX6_readText_118 ?_
                          refine k_sub [0] rfl ?_
                          obtain ⟨k0, rfl⟩ : ∃ k0, k = k0 + 1 := ⟨k - 1, by omega⟩
                          rw [hs7] at hE7 hK7 hP7'
                          exact ih97 k0 I7' J7' _ hP7' (by
                            have z := hK7.2 s7 rfl
                            have zb := hB7
                            refine ⟨by omega, fun s' hs' => ?_⟩
                            by_cases c : md_ps s7 = true
                            · replace hs' : sp_bd (md_gt md_ps (.ok s7)) (sp_rStorm tb n) = .ok s' := hs'
                              rw [md_gt_t c] at hs'
                              have c2 := ((md_Cs tb n).1 s7 hw7).mp c
                              have c3 : sp_ns s'.2 = sp_ns s7.2 + 1 := (md_Cs tb n).2 s7 s' c2 hs'
                              omega
                            · replace hs' : sp_bd (md_gt md_ps (.ok s7)) (sp_rStorm tb n) = .ok s' := hs'
                              rw [md_gt_f c] at hs'; cases hs') (by rw [md_lp_y hw7] at hE7; exact hE7) F7' G7' (by omega)
                  refine k_sub [0] rfl ?_
                  exact loop97 9 8 I6 J6 e6 hP6 ⟨by decide, fun s _ => by omega⟩ hEE7.symm F6 G6 (by decide)
                · skip
                  have hw6 : sp_isw tb s6.1 3 = true := (MTok_isw hQ6.2.2.1 (by decide) (by decide)).mp ⟨hc87.1, hc87.2.trans (show (456690 : Int64) = md_own 3 by decide +kernel)⟩
                  refine k_aload_n C (f := 0) (i := 0) (p := 0) rfl rfl dX6_readText_90 ?_
                  refine k_callVj C s_X6_219 h_X6_readWell (L6_s (by assumption)) rfl (ct_X6_readWell hx (F6.txt ht) hP6) rfl rfl (Nat.le_of_ble_eq_true rfl) ⟨Nat.le_of_ble_eq_true rfl, Nat.le_of_ble_eq_true rfl⟩ ⟨Nat.le_of_ble_eq_true rfl, Nat.le_of_ble_eq_true rfl⟩ ⟨rfl, rfl⟩ dX6_readText_91 ?_
                  intro v I6' J6' hv
                  obtain ⟨rfl, hP6', F6', G6'⟩ := hv
                  have F6' := F6.tr F6'
                  have G6' := G6.tr G6'
                  refine k_goto C (tgt := 73) (by decide) dX6_readText_94 ?_
                  refine k_sub [0] rfl ?_
                  obtain ⟨k0, rfl⟩ : ∃ k0, k = k0 + 1 := ⟨k - 1, by omega⟩
                  rw [hs6] at hE6 hK6 hP6'
                  exact ih73 k0 I6' J6' _ hP6' (by
                    have z := hK6.2 s6 rfl
                    have zb := hB6
                    refine ⟨by omega, fun s' hs' => ?_⟩
                    by_cases c : md_pwl s6 = true
                    · replace hs' : sp_bd (md_gt md_pwl (.ok s6)) (sp_rWell tb n) = .ok s' := hs'
                      rw [md_gt_t c] at hs'
                      have c2 := ((md_Cw tb n).1 s6 hw6).mp c
                      have c3 : sp_nw s'.2 = sp_nw s6.2 + 1 := (md_Cw tb n).2 s6 s' c2 hs'
                      omega
                    · replace hs' : sp_bd (md_gt md_pwl (.ok s6)) (sp_rWell tb n) = .ok s' := hs'
                      rw [md_gt_f c] at hs'; cases hs') (by rw [md_lp_y hw6] at hE6; exact hE6) F6' G6' (by omega)
          refine k_sub [0] rfl ?_
          exact loop73 11 10 I5 J5 e5 hP5 ⟨by decide, fun s _ => by omega⟩ hEE6.symm F5 G5 (by decide)
        · skip
          obtain ⟨s5, hs5⟩ := sp_ok_iff.mp (Decidable.byContradiction hc53)
          have hQ5 := hP5
          rw [hs5] at hQ5
          have hB5 : sp_nc s5.2 ≤ 10 := hQ5.2.2.2.2.1.2.1
          refine k_aload_n C (f := 0) (i := 0) (p := 0) rfl rfl dX6_readText_56 ?_
          refine k_ldc2 C l_X6_195 dX6_readText_57 ?_
          refine k_callVp C s_X6_197 h_X6_isWord (L6_s (by assumption)) rfl (ct_X6_isWord hx) rfl rfl (Nat.le_of_ble_eq_true rfl) ⟨Nat.le_of_ble_eq_true rfl, Nat.le_of_ble_eq_true rfl⟩ ⟨Nat.le_of_ble_eq_true rfl, Nat.le_of_ble_eq_true rfl⟩ ⟨rfl, rfl⟩ dX6_readText_60 ?_
          refine k_ifb_eq C (tgt := 73) (by decide) dX6_readText_63 (fun hc63 => ?_) (fun hc63 => ?_)
          · skip
            have hX5 : EE5 = e5 := by
              rw [← hE5, hs5, md_lp_n (fun z => hc63 (by
                have q := (MTok_isw (si := 2) hQ5.2.2.1 (by decide) (by decide)).mpr z
                exact ⟨q.1, q.2.trans (show md_own 2 = (1623630 : Int64) by decide +kernel)⟩))]
            obtain ⟨EE6, hEE6⟩ : ∃ z : Except Nat sp_S, z = md_lp tb 3 md_pwl (sp_rWell tb n) 10 e5 := ⟨_, rfl⟩
            have loop73 : ∀ (f : Nat) (k : Nat) (I6 : am_I) (J6 : am_J) (e6 : Except Nat sp_S), (MP I6 J6 y tb n e6) → (1 ≤ k ∧ ∀ s : sp_S, e6 = .ok s → 10 ≤ k + sp_nw s.2) → (md_lp tb 3 md_pwl (sp_rWell tb n) k e6 = EE6) → (MPf y I I6) → (JFr y J J6) → (k) < f → am_K G X { frames := 6, cells := 0, slots := 0, locals := 129 } 1 Λ I6 J6 0 0 73 [(0, .ref y)] [] := by
              intro f
              induction f with
              | zero => intro k I6 J6 e6 hP6 hK6 hE6 F6 G6 hf; exact absurd hf (Nat.not_lt_zero _)
              | succ f ih73 =>
                intro k I6 J6 e6 hP6 hK6 hE6 F6 G6 hf
                refine k_aload_n C (f := 0) (i := 0) (p := 0) rfl rfl dX6_readText_73 ?_
                refine k_getI C f_X6_184 (L6_s (by assumption)) (fun _ _ _ => rfl) (MP_17 hP6) dX6_readText_74 ?_
                refine k_ifb_ne C (tgt := 97) (by decide) dX6_readText_77 (fun hc77 => ?_) (fun hc77 => ?_)
                · skip
                  have hX6 : EE6 = e6 := by
                    rw [← hE6]
                    obtain ⟨x, hx9⟩ := sp_nok hc77
                    rw [hx9, md_lp_e]
                  obtain ⟨EE7, hEE7⟩ : ∃ z : Except Nat sp_S, z = md_lp tb 4 md_ps (sp_rStorm tb n) 8 e6 := ⟨_, rfl⟩
                  have loop97 : ∀ (f : Nat) (k : Nat) (I7 : am_I) (J7 : am_J) (e7 : Except Nat sp_S), (MP I7 J7 y tb n e7) → (1 ≤ k ∧ ∀ s : sp_S, e7 = .ok s → 8 ≤ k + sp_ns s.2) → (md_lp tb 4 md_ps (sp_rStorm tb n) k e7 = EE7) → (MPf y I I7) → (JFr y J J7) → (k) < f → am_K G X { frames := 6, cells := 0, slots := 0, locals := 129 } 1 Λ I7 J7 0 0 97 [(0, .ref y)] [] := by
                    intro f
                    induction f with
                    | zero => intro k I7 J7 e7 hP7 hK7 hE7 F7 G7 hf; exact absurd hf (Nat.not_lt_zero _)
                    | succ f ih97 =>
                      intro k I7 J7 e7 hP7 hK7 hE7 F7 G7 hf
                      refine k_aload_n C (f := 0) (i := 0) (p := 0) rfl rfl dX6_readText_97 ?_
                      refine k_getI C f_X6_184 (L6_s (by assumption)) (fun _ _ _ => rfl) (MP_17 hP7) dX6_readText_98 ?_
                      refine k_ifb_ne C (tgt := 121) (by decide) dX6_readText_101 (fun hc101 => ?_) (fun hc101 => ?_)
                      · skip
                        have hX7 : EE7 = e7 := by
                          rw [← hE7]
                          obtain ⟨x, hx9⟩ := sp_nok hc101
                          rw [hx9, md_lp_e]
                        obtain ⟨EE8, hEE8⟩ : ∃ z : Except Nat sp_S, z = md_lp tb 5 md_pl (sp_rLoad tb n) 22 e7 := ⟨_, rfl⟩
                        have loop121 : ∀ (f : Nat) (k : Nat) (I8 : am_I) (J8 : am_J) (e8 : Except Nat sp_S), (MP I8 J8 y tb n e8) → (1 ≤ k ∧ ∀ s : sp_S, e8 = .ok s → 22 ≤ k + sp_nl s.2) → (md_lp tb 5 md_pl (sp_rLoad tb n) k e8 = EE8) → (MPf y I I8) → (JFr y J J8) → (k) < f → am_K G X { frames := 6, cells := 0, slots := 0, locals := 129 } 1 Λ I8 J8 0 0 121 [(0, .ref y)] [] := by
                          intro f
                          induction f with
                          | zero => intro k I8 J8 e8 hP8 hK8 hE8 F8 G8 hf; exact absurd hf (Nat.not_lt_zero _)
                          | succ f ih121 =>
                            intro k I8 J8 e8 hP8 hK8 hE8 F8 G8 hf
                            refine k_aload_n C (f := 0) (i := 0) (p := 0) rfl rfl dX6_readText_121 ?_
                            refine k_getI C f_X6_184 (L6_s (by assumption)) (fun _ _ _ => rfl) (MP_17 hP8) dX6_readText_122 ?_
                            refine k_ifb_ne C (tgt := 145) (by decide) dX6_readText_125 (fun hc125 => ?_) (fun hc125 => ?_)
                            · skip
                              have hX8 : EE8 = e8 := by
                                rw [← hE8]
                                obtain ⟨x, hx9⟩ := sp_nok hc125
                                rw [hx9, md_lp_e]
                              refine k_aload_n C (f := 0) (i := 0) (p := 0) rfl rfl dX6_readText_145 ?_
                              refine k_getI C f_X6_184 (L6_s (by assumption)) (fun _ _ _ => rfl) (MP_17 hP8) dX6_readText_146 ?_
                              refine k_ifb_ne C (tgt := 165) (by decide) dX6_readText_149 (fun hc149 => ?_) (fun hc149 => ?_)
                              · skip
                                exact k_vret C (Nat.le_of_ble_eq_true rfl) (Nat.le_of_ble_eq_true rfl) (⟨rfl, by
                                  have hfin : md_read tb n (.ok s0) = md_fin e8 := by
                                    unfold md_read md_rd4
                                    rw [← he1, ← he2, ← he3, ← he4, ← hEE5, hX5, ← hEE6, hX6, ← hEE7, hX7, ← hEE8, hX8]
                                  first
                                  | (obtain ⟨x, hx9⟩ := sp_nok hc149
                                     refine ⟨rfl, ?_, F8, G8⟩
                                     rw [hfin, hx9]
                                     rw [hx9] at hP8
                                     exact hP8)
                                  | (have q : s9.1.1 = 0 := (nI_eq (b := 0) (by omega) (by decide)).mp hc156
                                     refine ⟨rfl, ?_, F8, G8⟩
                                     rw [hfin, hs9]
                                     rw [hs9] at hP8
                                     show MP _ _ y tb n (if s9.1.1 = 0 then (Except.ok s9 : Except Nat sp_S) else .error s9.1.2.1)
                                     rw [if_pos q]
                                     exact hP8)
                                  | (have q : ¬ s9.1.1 = 0 := fun z => hc156 (by rw [z]; rfl)
                                     refine ⟨rfl, ?_, F8.tr F9, G8.tr G9⟩
                                     rw [hfin, hs9]
                                     rw [sp_tk0, hs9] at hP9
                                     show MP _ _ y tb n (if s9.1.1 = 0 then (Except.ok s9 : Except Nat sp_S) else .error s9.1.2.1)
                                     rw [if_neg q]
                                     exact hP9)⟩) dX6_readText_165
                              · skip
                                obtain ⟨s9, hs9⟩ := sp_ok_iff.mp (Decidable.byContradiction hc149)
                                have hQ9 := hP8
                                rw [hs9] at hQ9
                                have m14 := hQ9.2.2.1.1
                                have mb1 := hQ9.2.2.1.2.2.2.2.2.1
                                refine k_aload_n C (f := 0) (i := 0) (p := 0) rfl rfl dX6_readText_152 ?_
                                refine k_getI C f_X6_164 (L6_s (by assumption)) (fun _ _ _ => rfl) (m14) dX6_readText_153 ?_
                                refine k_if_eq C (tgt := 165) (by decide) dX6_readText_156 (fun hc156 => ?_) (fun hc156 => ?_)
                                · skip
                                  exact k_vret C (Nat.le_of_ble_eq_true rfl) (Nat.le_of_ble_eq_true rfl) (⟨rfl, by
                                    have hfin : md_read tb n (.ok s0) = md_fin e8 := by
                                      unfold md_read md_rd4
                                      rw [← he1, ← he2, ← he3, ← he4, ← hEE5, hX5, ← hEE6, hX6, ← hEE7, hX7, ← hEE8, hX8]
                                    first
                                    | (obtain ⟨x, hx9⟩ := sp_nok hc149
                                       refine ⟨rfl, ?_, F8, G8⟩
                                       rw [hfin, hx9]
                                       rw [hx9] at hP8
                                       exact hP8)
                                    | (have q : s9.1.1 = 0 := (nI_eq (b := 0) (by omega) (by decide)).mp hc156
                                       refine ⟨rfl, ?_, F8, G8⟩
                                       rw [hfin, hs9]
                                       rw [hs9] at hP8
                                       show MP _ _ y tb n (if s9.1.1 = 0 then (Except.ok s9 : Except Nat sp_S) else .error s9.1.2.1)
                                       rw [if_pos q]
                                       exact hP8)
                                    | (have q : ¬ s9.1.1 = 0 := fun z => hc156 (by rw [z]; rfl)
                                       refine ⟨rfl, ?_, F8.tr F9, G8.tr G9⟩
                                       rw [hfin, hs9]
                                       rw [sp_tk0, hs9] at hP9
                                       show MP _ _ y tb n (if s9.1.1 = 0 then (Except.ok s9 : Except Nat sp_S) else .error s9.1.2.1)
                                       rw [if_neg q]
                                       exact hP9)⟩) dX6_readText_165
                                · skip
                                  refine k_aload_n C (f := 0) (i := 0) (p := 0) rfl rfl dX6_readText_159 ?_
                                  refine k_iconst C ic_0 dX6_readText_160 ?_
                                  refine k_callVj C s_X6_191 h_X6_takes (L6_s (by assumption)) rfl (ct_X6_takes hx (F8.txt ht) hP8) rfl rfl (Nat.le_of_ble_eq_true rfl) ⟨Nat.le_of_ble_eq_true rfl, Nat.le_of_ble_eq_true rfl⟩ ⟨Nat.le_of_ble_eq_true rfl, Nat.le_of_ble_eq_true rfl⟩ ⟨rfl, rfl⟩ dX6_readText_161 ?_
                                  intro v I9 J9 hv
                                  obtain ⟨rfl, hP9, F9, G9⟩ := hv
                                  refine k_pop C rfl dX6_readText_164 ?_
                                  exact k_vret C (Nat.le_of_ble_eq_true rfl) (Nat.le_of_ble_eq_true rfl) (⟨rfl, by
                                    have hfin : md_read tb n (.ok s0) = md_fin e8 := by
                                      unfold md_read md_rd4
                                      rw [← he1, ← he2, ← he3, ← he4, ← hEE5, hX5, ← hEE6, hX6, ← hEE7, hX7, ← hEE8, hX8]
                                    first
                                    | (obtain ⟨x, hx9⟩ := sp_nok hc149
                                       refine ⟨rfl, ?_, F8, G8⟩
                                       rw [hfin, hx9]
                                       rw [hx9] at hP8
                                       exact hP8)
                                    | (have q : s9.1.1 = 0 := (nI_eq (b := 0) (by omega) (by decide)).mp hc156
                                       refine ⟨rfl, ?_, F8, G8⟩
                                       rw [hfin, hs9]
                                       rw [hs9] at hP8
                                       show MP _ _ y tb n (if s9.1.1 = 0 then (Except.ok s9 : Except Nat sp_S) else .error s9.1.2.1)
                                       rw [if_pos q]
                                       exact hP8)
                                    | (have q : ¬ s9.1.1 = 0 := fun z => hc156 (by rw [z]; rfl)
                                       refine ⟨rfl, ?_, F8.tr F9, G8.tr G9⟩
                                       rw [hfin, hs9]
                                       rw [sp_tk0, hs9] at hP9
                                       show MP _ _ y tb n (if s9.1.1 = 0 then (Except.ok s9 : Except Nat sp_S) else .error s9.1.2.1)
                                       rw [if_neg q]
                                       exact hP9)⟩) dX6_readText_165
                            · skip
                              obtain ⟨s8, hs8⟩ := sp_ok_iff.mp (Decidable.byContradiction hc125)
                              have hQ8 := hP8
                              rw [hs8] at hQ8
                              have hB8 : sp_nl s8.2 ≤ 20 := hQ8.2.2.2.2.1.2.2.2.2
                              refine k_aload_n C (f := 0) (i := 0) (p := 0) rfl rfl dX6_readText_128 ?_
                              refine k_ldc2 C l_X6_227 dX6_readText_129 ?_
                              refine k_callVp C s_X6_197 h_X6_isWord (L6_s (by assumption)) rfl (ct_X6_isWord hx) rfl rfl (Nat.le_of_ble_eq_true rfl) ⟨Nat.le_of_ble_eq_true rfl, Nat.le_of_ble_eq_true rfl⟩ ⟨Nat.le_of_ble_eq_true rfl, Nat.le_of_ble_eq_true rfl⟩ ⟨rfl, rfl⟩ dX6_readText_132 ?_
                              refine k_ifb_eq C (tgt := 145) (by decide) dX6_readText_135 (fun hc135 => ?_) (fun hc135 => ?_)
                              · skip
                                have hX8 : EE8 = e8 := by
                                  rw [← hE8, hs8, md_lp_n (fun z => hc135 (by
                                    have q := (MTok_isw (si := 5) hQ8.2.2.1 (by decide) (by decide)).mpr z
                                    exact ⟨q.1, q.2.trans (show md_own 5 = (247162 : Int64) by decide +kernel)⟩))]
                                refine k_aload_n C (f := 0) (i := 0) (p := 0) rfl rfl dX6_readText_145 ?_
                                refine k_getI C f_X6_184 (L6_s (by assumption)) (fun _ _ _ => rfl) (MP_17 hP8) dX6_readText_146 ?_
                                refine k_ifb_ne C (tgt := 165) (by decide) dX6_readText_149 (fun hc149 => ?_) (fun hc149 => ?_)
                                · skip
                                  exact k_vret C (Nat.le_of_ble_eq_true rfl) (Nat.le_of_ble_eq_true rfl) (⟨rfl, by
                                    have hfin : md_read tb n (.ok s0) = md_fin e8 := by
                                      unfold md_read md_rd4
                                      rw [← he1, ← he2, ← he3, ← he4, ← hEE5, hX5, ← hEE6, hX6, ← hEE7, hX7, ← hEE8, hX8]
                                    first
                                    | (obtain ⟨x, hx9⟩ := sp_nok hc149
                                       refine ⟨rfl, ?_, F8, G8⟩
                                       rw [hfin, hx9]
                                       rw [hx9] at hP8
                                       exact hP8)
                                    | (have q : s9.1.1 = 0 := (nI_eq (b := 0) (by omega) (by decide)).mp hc156
                                       refine ⟨rfl, ?_, F8, G8⟩
                                       rw [hfin, hs9]
                                       rw [hs9] at hP8
                                       show MP _ _ y tb n (if s9.1.1 = 0 then (Except.ok s9 : Except Nat sp_S) else .error s9.1.2.1)
                                       rw [if_pos q]
                                       exact hP8)
                                    | (have q : ¬ s9.1.1 = 0 := fun z => hc156 (by rw [z]; rfl)
                                       refine ⟨rfl, ?_, F8.tr F9, G8.tr G9⟩
                                       rw [hfin, hs9]
                                       rw [sp_tk0, hs9] at hP9
                                       show MP _ _ y tb n (if s9.1.1 = 0 then (Except.ok s9 : Except Nat sp_S) else .error s9.1.2.1)
                                       rw [if_neg q]
                                       exact hP9)⟩) dX6_readText_165
                                · skip
                                  obtain ⟨s9, hs9⟩ := sp_ok_iff.mp (Decidable.byContradiction hc149)
                                  have hQ9 := hP8
                                  rw [hs9] at hQ9
                                  have m14 := hQ9.2.2.1.1
                                  have mb1 := hQ9.2.2.1.2.2.2.2.2.1
                                  refine k_aload_n C (f := 0) (i := 0) (p := 0) rfl rfl dX6_readText_152 ?_
                                  refine k_getI C f_X6_164 (L6_s (by assumption)) (fun _ _ _ => rfl) (m14) dX6_readText_153 ?_
                                  refine k_if_eq C (tgt := 165) (by decide) dX6_readText_156 (fun hc156 => ?_) (fun hc156 => ?_)
                                  · skip
                                    exact k_vret C (Nat.le_of_ble_eq_true rfl) (Nat.le_of_ble_eq_true rfl) (⟨rfl, by
                                      have hfin : md_read tb n (.ok s0) = md_fin e8 := by
                                        unfold md_read md_rd4
                                        rw [← he1, ← he2, ← he3, ← he4, ← hEE5, hX5, ← hEE6, hX6, ← hEE7, hX7, ← hEE8, hX8]
                                      first
                                      | (obtain ⟨x, hx9⟩ := sp_nok hc149
                                         refine ⟨rfl, ?_, F8, G8⟩
                                         rw [hfin, hx9]
                                         rw [hx9] at hP8
                                         exact hP8)
                                      | (have q : s9.1.1 = 0 := (nI_eq (b := 0) (by omega) (by decide)).mp hc156
                                         refine ⟨rfl, ?_, F8, G8⟩
                                         rw [hfin, hs9]
                                         rw [hs9] at hP8
                                         show MP _ _ y tb n (if s9.1.1 = 0 then (Except.ok s9 : Except Nat sp_S) else .error s9.1.2.1)
                                         rw [if_pos q]
                                         exact hP8)
                                      | (have q : ¬ s9.1.1 = 0 := fun z => hc156 (by rw [z]; rfl)
                                         refine ⟨rfl, ?_, F8.tr F9, G8.tr G9⟩
                                         rw [hfin, hs9]
                                         rw [sp_tk0, hs9] at hP9
                                         show MP _ _ y tb n (if s9.1.1 = 0 then (Except.ok s9 : Except Nat sp_S) else .error s9.1.2.1)
                                         rw [if_neg q]
                                         exact hP9)⟩) dX6_readText_165
                                  · skip
                                    refine k_aload_n C (f := 0) (i := 0) (p := 0) rfl rfl dX6_readText_159 ?_
                                    refine k_iconst C ic_0 dX6_readText_160 ?_
                                    refine k_callVj C s_X6_191 h_X6_takes (L6_s (by assumption)) rfl (ct_X6_takes hx (F8.txt ht) hP8) rfl rfl (Nat.le_of_ble_eq_true rfl) ⟨Nat.le_of_ble_eq_true rfl, Nat.le_of_ble_eq_true rfl⟩ ⟨Nat.le_of_ble_eq_true rfl, Nat.le_of_ble_eq_true rfl⟩ ⟨rfl, rfl⟩ dX6_readText_161 ?_
                                    intro v I9 J9 hv
                                    obtain ⟨rfl, hP9, F9, G9⟩ := hv
                                    refine k_pop C rfl dX6_readText_164 ?_
                                    exact k_vret C (Nat.le_of_ble_eq_true rfl) (Nat.le_of_ble_eq_true rfl) (⟨rfl, by
                                      have hfin : md_read tb n (.ok s0) = md_fin e8 := by
                                        unfold md_read md_rd4
                                        rw [← he1, ← he2, ← he3, ← he4, ← hEE5, hX5, ← hEE6, hX6, ← hEE7, hX7, ← hEE8, hX8]
                                      first
                                      | (obtain ⟨x, hx9⟩ := sp_nok hc149
                                         refine ⟨rfl, ?_, F8, G8⟩
                                         rw [hfin, hx9]
                                         rw [hx9] at hP8
                                         exact hP8)
                                      | (have q : s9.1.1 = 0 := (nI_eq (b := 0) (by omega) (by decide)).mp hc156
                                         refine ⟨rfl, ?_, F8, G8⟩
                                         rw [hfin, hs9]
                                         rw [hs9] at hP8
                                         show MP _ _ y tb n (if s9.1.1 = 0 then (Except.ok s9 : Except Nat sp_S) else .error s9.1.2.1)
                                         rw [if_pos q]
                                         exact hP8)
                                      | (have q : ¬ s9.1.1 = 0 := fun z => hc156 (by rw [z]; rfl)
                                         refine ⟨rfl, ?_, F8.tr F9, G8.tr G9⟩
                                         rw [hfin, hs9]
                                         rw [sp_tk0, hs9] at hP9
                                         show MP _ _ y tb n (if s9.1.1 = 0 then (Except.ok s9 : Except Nat sp_S) else .error s9.1.2.1)
                                         rw [if_neg q]
                                         exact hP9)⟩) dX6_readText_165
                              · skip
                                have hw8 : sp_isw tb s8.1 5 = true := (MTok_isw hQ8.2.2.1 (by decide) (by decide)).mp ⟨hc135.1, hc135.2.trans (show (247162 : Int64) = md_own 5 by decide +kernel)⟩
                                refine k_aload_n C (f := 0) (i := 0) (p := 0) rfl rfl dX6_readText_138 ?_
                                refine k_callVj C s_X6_229 h_X6_readLoad (L6_s (by assumption)) rfl (ct_X6_readLoad hx (F8.txt ht) hP8) rfl rfl (Nat.le_of_ble_eq_true rfl) ⟨Nat.le_of_ble_eq_true rfl, Nat.le_of_ble_eq_true rfl⟩ ⟨Nat.le_of_ble_eq_true rfl, Nat.le_of_ble_eq_true rfl⟩ ⟨rfl, rfl⟩ dX6_readText_139 ?_
                                intro v I8' J8' hv
                                obtain ⟨rfl, hP8', F8', G8'⟩ := hv
                                have F8' := F8.tr F8'
                                have G8' := G8.tr G8'
                                refine k_goto C (tgt := 121) (by decide) dX6_readText_142 ?_
                                refine k_sub [0] rfl ?_
                                obtain ⟨k0, rfl⟩ : ∃ k0, k = k0 + 1 := ⟨k - 1, by omega⟩
                                rw [hs8] at hE8 hK8 hP8'
                                exact ih121 k0 I8' J8' _ hP8' (by
                                  have z := hK8.2 s8 rfl
                                  have zb := hB8
                                  refine ⟨by omega, fun s' hs' => ?_⟩
                                  by_cases c : md_pl s8 = true
                                  · replace hs' : sp_bd (md_gt md_pl (.ok s8)) (sp_rLoad tb n) = .ok s' := hs'
                                    rw [md_gt_t c] at hs'
                                    have c2 := ((md_Cl tb n).1 s8 hw8).mp c
                                    have c3 : sp_nl s'.2 = sp_nl s8.2 + 1 := (md_Cl tb n).2 s8 s' c2 hs'
                                    omega
                                  · replace hs' : sp_bd (md_gt md_pl (.ok s8)) (sp_rLoad tb n) = .ok s' := hs'
                                    rw [md_gt_f c] at hs'; cases hs') (by rw [md_lp_y hw8] at hE8; exact hE8) F8' G8' (by omega)
                        refine k_sub [0] rfl ?_
                        exact loop121 23 22 I7 J7 e7 hP7 ⟨by decide, fun s _ => by omega⟩ hEE8.symm F7 G7 (by decide)
                      · skip
                        obtain ⟨s7, hs7⟩ := sp_ok_iff.mp (Decidable.byContradiction hc101)
                        have hQ7 := hP7
                        rw [hs7] at hQ7
                        have hB7 : sp_ns s7.2 ≤ 6 := hQ7.2.2.2.2.1.2.2.2.1
                        refine k_aload_n C (f := 0) (i := 0) (p := 0) rfl rfl dX6_readText_104 ?_
                        refine k_ldc2 C l_X6_222 dX6_readText_105 ?_
                        refine k_callVp C s_X6_197 h_X6_isWord (L6_s (by assumption)) rfl (ct_X6_isWord hx) rfl rfl (Nat.le_of_ble_eq_true rfl) ⟨Nat.le_of_ble_eq_true rfl, Nat.le_of_ble_eq_true rfl⟩ ⟨Nat.le_of_ble_eq_true rfl, Nat.le_of_ble_eq_true rfl⟩ ⟨rfl, rfl⟩ dX6_readText_108 ?_
                        refine k_ifb_eq C (tgt := 121) (by decide) dX6_readText_111 (fun hc111 => ?_) (fun hc111 => ?_)
                        · skip
                          have hX7 : EE7 = e7 := by
                            rw [← hE7, hs7, md_lp_n (fun z => hc111 (by
                              have q := (MTok_isw (si := 4) hQ7.2.2.1 (by decide) (by decide)).mpr z
                              exact ⟨q.1, q.2.trans (show md_own 4 = (10502473 : Int64) by decide +kernel)⟩))]
                          obtain ⟨EE8, hEE8⟩ : ∃ z : Except Nat sp_S, z = md_lp tb 5 md_pl (sp_rLoad tb n) 22 e7 := ⟨_, rfl⟩
                          have loop121 : ∀ (f : Nat) (k : Nat) (I8 : am_I) (J8 : am_J) (e8 : Except Nat sp_S), (MP I8 J8 y tb n e8) → (1 ≤ k ∧ ∀ s : sp_S, e8 = .ok s → 22 ≤ k + sp_nl s.2) → (md_lp tb 5 md_pl (sp_rLoad tb n) k e8 = EE8) → (MPf y I I8) → (JFr y J J8) → (k) < f → am_K G X { frames := 6, cells := 0, slots := 0, locals := 129 } 1 Λ I8 J8 0 0 121 [(0, .ref y)] [] := by
                            intro f
                            induction f with
                            | zero => intro k I8 J8 e8 hP8 hK8 hE8 F8 G8 hf; exact absurd hf (Nat.not_lt_zero _)
                            | succ f ih121 =>
                              intro k I8 J8 e8 hP8 hK8 hE8 F8 G8 hf
                              refine k_aload_n C (f := 0) (i := 0) (p := 0) rfl rfl dX6_readText_121 ?_
                              refine k_getI C f_X6_184 (L6_s (by assumption)) (fun _ _ _ => rfl) (MP_17 hP8) dX6_readText_122 ?_
                              refine k_ifb_ne C (tgt := 145) (by decide) dX6_readText_125 (fun hc125 => ?_) (fun hc125 => ?_)
                              · skip
                                have hX8 : EE8 = e8 := by
                                  rw [← hE8]
                                  obtain ⟨x, hx9⟩ := sp_nok hc125
                                  rw [hx9, md_lp_e]
                                refine k_aload_n C (f := 0) (i := 0) (p := 0) rfl rfl dX6_readText_145 ?_
                                refine k_getI C f_X6_184 (L6_s (by assumption)) (fun _ _ _ => rfl) (MP_17 hP8) dX6_readText_146 ?_
                                refine k_ifb_ne C (tgt := 165) (by decide) dX6_readText_149 (fun hc149 => ?_) (fun hc149 => ?_)
                                · skip
                                  exact k_vret C (Nat.le_of_ble_eq_true rfl) (Nat.le_of_ble_eq_true rfl) (⟨rfl, by
                                    have hfin : md_read tb n (.ok s0) = md_fin e8 := by
                                      unfold md_read md_rd4
                                      rw [← he1, ← he2, ← he3, ← he4, ← hEE5, hX5, ← hEE6, hX6, ← hEE7, hX7, ← hEE8, hX8]
                                    first
                                    | (obtain ⟨x, hx9⟩ := sp_nok hc149
                                       refine ⟨rfl, ?_, F8, G8⟩
                                       rw [hfin, hx9]
                                       rw [hx9] at hP8
                                       exact hP8)
                                    | (have q : s9.1.1 = 0 := (nI_eq (b := 0) (by omega) (by decide)).mp hc156
                                       refine ⟨rfl, ?_, F8, G8⟩
                                       rw [hfin, hs9]
                                       rw [hs9] at hP8
                                       show MP _ _ y tb n (if s9.1.1 = 0 then (Except.ok s9 : Except Nat sp_S) else .error s9.1.2.1)
                                       rw [if_pos q]
                                       exact hP8)
                                    | (have q : ¬ s9.1.1 = 0 := fun z => hc156 (by rw [z]; rfl)
                                       refine ⟨rfl, ?_, F8.tr F9, G8.tr G9⟩
                                       rw [hfin, hs9]
                                       rw [sp_tk0, hs9] at hP9
                                       show MP _ _ y tb n (if s9.1.1 = 0 then (Except.ok s9 : Except Nat sp_S) else .error s9.1.2.1)
                                       rw [if_neg q]
                                       exact hP9)⟩) dX6_readText_165
                                · skip
                                  obtain ⟨s9, hs9⟩ := sp_ok_iff.mp (Decidable.byContradiction hc149)
                                  have hQ9 := hP8
                                  rw [hs9] at hQ9
                                  have m14 := hQ9.2.2.1.1
                                  have mb1 := hQ9.2.2.1.2.2.2.2.2.1
                                  refine k_aload_n C (f := 0) (i := 0) (p := 0) rfl rfl dX6_readText_152 ?_
                                  refine k_getI C f_X6_164 (L6_s (by assumption)) (fun _ _ _ => rfl) (m14) dX6_readText_153 ?_
                                  refine k_if_eq C (tgt := 165) (by decide) dX6_readText_156 (fun hc156 => ?_) (fun hc156 => ?_)
                                  · skip
                                    exact k_vret C (Nat.le_of_ble_eq_true rfl) (Nat.le_of_ble_eq_true rfl) (⟨rfl, by
                                      have hfin : md_read tb n (.ok s0) = md_fin e8 := by
                                        unfold md_read md_rd4
                                        rw [← he1, ← he2, ← he3, ← he4, ← hEE5, hX5, ← hEE6, hX6, ← hEE7, hX7, ← hEE8, hX8]
                                      first
                                      | (obtain ⟨x, hx9⟩ := sp_nok hc149
                                         refine ⟨rfl, ?_, F8, G8⟩
                                         rw [hfin, hx9]
                                         rw [hx9] at hP8
                                         exact hP8)
                                      | (have q : s9.1.1 = 0 := (nI_eq (b := 0) (by omega) (by decide)).mp hc156
                                         refine ⟨rfl, ?_, F8, G8⟩
                                         rw [hfin, hs9]
                                         rw [hs9] at hP8
                                         show MP _ _ y tb n (if s9.1.1 = 0 then (Except.ok s9 : Except Nat sp_S) else .error s9.1.2.1)
                                         rw [if_pos q]
                                         exact hP8)
                                      | (have q : ¬ s9.1.1 = 0 := fun z => hc156 (by rw [z]; rfl)
                                         refine ⟨rfl, ?_, F8.tr F9, G8.tr G9⟩
                                         rw [hfin, hs9]
                                         rw [sp_tk0, hs9] at hP9
                                         show MP _ _ y tb n (if s9.1.1 = 0 then (Except.ok s9 : Except Nat sp_S) else .error s9.1.2.1)
                                         rw [if_neg q]
                                         exact hP9)⟩) dX6_readText_165
                                  · skip
                                    refine k_aload_n C (f := 0) (i := 0) (p := 0) rfl rfl dX6_readText_159 ?_
                                    refine k_iconst C ic_0 dX6_readText_160 ?_
                                    refine k_callVj C s_X6_191 h_X6_takes (L6_s (by assumption)) rfl (ct_X6_takes hx (F8.txt ht) hP8) rfl rfl (Nat.le_of_ble_eq_true rfl) ⟨Nat.le_of_ble_eq_true rfl, Nat.le_of_ble_eq_true rfl⟩ ⟨Nat.le_of_ble_eq_true rfl, Nat.le_of_ble_eq_true rfl⟩ ⟨rfl, rfl⟩ dX6_readText_161 ?_
                                    intro v I9 J9 hv
                                    obtain ⟨rfl, hP9, F9, G9⟩ := hv
                                    refine k_pop C rfl dX6_readText_164 ?_
                                    exact k_vret C (Nat.le_of_ble_eq_true rfl) (Nat.le_of_ble_eq_true rfl) (⟨rfl, by
                                      have hfin : md_read tb n (.ok s0) = md_fin e8 := by
                                        unfold md_read md_rd4
                                        rw [← he1, ← he2, ← he3, ← he4, ← hEE5, hX5, ← hEE6, hX6, ← hEE7, hX7, ← hEE8, hX8]
                                      first
                                      | (obtain ⟨x, hx9⟩ := sp_nok hc149
                                         refine ⟨rfl, ?_, F8, G8⟩
                                         rw [hfin, hx9]
                                         rw [hx9] at hP8
                                         exact hP8)
                                      | (have q : s9.1.1 = 0 := (nI_eq (b := 0) (by omega) (by decide)).mp hc156
                                         refine ⟨rfl, ?_, F8, G8⟩
                                         rw [hfin, hs9]
                                         rw [hs9] at hP8
                                         show MP _ _ y tb n (if s9.1.1 = 0 then (Except.ok s9 : Except Nat sp_S) else .error s9.1.2.1)
                                         rw [if_pos q]
                                         exact hP8)
                                      | (have q : ¬ s9.1.1 = 0 := fun z => hc156 (by rw [z]; rfl)
                                         refine ⟨rfl, ?_, F8.tr F9, G8.tr G9⟩
                                         rw [hfin, hs9]
                                         rw [sp_tk0, hs9] at hP9
                                         show MP _ _ y tb n (if s9.1.1 = 0 then (Except.ok s9 : Except Nat sp_S) else .error s9.1.2.1)
                                         rw [if_neg q]
                                         exact hP9)⟩) dX6_readText_165
                              · skip
                                obtain ⟨s8, hs8⟩ := sp_ok_iff.mp (Decidable.byContradiction hc125)
                                have hQ8 := hP8
                                rw [hs8] at hQ8
                                have hB8 : sp_nl s8.2 ≤ 20 := hQ8.2.2.2.2.1.2.2.2.2
                                refine k_aload_n C (f := 0) (i := 0) (p := 0) rfl rfl dX6_readText_128 ?_
                                refine k_ldc2 C l_X6_227 dX6_readText_129 ?_
                                refine k_callVp C s_X6_197 h_X6_isWord (L6_s (by assumption)) rfl (ct_X6_isWord hx) rfl rfl (Nat.le_of_ble_eq_true rfl) ⟨Nat.le_of_ble_eq_true rfl, Nat.le_of_ble_eq_true rfl⟩ ⟨Nat.le_of_ble_eq_true rfl, Nat.le_of_ble_eq_true rfl⟩ ⟨rfl, rfl⟩ dX6_readText_132 ?_
                                refine k_ifb_eq C (tgt := 145) (by decide) dX6_readText_135 (fun hc135 => ?_) (fun hc135 => ?_)
                                · skip
                                  have hX8 : EE8 = e8 := by
                                    rw [← hE8, hs8, md_lp_n (fun z => hc135 (by
                                      have q := (MTok_isw (si := 5) hQ8.2.2.1 (by decide) (by decide)).mpr z
                                      exact ⟨q.1, q.2.trans (show md_own 5 = (247162 : Int64) by decide +kernel)⟩))]
                                  refine k_aload_n C (f := 0) (i := 0) (p := 0) rfl rfl dX6_readText_145 ?_
                                  refine k_getI C f_X6_184 (L6_s (by assumption)) (fun _ _ _ => rfl) (MP_17 hP8) dX6_readText_146 ?_
                                  refine k_ifb_ne C (tgt := 165) (by decide) dX6_readText_149 (fun hc149 => ?_) (fun hc149 => ?_)
                                  · skip
                                    exact k_vret C (Nat.le_of_ble_eq_true rfl) (Nat.le_of_ble_eq_true rfl) (⟨rfl, by
                                      have hfin : md_read tb n (.ok s0) = md_fin e8 := by
                                        unfold md_read md_rd4
                                        rw [← he1, ← he2, ← he3, ← he4, ← hEE5, hX5, ← hEE6, hX6, ← hEE7, hX7, ← hEE8, hX8]
                                      first
                                      | (obtain ⟨x, hx9⟩ := sp_nok hc149
                                         refine ⟨rfl, ?_, F8, G8⟩
                                         rw [hfin, hx9]
                                         rw [hx9] at hP8
                                         exact hP8)
                                      | (have q : s9.1.1 = 0 := (nI_eq (b := 0) (by omega) (by decide)).mp hc156
                                         refine ⟨rfl, ?_, F8, G8⟩
                                         rw [hfin, hs9]
                                         rw [hs9] at hP8
                                         show MP _ _ y tb n (if s9.1.1 = 0 then (Except.ok s9 : Except Nat sp_S) else .error s9.1.2.1)
                                         rw [if_pos q]
                                         exact hP8)
                                      | (have q : ¬ s9.1.1 = 0 := fun z => hc156 (by rw [z]; rfl)
                                         refine ⟨rfl, ?_, F8.tr F9, G8.tr G9⟩
                                         rw [hfin, hs9]
                                         rw [sp_tk0, hs9] at hP9
                                         show MP _ _ y tb n (if s9.1.1 = 0 then (Except.ok s9 : Except Nat sp_S) else .error s9.1.2.1)
                                         rw [if_neg q]
                                         exact hP9)⟩) dX6_readText_165
                                  · skip
                                    obtain ⟨s9, hs9⟩ := sp_ok_iff.mp (Decidable.byContradiction hc149)
                                    have hQ9 := hP8
                                    rw [hs9] at hQ9
                                    have m14 := hQ9.2.2.1.1
                                    have mb1 := hQ9.2.2.1.2.2.2.2.2.1
                                    refine k_aload_n C (f := 0) (i := 0) (p := 0) rfl rfl dX6_readText_152 ?_
                                    refine k_getI C f_X6_164 (L6_s (by assumption)) (fun _ _ _ => rfl) (m14) dX6_readText_153 ?_
                                    refine k_if_eq C (tgt := 165) (by decide) dX6_readText_156 (fun hc156 => ?_) (fun hc156 => ?_)
                                    · skip
                                      exact k_vret C (Nat.le_of_ble_eq_true rfl) (Nat.le_of_ble_eq_true rfl) (⟨rfl, by
                                        have hfin : md_read tb n (.ok s0) = md_fin e8 := by
                                          unfold md_read md_rd4
                                          rw [← he1, ← he2, ← he3, ← he4, ← hEE5, hX5, ← hEE6, hX6, ← hEE7, hX7, ← hEE8, hX8]
                                        first
                                        | (obtain ⟨x, hx9⟩ := sp_nok hc149
                                           refine ⟨rfl, ?_, F8, G8⟩
                                           rw [hfin, hx9]
                                           rw [hx9] at hP8
                                           exact hP8)
                                        | (have q : s9.1.1 = 0 := (nI_eq (b := 0) (by omega) (by decide)).mp hc156
                                           refine ⟨rfl, ?_, F8, G8⟩
                                           rw [hfin, hs9]
                                           rw [hs9] at hP8
                                           show MP _ _ y tb n (if s9.1.1 = 0 then (Except.ok s9 : Except Nat sp_S) else .error s9.1.2.1)
                                           rw [if_pos q]
                                           exact hP8)
                                        | (have q : ¬ s9.1.1 = 0 := fun z => hc156 (by rw [z]; rfl)
                                           refine ⟨rfl, ?_, F8.tr F9, G8.tr G9⟩
                                           rw [hfin, hs9]
                                           rw [sp_tk0, hs9] at hP9
                                           show MP _ _ y tb n (if s9.1.1 = 0 then (Except.ok s9 : Except Nat sp_S) else .error s9.1.2.1)
                                           rw [if_neg q]
                                           exact hP9)⟩) dX6_readText_165
                                    · skip
                                      refine k_aload_n C (f := 0) (i := 0) (p := 0) rfl rfl dX6_readText_159 ?_
                                      refine k_iconst C ic_0 dX6_readText_160 ?_
                                      refine k_callVj C s_X6_191 h_X6_takes (L6_s (by assumption)) rfl (ct_X6_takes hx (F8.txt ht) hP8) rfl rfl (Nat.le_of_ble_eq_true rfl) ⟨Nat.le_of_ble_eq_true rfl, Nat.le_of_ble_eq_true rfl⟩ ⟨Nat.le_of_ble_eq_true rfl, Nat.le_of_ble_eq_true rfl⟩ ⟨rfl, rfl⟩ dX6_readText_161 ?_
                                      intro v I9 J9 hv
                                      obtain ⟨rfl, hP9, F9, G9⟩ := hv
                                      refine k_pop C rfl dX6_readText_164 ?_
                                      exact k_vret C (Nat.le_of_ble_eq_true rfl) (Nat.le_of_ble_eq_true rfl) (⟨rfl, by
                                        have hfin : md_read tb n (.ok s0) = md_fin e8 := by
                                          unfold md_read md_rd4
                                          rw [← he1, ← he2, ← he3, ← he4, ← hEE5, hX5, ← hEE6, hX6, ← hEE7, hX7, ← hEE8, hX8]
                                        first
                                        | (obtain ⟨x, hx9⟩ := sp_nok hc149
                                           refine ⟨rfl, ?_, F8, G8⟩
                                           rw [hfin, hx9]
                                           rw [hx9] at hP8
                                           exact hP8)
                                        | (have q : s9.1.1 = 0 := (nI_eq (b := 0) (by omega) (by decide)).mp hc156
                                           refine ⟨rfl, ?_, F8, G8⟩
                                           rw [hfin, hs9]
                                           rw [hs9] at hP8
                                           show MP _ _ y tb n (if s9.1.1 = 0 then (Except.ok s9 : Except Nat sp_S) else .error s9.1.2.1)
                                           rw [if_pos q]
                                           exact hP8)
                                        | (have q : ¬ s9.1.1 = 0 := fun z => hc156 (by rw [z]; rfl)
                                           refine ⟨rfl, ?_, F8.tr F9, G8.tr G9⟩
                                           rw [hfin, hs9]
                                           rw [sp_tk0, hs9] at hP9
                                           show MP _ _ y tb n (if s9.1.1 = 0 then (Except.ok s9 : Except Nat sp_S) else .error s9.1.2.1)
                                           rw [if_neg q]
                                           exact hP9)⟩) dX6_readText_165
                                · skip
                                  have hw8 : sp_isw tb s8.1 5 = true := (MTok_isw hQ8.2.2.1 (by decide) (by decide)).mp ⟨hc135.1, hc135.2.trans (show (247162 : Int64) = md_own 5 by decide +kernel)⟩
                                  refine k_aload_n C (f := 0) (i := 0) (p := 0) rfl rfl dX6_readText_138 ?_
                                  refine k_callVj C s_X6_229 h_X6_readLoad (L6_s (by assumption)) rfl (ct_X6_readLoad hx (F8.txt ht) hP8) rfl rfl (Nat.le_of_ble_eq_true rfl) ⟨Nat.le_of_ble_eq_true rfl, Nat.le_of_ble_eq_true rfl⟩ ⟨Nat.le_of_ble_eq_true rfl, Nat.le_of_ble_eq_true rfl⟩ ⟨rfl, rfl⟩ dX6_readText_139 ?_
                                  intro v I8' J8' hv
                                  obtain ⟨rfl, hP8', F8', G8'⟩ := hv
                                  have F8' := F8.tr F8'
                                  have G8' := G8.tr G8'
                                  refine k_goto C (tgt := 121) (by decide) dX6_readText_142 ?_
                                  refine k_sub [0] rfl ?_
                                  obtain ⟨k0, rfl⟩ : ∃ k0, k = k0 + 1 := ⟨k - 1, by omega⟩
                                  rw [hs8] at hE8 hK8 hP8'
                                  exact ih121 k0 I8' J8' _ hP8' (by
                                    have z := hK8.2 s8 rfl
                                    have zb := hB8
                                    refine ⟨by omega, fun s' hs' => ?_⟩
                                    by_cases c : md_pl s8 = true
                                    · replace hs' : sp_bd (md_gt md_pl (.ok s8)) (sp_rLoad tb n) = .ok s' := hs'
                                      rw [md_gt_t c] at hs'
                                      have c2 := ((md_Cl tb n).1 s8 hw8).mp c
                                      have c3 : sp_nl s'.2 = sp_nl s8.2 + 1 := (md_Cl tb n).2 s8 s' c2 hs'
                                      omega
                                    · replace hs' : sp_bd (md_gt md_pl (.ok s8)) (sp_rLoad tb n) = .ok s' := hs'
                                      rw [md_gt_f c] at hs'; cases hs') (by rw [md_lp_y hw8] at hE8; exact hE8) F8' G8' (by omega)
                          refine k_sub [0] rfl ?_
                          exact loop121 23 22 I7 J7 e7 hP7 ⟨by decide, fun s _ => by omega⟩ hEE8.symm F7 G7 (by decide)
                        · skip
                          have hw7 : sp_isw tb s7.1 4 = true := (MTok_isw hQ7.2.2.1 (by decide) (by decide)).mp ⟨hc111.1, hc111.2.trans (show (10502473 : Int64) = md_own 4 by decide +kernel)⟩
                          refine k_aload_n C (f := 0) (i := 0) (p := 0) rfl rfl dX6_readText_114 ?_
                          refine k_callVj C s_X6_224 h_X6_readStorm (L6_s (by assumption)) rfl (ct_X6_readStorm hx (F7.txt ht) hP7) rfl rfl (Nat.le_of_ble_eq_true rfl) ⟨Nat.le_of_ble_eq_true rfl, Nat.le_of_ble_eq_true rfl⟩ ⟨Nat.le_of_ble_eq_true rfl, Nat.le_of_ble_eq_true rfl⟩ ⟨rfl, rfl⟩ dX6_readText_115 ?_
                          intro v I7' J7' hv
                          obtain ⟨rfl, hP7', F7', G7'⟩ := hv
                          have F7' := F7.tr F7'
                          have G7' := G7.tr G7'
                          refine k_goto C (tgt := 97) (by decide) dX6_readText_118 ?_
                          refine k_sub [0] rfl ?_
                          obtain ⟨k0, rfl⟩ : ∃ k0, k = k0 + 1 := ⟨k - 1, by omega⟩
                          rw [hs7] at hE7 hK7 hP7'
                          exact ih97 k0 I7' J7' _ hP7' (by
                            have z := hK7.2 s7 rfl
                            have zb := hB7
                            refine ⟨by omega, fun s' hs' => ?_⟩
                            by_cases c : md_ps s7 = true
                            · replace hs' : sp_bd (md_gt md_ps (.ok s7)) (sp_rStorm tb n) = .ok s' := hs'
                              rw [md_gt_t c] at hs'
                              have c2 := ((md_Cs tb n).1 s7 hw7).mp c
                              have c3 : sp_ns s'.2 = sp_ns s7.2 + 1 := (md_Cs tb n).2 s7 s' c2 hs'
                              omega
                            · replace hs' : sp_bd (md_gt md_ps (.ok s7)) (sp_rStorm tb n) = .ok s' := hs'
                              rw [md_gt_f c] at hs'; cases hs') (by rw [md_lp_y hw7] at hE7; exact hE7) F7' G7' (by omega)
                  refine k_sub [0] rfl ?_
                  exact loop97 9 8 I6 J6 e6 hP6 ⟨by decide, fun s _ => by omega⟩ hEE7.symm F6 G6 (by decide)
                · skip
                  obtain ⟨s6, hs6⟩ := sp_ok_iff.mp (Decidable.byContradiction hc77)
                  have hQ6 := hP6
                  rw [hs6] at hQ6
                  have hB6 : sp_nw s6.2 ≤ 8 := hQ6.2.2.2.2.1.2.2.1
                  refine k_aload_n C (f := 0) (i := 0) (p := 0) rfl rfl dX6_readText_80 ?_
                  refine k_ldc2 C l_X6_217 dX6_readText_81 ?_
                  refine k_callVp C s_X6_197 h_X6_isWord (L6_s (by assumption)) rfl (ct_X6_isWord hx) rfl rfl (Nat.le_of_ble_eq_true rfl) ⟨Nat.le_of_ble_eq_true rfl, Nat.le_of_ble_eq_true rfl⟩ ⟨Nat.le_of_ble_eq_true rfl, Nat.le_of_ble_eq_true rfl⟩ ⟨rfl, rfl⟩ dX6_readText_84 ?_
                  refine k_ifb_eq C (tgt := 97) (by decide) dX6_readText_87 (fun hc87 => ?_) (fun hc87 => ?_)
                  · skip
                    have hX6 : EE6 = e6 := by
                      rw [← hE6, hs6, md_lp_n (fun z => hc87 (by
                        have q := (MTok_isw (si := 3) hQ6.2.2.1 (by decide) (by decide)).mpr z
                        exact ⟨q.1, q.2.trans (show md_own 3 = (456690 : Int64) by decide +kernel)⟩))]
                    obtain ⟨EE7, hEE7⟩ : ∃ z : Except Nat sp_S, z = md_lp tb 4 md_ps (sp_rStorm tb n) 8 e6 := ⟨_, rfl⟩
                    have loop97 : ∀ (f : Nat) (k : Nat) (I7 : am_I) (J7 : am_J) (e7 : Except Nat sp_S), (MP I7 J7 y tb n e7) → (1 ≤ k ∧ ∀ s : sp_S, e7 = .ok s → 8 ≤ k + sp_ns s.2) → (md_lp tb 4 md_ps (sp_rStorm tb n) k e7 = EE7) → (MPf y I I7) → (JFr y J J7) → (k) < f → am_K G X { frames := 6, cells := 0, slots := 0, locals := 129 } 1 Λ I7 J7 0 0 97 [(0, .ref y)] [] := by
                      intro f
                      induction f with
                      | zero => intro k I7 J7 e7 hP7 hK7 hE7 F7 G7 hf; exact absurd hf (Nat.not_lt_zero _)
                      | succ f ih97 =>
                        intro k I7 J7 e7 hP7 hK7 hE7 F7 G7 hf
                        refine k_aload_n C (f := 0) (i := 0) (p := 0) rfl rfl dX6_readText_97 ?_
                        refine k_getI C f_X6_184 (L6_s (by assumption)) (fun _ _ _ => rfl) (MP_17 hP7) dX6_readText_98 ?_
                        refine k_ifb_ne C (tgt := 121) (by decide) dX6_readText_101 (fun hc101 => ?_) (fun hc101 => ?_)
                        · skip
                          have hX7 : EE7 = e7 := by
                            rw [← hE7]
                            obtain ⟨x, hx9⟩ := sp_nok hc101
                            rw [hx9, md_lp_e]
                          obtain ⟨EE8, hEE8⟩ : ∃ z : Except Nat sp_S, z = md_lp tb 5 md_pl (sp_rLoad tb n) 22 e7 := ⟨_, rfl⟩
                          have loop121 : ∀ (f : Nat) (k : Nat) (I8 : am_I) (J8 : am_J) (e8 : Except Nat sp_S), (MP I8 J8 y tb n e8) → (1 ≤ k ∧ ∀ s : sp_S, e8 = .ok s → 22 ≤ k + sp_nl s.2) → (md_lp tb 5 md_pl (sp_rLoad tb n) k e8 = EE8) → (MPf y I I8) → (JFr y J J8) → (k) < f → am_K G X { frames := 6, cells := 0, slots := 0, locals := 129 } 1 Λ I8 J8 0 0 121 [(0, .ref y)] [] := by
                            intro f
                            induction f with
                            | zero => intro k I8 J8 e8 hP8 hK8 hE8 F8 G8 hf; exact absurd hf (Nat.not_lt_zero _)
                            | succ f ih121 =>
                              intro k I8 J8 e8 hP8 hK8 hE8 F8 G8 hf
                              refine k_aload_n C (f := 0) (i := 0) (p := 0) rfl rfl dX6_readText_121 ?_
                              refine k_getI C f_X6_184 (L6_s (by assumption)) (fun _ _ _ => rfl) (MP_17 hP8) dX6_readText_122 ?_
                              refine k_ifb_ne C (tgt := 145) (by decide) dX6_readText_125 (fun hc125 => ?_) (fun hc125 => ?_)
                              · skip
                                have hX8 : EE8 = e8 := by
                                  rw [← hE8]
                                  obtain ⟨x, hx9⟩ := sp_nok hc125
                                  rw [hx9, md_lp_e]
                                refine k_aload_n C (f := 0) (i := 0) (p := 0) rfl rfl dX6_readText_145 ?_
                                refine k_getI C f_X6_184 (L6_s (by assumption)) (fun _ _ _ => rfl) (MP_17 hP8) dX6_readText_146 ?_
                                refine k_ifb_ne C (tgt := 165) (by decide) dX6_readText_149 (fun hc149 => ?_) (fun hc149 => ?_)
                                · skip
                                  exact k_vret C (Nat.le_of_ble_eq_true rfl) (Nat.le_of_ble_eq_true rfl) (⟨rfl, by
                                    have hfin : md_read tb n (.ok s0) = md_fin e8 := by
                                      unfold md_read md_rd4
                                      rw [← he1, ← he2, ← he3, ← he4, ← hEE5, hX5, ← hEE6, hX6, ← hEE7, hX7, ← hEE8, hX8]
                                    first
                                    | (obtain ⟨x, hx9⟩ := sp_nok hc149
                                       refine ⟨rfl, ?_, F8, G8⟩
                                       rw [hfin, hx9]
                                       rw [hx9] at hP8
                                       exact hP8)
                                    | (have q : s9.1.1 = 0 := (nI_eq (b := 0) (by omega) (by decide)).mp hc156
                                       refine ⟨rfl, ?_, F8, G8⟩
                                       rw [hfin, hs9]
                                       rw [hs9] at hP8
                                       show MP _ _ y tb n (if s9.1.1 = 0 then (Except.ok s9 : Except Nat sp_S) else .error s9.1.2.1)
                                       rw [if_pos q]
                                       exact hP8)
                                    | (have q : ¬ s9.1.1 = 0 := fun z => hc156 (by rw [z]; rfl)
                                       refine ⟨rfl, ?_, F8.tr F9, G8.tr G9⟩
                                       rw [hfin, hs9]
                                       rw [sp_tk0, hs9] at hP9
                                       show MP _ _ y tb n (if s9.1.1 = 0 then (Except.ok s9 : Except Nat sp_S) else .error s9.1.2.1)
                                       rw [if_neg q]
                                       exact hP9)⟩) dX6_readText_165
                                · skip
                                  obtain ⟨s9, hs9⟩ := sp_ok_iff.mp (Decidable.byContradiction hc149)
                                  have hQ9 := hP8
                                  rw [hs9] at hQ9
                                  have m14 := hQ9.2.2.1.1
                                  have mb1 := hQ9.2.2.1.2.2.2.2.2.1
                                  refine k_aload_n C (f := 0) (i := 0) (p := 0) rfl rfl dX6_readText_152 ?_
                                  refine k_getI C f_X6_164 (L6_s (by assumption)) (fun _ _ _ => rfl) (m14) dX6_readText_153 ?_
                                  refine k_if_eq C (tgt := 165) (by decide) dX6_readText_156 (fun hc156 => ?_) (fun hc156 => ?_)
                                  · skip
                                    exact k_vret C (Nat.le_of_ble_eq_true rfl) (Nat.le_of_ble_eq_true rfl) (⟨rfl, by
                                      have hfin : md_read tb n (.ok s0) = md_fin e8 := by
                                        unfold md_read md_rd4
                                        rw [← he1, ← he2, ← he3, ← he4, ← hEE5, hX5, ← hEE6, hX6, ← hEE7, hX7, ← hEE8, hX8]
                                      first
                                      | (obtain ⟨x, hx9⟩ := sp_nok hc149
                                         refine ⟨rfl, ?_, F8, G8⟩
                                         rw [hfin, hx9]
                                         rw [hx9] at hP8
                                         exact hP8)
                                      | (have q : s9.1.1 = 0 := (nI_eq (b := 0) (by omega) (by decide)).mp hc156
                                         refine ⟨rfl, ?_, F8, G8⟩
                                         rw [hfin, hs9]
                                         rw [hs9] at hP8
                                         show MP _ _ y tb n (if s9.1.1 = 0 then (Except.ok s9 : Except Nat sp_S) else .error s9.1.2.1)
                                         rw [if_pos q]
                                         exact hP8)
                                      | (have q : ¬ s9.1.1 = 0 := fun z => hc156 (by rw [z]; rfl)
                                         refine ⟨rfl, ?_, F8.tr F9, G8.tr G9⟩
                                         rw [hfin, hs9]
                                         rw [sp_tk0, hs9] at hP9
                                         show MP _ _ y tb n (if s9.1.1 = 0 then (Except.ok s9 : Except Nat sp_S) else .error s9.1.2.1)
                                         rw [if_neg q]
                                         exact hP9)⟩) dX6_readText_165
                                  · skip
                                    refine k_aload_n C (f := 0) (i := 0) (p := 0) rfl rfl dX6_readText_159 ?_
                                    refine k_iconst C ic_0 dX6_readText_160 ?_
                                    refine k_callVj C s_X6_191 h_X6_takes (L6_s (by assumption)) rfl (ct_X6_takes hx (F8.txt ht) hP8) rfl rfl (Nat.le_of_ble_eq_true rfl) ⟨Nat.le_of_ble_eq_true rfl, Nat.le_of_ble_eq_true rfl⟩ ⟨Nat.le_of_ble_eq_true rfl, Nat.le_of_ble_eq_true rfl⟩ ⟨rfl, rfl⟩ dX6_readText_161 ?_
                                    intro v I9 J9 hv
                                    obtain ⟨rfl, hP9, F9, G9⟩ := hv
                                    refine k_pop C rfl dX6_readText_164 ?_
                                    exact k_vret C (Nat.le_of_ble_eq_true rfl) (Nat.le_of_ble_eq_true rfl) (⟨rfl, by
                                      have hfin : md_read tb n (.ok s0) = md_fin e8 := by
                                        unfold md_read md_rd4
                                        rw [← he1, ← he2, ← he3, ← he4, ← hEE5, hX5, ← hEE6, hX6, ← hEE7, hX7, ← hEE8, hX8]
                                      first
                                      | (obtain ⟨x, hx9⟩ := sp_nok hc149
                                         refine ⟨rfl, ?_, F8, G8⟩
                                         rw [hfin, hx9]
                                         rw [hx9] at hP8
                                         exact hP8)
                                      | (have q : s9.1.1 = 0 := (nI_eq (b := 0) (by omega) (by decide)).mp hc156
                                         refine ⟨rfl, ?_, F8, G8⟩
                                         rw [hfin, hs9]
                                         rw [hs9] at hP8
                                         show MP _ _ y tb n (if s9.1.1 = 0 then (Except.ok s9 : Except Nat sp_S) else .error s9.1.2.1)
                                         rw [if_pos q]
                                         exact hP8)
                                      | (have q : ¬ s9.1.1 = 0 := fun z => hc156 (by rw [z]; rfl)
                                         refine ⟨rfl, ?_, F8.tr F9, G8.tr G9⟩
                                         rw [hfin, hs9]
                                         rw [sp_tk0, hs9] at hP9
                                         show MP _ _ y tb n (if s9.1.1 = 0 then (Except.ok s9 : Except Nat sp_S) else .error s9.1.2.1)
                                         rw [if_neg q]
                                         exact hP9)⟩) dX6_readText_165
                              · skip
                                obtain ⟨s8, hs8⟩ := sp_ok_iff.mp (Decidable.byContradiction hc125)
                                have hQ8 := hP8
                                rw [hs8] at hQ8
                                have hB8 : sp_nl s8.2 ≤ 20 := hQ8.2.2.2.2.1.2.2.2.2
                                refine k_aload_n C (f := 0) (i := 0) (p := 0) rfl rfl dX6_readText_128 ?_
                                refine k_ldc2 C l_X6_227 dX6_readText_129 ?_
                                refine k_callVp C s_X6_197 h_X6_isWord (L6_s (by assumption)) rfl (ct_X6_isWord hx) rfl rfl (Nat.le_of_ble_eq_true rfl) ⟨Nat.le_of_ble_eq_true rfl, Nat.le_of_ble_eq_true rfl⟩ ⟨Nat.le_of_ble_eq_true rfl, Nat.le_of_ble_eq_true rfl⟩ ⟨rfl, rfl⟩ dX6_readText_132 ?_
                                refine k_ifb_eq C (tgt := 145) (by decide) dX6_readText_135 (fun hc135 => ?_) (fun hc135 => ?_)
                                · skip
                                  have hX8 : EE8 = e8 := by
                                    rw [← hE8, hs8, md_lp_n (fun z => hc135 (by
                                      have q := (MTok_isw (si := 5) hQ8.2.2.1 (by decide) (by decide)).mpr z
                                      exact ⟨q.1, q.2.trans (show md_own 5 = (247162 : Int64) by decide +kernel)⟩))]
                                  refine k_aload_n C (f := 0) (i := 0) (p := 0) rfl rfl dX6_readText_145 ?_
                                  refine k_getI C f_X6_184 (L6_s (by assumption)) (fun _ _ _ => rfl) (MP_17 hP8) dX6_readText_146 ?_
                                  refine k_ifb_ne C (tgt := 165) (by decide) dX6_readText_149 (fun hc149 => ?_) (fun hc149 => ?_)
                                  · skip
                                    exact k_vret C (Nat.le_of_ble_eq_true rfl) (Nat.le_of_ble_eq_true rfl) (⟨rfl, by
                                      have hfin : md_read tb n (.ok s0) = md_fin e8 := by
                                        unfold md_read md_rd4
                                        rw [← he1, ← he2, ← he3, ← he4, ← hEE5, hX5, ← hEE6, hX6, ← hEE7, hX7, ← hEE8, hX8]
                                      first
                                      | (obtain ⟨x, hx9⟩ := sp_nok hc149
                                         refine ⟨rfl, ?_, F8, G8⟩
                                         rw [hfin, hx9]
                                         rw [hx9] at hP8
                                         exact hP8)
                                      | (have q : s9.1.1 = 0 := (nI_eq (b := 0) (by omega) (by decide)).mp hc156
                                         refine ⟨rfl, ?_, F8, G8⟩
                                         rw [hfin, hs9]
                                         rw [hs9] at hP8
                                         show MP _ _ y tb n (if s9.1.1 = 0 then (Except.ok s9 : Except Nat sp_S) else .error s9.1.2.1)
                                         rw [if_pos q]
                                         exact hP8)
                                      | (have q : ¬ s9.1.1 = 0 := fun z => hc156 (by rw [z]; rfl)
                                         refine ⟨rfl, ?_, F8.tr F9, G8.tr G9⟩
                                         rw [hfin, hs9]
                                         rw [sp_tk0, hs9] at hP9
                                         show MP _ _ y tb n (if s9.1.1 = 0 then (Except.ok s9 : Except Nat sp_S) else .error s9.1.2.1)
                                         rw [if_neg q]
                                         exact hP9)⟩) dX6_readText_165
                                  · skip
                                    obtain ⟨s9, hs9⟩ := sp_ok_iff.mp (Decidable.byContradiction hc149)
                                    have hQ9 := hP8
                                    rw [hs9] at hQ9
                                    have m14 := hQ9.2.2.1.1
                                    have mb1 := hQ9.2.2.1.2.2.2.2.2.1
                                    refine k_aload_n C (f := 0) (i := 0) (p := 0) rfl rfl dX6_readText_152 ?_
                                    refine k_getI C f_X6_164 (L6_s (by assumption)) (fun _ _ _ => rfl) (m14) dX6_readText_153 ?_
                                    refine k_if_eq C (tgt := 165) (by decide) dX6_readText_156 (fun hc156 => ?_) (fun hc156 => ?_)
                                    · skip
                                      exact k_vret C (Nat.le_of_ble_eq_true rfl) (Nat.le_of_ble_eq_true rfl) (⟨rfl, by
                                        have hfin : md_read tb n (.ok s0) = md_fin e8 := by
                                          unfold md_read md_rd4
                                          rw [← he1, ← he2, ← he3, ← he4, ← hEE5, hX5, ← hEE6, hX6, ← hEE7, hX7, ← hEE8, hX8]
                                        first
                                        | (obtain ⟨x, hx9⟩ := sp_nok hc149
                                           refine ⟨rfl, ?_, F8, G8⟩
                                           rw [hfin, hx9]
                                           rw [hx9] at hP8
                                           exact hP8)
                                        | (have q : s9.1.1 = 0 := (nI_eq (b := 0) (by omega) (by decide)).mp hc156
                                           refine ⟨rfl, ?_, F8, G8⟩
                                           rw [hfin, hs9]
                                           rw [hs9] at hP8
                                           show MP _ _ y tb n (if s9.1.1 = 0 then (Except.ok s9 : Except Nat sp_S) else .error s9.1.2.1)
                                           rw [if_pos q]
                                           exact hP8)
                                        | (have q : ¬ s9.1.1 = 0 := fun z => hc156 (by rw [z]; rfl)
                                           refine ⟨rfl, ?_, F8.tr F9, G8.tr G9⟩
                                           rw [hfin, hs9]
                                           rw [sp_tk0, hs9] at hP9
                                           show MP _ _ y tb n (if s9.1.1 = 0 then (Except.ok s9 : Except Nat sp_S) else .error s9.1.2.1)
                                           rw [if_neg q]
                                           exact hP9)⟩) dX6_readText_165
                                    · skip
                                      refine k_aload_n C (f := 0) (i := 0) (p := 0) rfl rfl dX6_readText_159 ?_
                                      refine k_iconst C ic_0 dX6_readText_160 ?_
                                      refine k_callVj C s_X6_191 h_X6_takes (L6_s (by assumption)) rfl (ct_X6_takes hx (F8.txt ht) hP8) rfl rfl (Nat.le_of_ble_eq_true rfl) ⟨Nat.le_of_ble_eq_true rfl, Nat.le_of_ble_eq_true rfl⟩ ⟨Nat.le_of_ble_eq_true rfl, Nat.le_of_ble_eq_true rfl⟩ ⟨rfl, rfl⟩ dX6_readText_161 ?_
                                      intro v I9 J9 hv
                                      obtain ⟨rfl, hP9, F9, G9⟩ := hv
                                      refine k_pop C rfl dX6_readText_164 ?_
                                      exact k_vret C (Nat.le_of_ble_eq_true rfl) (Nat.le_of_ble_eq_true rfl) (⟨rfl, by
                                        have hfin : md_read tb n (.ok s0) = md_fin e8 := by
                                          unfold md_read md_rd4
                                          rw [← he1, ← he2, ← he3, ← he4, ← hEE5, hX5, ← hEE6, hX6, ← hEE7, hX7, ← hEE8, hX8]
                                        first
                                        | (obtain ⟨x, hx9⟩ := sp_nok hc149
                                           refine ⟨rfl, ?_, F8, G8⟩
                                           rw [hfin, hx9]
                                           rw [hx9] at hP8
                                           exact hP8)
                                        | (have q : s9.1.1 = 0 := (nI_eq (b := 0) (by omega) (by decide)).mp hc156
                                           refine ⟨rfl, ?_, F8, G8⟩
                                           rw [hfin, hs9]
                                           rw [hs9] at hP8
                                           show MP _ _ y tb n (if s9.1.1 = 0 then (Except.ok s9 : Except Nat sp_S) else .error s9.1.2.1)
                                           rw [if_pos q]
                                           exact hP8)
                                        | (have q : ¬ s9.1.1 = 0 := fun z => hc156 (by rw [z]; rfl)
                                           refine ⟨rfl, ?_, F8.tr F9, G8.tr G9⟩
                                           rw [hfin, hs9]
                                           rw [sp_tk0, hs9] at hP9
                                           show MP _ _ y tb n (if s9.1.1 = 0 then (Except.ok s9 : Except Nat sp_S) else .error s9.1.2.1)
                                           rw [if_neg q]
                                           exact hP9)⟩) dX6_readText_165
                                · skip
                                  have hw8 : sp_isw tb s8.1 5 = true := (MTok_isw hQ8.2.2.1 (by decide) (by decide)).mp ⟨hc135.1, hc135.2.trans (show (247162 : Int64) = md_own 5 by decide +kernel)⟩
                                  refine k_aload_n C (f := 0) (i := 0) (p := 0) rfl rfl dX6_readText_138 ?_
                                  refine k_callVj C s_X6_229 h_X6_readLoad (L6_s (by assumption)) rfl (ct_X6_readLoad hx (F8.txt ht) hP8) rfl rfl (Nat.le_of_ble_eq_true rfl) ⟨Nat.le_of_ble_eq_true rfl, Nat.le_of_ble_eq_true rfl⟩ ⟨Nat.le_of_ble_eq_true rfl, Nat.le_of_ble_eq_true rfl⟩ ⟨rfl, rfl⟩ dX6_readText_139 ?_
                                  intro v I8' J8' hv
                                  obtain ⟨rfl, hP8', F8', G8'⟩ := hv
                                  have F8' := F8.tr F8'
                                  have G8' := G8.tr G8'
                                  refine k_goto C (tgt := 121) (by decide) dX6_readText_142 ?_
                                  refine k_sub [0] rfl ?_
                                  obtain ⟨k0, rfl⟩ : ∃ k0, k = k0 + 1 := ⟨k - 1, by omega⟩
                                  rw [hs8] at hE8 hK8 hP8'
                                  exact ih121 k0 I8' J8' _ hP8' (by
                                    have z := hK8.2 s8 rfl
                                    have zb := hB8
                                    refine ⟨by omega, fun s' hs' => ?_⟩
                                    by_cases c : md_pl s8 = true
                                    · replace hs' : sp_bd (md_gt md_pl (.ok s8)) (sp_rLoad tb n) = .ok s' := hs'
                                      rw [md_gt_t c] at hs'
                                      have c2 := ((md_Cl tb n).1 s8 hw8).mp c
                                      have c3 : sp_nl s'.2 = sp_nl s8.2 + 1 := (md_Cl tb n).2 s8 s' c2 hs'
                                      omega
                                    · replace hs' : sp_bd (md_gt md_pl (.ok s8)) (sp_rLoad tb n) = .ok s' := hs'
                                      rw [md_gt_f c] at hs'; cases hs') (by rw [md_lp_y hw8] at hE8; exact hE8) F8' G8' (by omega)
                          refine k_sub [0] rfl ?_
                          exact loop121 23 22 I7 J7 e7 hP7 ⟨by decide, fun s _ => by omega⟩ hEE8.symm F7 G7 (by decide)
                        · skip
                          obtain ⟨s7, hs7⟩ := sp_ok_iff.mp (Decidable.byContradiction hc101)
                          have hQ7 := hP7
                          rw [hs7] at hQ7
                          have hB7 : sp_ns s7.2 ≤ 6 := hQ7.2.2.2.2.1.2.2.2.1
                          refine k_aload_n C (f := 0) (i := 0) (p := 0) rfl rfl dX6_readText_104 ?_
                          refine k_ldc2 C l_X6_222 dX6_readText_105 ?_
                          refine k_callVp C s_X6_197 h_X6_isWord (L6_s (by assumption)) rfl (ct_X6_isWord hx) rfl rfl (Nat.le_of_ble_eq_true rfl) ⟨Nat.le_of_ble_eq_true rfl, Nat.le_of_ble_eq_true rfl⟩ ⟨Nat.le_of_ble_eq_true rfl, Nat.le_of_ble_eq_true rfl⟩ ⟨rfl, rfl⟩ dX6_readText_108 ?_
                          refine k_ifb_eq C (tgt := 121) (by decide) dX6_readText_111 (fun hc111 => ?_) (fun hc111 => ?_)
                          · skip
                            have hX7 : EE7 = e7 := by
                              rw [← hE7, hs7, md_lp_n (fun z => hc111 (by
                                have q := (MTok_isw (si := 4) hQ7.2.2.1 (by decide) (by decide)).mpr z
                                exact ⟨q.1, q.2.trans (show md_own 4 = (10502473 : Int64) by decide +kernel)⟩))]
                            obtain ⟨EE8, hEE8⟩ : ∃ z : Except Nat sp_S, z = md_lp tb 5 md_pl (sp_rLoad tb n) 22 e7 := ⟨_, rfl⟩
                            have loop121 : ∀ (f : Nat) (k : Nat) (I8 : am_I) (J8 : am_J) (e8 : Except Nat sp_S), (MP I8 J8 y tb n e8) → (1 ≤ k ∧ ∀ s : sp_S, e8 = .ok s → 22 ≤ k + sp_nl s.2) → (md_lp tb 5 md_pl (sp_rLoad tb n) k e8 = EE8) → (MPf y I I8) → (JFr y J J8) → (k) < f → am_K G X { frames := 6, cells := 0, slots := 0, locals := 129 } 1 Λ I8 J8 0 0 121 [(0, .ref y)] [] := by
                              intro f
                              induction f with
                              | zero => intro k I8 J8 e8 hP8 hK8 hE8 F8 G8 hf; exact absurd hf (Nat.not_lt_zero _)
                              | succ f ih121 =>
                                intro k I8 J8 e8 hP8 hK8 hE8 F8 G8 hf
                                refine k_aload_n C (f := 0) (i := 0) (p := 0) rfl rfl dX6_readText_121 ?_
                                refine k_getI C f_X6_184 (L6_s (by assumption)) (fun _ _ _ => rfl) (MP_17 hP8) dX6_readText_122 ?_
                                refine k_ifb_ne C (tgt := 145) (by decide) dX6_readText_125 (fun hc125 => ?_) (fun hc125 => ?_)
                                · skip
                                  have hX8 : EE8 = e8 := by
                                    rw [← hE8]
                                    obtain ⟨x, hx9⟩ := sp_nok hc125
                                    rw [hx9, md_lp_e]
                                  refine k_aload_n C (f := 0) (i := 0) (p := 0) rfl rfl dX6_readText_145 ?_
                                  refine k_getI C f_X6_184 (L6_s (by assumption)) (fun _ _ _ => rfl) (MP_17 hP8) dX6_readText_146 ?_
                                  refine k_ifb_ne C (tgt := 165) (by decide) dX6_readText_149 (fun hc149 => ?_) (fun hc149 => ?_)
                                  · skip
                                    exact k_vret C (Nat.le_of_ble_eq_true rfl) (Nat.le_of_ble_eq_true rfl) (⟨rfl, by
                                      have hfin : md_read tb n (.ok s0) = md_fin e8 := by
                                        unfold md_read md_rd4
                                        rw [← he1, ← he2, ← he3, ← he4, ← hEE5, hX5, ← hEE6, hX6, ← hEE7, hX7, ← hEE8, hX8]
                                      first
                                      | (obtain ⟨x, hx9⟩ := sp_nok hc149
                                         refine ⟨rfl, ?_, F8, G8⟩
                                         rw [hfin, hx9]
                                         rw [hx9] at hP8
                                         exact hP8)
                                      | (have q : s9.1.1 = 0 := (nI_eq (b := 0) (by omega) (by decide)).mp hc156
                                         refine ⟨rfl, ?_, F8, G8⟩
                                         rw [hfin, hs9]
                                         rw [hs9] at hP8
                                         show MP _ _ y tb n (if s9.1.1 = 0 then (Except.ok s9 : Except Nat sp_S) else .error s9.1.2.1)
                                         rw [if_pos q]
                                         exact hP8)
                                      | (have q : ¬ s9.1.1 = 0 := fun z => hc156 (by rw [z]; rfl)
                                         refine ⟨rfl, ?_, F8.tr F9, G8.tr G9⟩
                                         rw [hfin, hs9]
                                         rw [sp_tk0, hs9] at hP9
                                         show MP _ _ y tb n (if s9.1.1 = 0 then (Except.ok s9 : Except Nat sp_S) else .error s9.1.2.1)
                                         rw [if_neg q]
                                         exact hP9)⟩) dX6_readText_165
                                  · skip
                                    obtain ⟨s9, hs9⟩ := sp_ok_iff.mp (Decidable.byContradiction hc149)
                                    have hQ9 := hP8
                                    rw [hs9] at hQ9
                                    have m14 := hQ9.2.2.1.1
                                    have mb1 := hQ9.2.2.1.2.2.2.2.2.1
                                    refine k_aload_n C (f := 0) (i := 0) (p := 0) rfl rfl dX6_readText_152 ?_
                                    refine k_getI C f_X6_164 (L6_s (by assumption)) (fun _ _ _ => rfl) (m14) dX6_readText_153 ?_
                                    refine k_if_eq C (tgt := 165) (by decide) dX6_readText_156 (fun hc156 => ?_) (fun hc156 => ?_)
                                    · skip
                                      exact k_vret C (Nat.le_of_ble_eq_true rfl) (Nat.le_of_ble_eq_true rfl) (⟨rfl, by
                                        have hfin : md_read tb n (.ok s0) = md_fin e8 := by
                                          unfold md_read md_rd4
                                          rw [← he1, ← he2, ← he3, ← he4, ← hEE5, hX5, ← hEE6, hX6, ← hEE7, hX7, ← hEE8, hX8]
                                        first
                                        | (obtain ⟨x, hx9⟩ := sp_nok hc149
                                           refine ⟨rfl, ?_, F8, G8⟩
                                           rw [hfin, hx9]
                                           rw [hx9] at hP8
                                           exact hP8)
                                        | (have q : s9.1.1 = 0 := (nI_eq (b := 0) (by omega) (by decide)).mp hc156
                                           refine ⟨rfl, ?_, F8, G8⟩
                                           rw [hfin, hs9]
                                           rw [hs9] at hP8
                                           show MP _ _ y tb n (if s9.1.1 = 0 then (Except.ok s9 : Except Nat sp_S) else .error s9.1.2.1)
                                           rw [if_pos q]
                                           exact hP8)
                                        | (have q : ¬ s9.1.1 = 0 := fun z => hc156 (by rw [z]; rfl)
                                           refine ⟨rfl, ?_, F8.tr F9, G8.tr G9⟩
                                           rw [hfin, hs9]
                                           rw [sp_tk0, hs9] at hP9
                                           show MP _ _ y tb n (if s9.1.1 = 0 then (Except.ok s9 : Except Nat sp_S) else .error s9.1.2.1)
                                           rw [if_neg q]
                                           exact hP9)⟩) dX6_readText_165
                                    · skip
                                      refine k_aload_n C (f := 0) (i := 0) (p := 0) rfl rfl dX6_readText_159 ?_
                                      refine k_iconst C ic_0 dX6_readText_160 ?_
                                      refine k_callVj C s_X6_191 h_X6_takes (L6_s (by assumption)) rfl (ct_X6_takes hx (F8.txt ht) hP8) rfl rfl (Nat.le_of_ble_eq_true rfl) ⟨Nat.le_of_ble_eq_true rfl, Nat.le_of_ble_eq_true rfl⟩ ⟨Nat.le_of_ble_eq_true rfl, Nat.le_of_ble_eq_true rfl⟩ ⟨rfl, rfl⟩ dX6_readText_161 ?_
                                      intro v I9 J9 hv
                                      obtain ⟨rfl, hP9, F9, G9⟩ := hv
                                      refine k_pop C rfl dX6_readText_164 ?_
                                      exact k_vret C (Nat.le_of_ble_eq_true rfl) (Nat.le_of_ble_eq_true rfl) (⟨rfl, by
                                        have hfin : md_read tb n (.ok s0) = md_fin e8 := by
                                          unfold md_read md_rd4
                                          rw [← he1, ← he2, ← he3, ← he4, ← hEE5, hX5, ← hEE6, hX6, ← hEE7, hX7, ← hEE8, hX8]
                                        first
                                        | (obtain ⟨x, hx9⟩ := sp_nok hc149
                                           refine ⟨rfl, ?_, F8, G8⟩
                                           rw [hfin, hx9]
                                           rw [hx9] at hP8
                                           exact hP8)
                                        | (have q : s9.1.1 = 0 := (nI_eq (b := 0) (by omega) (by decide)).mp hc156
                                           refine ⟨rfl, ?_, F8, G8⟩
                                           rw [hfin, hs9]
                                           rw [hs9] at hP8
                                           show MP _ _ y tb n (if s9.1.1 = 0 then (Except.ok s9 : Except Nat sp_S) else .error s9.1.2.1)
                                           rw [if_pos q]
                                           exact hP8)
                                        | (have q : ¬ s9.1.1 = 0 := fun z => hc156 (by rw [z]; rfl)
                                           refine ⟨rfl, ?_, F8.tr F9, G8.tr G9⟩
                                           rw [hfin, hs9]
                                           rw [sp_tk0, hs9] at hP9
                                           show MP _ _ y tb n (if s9.1.1 = 0 then (Except.ok s9 : Except Nat sp_S) else .error s9.1.2.1)
                                           rw [if_neg q]
                                           exact hP9)⟩) dX6_readText_165
                                · skip
                                  obtain ⟨s8, hs8⟩ := sp_ok_iff.mp (Decidable.byContradiction hc125)
                                  have hQ8 := hP8
                                  rw [hs8] at hQ8
                                  have hB8 : sp_nl s8.2 ≤ 20 := hQ8.2.2.2.2.1.2.2.2.2
                                  refine k_aload_n C (f := 0) (i := 0) (p := 0) rfl rfl dX6_readText_128 ?_
                                  refine k_ldc2 C l_X6_227 dX6_readText_129 ?_
                                  refine k_callVp C s_X6_197 h_X6_isWord (L6_s (by assumption)) rfl (ct_X6_isWord hx) rfl rfl (Nat.le_of_ble_eq_true rfl) ⟨Nat.le_of_ble_eq_true rfl, Nat.le_of_ble_eq_true rfl⟩ ⟨Nat.le_of_ble_eq_true rfl, Nat.le_of_ble_eq_true rfl⟩ ⟨rfl, rfl⟩ dX6_readText_132 ?_
                                  refine k_ifb_eq C (tgt := 145) (by decide) dX6_readText_135 (fun hc135 => ?_) (fun hc135 => ?_)
                                  · skip
                                    have hX8 : EE8 = e8 := by
                                      rw [← hE8, hs8, md_lp_n (fun z => hc135 (by
                                        have q := (MTok_isw (si := 5) hQ8.2.2.1 (by decide) (by decide)).mpr z
                                        exact ⟨q.1, q.2.trans (show md_own 5 = (247162 : Int64) by decide +kernel)⟩))]
                                    refine k_aload_n C (f := 0) (i := 0) (p := 0) rfl rfl dX6_readText_145 ?_
                                    refine k_getI C f_X6_184 (L6_s (by assumption)) (fun _ _ _ => rfl) (MP_17 hP8) dX6_readText_146 ?_
                                    refine k_ifb_ne C (tgt := 165) (by decide) dX6_readText_149 (fun hc149 => ?_) (fun hc149 => ?_)
                                    · skip
                                      exact k_vret C (Nat.le_of_ble_eq_true rfl) (Nat.le_of_ble_eq_true rfl) (⟨rfl, by
                                        have hfin : md_read tb n (.ok s0) = md_fin e8 := by
                                          unfold md_read md_rd4
                                          rw [← he1, ← he2, ← he3, ← he4, ← hEE5, hX5, ← hEE6, hX6, ← hEE7, hX7, ← hEE8, hX8]
                                        first
                                        | (obtain ⟨x, hx9⟩ := sp_nok hc149
                                           refine ⟨rfl, ?_, F8, G8⟩
                                           rw [hfin, hx9]
                                           rw [hx9] at hP8
                                           exact hP8)
                                        | (have q : s9.1.1 = 0 := (nI_eq (b := 0) (by omega) (by decide)).mp hc156
                                           refine ⟨rfl, ?_, F8, G8⟩
                                           rw [hfin, hs9]
                                           rw [hs9] at hP8
                                           show MP _ _ y tb n (if s9.1.1 = 0 then (Except.ok s9 : Except Nat sp_S) else .error s9.1.2.1)
                                           rw [if_pos q]
                                           exact hP8)
                                        | (have q : ¬ s9.1.1 = 0 := fun z => hc156 (by rw [z]; rfl)
                                           refine ⟨rfl, ?_, F8.tr F9, G8.tr G9⟩
                                           rw [hfin, hs9]
                                           rw [sp_tk0, hs9] at hP9
                                           show MP _ _ y tb n (if s9.1.1 = 0 then (Except.ok s9 : Except Nat sp_S) else .error s9.1.2.1)
                                           rw [if_neg q]
                                           exact hP9)⟩) dX6_readText_165
                                    · skip
                                      obtain ⟨s9, hs9⟩ := sp_ok_iff.mp (Decidable.byContradiction hc149)
                                      have hQ9 := hP8
                                      rw [hs9] at hQ9
                                      have m14 := hQ9.2.2.1.1
                                      have mb1 := hQ9.2.2.1.2.2.2.2.2.1
                                      refine k_aload_n C (f := 0) (i := 0) (p := 0) rfl rfl dX6_readText_152 ?_
                                      refine k_getI C f_X6_164 (L6_s (by assumption)) (fun _ _ _ => rfl) (m14) dX6_readText_153 ?_
                                      refine k_if_eq C (tgt := 165) (by decide) dX6_readText_156 (fun hc156 => ?_) (fun hc156 => ?_)
                                      · skip
                                        exact k_vret C (Nat.le_of_ble_eq_true rfl) (Nat.le_of_ble_eq_true rfl) (⟨rfl, by
                                          have hfin : md_read tb n (.ok s0) = md_fin e8 := by
                                            unfold md_read md_rd4
                                            rw [← he1, ← he2, ← he3, ← he4, ← hEE5, hX5, ← hEE6, hX6, ← hEE7, hX7, ← hEE8, hX8]
                                          first
                                          | (obtain ⟨x, hx9⟩ := sp_nok hc149
                                             refine ⟨rfl, ?_, F8, G8⟩
                                             rw [hfin, hx9]
                                             rw [hx9] at hP8
                                             exact hP8)
                                          | (have q : s9.1.1 = 0 := (nI_eq (b := 0) (by omega) (by decide)).mp hc156
                                             refine ⟨rfl, ?_, F8, G8⟩
                                             rw [hfin, hs9]
                                             rw [hs9] at hP8
                                             show MP _ _ y tb n (if s9.1.1 = 0 then (Except.ok s9 : Except Nat sp_S) else .error s9.1.2.1)
                                             rw [if_pos q]
                                             exact hP8)
                                          | (have q : ¬ s9.1.1 = 0 := fun z => hc156 (by rw [z]; rfl)
                                             refine ⟨rfl, ?_, F8.tr F9, G8.tr G9⟩
                                             rw [hfin, hs9]
                                             rw [sp_tk0, hs9] at hP9
                                             show MP _ _ y tb n (if s9.1.1 = 0 then (Except.ok s9 : Except Nat sp_S) else .error s9.1.2.1)
                                             rw [if_neg q]
                                             exact hP9)⟩) dX6_readText_165
                                      · skip
                                        refine k_aload_n C (f := 0) (i := 0) (p := 0) rfl rfl dX6_readText_159 ?_
                                        refine k_iconst C ic_0 dX6_readText_160 ?_
                                        refine k_callVj C s_X6_191 h_X6_takes (L6_s (by assumption)) rfl (ct_X6_takes hx (F8.txt ht) hP8) rfl rfl (Nat.le_of_ble_eq_true rfl) ⟨Nat.le_of_ble_eq_true rfl, Nat.le_of_ble_eq_true rfl⟩ ⟨Nat.le_of_ble_eq_true rfl, Nat.le_of_ble_eq_true rfl⟩ ⟨rfl, rfl⟩ dX6_readText_161 ?_
                                        intro v I9 J9 hv
                                        obtain ⟨rfl, hP9, F9, G9⟩ := hv
                                        refine k_pop C rfl dX6_readText_164 ?_
                                        exact k_vret C (Nat.le_of_ble_eq_true rfl) (Nat.le_of_ble_eq_true rfl) (⟨rfl, by
                                          have hfin : md_read tb n (.ok s0) = md_fin e8 := by
                                            unfold md_read md_rd4
                                            rw [← he1, ← he2, ← he3, ← he4, ← hEE5, hX5, ← hEE6, hX6, ← hEE7, hX7, ← hEE8, hX8]
                                          first
                                          | (obtain ⟨x, hx9⟩ := sp_nok hc149
                                             refine ⟨rfl, ?_, F8, G8⟩
                                             rw [hfin, hx9]
                                             rw [hx9] at hP8
                                             exact hP8)
                                          | (have q : s9.1.1 = 0 := (nI_eq (b := 0) (by omega) (by decide)).mp hc156
                                             refine ⟨rfl, ?_, F8, G8⟩
                                             rw [hfin, hs9]
                                             rw [hs9] at hP8
                                             show MP _ _ y tb n (if s9.1.1 = 0 then (Except.ok s9 : Except Nat sp_S) else .error s9.1.2.1)
                                             rw [if_pos q]
                                             exact hP8)
                                          | (have q : ¬ s9.1.1 = 0 := fun z => hc156 (by rw [z]; rfl)
                                             refine ⟨rfl, ?_, F8.tr F9, G8.tr G9⟩
                                             rw [hfin, hs9]
                                             rw [sp_tk0, hs9] at hP9
                                             show MP _ _ y tb n (if s9.1.1 = 0 then (Except.ok s9 : Except Nat sp_S) else .error s9.1.2.1)
                                             rw [if_neg q]
                                             exact hP9)⟩) dX6_readText_165
                                  · skip
                                    have hw8 : sp_isw tb s8.1 5 = true := (MTok_isw hQ8.2.2.1 (by decide) (by decide)).mp ⟨hc135.1, hc135.2.trans (show (247162 : Int64) = md_own 5 by decide +kernel)⟩
                                    refine k_aload_n C (f := 0) (i := 0) (p := 0) rfl rfl dX6_readText_138 ?_
                                    refine k_callVj C s_X6_229 h_X6_readLoad (L6_s (by assumption)) rfl (ct_X6_readLoad hx (F8.txt ht) hP8) rfl rfl (Nat.le_of_ble_eq_true rfl) ⟨Nat.le_of_ble_eq_true rfl, Nat.le_of_ble_eq_true rfl⟩ ⟨Nat.le_of_ble_eq_true rfl, Nat.le_of_ble_eq_true rfl⟩ ⟨rfl, rfl⟩ dX6_readText_139 ?_
                                    intro v I8' J8' hv
                                    obtain ⟨rfl, hP8', F8', G8'⟩ := hv
                                    have F8' := F8.tr F8'
                                    have G8' := G8.tr G8'
                                    refine k_goto C (tgt := 121) (by decide) dX6_readText_142 ?_
                                    refine k_sub [0] rfl ?_
                                    obtain ⟨k0, rfl⟩ : ∃ k0, k = k0 + 1 := ⟨k - 1, by omega⟩
                                    rw [hs8] at hE8 hK8 hP8'
                                    exact ih121 k0 I8' J8' _ hP8' (by
                                      have z := hK8.2 s8 rfl
                                      have zb := hB8
                                      refine ⟨by omega, fun s' hs' => ?_⟩
                                      by_cases c : md_pl s8 = true
                                      · replace hs' : sp_bd (md_gt md_pl (.ok s8)) (sp_rLoad tb n) = .ok s' := hs'
                                        rw [md_gt_t c] at hs'
                                        have c2 := ((md_Cl tb n).1 s8 hw8).mp c
                                        have c3 : sp_nl s'.2 = sp_nl s8.2 + 1 := (md_Cl tb n).2 s8 s' c2 hs'
                                        omega
                                      · replace hs' : sp_bd (md_gt md_pl (.ok s8)) (sp_rLoad tb n) = .ok s' := hs'
                                        rw [md_gt_f c] at hs'; cases hs') (by rw [md_lp_y hw8] at hE8; exact hE8) F8' G8' (by omega)
                            refine k_sub [0] rfl ?_
                            exact loop121 23 22 I7 J7 e7 hP7 ⟨by decide, fun s _ => by omega⟩ hEE8.symm F7 G7 (by decide)
                          · skip
                            have hw7 : sp_isw tb s7.1 4 = true := (MTok_isw hQ7.2.2.1 (by decide) (by decide)).mp ⟨hc111.1, hc111.2.trans (show (10502473 : Int64) = md_own 4 by decide +kernel)⟩
                            refine k_aload_n C (f := 0) (i := 0) (p := 0) rfl rfl dX6_readText_114 ?_
                            refine k_callVj C s_X6_224 h_X6_readStorm (L6_s (by assumption)) rfl (ct_X6_readStorm hx (F7.txt ht) hP7) rfl rfl (Nat.le_of_ble_eq_true rfl) ⟨Nat.le_of_ble_eq_true rfl, Nat.le_of_ble_eq_true rfl⟩ ⟨Nat.le_of_ble_eq_true rfl, Nat.le_of_ble_eq_true rfl⟩ ⟨rfl, rfl⟩ dX6_readText_115 ?_
                            intro v I7' J7' hv
                            obtain ⟨rfl, hP7', F7', G7'⟩ := hv
                            have F7' := F7.tr F7'
                            have G7' := G7.tr G7'
                            refine k_goto C (tgt := 97) (by decide) dX6_readText_118 ?_
                            refine k_sub [0] rfl ?_
                            obtain ⟨k0, rfl⟩ : ∃ k0, k = k0 + 1 := ⟨k - 1, by omega⟩
                            rw [hs7] at hE7 hK7 hP7'
                            exact ih97 k0 I7' J7' _ hP7' (by
                              have z := hK7.2 s7 rfl
                              have zb := hB7
                              refine ⟨by omega, fun s' hs' => ?_⟩
                              by_cases c : md_ps s7 = true
                              · replace hs' : sp_bd (md_gt md_ps (.ok s7)) (sp_rStorm tb n) = .ok s' := hs'
                                rw [md_gt_t c] at hs'
                                have c2 := ((md_Cs tb n).1 s7 hw7).mp c
                                have c3 : sp_ns s'.2 = sp_ns s7.2 + 1 := (md_Cs tb n).2 s7 s' c2 hs'
                                omega
                              · replace hs' : sp_bd (md_gt md_ps (.ok s7)) (sp_rStorm tb n) = .ok s' := hs'
                                rw [md_gt_f c] at hs'; cases hs') (by rw [md_lp_y hw7] at hE7; exact hE7) F7' G7' (by omega)
                    refine k_sub [0] rfl ?_
                    exact loop97 9 8 I6 J6 e6 hP6 ⟨by decide, fun s _ => by omega⟩ hEE7.symm F6 G6 (by decide)
                  · skip
                    have hw6 : sp_isw tb s6.1 3 = true := (MTok_isw hQ6.2.2.1 (by decide) (by decide)).mp ⟨hc87.1, hc87.2.trans (show (456690 : Int64) = md_own 3 by decide +kernel)⟩
                    refine k_aload_n C (f := 0) (i := 0) (p := 0) rfl rfl dX6_readText_90 ?_
                    refine k_callVj C s_X6_219 h_X6_readWell (L6_s (by assumption)) rfl (ct_X6_readWell hx (F6.txt ht) hP6) rfl rfl (Nat.le_of_ble_eq_true rfl) ⟨Nat.le_of_ble_eq_true rfl, Nat.le_of_ble_eq_true rfl⟩ ⟨Nat.le_of_ble_eq_true rfl, Nat.le_of_ble_eq_true rfl⟩ ⟨rfl, rfl⟩ dX6_readText_91 ?_
                    intro v I6' J6' hv
                    obtain ⟨rfl, hP6', F6', G6'⟩ := hv
                    have F6' := F6.tr F6'
                    have G6' := G6.tr G6'
                    refine k_goto C (tgt := 73) (by decide) dX6_readText_94 ?_
                    refine k_sub [0] rfl ?_
                    obtain ⟨k0, rfl⟩ : ∃ k0, k = k0 + 1 := ⟨k - 1, by omega⟩
                    rw [hs6] at hE6 hK6 hP6'
                    exact ih73 k0 I6' J6' _ hP6' (by
                      have z := hK6.2 s6 rfl
                      have zb := hB6
                      refine ⟨by omega, fun s' hs' => ?_⟩
                      by_cases c : md_pwl s6 = true
                      · replace hs' : sp_bd (md_gt md_pwl (.ok s6)) (sp_rWell tb n) = .ok s' := hs'
                        rw [md_gt_t c] at hs'
                        have c2 := ((md_Cw tb n).1 s6 hw6).mp c
                        have c3 : sp_nw s'.2 = sp_nw s6.2 + 1 := (md_Cw tb n).2 s6 s' c2 hs'
                        omega
                      · replace hs' : sp_bd (md_gt md_pwl (.ok s6)) (sp_rWell tb n) = .ok s' := hs'
                        rw [md_gt_f c] at hs'; cases hs') (by rw [md_lp_y hw6] at hE6; exact hE6) F6' G6' (by omega)
            refine k_sub [0] rfl ?_
            exact loop73 11 10 I5 J5 e5 hP5 ⟨by decide, fun s _ => by omega⟩ hEE6.symm F5 G5 (by decide)
          · skip
            have hw5 : sp_isw tb s5.1 2 = true := (MTok_isw hQ5.2.2.1 (by decide) (by decide)).mp ⟨hc63.1, hc63.2.trans (show (1623630 : Int64) = md_own 2 by decide +kernel)⟩
            refine k_aload_n C (f := 0) (i := 0) (p := 0) rfl rfl dX6_readText_66 ?_
            refine k_callVj C s_X6_214 h_X6_readCamel (L6_s (by assumption)) rfl (ct_X6_readCamel hx (F5.txt ht) hP5) rfl rfl (Nat.le_of_ble_eq_true rfl) ⟨Nat.le_of_ble_eq_true rfl, Nat.le_of_ble_eq_true rfl⟩ ⟨Nat.le_of_ble_eq_true rfl, Nat.le_of_ble_eq_true rfl⟩ ⟨rfl, rfl⟩ dX6_readText_67 ?_
            intro v I5' J5' hv
            obtain ⟨rfl, hP5', F5', G5'⟩ := hv
            have F5' := F5.tr F5'
            have G5' := G5.tr G5'
            refine k_goto C (tgt := 49) (by decide) dX6_readText_70 ?_
            refine k_sub [0] rfl ?_
            obtain ⟨k0, rfl⟩ : ∃ k0, k = k0 + 1 := ⟨k - 1, by omega⟩
            rw [hs5] at hE5 hK5 hP5'
            exact ih49 k0 I5' J5' _ hP5' (by
              have z := hK5.2 s5 rfl
              have zb := hB5
              refine ⟨by omega, fun s' hs' => ?_⟩
              by_cases c : (md_pc tb) s5 = true
              · replace hs' : sp_bd (md_gt (md_pc tb) (.ok s5)) (sp_rCamel tb n) = .ok s' := hs'
                rw [md_gt_t c] at hs'
                have c2 := ((md_Cc tb n).1 s5 hw5).mp c
                have c3 : sp_nc s'.2 = sp_nc s5.2 + 1 := (md_Cc tb n).2 s5 s' c2 hs'
                omega
              · replace hs' : sp_bd (md_gt (md_pc tb) (.ok s5)) (sp_rCamel tb n) = .ok s' := hs'
                rw [md_gt_f c] at hs'; cases hs') (by rw [md_lp_y hw5] at hE5; exact hE5) F5' G5' (by omega)
    refine k_sub [0] rfl ?_
    exact loop49 13 12 I4 J4 e4 hP4 ⟨by decide, fun s _ => by omega⟩ hEE5.symm F4 G4 (by decide)
  · skip
    refine k_iconst C ic_1 dX6_readText_36 ?_
    refine k_goto C (tgt := 41) (by decide) dX6_readText_37 ?_
    refine k_callVj C s_X6_191 h_X6_takes (L6_s (by assumption)) rfl (ct_X6_takes hx (F2.txt ht) hP2) rfl rfl (Nat.le_of_ble_eq_true rfl) ⟨Nat.le_of_ble_eq_true rfl, Nat.le_of_ble_eq_true rfl⟩ ⟨Nat.le_of_ble_eq_true rfl, Nat.le_of_ble_eq_true rfl⟩ ⟨rfl, rfl⟩ dX6_readText_41 ?_
    intro v I3 J3 hv
    obtain ⟨rfl, hP3, F3, G3⟩ := hv
    have F3 := F2.tr F3
    have G3 := G2.tr G3
    rw [show sp_tk tb n _ e2 = sp_tsS tb n e2 from by first | exact sp_tkS1 hP2 hc33 | exact sp_tkS0 hP2 hc33] at hP3 ⊢
    obtain ⟨e3, he3⟩ : ∃ z : Except Nat sp_S, z = sp_tsS tb n e2 := ⟨_, rfl⟩
    rw [← he3] at hP3 ⊢
    refine k_pop C rfl dX6_readText_44 ?_
    refine k_aload_n C (f := 0) (i := 0) (p := 0) rfl rfl dX6_readText_45 ?_
    refine k_callVj C s_X6_214 h_X6_readCamel (L6_s (by assumption)) rfl (ct_X6_readCamel hx (F3.txt ht) hP3) rfl rfl (Nat.le_of_ble_eq_true rfl) ⟨Nat.le_of_ble_eq_true rfl, Nat.le_of_ble_eq_true rfl⟩ ⟨Nat.le_of_ble_eq_true rfl, Nat.le_of_ble_eq_true rfl⟩ ⟨rfl, rfl⟩ dX6_readText_46 ?_
    intro v I4 J4 hv
    obtain ⟨rfl, hP4, F4, G4⟩ := hv
    have F4 := F3.tr F4
    have G4 := G3.tr G4
    obtain ⟨e4, he4⟩ : ∃ z : Except Nat sp_S, z = sp_bd (md_gt (md_pc tb) e3) (sp_rCamel tb n) := ⟨_, rfl⟩
    replace hP4 : MP I4 J4 y tb n e4 := by rw [he4]; exact hP4
    obtain ⟨EE5, hEE5⟩ : ∃ z : Except Nat sp_S, z = md_lp tb 2 (md_pc tb) (sp_rCamel tb n) 12 e4 := ⟨_, rfl⟩
    have loop49 : ∀ (f : Nat) (k : Nat) (I5 : am_I) (J5 : am_J) (e5 : Except Nat sp_S), (MP I5 J5 y tb n e5) → (1 ≤ k ∧ ∀ s : sp_S, e5 = .ok s → 12 ≤ k + sp_nc s.2) → (md_lp tb 2 (md_pc tb) (sp_rCamel tb n) k e5 = EE5) → (MPf y I I5) → (JFr y J J5) → (k) < f → am_K G X { frames := 6, cells := 0, slots := 0, locals := 129 } 1 Λ I5 J5 0 0 49 [(0, .ref y)] [] := by
      intro f
      induction f with
      | zero => intro k I5 J5 e5 hP5 hK5 hE5 F5 G5 hf; exact absurd hf (Nat.not_lt_zero _)
      | succ f ih49 =>
        intro k I5 J5 e5 hP5 hK5 hE5 F5 G5 hf
        refine k_aload_n C (f := 0) (i := 0) (p := 0) rfl rfl dX6_readText_49 ?_
        refine k_getI C f_X6_184 (L6_s (by assumption)) (fun _ _ _ => rfl) (MP_17 hP5) dX6_readText_50 ?_
        refine k_ifb_ne C (tgt := 73) (by decide) dX6_readText_53 (fun hc53 => ?_) (fun hc53 => ?_)
        · skip
          have hX5 : EE5 = e5 := by
            rw [← hE5]
            obtain ⟨x, hx9⟩ := sp_nok hc53
            rw [hx9, md_lp_e]
          obtain ⟨EE6, hEE6⟩ : ∃ z : Except Nat sp_S, z = md_lp tb 3 md_pwl (sp_rWell tb n) 10 e5 := ⟨_, rfl⟩
          have loop73 : ∀ (f : Nat) (k : Nat) (I6 : am_I) (J6 : am_J) (e6 : Except Nat sp_S), (MP I6 J6 y tb n e6) → (1 ≤ k ∧ ∀ s : sp_S, e6 = .ok s → 10 ≤ k + sp_nw s.2) → (md_lp tb 3 md_pwl (sp_rWell tb n) k e6 = EE6) → (MPf y I I6) → (JFr y J J6) → (k) < f → am_K G X { frames := 6, cells := 0, slots := 0, locals := 129 } 1 Λ I6 J6 0 0 73 [(0, .ref y)] [] := by
            intro f
            induction f with
            | zero => intro k I6 J6 e6 hP6 hK6 hE6 F6 G6 hf; exact absurd hf (Nat.not_lt_zero _)
            | succ f ih73 =>
              intro k I6 J6 e6 hP6 hK6 hE6 F6 G6 hf
              refine k_aload_n C (f := 0) (i := 0) (p := 0) rfl rfl dX6_readText_73 ?_
              refine k_getI C f_X6_184 (L6_s (by assumption)) (fun _ _ _ => rfl) (MP_17 hP6) dX6_readText_74 ?_
              refine k_ifb_ne C (tgt := 97) (by decide) dX6_readText_77 (fun hc77 => ?_) (fun hc77 => ?_)
              · skip
                have hX6 : EE6 = e6 := by
                  rw [← hE6]
                  obtain ⟨x, hx9⟩ := sp_nok hc77
                  rw [hx9, md_lp_e]
                obtain ⟨EE7, hEE7⟩ : ∃ z : Except Nat sp_S, z = md_lp tb 4 md_ps (sp_rStorm tb n) 8 e6 := ⟨_, rfl⟩
                have loop97 : ∀ (f : Nat) (k : Nat) (I7 : am_I) (J7 : am_J) (e7 : Except Nat sp_S), (MP I7 J7 y tb n e7) → (1 ≤ k ∧ ∀ s : sp_S, e7 = .ok s → 8 ≤ k + sp_ns s.2) → (md_lp tb 4 md_ps (sp_rStorm tb n) k e7 = EE7) → (MPf y I I7) → (JFr y J J7) → (k) < f → am_K G X { frames := 6, cells := 0, slots := 0, locals := 129 } 1 Λ I7 J7 0 0 97 [(0, .ref y)] [] := by
                  intro f
                  induction f with
                  | zero => intro k I7 J7 e7 hP7 hK7 hE7 F7 G7 hf; exact absurd hf (Nat.not_lt_zero _)
                  | succ f ih97 =>
                    intro k I7 J7 e7 hP7 hK7 hE7 F7 G7 hf
                    refine k_aload_n C (f := 0) (i := 0) (p := 0) rfl rfl dX6_readText_97 ?_
                    refine k_getI C f_X6_184 (L6_s (by assumption)) (fun _ _ _ => rfl) (MP_17 hP7) dX6_readText_98 ?_
                    refine k_ifb_ne C (tgt := 121) (by decide) dX6_readText_101 (fun hc101 => ?_) (fun hc101 => ?_)
                    · skip
                      have hX7 : EE7 = e7 := by
                        rw [← hE7]
                        obtain ⟨x, hx9⟩ := sp_nok hc101
                        rw [hx9, md_lp_e]
                      obtain ⟨EE8, hEE8⟩ : ∃ z : Except Nat sp_S, z = md_lp tb 5 md_pl (sp_rLoad tb n) 22 e7 := ⟨_, rfl⟩
                      have loop121 : ∀ (f : Nat) (k : Nat) (I8 : am_I) (J8 : am_J) (e8 : Except Nat sp_S), (MP I8 J8 y tb n e8) → (1 ≤ k ∧ ∀ s : sp_S, e8 = .ok s → 22 ≤ k + sp_nl s.2) → (md_lp tb 5 md_pl (sp_rLoad tb n) k e8 = EE8) → (MPf y I I8) → (JFr y J J8) → (k) < f → am_K G X { frames := 6, cells := 0, slots := 0, locals := 129 } 1 Λ I8 J8 0 0 121 [(0, .ref y)] [] := by
                        intro f
                        induction f with
                        | zero => intro k I8 J8 e8 hP8 hK8 hE8 F8 G8 hf; exact absurd hf (Nat.not_lt_zero _)
                        | succ f ih121 =>
                          intro k I8 J8 e8 hP8 hK8 hE8 F8 G8 hf
                          refine k_aload_n C (f := 0) (i := 0) (p := 0) rfl rfl dX6_readText_121 ?_
                          refine k_getI C f_X6_184 (L6_s (by assumption)) (fun _ _ _ => rfl) (MP_17 hP8) dX6_readText_122 ?_
                          refine k_ifb_ne C (tgt := 145) (by decide) dX6_readText_125 (fun hc125 => ?_) (fun hc125 => ?_)
                          · skip
                            have hX8 : EE8 = e8 := by
                              rw [← hE8]
                              obtain ⟨x, hx9⟩ := sp_nok hc125
                              rw [hx9, md_lp_e]
                            refine k_aload_n C (f := 0) (i := 0) (p := 0) rfl rfl dX6_readText_145 ?_
                            refine k_getI C f_X6_184 (L6_s (by assumption)) (fun _ _ _ => rfl) (MP_17 hP8) dX6_readText_146 ?_
                            refine k_ifb_ne C (tgt := 165) (by decide) dX6_readText_149 (fun hc149 => ?_) (fun hc149 => ?_)
                            · skip
                              exact k_vret C (Nat.le_of_ble_eq_true rfl) (Nat.le_of_ble_eq_true rfl) (⟨rfl, by
                                have hfin : md_read tb n (.ok s0) = md_fin e8 := by
                                  unfold md_read md_rd4
                                  rw [← he1, ← he2, ← he3, ← he4, ← hEE5, hX5, ← hEE6, hX6, ← hEE7, hX7, ← hEE8, hX8]
                                first
                                | (obtain ⟨x, hx9⟩ := sp_nok hc149
                                   refine ⟨rfl, ?_, F8, G8⟩
                                   rw [hfin, hx9]
                                   rw [hx9] at hP8
                                   exact hP8)
                                | (have q : s9.1.1 = 0 := (nI_eq (b := 0) (by omega) (by decide)).mp hc156
                                   refine ⟨rfl, ?_, F8, G8⟩
                                   rw [hfin, hs9]
                                   rw [hs9] at hP8
                                   show MP _ _ y tb n (if s9.1.1 = 0 then (Except.ok s9 : Except Nat sp_S) else .error s9.1.2.1)
                                   rw [if_pos q]
                                   exact hP8)
                                | (have q : ¬ s9.1.1 = 0 := fun z => hc156 (by rw [z]; rfl)
                                   refine ⟨rfl, ?_, F8.tr F9, G8.tr G9⟩
                                   rw [hfin, hs9]
                                   rw [sp_tk0, hs9] at hP9
                                   show MP _ _ y tb n (if s9.1.1 = 0 then (Except.ok s9 : Except Nat sp_S) else .error s9.1.2.1)
                                   rw [if_neg q]
                                   exact hP9)⟩) dX6_readText_165
                            · skip
                              obtain ⟨s9, hs9⟩ := sp_ok_iff.mp (Decidable.byContradiction hc149)
                              have hQ9 := hP8
                              rw [hs9] at hQ9
                              have m14 := hQ9.2.2.1.1
                              have mb1 := hQ9.2.2.1.2.2.2.2.2.1
                              refine k_aload_n C (f := 0) (i := 0) (p := 0) rfl rfl dX6_readText_152 ?_
                              refine k_getI C f_X6_164 (L6_s (by assumption)) (fun _ _ _ => rfl) (m14) dX6_readText_153 ?_
                              refine k_if_eq C (tgt := 165) (by decide) dX6_readText_156 (fun hc156 => ?_) (fun hc156 => ?_)
                              · skip
                                exact k_vret C (Nat.le_of_ble_eq_true rfl) (Nat.le_of_ble_eq_true rfl) (⟨rfl, by
                                  have hfin : md_read tb n (.ok s0) = md_fin e8 := by
                                    unfold md_read md_rd4
                                    rw [← he1, ← he2, ← he3, ← he4, ← hEE5, hX5, ← hEE6, hX6, ← hEE7, hX7, ← hEE8, hX8]
                                  first
                                  | (obtain ⟨x, hx9⟩ := sp_nok hc149
                                     refine ⟨rfl, ?_, F8, G8⟩
                                     rw [hfin, hx9]
                                     rw [hx9] at hP8
                                     exact hP8)
                                  | (have q : s9.1.1 = 0 := (nI_eq (b := 0) (by omega) (by decide)).mp hc156
                                     refine ⟨rfl, ?_, F8, G8⟩
                                     rw [hfin, hs9]
                                     rw [hs9] at hP8
                                     show MP _ _ y tb n (if s9.1.1 = 0 then (Except.ok s9 : Except Nat sp_S) else .error s9.1.2.1)
                                     rw [if_pos q]
                                     exact hP8)
                                  | (have q : ¬ s9.1.1 = 0 := fun z => hc156 (by rw [z]; rfl)
                                     refine ⟨rfl, ?_, F8.tr F9, G8.tr G9⟩
                                     rw [hfin, hs9]
                                     rw [sp_tk0, hs9] at hP9
                                     show MP _ _ y tb n (if s9.1.1 = 0 then (Except.ok s9 : Except Nat sp_S) else .error s9.1.2.1)
                                     rw [if_neg q]
                                     exact hP9)⟩) dX6_readText_165
                              · skip
                                refine k_aload_n C (f := 0) (i := 0) (p := 0) rfl rfl dX6_readText_159 ?_
                                refine k_iconst C ic_0 dX6_readText_160 ?_
                                refine k_callVj C s_X6_191 h_X6_takes (L6_s (by assumption)) rfl (ct_X6_takes hx (F8.txt ht) hP8) rfl rfl (Nat.le_of_ble_eq_true rfl) ⟨Nat.le_of_ble_eq_true rfl, Nat.le_of_ble_eq_true rfl⟩ ⟨Nat.le_of_ble_eq_true rfl, Nat.le_of_ble_eq_true rfl⟩ ⟨rfl, rfl⟩ dX6_readText_161 ?_
                                intro v I9 J9 hv
                                obtain ⟨rfl, hP9, F9, G9⟩ := hv
                                refine k_pop C rfl dX6_readText_164 ?_
                                exact k_vret C (Nat.le_of_ble_eq_true rfl) (Nat.le_of_ble_eq_true rfl) (⟨rfl, by
                                  have hfin : md_read tb n (.ok s0) = md_fin e8 := by
                                    unfold md_read md_rd4
                                    rw [← he1, ← he2, ← he3, ← he4, ← hEE5, hX5, ← hEE6, hX6, ← hEE7, hX7, ← hEE8, hX8]
                                  first
                                  | (obtain ⟨x, hx9⟩ := sp_nok hc149
                                     refine ⟨rfl, ?_, F8, G8⟩
                                     rw [hfin, hx9]
                                     rw [hx9] at hP8
                                     exact hP8)
                                  | (have q : s9.1.1 = 0 := (nI_eq (b := 0) (by omega) (by decide)).mp hc156
                                     refine ⟨rfl, ?_, F8, G8⟩
                                     rw [hfin, hs9]
                                     rw [hs9] at hP8
                                     show MP _ _ y tb n (if s9.1.1 = 0 then (Except.ok s9 : Except Nat sp_S) else .error s9.1.2.1)
                                     rw [if_pos q]
                                     exact hP8)
                                  | (have q : ¬ s9.1.1 = 0 := fun z => hc156 (by rw [z]; rfl)
                                     refine ⟨rfl, ?_, F8.tr F9, G8.tr G9⟩
                                     rw [hfin, hs9]
                                     rw [sp_tk0, hs9] at hP9
                                     show MP _ _ y tb n (if s9.1.1 = 0 then (Except.ok s9 : Except Nat sp_S) else .error s9.1.2.1)
                                     rw [if_neg q]
                                     exact hP9)⟩) dX6_readText_165
                          · skip
                            obtain ⟨s8, hs8⟩ := sp_ok_iff.mp (Decidable.byContradiction hc125)
                            have hQ8 := hP8
                            rw [hs8] at hQ8
                            have hB8 : sp_nl s8.2 ≤ 20 := hQ8.2.2.2.2.1.2.2.2.2
                            refine k_aload_n C (f := 0) (i := 0) (p := 0) rfl rfl dX6_readText_128 ?_
                            refine k_ldc2 C l_X6_227 dX6_readText_129 ?_
                            refine k_callVp C s_X6_197 h_X6_isWord (L6_s (by assumption)) rfl (ct_X6_isWord hx) rfl rfl (Nat.le_of_ble_eq_true rfl) ⟨Nat.le_of_ble_eq_true rfl, Nat.le_of_ble_eq_true rfl⟩ ⟨Nat.le_of_ble_eq_true rfl, Nat.le_of_ble_eq_true rfl⟩ ⟨rfl, rfl⟩ dX6_readText_132 ?_
                            refine k_ifb_eq C (tgt := 145) (by decide) dX6_readText_135 (fun hc135 => ?_) (fun hc135 => ?_)
                            · skip
                              have hX8 : EE8 = e8 := by
                                rw [← hE8, hs8, md_lp_n (fun z => hc135 (by
                                  have q := (MTok_isw (si := 5) hQ8.2.2.1 (by decide) (by decide)).mpr z
                                  exact ⟨q.1, q.2.trans (show md_own 5 = (247162 : Int64) by decide +kernel)⟩))]
                              refine k_aload_n C (f := 0) (i := 0) (p := 0) rfl rfl dX6_readText_145 ?_
                              refine k_getI C f_X6_184 (L6_s (by assumption)) (fun _ _ _ => rfl) (MP_17 hP8) dX6_readText_146 ?_
                              refine k_ifb_ne C (tgt := 165) (by decide) dX6_readText_149 (fun hc149 => ?_) (fun hc149 => ?_)
                              · skip
                                exact k_vret C (Nat.le_of_ble_eq_true rfl) (Nat.le_of_ble_eq_true rfl) (⟨rfl, by
                                  have hfin : md_read tb n (.ok s0) = md_fin e8 := by
                                    unfold md_read md_rd4
                                    rw [← he1, ← he2, ← he3, ← he4, ← hEE5, hX5, ← hEE6, hX6, ← hEE7, hX7, ← hEE8, hX8]
                                  first
                                  | (obtain ⟨x, hx9⟩ := sp_nok hc149
                                     refine ⟨rfl, ?_, F8, G8⟩
                                     rw [hfin, hx9]
                                     rw [hx9] at hP8
                                     exact hP8)
                                  | (have q : s9.1.1 = 0 := (nI_eq (b := 0) (by omega) (by decide)).mp hc156
                                     refine ⟨rfl, ?_, F8, G8⟩
                                     rw [hfin, hs9]
                                     rw [hs9] at hP8
                                     show MP _ _ y tb n (if s9.1.1 = 0 then (Except.ok s9 : Except Nat sp_S) else .error s9.1.2.1)
                                     rw [if_pos q]
                                     exact hP8)
                                  | (have q : ¬ s9.1.1 = 0 := fun z => hc156 (by rw [z]; rfl)
                                     refine ⟨rfl, ?_, F8.tr F9, G8.tr G9⟩
                                     rw [hfin, hs9]
                                     rw [sp_tk0, hs9] at hP9
                                     show MP _ _ y tb n (if s9.1.1 = 0 then (Except.ok s9 : Except Nat sp_S) else .error s9.1.2.1)
                                     rw [if_neg q]
                                     exact hP9)⟩) dX6_readText_165
                              · skip
                                obtain ⟨s9, hs9⟩ := sp_ok_iff.mp (Decidable.byContradiction hc149)
                                have hQ9 := hP8
                                rw [hs9] at hQ9
                                have m14 := hQ9.2.2.1.1
                                have mb1 := hQ9.2.2.1.2.2.2.2.2.1
                                refine k_aload_n C (f := 0) (i := 0) (p := 0) rfl rfl dX6_readText_152 ?_
                                refine k_getI C f_X6_164 (L6_s (by assumption)) (fun _ _ _ => rfl) (m14) dX6_readText_153 ?_
                                refine k_if_eq C (tgt := 165) (by decide) dX6_readText_156 (fun hc156 => ?_) (fun hc156 => ?_)
                                · skip
                                  exact k_vret C (Nat.le_of_ble_eq_true rfl) (Nat.le_of_ble_eq_true rfl) (⟨rfl, by
                                    have hfin : md_read tb n (.ok s0) = md_fin e8 := by
                                      unfold md_read md_rd4
                                      rw [← he1, ← he2, ← he3, ← he4, ← hEE5, hX5, ← hEE6, hX6, ← hEE7, hX7, ← hEE8, hX8]
                                    first
                                    | (obtain ⟨x, hx9⟩ := sp_nok hc149
                                       refine ⟨rfl, ?_, F8, G8⟩
                                       rw [hfin, hx9]
                                       rw [hx9] at hP8
                                       exact hP8)
                                    | (have q : s9.1.1 = 0 := (nI_eq (b := 0) (by omega) (by decide)).mp hc156
                                       refine ⟨rfl, ?_, F8, G8⟩
                                       rw [hfin, hs9]
                                       rw [hs9] at hP8
                                       show MP _ _ y tb n (if s9.1.1 = 0 then (Except.ok s9 : Except Nat sp_S) else .error s9.1.2.1)
                                       rw [if_pos q]
                                       exact hP8)
                                    | (have q : ¬ s9.1.1 = 0 := fun z => hc156 (by rw [z]; rfl)
                                       refine ⟨rfl, ?_, F8.tr F9, G8.tr G9⟩
                                       rw [hfin, hs9]
                                       rw [sp_tk0, hs9] at hP9
                                       show MP _ _ y tb n (if s9.1.1 = 0 then (Except.ok s9 : Except Nat sp_S) else .error s9.1.2.1)
                                       rw [if_neg q]
                                       exact hP9)⟩) dX6_readText_165
                                · skip
                                  refine k_aload_n C (f := 0) (i := 0) (p := 0) rfl rfl dX6_readText_159 ?_
                                  refine k_iconst C ic_0 dX6_readText_160 ?_
                                  refine k_callVj C s_X6_191 h_X6_takes (L6_s (by assumption)) rfl (ct_X6_takes hx (F8.txt ht) hP8) rfl rfl (Nat.le_of_ble_eq_true rfl) ⟨Nat.le_of_ble_eq_true rfl, Nat.le_of_ble_eq_true rfl⟩ ⟨Nat.le_of_ble_eq_true rfl, Nat.le_of_ble_eq_true rfl⟩ ⟨rfl, rfl⟩ dX6_readText_161 ?_
                                  intro v I9 J9 hv
                                  obtain ⟨rfl, hP9, F9, G9⟩ := hv
                                  refine k_pop C rfl dX6_readText_164 ?_
                                  exact k_vret C (Nat.le_of_ble_eq_true rfl) (Nat.le_of_ble_eq_true rfl) (⟨rfl, by
                                    have hfin : md_read tb n (.ok s0) = md_fin e8 := by
                                      unfold md_read md_rd4
                                      rw [← he1, ← he2, ← he3, ← he4, ← hEE5, hX5, ← hEE6, hX6, ← hEE7, hX7, ← hEE8, hX8]
                                    first
                                    | (obtain ⟨x, hx9⟩ := sp_nok hc149
                                       refine ⟨rfl, ?_, F8, G8⟩
                                       rw [hfin, hx9]
                                       rw [hx9] at hP8
                                       exact hP8)
                                    | (have q : s9.1.1 = 0 := (nI_eq (b := 0) (by omega) (by decide)).mp hc156
                                       refine ⟨rfl, ?_, F8, G8⟩
                                       rw [hfin, hs9]
                                       rw [hs9] at hP8
                                       show MP _ _ y tb n (if s9.1.1 = 0 then (Except.ok s9 : Except Nat sp_S) else .error s9.1.2.1)
                                       rw [if_pos q]
                                       exact hP8)
                                    | (have q : ¬ s9.1.1 = 0 := fun z => hc156 (by rw [z]; rfl)
                                       refine ⟨rfl, ?_, F8.tr F9, G8.tr G9⟩
                                       rw [hfin, hs9]
                                       rw [sp_tk0, hs9] at hP9
                                       show MP _ _ y tb n (if s9.1.1 = 0 then (Except.ok s9 : Except Nat sp_S) else .error s9.1.2.1)
                                       rw [if_neg q]
                                       exact hP9)⟩) dX6_readText_165
                            · skip
                              have hw8 : sp_isw tb s8.1 5 = true := (MTok_isw hQ8.2.2.1 (by decide) (by decide)).mp ⟨hc135.1, hc135.2.trans (show (247162 : Int64) = md_own 5 by decide +kernel)⟩
                              refine k_aload_n C (f := 0) (i := 0) (p := 0) rfl rfl dX6_readText_138 ?_
                              refine k_callVj C s_X6_229 h_X6_readLoad (L6_s (by assumption)) rfl (ct_X6_readLoad hx (F8.txt ht) hP8) rfl rfl (Nat.le_of_ble_eq_true rfl) ⟨Nat.le_of_ble_eq_true rfl, Nat.le_of_ble_eq_true rfl⟩ ⟨Nat.le_of_ble_eq_true rfl, Nat.le_of_ble_eq_true rfl⟩ ⟨rfl, rfl⟩ dX6_readText_139 ?_
                              intro v I8' J8' hv
                              obtain ⟨rfl, hP8', F8', G8'⟩ := hv
                              have F8' := F8.tr F8'
                              have G8' := G8.tr G8'
                              refine k_goto C (tgt := 121) (by decide) dX6_readText_142 ?_
                              refine k_sub [0] rfl ?_
                              obtain ⟨k0, rfl⟩ : ∃ k0, k = k0 + 1 := ⟨k - 1, by omega⟩
                              rw [hs8] at hE8 hK8 hP8'
                              exact ih121 k0 I8' J8' _ hP8' (by
                                have z := hK8.2 s8 rfl
                                have zb := hB8
                                refine ⟨by omega, fun s' hs' => ?_⟩
                                by_cases c : md_pl s8 = true
                                · replace hs' : sp_bd (md_gt md_pl (.ok s8)) (sp_rLoad tb n) = .ok s' := hs'
                                  rw [md_gt_t c] at hs'
                                  have c2 := ((md_Cl tb n).1 s8 hw8).mp c
                                  have c3 : sp_nl s'.2 = sp_nl s8.2 + 1 := (md_Cl tb n).2 s8 s' c2 hs'
                                  omega
                                · replace hs' : sp_bd (md_gt md_pl (.ok s8)) (sp_rLoad tb n) = .ok s' := hs'
                                  rw [md_gt_f c] at hs'; cases hs') (by rw [md_lp_y hw8] at hE8; exact hE8) F8' G8' (by omega)
                      refine k_sub [0] rfl ?_
                      exact loop121 23 22 I7 J7 e7 hP7 ⟨by decide, fun s _ => by omega⟩ hEE8.symm F7 G7 (by decide)
                    · skip
                      obtain ⟨s7, hs7⟩ := sp_ok_iff.mp (Decidable.byContradiction hc101)
                      have hQ7 := hP7
                      rw [hs7] at hQ7
                      have hB7 : sp_ns s7.2 ≤ 6 := hQ7.2.2.2.2.1.2.2.2.1
                      refine k_aload_n C (f := 0) (i := 0) (p := 0) rfl rfl dX6_readText_104 ?_
                      refine k_ldc2 C l_X6_222 dX6_readText_105 ?_
                      refine k_callVp C s_X6_197 h_X6_isWord (L6_s (by assumption)) rfl (ct_X6_isWord hx) rfl rfl (Nat.le_of_ble_eq_true rfl) ⟨Nat.le_of_ble_eq_true rfl, Nat.le_of_ble_eq_true rfl⟩ ⟨Nat.le_of_ble_eq_true rfl, Nat.le_of_ble_eq_true rfl⟩ ⟨rfl, rfl⟩ dX6_readText_108 ?_
                      refine k_ifb_eq C (tgt := 121) (by decide) dX6_readText_111 (fun hc111 => ?_) (fun hc111 => ?_)
                      · skip
                        have hX7 : EE7 = e7 := by
                          rw [← hE7, hs7, md_lp_n (fun z => hc111 (by
                            have q := (MTok_isw (si := 4) hQ7.2.2.1 (by decide) (by decide)).mpr z
                            exact ⟨q.1, q.2.trans (show md_own 4 = (10502473 : Int64) by decide +kernel)⟩))]
                        obtain ⟨EE8, hEE8⟩ : ∃ z : Except Nat sp_S, z = md_lp tb 5 md_pl (sp_rLoad tb n) 22 e7 := ⟨_, rfl⟩
                        have loop121 : ∀ (f : Nat) (k : Nat) (I8 : am_I) (J8 : am_J) (e8 : Except Nat sp_S), (MP I8 J8 y tb n e8) → (1 ≤ k ∧ ∀ s : sp_S, e8 = .ok s → 22 ≤ k + sp_nl s.2) → (md_lp tb 5 md_pl (sp_rLoad tb n) k e8 = EE8) → (MPf y I I8) → (JFr y J J8) → (k) < f → am_K G X { frames := 6, cells := 0, slots := 0, locals := 129 } 1 Λ I8 J8 0 0 121 [(0, .ref y)] [] := by
                          intro f
                          induction f with
                          | zero => intro k I8 J8 e8 hP8 hK8 hE8 F8 G8 hf; exact absurd hf (Nat.not_lt_zero _)
                          | succ f ih121 =>
                            intro k I8 J8 e8 hP8 hK8 hE8 F8 G8 hf
                            refine k_aload_n C (f := 0) (i := 0) (p := 0) rfl rfl dX6_readText_121 ?_
                            refine k_getI C f_X6_184 (L6_s (by assumption)) (fun _ _ _ => rfl) (MP_17 hP8) dX6_readText_122 ?_
                            refine k_ifb_ne C (tgt := 145) (by decide) dX6_readText_125 (fun hc125 => ?_) (fun hc125 => ?_)
                            · skip
                              have hX8 : EE8 = e8 := by
                                rw [← hE8]
                                obtain ⟨x, hx9⟩ := sp_nok hc125
                                rw [hx9, md_lp_e]
                              refine k_aload_n C (f := 0) (i := 0) (p := 0) rfl rfl dX6_readText_145 ?_
                              refine k_getI C f_X6_184 (L6_s (by assumption)) (fun _ _ _ => rfl) (MP_17 hP8) dX6_readText_146 ?_
                              refine k_ifb_ne C (tgt := 165) (by decide) dX6_readText_149 (fun hc149 => ?_) (fun hc149 => ?_)
                              · skip
                                exact k_vret C (Nat.le_of_ble_eq_true rfl) (Nat.le_of_ble_eq_true rfl) (⟨rfl, by
                                  have hfin : md_read tb n (.ok s0) = md_fin e8 := by
                                    unfold md_read md_rd4
                                    rw [← he1, ← he2, ← he3, ← he4, ← hEE5, hX5, ← hEE6, hX6, ← hEE7, hX7, ← hEE8, hX8]
                                  first
                                  | (obtain ⟨x, hx9⟩ := sp_nok hc149
                                     refine ⟨rfl, ?_, F8, G8⟩
                                     rw [hfin, hx9]
                                     rw [hx9] at hP8
                                     exact hP8)
                                  | (have q : s9.1.1 = 0 := (nI_eq (b := 0) (by omega) (by decide)).mp hc156
                                     refine ⟨rfl, ?_, F8, G8⟩
                                     rw [hfin, hs9]
                                     rw [hs9] at hP8
                                     show MP _ _ y tb n (if s9.1.1 = 0 then (Except.ok s9 : Except Nat sp_S) else .error s9.1.2.1)
                                     rw [if_pos q]
                                     exact hP8)
                                  | (have q : ¬ s9.1.1 = 0 := fun z => hc156 (by rw [z]; rfl)
                                     refine ⟨rfl, ?_, F8.tr F9, G8.tr G9⟩
                                     rw [hfin, hs9]
                                     rw [sp_tk0, hs9] at hP9
                                     show MP _ _ y tb n (if s9.1.1 = 0 then (Except.ok s9 : Except Nat sp_S) else .error s9.1.2.1)
                                     rw [if_neg q]
                                     exact hP9)⟩) dX6_readText_165
                              · skip
                                obtain ⟨s9, hs9⟩ := sp_ok_iff.mp (Decidable.byContradiction hc149)
                                have hQ9 := hP8
                                rw [hs9] at hQ9
                                have m14 := hQ9.2.2.1.1
                                have mb1 := hQ9.2.2.1.2.2.2.2.2.1
                                refine k_aload_n C (f := 0) (i := 0) (p := 0) rfl rfl dX6_readText_152 ?_
                                refine k_getI C f_X6_164 (L6_s (by assumption)) (fun _ _ _ => rfl) (m14) dX6_readText_153 ?_
                                refine k_if_eq C (tgt := 165) (by decide) dX6_readText_156 (fun hc156 => ?_) (fun hc156 => ?_)
                                · skip
                                  exact k_vret C (Nat.le_of_ble_eq_true rfl) (Nat.le_of_ble_eq_true rfl) (⟨rfl, by
                                    have hfin : md_read tb n (.ok s0) = md_fin e8 := by
                                      unfold md_read md_rd4
                                      rw [← he1, ← he2, ← he3, ← he4, ← hEE5, hX5, ← hEE6, hX6, ← hEE7, hX7, ← hEE8, hX8]
                                    first
                                    | (obtain ⟨x, hx9⟩ := sp_nok hc149
                                       refine ⟨rfl, ?_, F8, G8⟩
                                       rw [hfin, hx9]
                                       rw [hx9] at hP8
                                       exact hP8)
                                    | (have q : s9.1.1 = 0 := (nI_eq (b := 0) (by omega) (by decide)).mp hc156
                                       refine ⟨rfl, ?_, F8, G8⟩
                                       rw [hfin, hs9]
                                       rw [hs9] at hP8
                                       show MP _ _ y tb n (if s9.1.1 = 0 then (Except.ok s9 : Except Nat sp_S) else .error s9.1.2.1)
                                       rw [if_pos q]
                                       exact hP8)
                                    | (have q : ¬ s9.1.1 = 0 := fun z => hc156 (by rw [z]; rfl)
                                       refine ⟨rfl, ?_, F8.tr F9, G8.tr G9⟩
                                       rw [hfin, hs9]
                                       rw [sp_tk0, hs9] at hP9
                                       show MP _ _ y tb n (if s9.1.1 = 0 then (Except.ok s9 : Except Nat sp_S) else .error s9.1.2.1)
                                       rw [if_neg q]
                                       exact hP9)⟩) dX6_readText_165
                                · skip
                                  refine k_aload_n C (f := 0) (i := 0) (p := 0) rfl rfl dX6_readText_159 ?_
                                  refine k_iconst C ic_0 dX6_readText_160 ?_
                                  refine k_callVj C s_X6_191 h_X6_takes (L6_s (by assumption)) rfl (ct_X6_takes hx (F8.txt ht) hP8) rfl rfl (Nat.le_of_ble_eq_true rfl) ⟨Nat.le_of_ble_eq_true rfl, Nat.le_of_ble_eq_true rfl⟩ ⟨Nat.le_of_ble_eq_true rfl, Nat.le_of_ble_eq_true rfl⟩ ⟨rfl, rfl⟩ dX6_readText_161 ?_
                                  intro v I9 J9 hv
                                  obtain ⟨rfl, hP9, F9, G9⟩ := hv
                                  refine k_pop C rfl dX6_readText_164 ?_
                                  exact k_vret C (Nat.le_of_ble_eq_true rfl) (Nat.le_of_ble_eq_true rfl) (⟨rfl, by
                                    have hfin : md_read tb n (.ok s0) = md_fin e8 := by
                                      unfold md_read md_rd4
                                      rw [← he1, ← he2, ← he3, ← he4, ← hEE5, hX5, ← hEE6, hX6, ← hEE7, hX7, ← hEE8, hX8]
                                    first
                                    | (obtain ⟨x, hx9⟩ := sp_nok hc149
                                       refine ⟨rfl, ?_, F8, G8⟩
                                       rw [hfin, hx9]
                                       rw [hx9] at hP8
                                       exact hP8)
                                    | (have q : s9.1.1 = 0 := (nI_eq (b := 0) (by omega) (by decide)).mp hc156
                                       refine ⟨rfl, ?_, F8, G8⟩
                                       rw [hfin, hs9]
                                       rw [hs9] at hP8
                                       show MP _ _ y tb n (if s9.1.1 = 0 then (Except.ok s9 : Except Nat sp_S) else .error s9.1.2.1)
                                       rw [if_pos q]
                                       exact hP8)
                                    | (have q : ¬ s9.1.1 = 0 := fun z => hc156 (by rw [z]; rfl)
                                       refine ⟨rfl, ?_, F8.tr F9, G8.tr G9⟩
                                       rw [hfin, hs9]
                                       rw [sp_tk0, hs9] at hP9
                                       show MP _ _ y tb n (if s9.1.1 = 0 then (Except.ok s9 : Except Nat sp_S) else .error s9.1.2.1)
                                       rw [if_neg q]
                                       exact hP9)⟩) dX6_readText_165
                            · skip
                              obtain ⟨s8, hs8⟩ := sp_ok_iff.mp (Decidable.byContradiction hc125)
                              have hQ8 := hP8
                              rw [hs8] at hQ8
                              have hB8 : sp_nl s8.2 ≤ 20 := hQ8.2.2.2.2.1.2.2.2.2
                              refine k_aload_n C (f := 0) (i := 0) (p := 0) rfl rfl dX6_readText_128 ?_
                              refine k_ldc2 C l_X6_227 dX6_readText_129 ?_
                              refine k_callVp C s_X6_197 h_X6_isWord (L6_s (by assumption)) rfl (ct_X6_isWord hx) rfl rfl (Nat.le_of_ble_eq_true rfl) ⟨Nat.le_of_ble_eq_true rfl, Nat.le_of_ble_eq_true rfl⟩ ⟨Nat.le_of_ble_eq_true rfl, Nat.le_of_ble_eq_true rfl⟩ ⟨rfl, rfl⟩ dX6_readText_132 ?_
                              refine k_ifb_eq C (tgt := 145) (by decide) dX6_readText_135 (fun hc135 => ?_) (fun hc135 => ?_)
                              · skip
                                have hX8 : EE8 = e8 := by
                                  rw [← hE8, hs8, md_lp_n (fun z => hc135 (by
                                    have q := (MTok_isw (si := 5) hQ8.2.2.1 (by decide) (by decide)).mpr z
                                    exact ⟨q.1, q.2.trans (show md_own 5 = (247162 : Int64) by decide +kernel)⟩))]
                                refine k_aload_n C (f := 0) (i := 0) (p := 0) rfl rfl dX6_readText_145 ?_
                                refine k_getI C f_X6_184 (L6_s (by assumption)) (fun _ _ _ => rfl) (MP_17 hP8) dX6_readText_146 ?_
                                refine k_ifb_ne C (tgt := 165) (by decide) dX6_readText_149 (fun hc149 => ?_) (fun hc149 => ?_)
                                · skip
                                  exact k_vret C (Nat.le_of_ble_eq_true rfl) (Nat.le_of_ble_eq_true rfl) (⟨rfl, by
                                    have hfin : md_read tb n (.ok s0) = md_fin e8 := by
                                      unfold md_read md_rd4
                                      rw [← he1, ← he2, ← he3, ← he4, ← hEE5, hX5, ← hEE6, hX6, ← hEE7, hX7, ← hEE8, hX8]
                                    first
                                    | (obtain ⟨x, hx9⟩ := sp_nok hc149
                                       refine ⟨rfl, ?_, F8, G8⟩
                                       rw [hfin, hx9]
                                       rw [hx9] at hP8
                                       exact hP8)
                                    | (have q : s9.1.1 = 0 := (nI_eq (b := 0) (by omega) (by decide)).mp hc156
                                       refine ⟨rfl, ?_, F8, G8⟩
                                       rw [hfin, hs9]
                                       rw [hs9] at hP8
                                       show MP _ _ y tb n (if s9.1.1 = 0 then (Except.ok s9 : Except Nat sp_S) else .error s9.1.2.1)
                                       rw [if_pos q]
                                       exact hP8)
                                    | (have q : ¬ s9.1.1 = 0 := fun z => hc156 (by rw [z]; rfl)
                                       refine ⟨rfl, ?_, F8.tr F9, G8.tr G9⟩
                                       rw [hfin, hs9]
                                       rw [sp_tk0, hs9] at hP9
                                       show MP _ _ y tb n (if s9.1.1 = 0 then (Except.ok s9 : Except Nat sp_S) else .error s9.1.2.1)
                                       rw [if_neg q]
                                       exact hP9)⟩) dX6_readText_165
                                · skip
                                  obtain ⟨s9, hs9⟩ := sp_ok_iff.mp (Decidable.byContradiction hc149)
                                  have hQ9 := hP8
                                  rw [hs9] at hQ9
                                  have m14 := hQ9.2.2.1.1
                                  have mb1 := hQ9.2.2.1.2.2.2.2.2.1
                                  refine k_aload_n C (f := 0) (i := 0) (p := 0) rfl rfl dX6_readText_152 ?_
                                  refine k_getI C f_X6_164 (L6_s (by assumption)) (fun _ _ _ => rfl) (m14) dX6_readText_153 ?_
                                  refine k_if_eq C (tgt := 165) (by decide) dX6_readText_156 (fun hc156 => ?_) (fun hc156 => ?_)
                                  · skip
                                    exact k_vret C (Nat.le_of_ble_eq_true rfl) (Nat.le_of_ble_eq_true rfl) (⟨rfl, by
                                      have hfin : md_read tb n (.ok s0) = md_fin e8 := by
                                        unfold md_read md_rd4
                                        rw [← he1, ← he2, ← he3, ← he4, ← hEE5, hX5, ← hEE6, hX6, ← hEE7, hX7, ← hEE8, hX8]
                                      first
                                      | (obtain ⟨x, hx9⟩ := sp_nok hc149
                                         refine ⟨rfl, ?_, F8, G8⟩
                                         rw [hfin, hx9]
                                         rw [hx9] at hP8
                                         exact hP8)
                                      | (have q : s9.1.1 = 0 := (nI_eq (b := 0) (by omega) (by decide)).mp hc156
                                         refine ⟨rfl, ?_, F8, G8⟩
                                         rw [hfin, hs9]
                                         rw [hs9] at hP8
                                         show MP _ _ y tb n (if s9.1.1 = 0 then (Except.ok s9 : Except Nat sp_S) else .error s9.1.2.1)
                                         rw [if_pos q]
                                         exact hP8)
                                      | (have q : ¬ s9.1.1 = 0 := fun z => hc156 (by rw [z]; rfl)
                                         refine ⟨rfl, ?_, F8.tr F9, G8.tr G9⟩
                                         rw [hfin, hs9]
                                         rw [sp_tk0, hs9] at hP9
                                         show MP _ _ y tb n (if s9.1.1 = 0 then (Except.ok s9 : Except Nat sp_S) else .error s9.1.2.1)
                                         rw [if_neg q]
                                         exact hP9)⟩) dX6_readText_165
                                  · skip
                                    refine k_aload_n C (f := 0) (i := 0) (p := 0) rfl rfl dX6_readText_159 ?_
                                    refine k_iconst C ic_0 dX6_readText_160 ?_
                                    refine k_callVj C s_X6_191 h_X6_takes (L6_s (by assumption)) rfl (ct_X6_takes hx (F8.txt ht) hP8) rfl rfl (Nat.le_of_ble_eq_true rfl) ⟨Nat.le_of_ble_eq_true rfl, Nat.le_of_ble_eq_true rfl⟩ ⟨Nat.le_of_ble_eq_true rfl, Nat.le_of_ble_eq_true rfl⟩ ⟨rfl, rfl⟩ dX6_readText_161 ?_
                                    intro v I9 J9 hv
                                    obtain ⟨rfl, hP9, F9, G9⟩ := hv
                                    refine k_pop C rfl dX6_readText_164 ?_
                                    exact k_vret C (Nat.le_of_ble_eq_true rfl) (Nat.le_of_ble_eq_true rfl) (⟨rfl, by
                                      have hfin : md_read tb n (.ok s0) = md_fin e8 := by
                                        unfold md_read md_rd4
                                        rw [← he1, ← he2, ← he3, ← he4, ← hEE5, hX5, ← hEE6, hX6, ← hEE7, hX7, ← hEE8, hX8]
                                      first
                                      | (obtain ⟨x, hx9⟩ := sp_nok hc149
                                         refine ⟨rfl, ?_, F8, G8⟩
                                         rw [hfin, hx9]
                                         rw [hx9] at hP8
                                         exact hP8)
                                      | (have q : s9.1.1 = 0 := (nI_eq (b := 0) (by omega) (by decide)).mp hc156
                                         refine ⟨rfl, ?_, F8, G8⟩
                                         rw [hfin, hs9]
                                         rw [hs9] at hP8
                                         show MP _ _ y tb n (if s9.1.1 = 0 then (Except.ok s9 : Except Nat sp_S) else .error s9.1.2.1)
                                         rw [if_pos q]
                                         exact hP8)
                                      | (have q : ¬ s9.1.1 = 0 := fun z => hc156 (by rw [z]; rfl)
                                         refine ⟨rfl, ?_, F8.tr F9, G8.tr G9⟩
                                         rw [hfin, hs9]
                                         rw [sp_tk0, hs9] at hP9
                                         show MP _ _ y tb n (if s9.1.1 = 0 then (Except.ok s9 : Except Nat sp_S) else .error s9.1.2.1)
                                         rw [if_neg q]
                                         exact hP9)⟩) dX6_readText_165
                              · skip
                                have hw8 : sp_isw tb s8.1 5 = true := (MTok_isw hQ8.2.2.1 (by decide) (by decide)).mp ⟨hc135.1, hc135.2.trans (show (247162 : Int64) = md_own 5 by decide +kernel)⟩
                                refine k_aload_n C (f := 0) (i := 0) (p := 0) rfl rfl dX6_readText_138 ?_
                                refine k_callVj C s_X6_229 h_X6_readLoad (L6_s (by assumption)) rfl (ct_X6_readLoad hx (F8.txt ht) hP8) rfl rfl (Nat.le_of_ble_eq_true rfl) ⟨Nat.le_of_ble_eq_true rfl, Nat.le_of_ble_eq_true rfl⟩ ⟨Nat.le_of_ble_eq_true rfl, Nat.le_of_ble_eq_true rfl⟩ ⟨rfl, rfl⟩ dX6_readText_139 ?_
                                intro v I8' J8' hv
                                obtain ⟨rfl, hP8', F8', G8'⟩ := hv
                                have F8' := F8.tr F8'
                                have G8' := G8.tr G8'
                                refine k_goto C (tgt := 121) (by decide) dX6_readText_142 ?_
                                refine k_sub [0] rfl ?_
                                obtain ⟨k0, rfl⟩ : ∃ k0, k = k0 + 1 := ⟨k - 1, by omega⟩
                                rw [hs8] at hE8 hK8 hP8'
                                exact ih121 k0 I8' J8' _ hP8' (by
                                  have z := hK8.2 s8 rfl
                                  have zb := hB8
                                  refine ⟨by omega, fun s' hs' => ?_⟩
                                  by_cases c : md_pl s8 = true
                                  · replace hs' : sp_bd (md_gt md_pl (.ok s8)) (sp_rLoad tb n) = .ok s' := hs'
                                    rw [md_gt_t c] at hs'
                                    have c2 := ((md_Cl tb n).1 s8 hw8).mp c
                                    have c3 : sp_nl s'.2 = sp_nl s8.2 + 1 := (md_Cl tb n).2 s8 s' c2 hs'
                                    omega
                                  · replace hs' : sp_bd (md_gt md_pl (.ok s8)) (sp_rLoad tb n) = .ok s' := hs'
                                    rw [md_gt_f c] at hs'; cases hs') (by rw [md_lp_y hw8] at hE8; exact hE8) F8' G8' (by omega)
                        refine k_sub [0] rfl ?_
                        exact loop121 23 22 I7 J7 e7 hP7 ⟨by decide, fun s _ => by omega⟩ hEE8.symm F7 G7 (by decide)
                      · skip
                        have hw7 : sp_isw tb s7.1 4 = true := (MTok_isw hQ7.2.2.1 (by decide) (by decide)).mp ⟨hc111.1, hc111.2.trans (show (10502473 : Int64) = md_own 4 by decide +kernel)⟩
                        refine k_aload_n C (f := 0) (i := 0) (p := 0) rfl rfl dX6_readText_114 ?_
                        refine k_callVj C s_X6_224 h_X6_readStorm (L6_s (by assumption)) rfl (ct_X6_readStorm hx (F7.txt ht) hP7) rfl rfl (Nat.le_of_ble_eq_true rfl) ⟨Nat.le_of_ble_eq_true rfl, Nat.le_of_ble_eq_true rfl⟩ ⟨Nat.le_of_ble_eq_true rfl, Nat.le_of_ble_eq_true rfl⟩ ⟨rfl, rfl⟩ dX6_readText_115 ?_
                        intro v I7' J7' hv
                        obtain ⟨rfl, hP7', F7', G7'⟩ := hv
                        have F7' := F7.tr F7'
                        have G7' := G7.tr G7'
                        refine k_goto C (tgt := 97) (by decide) dX6_readText_118 ?_
                        refine k_sub [0] rfl ?_
                        obtain ⟨k0, rfl⟩ : ∃ k0, k = k0 + 1 := ⟨k - 1, by omega⟩
                        rw [hs7] at hE7 hK7 hP7'
                        exact ih97 k0 I7' J7' _ hP7' (by
                          have z := hK7.2 s7 rfl
                          have zb := hB7
                          refine ⟨by omega, fun s' hs' => ?_⟩
                          by_cases c : md_ps s7 = true
                          · replace hs' : sp_bd (md_gt md_ps (.ok s7)) (sp_rStorm tb n) = .ok s' := hs'
                            rw [md_gt_t c] at hs'
                            have c2 := ((md_Cs tb n).1 s7 hw7).mp c
                            have c3 : sp_ns s'.2 = sp_ns s7.2 + 1 := (md_Cs tb n).2 s7 s' c2 hs'
                            omega
                          · replace hs' : sp_bd (md_gt md_ps (.ok s7)) (sp_rStorm tb n) = .ok s' := hs'
                            rw [md_gt_f c] at hs'; cases hs') (by rw [md_lp_y hw7] at hE7; exact hE7) F7' G7' (by omega)
                refine k_sub [0] rfl ?_
                exact loop97 9 8 I6 J6 e6 hP6 ⟨by decide, fun s _ => by omega⟩ hEE7.symm F6 G6 (by decide)
              · skip
                obtain ⟨s6, hs6⟩ := sp_ok_iff.mp (Decidable.byContradiction hc77)
                have hQ6 := hP6
                rw [hs6] at hQ6
                have hB6 : sp_nw s6.2 ≤ 8 := hQ6.2.2.2.2.1.2.2.1
                refine k_aload_n C (f := 0) (i := 0) (p := 0) rfl rfl dX6_readText_80 ?_
                refine k_ldc2 C l_X6_217 dX6_readText_81 ?_
                refine k_callVp C s_X6_197 h_X6_isWord (L6_s (by assumption)) rfl (ct_X6_isWord hx) rfl rfl (Nat.le_of_ble_eq_true rfl) ⟨Nat.le_of_ble_eq_true rfl, Nat.le_of_ble_eq_true rfl⟩ ⟨Nat.le_of_ble_eq_true rfl, Nat.le_of_ble_eq_true rfl⟩ ⟨rfl, rfl⟩ dX6_readText_84 ?_
                refine k_ifb_eq C (tgt := 97) (by decide) dX6_readText_87 (fun hc87 => ?_) (fun hc87 => ?_)
                · skip
                  have hX6 : EE6 = e6 := by
                    rw [← hE6, hs6, md_lp_n (fun z => hc87 (by
                      have q := (MTok_isw (si := 3) hQ6.2.2.1 (by decide) (by decide)).mpr z
                      exact ⟨q.1, q.2.trans (show md_own 3 = (456690 : Int64) by decide +kernel)⟩))]
                  obtain ⟨EE7, hEE7⟩ : ∃ z : Except Nat sp_S, z = md_lp tb 4 md_ps (sp_rStorm tb n) 8 e6 := ⟨_, rfl⟩
                  have loop97 : ∀ (f : Nat) (k : Nat) (I7 : am_I) (J7 : am_J) (e7 : Except Nat sp_S), (MP I7 J7 y tb n e7) → (1 ≤ k ∧ ∀ s : sp_S, e7 = .ok s → 8 ≤ k + sp_ns s.2) → (md_lp tb 4 md_ps (sp_rStorm tb n) k e7 = EE7) → (MPf y I I7) → (JFr y J J7) → (k) < f → am_K G X { frames := 6, cells := 0, slots := 0, locals := 129 } 1 Λ I7 J7 0 0 97 [(0, .ref y)] [] := by
                    intro f
                    induction f with
                    | zero => intro k I7 J7 e7 hP7 hK7 hE7 F7 G7 hf; exact absurd hf (Nat.not_lt_zero _)
                    | succ f ih97 =>
                      intro k I7 J7 e7 hP7 hK7 hE7 F7 G7 hf
                      refine k_aload_n C (f := 0) (i := 0) (p := 0) rfl rfl dX6_readText_97 ?_
                      refine k_getI C f_X6_184 (L6_s (by assumption)) (fun _ _ _ => rfl) (MP_17 hP7) dX6_readText_98 ?_
                      refine k_ifb_ne C (tgt := 121) (by decide) dX6_readText_101 (fun hc101 => ?_) (fun hc101 => ?_)
                      · skip
                        have hX7 : EE7 = e7 := by
                          rw [← hE7]
                          obtain ⟨x, hx9⟩ := sp_nok hc101
                          rw [hx9, md_lp_e]
                        obtain ⟨EE8, hEE8⟩ : ∃ z : Except Nat sp_S, z = md_lp tb 5 md_pl (sp_rLoad tb n) 22 e7 := ⟨_, rfl⟩
                        have loop121 : ∀ (f : Nat) (k : Nat) (I8 : am_I) (J8 : am_J) (e8 : Except Nat sp_S), (MP I8 J8 y tb n e8) → (1 ≤ k ∧ ∀ s : sp_S, e8 = .ok s → 22 ≤ k + sp_nl s.2) → (md_lp tb 5 md_pl (sp_rLoad tb n) k e8 = EE8) → (MPf y I I8) → (JFr y J J8) → (k) < f → am_K G X { frames := 6, cells := 0, slots := 0, locals := 129 } 1 Λ I8 J8 0 0 121 [(0, .ref y)] [] := by
                          intro f
                          induction f with
                          | zero => intro k I8 J8 e8 hP8 hK8 hE8 F8 G8 hf; exact absurd hf (Nat.not_lt_zero _)
                          | succ f ih121 =>
                            intro k I8 J8 e8 hP8 hK8 hE8 F8 G8 hf
                            refine k_aload_n C (f := 0) (i := 0) (p := 0) rfl rfl dX6_readText_121 ?_
                            refine k_getI C f_X6_184 (L6_s (by assumption)) (fun _ _ _ => rfl) (MP_17 hP8) dX6_readText_122 ?_
                            refine k_ifb_ne C (tgt := 145) (by decide) dX6_readText_125 (fun hc125 => ?_) (fun hc125 => ?_)
                            · skip
                              have hX8 : EE8 = e8 := by
                                rw [← hE8]
                                obtain ⟨x, hx9⟩ := sp_nok hc125
                                rw [hx9, md_lp_e]
                              refine k_aload_n C (f := 0) (i := 0) (p := 0) rfl rfl dX6_readText_145 ?_
                              refine k_getI C f_X6_184 (L6_s (by assumption)) (fun _ _ _ => rfl) (MP_17 hP8) dX6_readText_146 ?_
                              refine k_ifb_ne C (tgt := 165) (by decide) dX6_readText_149 (fun hc149 => ?_) (fun hc149 => ?_)
                              · skip
                                exact k_vret C (Nat.le_of_ble_eq_true rfl) (Nat.le_of_ble_eq_true rfl) (⟨rfl, by
                                  have hfin : md_read tb n (.ok s0) = md_fin e8 := by
                                    unfold md_read md_rd4
                                    rw [← he1, ← he2, ← he3, ← he4, ← hEE5, hX5, ← hEE6, hX6, ← hEE7, hX7, ← hEE8, hX8]
                                  first
                                  | (obtain ⟨x, hx9⟩ := sp_nok hc149
                                     refine ⟨rfl, ?_, F8, G8⟩
                                     rw [hfin, hx9]
                                     rw [hx9] at hP8
                                     exact hP8)
                                  | (have q : s9.1.1 = 0 := (nI_eq (b := 0) (by omega) (by decide)).mp hc156
                                     refine ⟨rfl, ?_, F8, G8⟩
                                     rw [hfin, hs9]
                                     rw [hs9] at hP8
                                     show MP _ _ y tb n (if s9.1.1 = 0 then (Except.ok s9 : Except Nat sp_S) else .error s9.1.2.1)
                                     rw [if_pos q]
                                     exact hP8)
                                  | (have q : ¬ s9.1.1 = 0 := fun z => hc156 (by rw [z]; rfl)
                                     refine ⟨rfl, ?_, F8.tr F9, G8.tr G9⟩
                                     rw [hfin, hs9]
                                     rw [sp_tk0, hs9] at hP9
                                     show MP _ _ y tb n (if s9.1.1 = 0 then (Except.ok s9 : Except Nat sp_S) else .error s9.1.2.1)
                                     rw [if_neg q]
                                     exact hP9)⟩) dX6_readText_165
                              · skip
                                obtain ⟨s9, hs9⟩ := sp_ok_iff.mp (Decidable.byContradiction hc149)
                                have hQ9 := hP8
                                rw [hs9] at hQ9
                                have m14 := hQ9.2.2.1.1
                                have mb1 := hQ9.2.2.1.2.2.2.2.2.1
                                refine k_aload_n C (f := 0) (i := 0) (p := 0) rfl rfl dX6_readText_152 ?_
                                refine k_getI C f_X6_164 (L6_s (by assumption)) (fun _ _ _ => rfl) (m14) dX6_readText_153 ?_
                                refine k_if_eq C (tgt := 165) (by decide) dX6_readText_156 (fun hc156 => ?_) (fun hc156 => ?_)
                                · skip
                                  exact k_vret C (Nat.le_of_ble_eq_true rfl) (Nat.le_of_ble_eq_true rfl) (⟨rfl, by
                                    have hfin : md_read tb n (.ok s0) = md_fin e8 := by
                                      unfold md_read md_rd4
                                      rw [← he1, ← he2, ← he3, ← he4, ← hEE5, hX5, ← hEE6, hX6, ← hEE7, hX7, ← hEE8, hX8]
                                    first
                                    | (obtain ⟨x, hx9⟩ := sp_nok hc149
                                       refine ⟨rfl, ?_, F8, G8⟩
                                       rw [hfin, hx9]
                                       rw [hx9] at hP8
                                       exact hP8)
                                    | (have q : s9.1.1 = 0 := (nI_eq (b := 0) (by omega) (by decide)).mp hc156
                                       refine ⟨rfl, ?_, F8, G8⟩
                                       rw [hfin, hs9]
                                       rw [hs9] at hP8
                                       show MP _ _ y tb n (if s9.1.1 = 0 then (Except.ok s9 : Except Nat sp_S) else .error s9.1.2.1)
                                       rw [if_pos q]
                                       exact hP8)
                                    | (have q : ¬ s9.1.1 = 0 := fun z => hc156 (by rw [z]; rfl)
                                       refine ⟨rfl, ?_, F8.tr F9, G8.tr G9⟩
                                       rw [hfin, hs9]
                                       rw [sp_tk0, hs9] at hP9
                                       show MP _ _ y tb n (if s9.1.1 = 0 then (Except.ok s9 : Except Nat sp_S) else .error s9.1.2.1)
                                       rw [if_neg q]
                                       exact hP9)⟩) dX6_readText_165
                                · skip
                                  refine k_aload_n C (f := 0) (i := 0) (p := 0) rfl rfl dX6_readText_159 ?_
                                  refine k_iconst C ic_0 dX6_readText_160 ?_
                                  refine k_callVj C s_X6_191 h_X6_takes (L6_s (by assumption)) rfl (ct_X6_takes hx (F8.txt ht) hP8) rfl rfl (Nat.le_of_ble_eq_true rfl) ⟨Nat.le_of_ble_eq_true rfl, Nat.le_of_ble_eq_true rfl⟩ ⟨Nat.le_of_ble_eq_true rfl, Nat.le_of_ble_eq_true rfl⟩ ⟨rfl, rfl⟩ dX6_readText_161 ?_
                                  intro v I9 J9 hv
                                  obtain ⟨rfl, hP9, F9, G9⟩ := hv
                                  refine k_pop C rfl dX6_readText_164 ?_
                                  exact k_vret C (Nat.le_of_ble_eq_true rfl) (Nat.le_of_ble_eq_true rfl) (⟨rfl, by
                                    have hfin : md_read tb n (.ok s0) = md_fin e8 := by
                                      unfold md_read md_rd4
                                      rw [← he1, ← he2, ← he3, ← he4, ← hEE5, hX5, ← hEE6, hX6, ← hEE7, hX7, ← hEE8, hX8]
                                    first
                                    | (obtain ⟨x, hx9⟩ := sp_nok hc149
                                       refine ⟨rfl, ?_, F8, G8⟩
                                       rw [hfin, hx9]
                                       rw [hx9] at hP8
                                       exact hP8)
                                    | (have q : s9.1.1 = 0 := (nI_eq (b := 0) (by omega) (by decide)).mp hc156
                                       refine ⟨rfl, ?_, F8, G8⟩
                                       rw [hfin, hs9]
                                       rw [hs9] at hP8
                                       show MP _ _ y tb n (if s9.1.1 = 0 then (Except.ok s9 : Except Nat sp_S) else .error s9.1.2.1)
                                       rw [if_pos q]
                                       exact hP8)
                                    | (have q : ¬ s9.1.1 = 0 := fun z => hc156 (by rw [z]; rfl)
                                       refine ⟨rfl, ?_, F8.tr F9, G8.tr G9⟩
                                       rw [hfin, hs9]
                                       rw [sp_tk0, hs9] at hP9
                                       show MP _ _ y tb n (if s9.1.1 = 0 then (Except.ok s9 : Except Nat sp_S) else .error s9.1.2.1)
                                       rw [if_neg q]
                                       exact hP9)⟩) dX6_readText_165
                            · skip
                              obtain ⟨s8, hs8⟩ := sp_ok_iff.mp (Decidable.byContradiction hc125)
                              have hQ8 := hP8
                              rw [hs8] at hQ8
                              have hB8 : sp_nl s8.2 ≤ 20 := hQ8.2.2.2.2.1.2.2.2.2
                              refine k_aload_n C (f := 0) (i := 0) (p := 0) rfl rfl dX6_readText_128 ?_
                              refine k_ldc2 C l_X6_227 dX6_readText_129 ?_
                              refine k_callVp C s_X6_197 h_X6_isWord (L6_s (by assumption)) rfl (ct_X6_isWord hx) rfl rfl (Nat.le_of_ble_eq_true rfl) ⟨Nat.le_of_ble_eq_true rfl, Nat.le_of_ble_eq_true rfl⟩ ⟨Nat.le_of_ble_eq_true rfl, Nat.le_of_ble_eq_true rfl⟩ ⟨rfl, rfl⟩ dX6_readText_132 ?_
                              refine k_ifb_eq C (tgt := 145) (by decide) dX6_readText_135 (fun hc135 => ?_) (fun hc135 => ?_)
                              · skip
                                have hX8 : EE8 = e8 := by
                                  rw [← hE8, hs8, md_lp_n (fun z => hc135 (by
                                    have q := (MTok_isw (si := 5) hQ8.2.2.1 (by decide) (by decide)).mpr z
                                    exact ⟨q.1, q.2.trans (show md_own 5 = (247162 : Int64) by decide +kernel)⟩))]
                                refine k_aload_n C (f := 0) (i := 0) (p := 0) rfl rfl dX6_readText_145 ?_
                                refine k_getI C f_X6_184 (L6_s (by assumption)) (fun _ _ _ => rfl) (MP_17 hP8) dX6_readText_146 ?_
                                refine k_ifb_ne C (tgt := 165) (by decide) dX6_readText_149 (fun hc149 => ?_) (fun hc149 => ?_)
                                · skip
                                  exact k_vret C (Nat.le_of_ble_eq_true rfl) (Nat.le_of_ble_eq_true rfl) (⟨rfl, by
                                    have hfin : md_read tb n (.ok s0) = md_fin e8 := by
                                      unfold md_read md_rd4
                                      rw [← he1, ← he2, ← he3, ← he4, ← hEE5, hX5, ← hEE6, hX6, ← hEE7, hX7, ← hEE8, hX8]
                                    first
                                    | (obtain ⟨x, hx9⟩ := sp_nok hc149
                                       refine ⟨rfl, ?_, F8, G8⟩
                                       rw [hfin, hx9]
                                       rw [hx9] at hP8
                                       exact hP8)
                                    | (have q : s9.1.1 = 0 := (nI_eq (b := 0) (by omega) (by decide)).mp hc156
                                       refine ⟨rfl, ?_, F8, G8⟩
                                       rw [hfin, hs9]
                                       rw [hs9] at hP8
                                       show MP _ _ y tb n (if s9.1.1 = 0 then (Except.ok s9 : Except Nat sp_S) else .error s9.1.2.1)
                                       rw [if_pos q]
                                       exact hP8)
                                    | (have q : ¬ s9.1.1 = 0 := fun z => hc156 (by rw [z]; rfl)
                                       refine ⟨rfl, ?_, F8.tr F9, G8.tr G9⟩
                                       rw [hfin, hs9]
                                       rw [sp_tk0, hs9] at hP9
                                       show MP _ _ y tb n (if s9.1.1 = 0 then (Except.ok s9 : Except Nat sp_S) else .error s9.1.2.1)
                                       rw [if_neg q]
                                       exact hP9)⟩) dX6_readText_165
                                · skip
                                  obtain ⟨s9, hs9⟩ := sp_ok_iff.mp (Decidable.byContradiction hc149)
                                  have hQ9 := hP8
                                  rw [hs9] at hQ9
                                  have m14 := hQ9.2.2.1.1
                                  have mb1 := hQ9.2.2.1.2.2.2.2.2.1
                                  refine k_aload_n C (f := 0) (i := 0) (p := 0) rfl rfl dX6_readText_152 ?_
                                  refine k_getI C f_X6_164 (L6_s (by assumption)) (fun _ _ _ => rfl) (m14) dX6_readText_153 ?_
                                  refine k_if_eq C (tgt := 165) (by decide) dX6_readText_156 (fun hc156 => ?_) (fun hc156 => ?_)
                                  · skip
                                    exact k_vret C (Nat.le_of_ble_eq_true rfl) (Nat.le_of_ble_eq_true rfl) (⟨rfl, by
                                      have hfin : md_read tb n (.ok s0) = md_fin e8 := by
                                        unfold md_read md_rd4
                                        rw [← he1, ← he2, ← he3, ← he4, ← hEE5, hX5, ← hEE6, hX6, ← hEE7, hX7, ← hEE8, hX8]
                                      first
                                      | (obtain ⟨x, hx9⟩ := sp_nok hc149
                                         refine ⟨rfl, ?_, F8, G8⟩
                                         rw [hfin, hx9]
                                         rw [hx9] at hP8
                                         exact hP8)
                                      | (have q : s9.1.1 = 0 := (nI_eq (b := 0) (by omega) (by decide)).mp hc156
                                         refine ⟨rfl, ?_, F8, G8⟩
                                         rw [hfin, hs9]
                                         rw [hs9] at hP8
                                         show MP _ _ y tb n (if s9.1.1 = 0 then (Except.ok s9 : Except Nat sp_S) else .error s9.1.2.1)
                                         rw [if_pos q]
                                         exact hP8)
                                      | (have q : ¬ s9.1.1 = 0 := fun z => hc156 (by rw [z]; rfl)
                                         refine ⟨rfl, ?_, F8.tr F9, G8.tr G9⟩
                                         rw [hfin, hs9]
                                         rw [sp_tk0, hs9] at hP9
                                         show MP _ _ y tb n (if s9.1.1 = 0 then (Except.ok s9 : Except Nat sp_S) else .error s9.1.2.1)
                                         rw [if_neg q]
                                         exact hP9)⟩) dX6_readText_165
                                  · skip
                                    refine k_aload_n C (f := 0) (i := 0) (p := 0) rfl rfl dX6_readText_159 ?_
                                    refine k_iconst C ic_0 dX6_readText_160 ?_
                                    refine k_callVj C s_X6_191 h_X6_takes (L6_s (by assumption)) rfl (ct_X6_takes hx (F8.txt ht) hP8) rfl rfl (Nat.le_of_ble_eq_true rfl) ⟨Nat.le_of_ble_eq_true rfl, Nat.le_of_ble_eq_true rfl⟩ ⟨Nat.le_of_ble_eq_true rfl, Nat.le_of_ble_eq_true rfl⟩ ⟨rfl, rfl⟩ dX6_readText_161 ?_
                                    intro v I9 J9 hv
                                    obtain ⟨rfl, hP9, F9, G9⟩ := hv
                                    refine k_pop C rfl dX6_readText_164 ?_
                                    exact k_vret C (Nat.le_of_ble_eq_true rfl) (Nat.le_of_ble_eq_true rfl) (⟨rfl, by
                                      have hfin : md_read tb n (.ok s0) = md_fin e8 := by
                                        unfold md_read md_rd4
                                        rw [← he1, ← he2, ← he3, ← he4, ← hEE5, hX5, ← hEE6, hX6, ← hEE7, hX7, ← hEE8, hX8]
                                      first
                                      | (obtain ⟨x, hx9⟩ := sp_nok hc149
                                         refine ⟨rfl, ?_, F8, G8⟩
                                         rw [hfin, hx9]
                                         rw [hx9] at hP8
                                         exact hP8)
                                      | (have q : s9.1.1 = 0 := (nI_eq (b := 0) (by omega) (by decide)).mp hc156
                                         refine ⟨rfl, ?_, F8, G8⟩
                                         rw [hfin, hs9]
                                         rw [hs9] at hP8
                                         show MP _ _ y tb n (if s9.1.1 = 0 then (Except.ok s9 : Except Nat sp_S) else .error s9.1.2.1)
                                         rw [if_pos q]
                                         exact hP8)
                                      | (have q : ¬ s9.1.1 = 0 := fun z => hc156 (by rw [z]; rfl)
                                         refine ⟨rfl, ?_, F8.tr F9, G8.tr G9⟩
                                         rw [hfin, hs9]
                                         rw [sp_tk0, hs9] at hP9
                                         show MP _ _ y tb n (if s9.1.1 = 0 then (Except.ok s9 : Except Nat sp_S) else .error s9.1.2.1)
                                         rw [if_neg q]
                                         exact hP9)⟩) dX6_readText_165
                              · skip
                                have hw8 : sp_isw tb s8.1 5 = true := (MTok_isw hQ8.2.2.1 (by decide) (by decide)).mp ⟨hc135.1, hc135.2.trans (show (247162 : Int64) = md_own 5 by decide +kernel)⟩
                                refine k_aload_n C (f := 0) (i := 0) (p := 0) rfl rfl dX6_readText_138 ?_
                                refine k_callVj C s_X6_229 h_X6_readLoad (L6_s (by assumption)) rfl (ct_X6_readLoad hx (F8.txt ht) hP8) rfl rfl (Nat.le_of_ble_eq_true rfl) ⟨Nat.le_of_ble_eq_true rfl, Nat.le_of_ble_eq_true rfl⟩ ⟨Nat.le_of_ble_eq_true rfl, Nat.le_of_ble_eq_true rfl⟩ ⟨rfl, rfl⟩ dX6_readText_139 ?_
                                intro v I8' J8' hv
                                obtain ⟨rfl, hP8', F8', G8'⟩ := hv
                                have F8' := F8.tr F8'
                                have G8' := G8.tr G8'
                                refine k_goto C (tgt := 121) (by decide) dX6_readText_142 ?_
                                refine k_sub [0] rfl ?_
                                obtain ⟨k0, rfl⟩ : ∃ k0, k = k0 + 1 := ⟨k - 1, by omega⟩
                                rw [hs8] at hE8 hK8 hP8'
                                exact ih121 k0 I8' J8' _ hP8' (by
                                  have z := hK8.2 s8 rfl
                                  have zb := hB8
                                  refine ⟨by omega, fun s' hs' => ?_⟩
                                  by_cases c : md_pl s8 = true
                                  · replace hs' : sp_bd (md_gt md_pl (.ok s8)) (sp_rLoad tb n) = .ok s' := hs'
                                    rw [md_gt_t c] at hs'
                                    have c2 := ((md_Cl tb n).1 s8 hw8).mp c
                                    have c3 : sp_nl s'.2 = sp_nl s8.2 + 1 := (md_Cl tb n).2 s8 s' c2 hs'
                                    omega
                                  · replace hs' : sp_bd (md_gt md_pl (.ok s8)) (sp_rLoad tb n) = .ok s' := hs'
                                    rw [md_gt_f c] at hs'; cases hs') (by rw [md_lp_y hw8] at hE8; exact hE8) F8' G8' (by omega)
                        refine k_sub [0] rfl ?_
                        exact loop121 23 22 I7 J7 e7 hP7 ⟨by decide, fun s _ => by omega⟩ hEE8.symm F7 G7 (by decide)
                      · skip
                        obtain ⟨s7, hs7⟩ := sp_ok_iff.mp (Decidable.byContradiction hc101)
                        have hQ7 := hP7
                        rw [hs7] at hQ7
                        have hB7 : sp_ns s7.2 ≤ 6 := hQ7.2.2.2.2.1.2.2.2.1
                        refine k_aload_n C (f := 0) (i := 0) (p := 0) rfl rfl dX6_readText_104 ?_
                        refine k_ldc2 C l_X6_222 dX6_readText_105 ?_
                        refine k_callVp C s_X6_197 h_X6_isWord (L6_s (by assumption)) rfl (ct_X6_isWord hx) rfl rfl (Nat.le_of_ble_eq_true rfl) ⟨Nat.le_of_ble_eq_true rfl, Nat.le_of_ble_eq_true rfl⟩ ⟨Nat.le_of_ble_eq_true rfl, Nat.le_of_ble_eq_true rfl⟩ ⟨rfl, rfl⟩ dX6_readText_108 ?_
                        refine k_ifb_eq C (tgt := 121) (by decide) dX6_readText_111 (fun hc111 => ?_) (fun hc111 => ?_)
                        · skip
                          have hX7 : EE7 = e7 := by
                            rw [← hE7, hs7, md_lp_n (fun z => hc111 (by
                              have q := (MTok_isw (si := 4) hQ7.2.2.1 (by decide) (by decide)).mpr z
                              exact ⟨q.1, q.2.trans (show md_own 4 = (10502473 : Int64) by decide +kernel)⟩))]
                          obtain ⟨EE8, hEE8⟩ : ∃ z : Except Nat sp_S, z = md_lp tb 5 md_pl (sp_rLoad tb n) 22 e7 := ⟨_, rfl⟩
                          have loop121 : ∀ (f : Nat) (k : Nat) (I8 : am_I) (J8 : am_J) (e8 : Except Nat sp_S), (MP I8 J8 y tb n e8) → (1 ≤ k ∧ ∀ s : sp_S, e8 = .ok s → 22 ≤ k + sp_nl s.2) → (md_lp tb 5 md_pl (sp_rLoad tb n) k e8 = EE8) → (MPf y I I8) → (JFr y J J8) → (k) < f → am_K G X { frames := 6, cells := 0, slots := 0, locals := 129 } 1 Λ I8 J8 0 0 121 [(0, .ref y)] [] := by
                            intro f
                            induction f with
                            | zero => intro k I8 J8 e8 hP8 hK8 hE8 F8 G8 hf; exact absurd hf (Nat.not_lt_zero _)
                            | succ f ih121 =>
                              intro k I8 J8 e8 hP8 hK8 hE8 F8 G8 hf
                              refine k_aload_n C (f := 0) (i := 0) (p := 0) rfl rfl dX6_readText_121 ?_
                              refine k_getI C f_X6_184 (L6_s (by assumption)) (fun _ _ _ => rfl) (MP_17 hP8) dX6_readText_122 ?_
                              refine k_ifb_ne C (tgt := 145) (by decide) dX6_readText_125 (fun hc125 => ?_) (fun hc125 => ?_)
                              · skip
                                have hX8 : EE8 = e8 := by
                                  rw [← hE8]
                                  obtain ⟨x, hx9⟩ := sp_nok hc125
                                  rw [hx9, md_lp_e]
                                refine k_aload_n C (f := 0) (i := 0) (p := 0) rfl rfl dX6_readText_145 ?_
                                refine k_getI C f_X6_184 (L6_s (by assumption)) (fun _ _ _ => rfl) (MP_17 hP8) dX6_readText_146 ?_
                                refine k_ifb_ne C (tgt := 165) (by decide) dX6_readText_149 (fun hc149 => ?_) (fun hc149 => ?_)
                                · skip
                                  exact k_vret C (Nat.le_of_ble_eq_true rfl) (Nat.le_of_ble_eq_true rfl) (⟨rfl, by
                                    have hfin : md_read tb n (.ok s0) = md_fin e8 := by
                                      unfold md_read md_rd4
                                      rw [← he1, ← he2, ← he3, ← he4, ← hEE5, hX5, ← hEE6, hX6, ← hEE7, hX7, ← hEE8, hX8]
                                    first
                                    | (obtain ⟨x, hx9⟩ := sp_nok hc149
                                       refine ⟨rfl, ?_, F8, G8⟩
                                       rw [hfin, hx9]
                                       rw [hx9] at hP8
                                       exact hP8)
                                    | (have q : s9.1.1 = 0 := (nI_eq (b := 0) (by omega) (by decide)).mp hc156
                                       refine ⟨rfl, ?_, F8, G8⟩
                                       rw [hfin, hs9]
                                       rw [hs9] at hP8
                                       show MP _ _ y tb n (if s9.1.1 = 0 then (Except.ok s9 : Except Nat sp_S) else .error s9.1.2.1)
                                       rw [if_pos q]
                                       exact hP8)
                                    | (have q : ¬ s9.1.1 = 0 := fun z => hc156 (by rw [z]; rfl)
                                       refine ⟨rfl, ?_, F8.tr F9, G8.tr G9⟩
                                       rw [hfin, hs9]
                                       rw [sp_tk0, hs9] at hP9
                                       show MP _ _ y tb n (if s9.1.1 = 0 then (Except.ok s9 : Except Nat sp_S) else .error s9.1.2.1)
                                       rw [if_neg q]
                                       exact hP9)⟩) dX6_readText_165
                                · skip
                                  obtain ⟨s9, hs9⟩ := sp_ok_iff.mp (Decidable.byContradiction hc149)
                                  have hQ9 := hP8
                                  rw [hs9] at hQ9
                                  have m14 := hQ9.2.2.1.1
                                  have mb1 := hQ9.2.2.1.2.2.2.2.2.1
                                  refine k_aload_n C (f := 0) (i := 0) (p := 0) rfl rfl dX6_readText_152 ?_
                                  refine k_getI C f_X6_164 (L6_s (by assumption)) (fun _ _ _ => rfl) (m14) dX6_readText_153 ?_
                                  refine k_if_eq C (tgt := 165) (by decide) dX6_readText_156 (fun hc156 => ?_) (fun hc156 => ?_)
                                  · skip
                                    exact k_vret C (Nat.le_of_ble_eq_true rfl) (Nat.le_of_ble_eq_true rfl) (⟨rfl, by
                                      have hfin : md_read tb n (.ok s0) = md_fin e8 := by
                                        unfold md_read md_rd4
                                        rw [← he1, ← he2, ← he3, ← he4, ← hEE5, hX5, ← hEE6, hX6, ← hEE7, hX7, ← hEE8, hX8]
                                      first
                                      | (obtain ⟨x, hx9⟩ := sp_nok hc149
                                         refine ⟨rfl, ?_, F8, G8⟩
                                         rw [hfin, hx9]
                                         rw [hx9] at hP8
                                         exact hP8)
                                      | (have q : s9.1.1 = 0 := (nI_eq (b := 0) (by omega) (by decide)).mp hc156
                                         refine ⟨rfl, ?_, F8, G8⟩
                                         rw [hfin, hs9]
                                         rw [hs9] at hP8
                                         show MP _ _ y tb n (if s9.1.1 = 0 then (Except.ok s9 : Except Nat sp_S) else .error s9.1.2.1)
                                         rw [if_pos q]
                                         exact hP8)
                                      | (have q : ¬ s9.1.1 = 0 := fun z => hc156 (by rw [z]; rfl)
                                         refine ⟨rfl, ?_, F8.tr F9, G8.tr G9⟩
                                         rw [hfin, hs9]
                                         rw [sp_tk0, hs9] at hP9
                                         show MP _ _ y tb n (if s9.1.1 = 0 then (Except.ok s9 : Except Nat sp_S) else .error s9.1.2.1)
                                         rw [if_neg q]
                                         exact hP9)⟩) dX6_readText_165
                                  · skip
                                    refine k_aload_n C (f := 0) (i := 0) (p := 0) rfl rfl dX6_readText_159 ?_
                                    refine k_iconst C ic_0 dX6_readText_160 ?_
                                    refine k_callVj C s_X6_191 h_X6_takes (L6_s (by assumption)) rfl (ct_X6_takes hx (F8.txt ht) hP8) rfl rfl (Nat.le_of_ble_eq_true rfl) ⟨Nat.le_of_ble_eq_true rfl, Nat.le_of_ble_eq_true rfl⟩ ⟨Nat.le_of_ble_eq_true rfl, Nat.le_of_ble_eq_true rfl⟩ ⟨rfl, rfl⟩ dX6_readText_161 ?_
                                    intro v I9 J9 hv
                                    obtain ⟨rfl, hP9, F9, G9⟩ := hv
                                    refine k_pop C rfl dX6_readText_164 ?_
                                    exact k_vret C (Nat.le_of_ble_eq_true rfl) (Nat.le_of_ble_eq_true rfl) (⟨rfl, by
                                      have hfin : md_read tb n (.ok s0) = md_fin e8 := by
                                        unfold md_read md_rd4
                                        rw [← he1, ← he2, ← he3, ← he4, ← hEE5, hX5, ← hEE6, hX6, ← hEE7, hX7, ← hEE8, hX8]
                                      first
                                      | (obtain ⟨x, hx9⟩ := sp_nok hc149
                                         refine ⟨rfl, ?_, F8, G8⟩
                                         rw [hfin, hx9]
                                         rw [hx9] at hP8
                                         exact hP8)
                                      | (have q : s9.1.1 = 0 := (nI_eq (b := 0) (by omega) (by decide)).mp hc156
                                         refine ⟨rfl, ?_, F8, G8⟩
                                         rw [hfin, hs9]
                                         rw [hs9] at hP8
                                         show MP _ _ y tb n (if s9.1.1 = 0 then (Except.ok s9 : Except Nat sp_S) else .error s9.1.2.1)
                                         rw [if_pos q]
                                         exact hP8)
                                      | (have q : ¬ s9.1.1 = 0 := fun z => hc156 (by rw [z]; rfl)
                                         refine ⟨rfl, ?_, F8.tr F9, G8.tr G9⟩
                                         rw [hfin, hs9]
                                         rw [sp_tk0, hs9] at hP9
                                         show MP _ _ y tb n (if s9.1.1 = 0 then (Except.ok s9 : Except Nat sp_S) else .error s9.1.2.1)
                                         rw [if_neg q]
                                         exact hP9)⟩) dX6_readText_165
                              · skip
                                obtain ⟨s8, hs8⟩ := sp_ok_iff.mp (Decidable.byContradiction hc125)
                                have hQ8 := hP8
                                rw [hs8] at hQ8
                                have hB8 : sp_nl s8.2 ≤ 20 := hQ8.2.2.2.2.1.2.2.2.2
                                refine k_aload_n C (f := 0) (i := 0) (p := 0) rfl rfl dX6_readText_128 ?_
                                refine k_ldc2 C l_X6_227 dX6_readText_129 ?_
                                refine k_callVp C s_X6_197 h_X6_isWord (L6_s (by assumption)) rfl (ct_X6_isWord hx) rfl rfl (Nat.le_of_ble_eq_true rfl) ⟨Nat.le_of_ble_eq_true rfl, Nat.le_of_ble_eq_true rfl⟩ ⟨Nat.le_of_ble_eq_true rfl, Nat.le_of_ble_eq_true rfl⟩ ⟨rfl, rfl⟩ dX6_readText_132 ?_
                                refine k_ifb_eq C (tgt := 145) (by decide) dX6_readText_135 (fun hc135 => ?_) (fun hc135 => ?_)
                                · skip
                                  have hX8 : EE8 = e8 := by
                                    rw [← hE8, hs8, md_lp_n (fun z => hc135 (by
                                      have q := (MTok_isw (si := 5) hQ8.2.2.1 (by decide) (by decide)).mpr z
                                      exact ⟨q.1, q.2.trans (show md_own 5 = (247162 : Int64) by decide +kernel)⟩))]
                                  refine k_aload_n C (f := 0) (i := 0) (p := 0) rfl rfl dX6_readText_145 ?_
                                  refine k_getI C f_X6_184 (L6_s (by assumption)) (fun _ _ _ => rfl) (MP_17 hP8) dX6_readText_146 ?_
                                  refine k_ifb_ne C (tgt := 165) (by decide) dX6_readText_149 (fun hc149 => ?_) (fun hc149 => ?_)
                                  · skip
                                    exact k_vret C (Nat.le_of_ble_eq_true rfl) (Nat.le_of_ble_eq_true rfl) (⟨rfl, by
                                      have hfin : md_read tb n (.ok s0) = md_fin e8 := by
                                        unfold md_read md_rd4
                                        rw [← he1, ← he2, ← he3, ← he4, ← hEE5, hX5, ← hEE6, hX6, ← hEE7, hX7, ← hEE8, hX8]
                                      first
                                      | (obtain ⟨x, hx9⟩ := sp_nok hc149
                                         refine ⟨rfl, ?_, F8, G8⟩
                                         rw [hfin, hx9]
                                         rw [hx9] at hP8
                                         exact hP8)
                                      | (have q : s9.1.1 = 0 := (nI_eq (b := 0) (by omega) (by decide)).mp hc156
                                         refine ⟨rfl, ?_, F8, G8⟩
                                         rw [hfin, hs9]
                                         rw [hs9] at hP8
                                         show MP _ _ y tb n (if s9.1.1 = 0 then (Except.ok s9 : Except Nat sp_S) else .error s9.1.2.1)
                                         rw [if_pos q]
                                         exact hP8)
                                      | (have q : ¬ s9.1.1 = 0 := fun z => hc156 (by rw [z]; rfl)
                                         refine ⟨rfl, ?_, F8.tr F9, G8.tr G9⟩
                                         rw [hfin, hs9]
                                         rw [sp_tk0, hs9] at hP9
                                         show MP _ _ y tb n (if s9.1.1 = 0 then (Except.ok s9 : Except Nat sp_S) else .error s9.1.2.1)
                                         rw [if_neg q]
                                         exact hP9)⟩) dX6_readText_165
                                  · skip
                                    obtain ⟨s9, hs9⟩ := sp_ok_iff.mp (Decidable.byContradiction hc149)
                                    have hQ9 := hP8
                                    rw [hs9] at hQ9
                                    have m14 := hQ9.2.2.1.1
                                    have mb1 := hQ9.2.2.1.2.2.2.2.2.1
                                    refine k_aload_n C (f := 0) (i := 0) (p := 0) rfl rfl dX6_readText_152 ?_
                                    refine k_getI C f_X6_164 (L6_s (by assumption)) (fun _ _ _ => rfl) (m14) dX6_readText_153 ?_
                                    refine k_if_eq C (tgt := 165) (by decide) dX6_readText_156 (fun hc156 => ?_) (fun hc156 => ?_)
                                    · skip
                                      exact k_vret C (Nat.le_of_ble_eq_true rfl) (Nat.le_of_ble_eq_true rfl) (⟨rfl, by
                                        have hfin : md_read tb n (.ok s0) = md_fin e8 := by
                                          unfold md_read md_rd4
                                          rw [← he1, ← he2, ← he3, ← he4, ← hEE5, hX5, ← hEE6, hX6, ← hEE7, hX7, ← hEE8, hX8]
                                        first
                                        | (obtain ⟨x, hx9⟩ := sp_nok hc149
                                           refine ⟨rfl, ?_, F8, G8⟩
                                           rw [hfin, hx9]
                                           rw [hx9] at hP8
                                           exact hP8)
                                        | (have q : s9.1.1 = 0 := (nI_eq (b := 0) (by omega) (by decide)).mp hc156
                                           refine ⟨rfl, ?_, F8, G8⟩
                                           rw [hfin, hs9]
                                           rw [hs9] at hP8
                                           show MP _ _ y tb n (if s9.1.1 = 0 then (Except.ok s9 : Except Nat sp_S) else .error s9.1.2.1)
                                           rw [if_pos q]
                                           exact hP8)
                                        | (have q : ¬ s9.1.1 = 0 := fun z => hc156 (by rw [z]; rfl)
                                           refine ⟨rfl, ?_, F8.tr F9, G8.tr G9⟩
                                           rw [hfin, hs9]
                                           rw [sp_tk0, hs9] at hP9
                                           show MP _ _ y tb n (if s9.1.1 = 0 then (Except.ok s9 : Except Nat sp_S) else .error s9.1.2.1)
                                           rw [if_neg q]
                                           exact hP9)⟩) dX6_readText_165
                                    · skip
                                      refine k_aload_n C (f := 0) (i := 0) (p := 0) rfl rfl dX6_readText_159 ?_
                                      refine k_iconst C ic_0 dX6_readText_160 ?_
                                      refine k_callVj C s_X6_191 h_X6_takes (L6_s (by assumption)) rfl (ct_X6_takes hx (F8.txt ht) hP8) rfl rfl (Nat.le_of_ble_eq_true rfl) ⟨Nat.le_of_ble_eq_true rfl, Nat.le_of_ble_eq_true rfl⟩ ⟨Nat.le_of_ble_eq_true rfl, Nat.le_of_ble_eq_true rfl⟩ ⟨rfl, rfl⟩ dX6_readText_161 ?_
                                      intro v I9 J9 hv
                                      obtain ⟨rfl, hP9, F9, G9⟩ := hv
                                      refine k_pop C rfl dX6_readText_164 ?_
                                      exact k_vret C (Nat.le_of_ble_eq_true rfl) (Nat.le_of_ble_eq_true rfl) (⟨rfl, by
                                        have hfin : md_read tb n (.ok s0) = md_fin e8 := by
                                          unfold md_read md_rd4
                                          rw [← he1, ← he2, ← he3, ← he4, ← hEE5, hX5, ← hEE6, hX6, ← hEE7, hX7, ← hEE8, hX8]
                                        first
                                        | (obtain ⟨x, hx9⟩ := sp_nok hc149
                                           refine ⟨rfl, ?_, F8, G8⟩
                                           rw [hfin, hx9]
                                           rw [hx9] at hP8
                                           exact hP8)
                                        | (have q : s9.1.1 = 0 := (nI_eq (b := 0) (by omega) (by decide)).mp hc156
                                           refine ⟨rfl, ?_, F8, G8⟩
                                           rw [hfin, hs9]
                                           rw [hs9] at hP8
                                           show MP _ _ y tb n (if s9.1.1 = 0 then (Except.ok s9 : Except Nat sp_S) else .error s9.1.2.1)
                                           rw [if_pos q]
                                           exact hP8)
                                        | (have q : ¬ s9.1.1 = 0 := fun z => hc156 (by rw [z]; rfl)
                                           refine ⟨rfl, ?_, F8.tr F9, G8.tr G9⟩
                                           rw [hfin, hs9]
                                           rw [sp_tk0, hs9] at hP9
                                           show MP _ _ y tb n (if s9.1.1 = 0 then (Except.ok s9 : Except Nat sp_S) else .error s9.1.2.1)
                                           rw [if_neg q]
                                           exact hP9)⟩) dX6_readText_165
                                · skip
                                  have hw8 : sp_isw tb s8.1 5 = true := (MTok_isw hQ8.2.2.1 (by decide) (by decide)).mp ⟨hc135.1, hc135.2.trans (show (247162 : Int64) = md_own 5 by decide +kernel)⟩
                                  refine k_aload_n C (f := 0) (i := 0) (p := 0) rfl rfl dX6_readText_138 ?_
                                  refine k_callVj C s_X6_229 h_X6_readLoad (L6_s (by assumption)) rfl (ct_X6_readLoad hx (F8.txt ht) hP8) rfl rfl (Nat.le_of_ble_eq_true rfl) ⟨Nat.le_of_ble_eq_true rfl, Nat.le_of_ble_eq_true rfl⟩ ⟨Nat.le_of_ble_eq_true rfl, Nat.le_of_ble_eq_true rfl⟩ ⟨rfl, rfl⟩ dX6_readText_139 ?_
                                  intro v I8' J8' hv
                                  obtain ⟨rfl, hP8', F8', G8'⟩ := hv
                                  have F8' := F8.tr F8'
                                  have G8' := G8.tr G8'
                                  refine k_goto C (tgt := 121) (by decide) dX6_readText_142 ?_
                                  refine k_sub [0] rfl ?_
                                  obtain ⟨k0, rfl⟩ : ∃ k0, k = k0 + 1 := ⟨k - 1, by omega⟩
                                  rw [hs8] at hE8 hK8 hP8'
                                  exact ih121 k0 I8' J8' _ hP8' (by
                                    have z := hK8.2 s8 rfl
                                    have zb := hB8
                                    refine ⟨by omega, fun s' hs' => ?_⟩
                                    by_cases c : md_pl s8 = true
                                    · replace hs' : sp_bd (md_gt md_pl (.ok s8)) (sp_rLoad tb n) = .ok s' := hs'
                                      rw [md_gt_t c] at hs'
                                      have c2 := ((md_Cl tb n).1 s8 hw8).mp c
                                      have c3 : sp_nl s'.2 = sp_nl s8.2 + 1 := (md_Cl tb n).2 s8 s' c2 hs'
                                      omega
                                    · replace hs' : sp_bd (md_gt md_pl (.ok s8)) (sp_rLoad tb n) = .ok s' := hs'
                                      rw [md_gt_f c] at hs'; cases hs') (by rw [md_lp_y hw8] at hE8; exact hE8) F8' G8' (by omega)
                          refine k_sub [0] rfl ?_
                          exact loop121 23 22 I7 J7 e7 hP7 ⟨by decide, fun s _ => by omega⟩ hEE8.symm F7 G7 (by decide)
                        · skip
                          have hw7 : sp_isw tb s7.1 4 = true := (MTok_isw hQ7.2.2.1 (by decide) (by decide)).mp ⟨hc111.1, hc111.2.trans (show (10502473 : Int64) = md_own 4 by decide +kernel)⟩
                          refine k_aload_n C (f := 0) (i := 0) (p := 0) rfl rfl dX6_readText_114 ?_
                          refine k_callVj C s_X6_224 h_X6_readStorm (L6_s (by assumption)) rfl (ct_X6_readStorm hx (F7.txt ht) hP7) rfl rfl (Nat.le_of_ble_eq_true rfl) ⟨Nat.le_of_ble_eq_true rfl, Nat.le_of_ble_eq_true rfl⟩ ⟨Nat.le_of_ble_eq_true rfl, Nat.le_of_ble_eq_true rfl⟩ ⟨rfl, rfl⟩ dX6_readText_115 ?_
                          intro v I7' J7' hv
                          obtain ⟨rfl, hP7', F7', G7'⟩ := hv
                          have F7' := F7.tr F7'
                          have G7' := G7.tr G7'
                          refine k_goto C (tgt := 97) (by decide) dX6_readText_118 ?_
                          refine k_sub [0] rfl ?_
                          obtain ⟨k0, rfl⟩ : ∃ k0, k = k0 + 1 := ⟨k - 1, by omega⟩
                          rw [hs7] at hE7 hK7 hP7'
                          exact ih97 k0 I7' J7' _ hP7' (by
                            have z := hK7.2 s7 rfl
                            have zb := hB7
                            refine ⟨by omega, fun s' hs' => ?_⟩
                            by_cases c : md_ps s7 = true
                            · replace hs' : sp_bd (md_gt md_ps (.ok s7)) (sp_rStorm tb n) = .ok s' := hs'
                              rw [md_gt_t c] at hs'
                              have c2 := ((md_Cs tb n).1 s7 hw7).mp c
                              have c3 : sp_ns s'.2 = sp_ns s7.2 + 1 := (md_Cs tb n).2 s7 s' c2 hs'
                              omega
                            · replace hs' : sp_bd (md_gt md_ps (.ok s7)) (sp_rStorm tb n) = .ok s' := hs'
                              rw [md_gt_f c] at hs'; cases hs') (by rw [md_lp_y hw7] at hE7; exact hE7) F7' G7' (by omega)
                  refine k_sub [0] rfl ?_
                  exact loop97 9 8 I6 J6 e6 hP6 ⟨by decide, fun s _ => by omega⟩ hEE7.symm F6 G6 (by decide)
                · skip
                  have hw6 : sp_isw tb s6.1 3 = true := (MTok_isw hQ6.2.2.1 (by decide) (by decide)).mp ⟨hc87.1, hc87.2.trans (show (456690 : Int64) = md_own 3 by decide +kernel)⟩
                  refine k_aload_n C (f := 0) (i := 0) (p := 0) rfl rfl dX6_readText_90 ?_
                  refine k_callVj C s_X6_219 h_X6_readWell (L6_s (by assumption)) rfl (ct_X6_readWell hx (F6.txt ht) hP6) rfl rfl (Nat.le_of_ble_eq_true rfl) ⟨Nat.le_of_ble_eq_true rfl, Nat.le_of_ble_eq_true rfl⟩ ⟨Nat.le_of_ble_eq_true rfl, Nat.le_of_ble_eq_true rfl⟩ ⟨rfl, rfl⟩ dX6_readText_91 ?_
                  intro v I6' J6' hv
                  obtain ⟨rfl, hP6', F6', G6'⟩ := hv
                  have F6' := F6.tr F6'
                  have G6' := G6.tr G6'
                  refine k_goto C (tgt := 73) (by decide) dX6_readText_94 ?_
                  refine k_sub [0] rfl ?_
                  obtain ⟨k0, rfl⟩ : ∃ k0, k = k0 + 1 := ⟨k - 1, by omega⟩
                  rw [hs6] at hE6 hK6 hP6'
                  exact ih73 k0 I6' J6' _ hP6' (by
                    have z := hK6.2 s6 rfl
                    have zb := hB6
                    refine ⟨by omega, fun s' hs' => ?_⟩
                    by_cases c : md_pwl s6 = true
                    · replace hs' : sp_bd (md_gt md_pwl (.ok s6)) (sp_rWell tb n) = .ok s' := hs'
                      rw [md_gt_t c] at hs'
                      have c2 := ((md_Cw tb n).1 s6 hw6).mp c
                      have c3 : sp_nw s'.2 = sp_nw s6.2 + 1 := (md_Cw tb n).2 s6 s' c2 hs'
                      omega
                    · replace hs' : sp_bd (md_gt md_pwl (.ok s6)) (sp_rWell tb n) = .ok s' := hs'
                      rw [md_gt_f c] at hs'; cases hs') (by rw [md_lp_y hw6] at hE6; exact hE6) F6' G6' (by omega)
          refine k_sub [0] rfl ?_
          exact loop73 11 10 I5 J5 e5 hP5 ⟨by decide, fun s _ => by omega⟩ hEE6.symm F5 G5 (by decide)
        · skip
          obtain ⟨s5, hs5⟩ := sp_ok_iff.mp (Decidable.byContradiction hc53)
          have hQ5 := hP5
          rw [hs5] at hQ5
          have hB5 : sp_nc s5.2 ≤ 10 := hQ5.2.2.2.2.1.2.1
          refine k_aload_n C (f := 0) (i := 0) (p := 0) rfl rfl dX6_readText_56 ?_
          refine k_ldc2 C l_X6_195 dX6_readText_57 ?_
          refine k_callVp C s_X6_197 h_X6_isWord (L6_s (by assumption)) rfl (ct_X6_isWord hx) rfl rfl (Nat.le_of_ble_eq_true rfl) ⟨Nat.le_of_ble_eq_true rfl, Nat.le_of_ble_eq_true rfl⟩ ⟨Nat.le_of_ble_eq_true rfl, Nat.le_of_ble_eq_true rfl⟩ ⟨rfl, rfl⟩ dX6_readText_60 ?_
          refine k_ifb_eq C (tgt := 73) (by decide) dX6_readText_63 (fun hc63 => ?_) (fun hc63 => ?_)
          · skip
            have hX5 : EE5 = e5 := by
              rw [← hE5, hs5, md_lp_n (fun z => hc63 (by
                have q := (MTok_isw (si := 2) hQ5.2.2.1 (by decide) (by decide)).mpr z
                exact ⟨q.1, q.2.trans (show md_own 2 = (1623630 : Int64) by decide +kernel)⟩))]
            obtain ⟨EE6, hEE6⟩ : ∃ z : Except Nat sp_S, z = md_lp tb 3 md_pwl (sp_rWell tb n) 10 e5 := ⟨_, rfl⟩
            have loop73 : ∀ (f : Nat) (k : Nat) (I6 : am_I) (J6 : am_J) (e6 : Except Nat sp_S), (MP I6 J6 y tb n e6) → (1 ≤ k ∧ ∀ s : sp_S, e6 = .ok s → 10 ≤ k + sp_nw s.2) → (md_lp tb 3 md_pwl (sp_rWell tb n) k e6 = EE6) → (MPf y I I6) → (JFr y J J6) → (k) < f → am_K G X { frames := 6, cells := 0, slots := 0, locals := 129 } 1 Λ I6 J6 0 0 73 [(0, .ref y)] [] := by
              intro f
              induction f with
              | zero => intro k I6 J6 e6 hP6 hK6 hE6 F6 G6 hf; exact absurd hf (Nat.not_lt_zero _)
              | succ f ih73 =>
                intro k I6 J6 e6 hP6 hK6 hE6 F6 G6 hf
                refine k_aload_n C (f := 0) (i := 0) (p := 0) rfl rfl dX6_readText_73 ?_
                refine k_getI C f_X6_184 (L6_s (by assumption)) (fun _ _ _ => rfl) (MP_17 hP6) dX6_readText_74 ?_
                refine k_ifb_ne C (tgt := 97) (by decide) dX6_readText_77 (fun hc77 => ?_) (fun hc77 => ?_)
                · skip
                  have hX6 : EE6 = e6 := by
                    rw [← hE6]
                    obtain ⟨x, hx9⟩ := sp_nok hc77
                    rw [hx9, md_lp_e]
                  obtain ⟨EE7, hEE7⟩ : ∃ z : Except Nat sp_S, z = md_lp tb 4 md_ps (sp_rStorm tb n) 8 e6 := ⟨_, rfl⟩
                  have loop97 : ∀ (f : Nat) (k : Nat) (I7 : am_I) (J7 : am_J) (e7 : Except Nat sp_S), (MP I7 J7 y tb n e7) → (1 ≤ k ∧ ∀ s : sp_S, e7 = .ok s → 8 ≤ k + sp_ns s.2) → (md_lp tb 4 md_ps (sp_rStorm tb n) k e7 = EE7) → (MPf y I I7) → (JFr y J J7) → (k) < f → am_K G X { frames := 6, cells := 0, slots := 0, locals := 129 } 1 Λ I7 J7 0 0 97 [(0, .ref y)] [] := by
                    intro f
                    induction f with
                    | zero => intro k I7 J7 e7 hP7 hK7 hE7 F7 G7 hf; exact absurd hf (Nat.not_lt_zero _)
                    | succ f ih97 =>
                      intro k I7 J7 e7 hP7 hK7 hE7 F7 G7 hf
                      refine k_aload_n C (f := 0) (i := 0) (p := 0) rfl rfl dX6_readText_97 ?_
                      refine k_getI C f_X6_184 (L6_s (by assumption)) (fun _ _ _ => rfl) (MP_17 hP7) dX6_readText_98 ?_
                      refine k_ifb_ne C (tgt := 121) (by decide) dX6_readText_101 (fun hc101 => ?_) (fun hc101 => ?_)
                      · skip
                        have hX7 : EE7 = e7 := by
                          rw [← hE7]
                          obtain ⟨x, hx9⟩ := sp_nok hc101
                          rw [hx9, md_lp_e]
                        obtain ⟨EE8, hEE8⟩ : ∃ z : Except Nat sp_S, z = md_lp tb 5 md_pl (sp_rLoad tb n) 22 e7 := ⟨_, rfl⟩
                        have loop121 : ∀ (f : Nat) (k : Nat) (I8 : am_I) (J8 : am_J) (e8 : Except Nat sp_S), (MP I8 J8 y tb n e8) → (1 ≤ k ∧ ∀ s : sp_S, e8 = .ok s → 22 ≤ k + sp_nl s.2) → (md_lp tb 5 md_pl (sp_rLoad tb n) k e8 = EE8) → (MPf y I I8) → (JFr y J J8) → (k) < f → am_K G X { frames := 6, cells := 0, slots := 0, locals := 129 } 1 Λ I8 J8 0 0 121 [(0, .ref y)] [] := by
                          intro f
                          induction f with
                          | zero => intro k I8 J8 e8 hP8 hK8 hE8 F8 G8 hf; exact absurd hf (Nat.not_lt_zero _)
                          | succ f ih121 =>
                            intro k I8 J8 e8 hP8 hK8 hE8 F8 G8 hf
                            refine k_aload_n C (f := 0) (i := 0) (p := 0) rfl rfl dX6_readText_121 ?_
                            refine k_getI C f_X6_184 (L6_s (by assumption)) (fun _ _ _ => rfl) (MP_17 hP8) dX6_readText_122 ?_
                            refine k_ifb_ne C (tgt := 145) (by decide) dX6_readText_125 (fun hc125 => ?_) (fun hc125 => ?_)
                            · skip
                              have hX8 : EE8 = e8 := by
                                rw [← hE8]
                                obtain ⟨x, hx9⟩ := sp_nok hc125
                                rw [hx9, md_lp_e]
                              refine k_aload_n C (f := 0) (i := 0) (p := 0) rfl rfl dX6_readText_145 ?_
                              refine k_getI C f_X6_184 (L6_s (by assumption)) (fun _ _ _ => rfl) (MP_17 hP8) dX6_readText_146 ?_
                              refine k_ifb_ne C (tgt := 165) (by decide) dX6_readText_149 (fun hc149 => ?_) (fun hc149 => ?_)
                              · skip
                                exact k_vret C (Nat.le_of_ble_eq_true rfl) (Nat.le_of_ble_eq_true rfl) (⟨rfl, by
                                  have hfin : md_read tb n (.ok s0) = md_fin e8 := by
                                    unfold md_read md_rd4
                                    rw [← he1, ← he2, ← he3, ← he4, ← hEE5, hX5, ← hEE6, hX6, ← hEE7, hX7, ← hEE8, hX8]
                                  first
                                  | (obtain ⟨x, hx9⟩ := sp_nok hc149
                                     refine ⟨rfl, ?_, F8, G8⟩
                                     rw [hfin, hx9]
                                     rw [hx9] at hP8
                                     exact hP8)
                                  | (have q : s9.1.1 = 0 := (nI_eq (b := 0) (by omega) (by decide)).mp hc156
                                     refine ⟨rfl, ?_, F8, G8⟩
                                     rw [hfin, hs9]
                                     rw [hs9] at hP8
                                     show MP _ _ y tb n (if s9.1.1 = 0 then (Except.ok s9 : Except Nat sp_S) else .error s9.1.2.1)
                                     rw [if_pos q]
                                     exact hP8)
                                  | (have q : ¬ s9.1.1 = 0 := fun z => hc156 (by rw [z]; rfl)
                                     refine ⟨rfl, ?_, F8.tr F9, G8.tr G9⟩
                                     rw [hfin, hs9]
                                     rw [sp_tk0, hs9] at hP9
                                     show MP _ _ y tb n (if s9.1.1 = 0 then (Except.ok s9 : Except Nat sp_S) else .error s9.1.2.1)
                                     rw [if_neg q]
                                     exact hP9)⟩) dX6_readText_165
                              · skip
                                obtain ⟨s9, hs9⟩ := sp_ok_iff.mp (Decidable.byContradiction hc149)
                                have hQ9 := hP8
                                rw [hs9] at hQ9
                                have m14 := hQ9.2.2.1.1
                                have mb1 := hQ9.2.2.1.2.2.2.2.2.1
                                refine k_aload_n C (f := 0) (i := 0) (p := 0) rfl rfl dX6_readText_152 ?_
                                refine k_getI C f_X6_164 (L6_s (by assumption)) (fun _ _ _ => rfl) (m14) dX6_readText_153 ?_
                                refine k_if_eq C (tgt := 165) (by decide) dX6_readText_156 (fun hc156 => ?_) (fun hc156 => ?_)
                                · skip
                                  exact k_vret C (Nat.le_of_ble_eq_true rfl) (Nat.le_of_ble_eq_true rfl) (⟨rfl, by
                                    have hfin : md_read tb n (.ok s0) = md_fin e8 := by
                                      unfold md_read md_rd4
                                      rw [← he1, ← he2, ← he3, ← he4, ← hEE5, hX5, ← hEE6, hX6, ← hEE7, hX7, ← hEE8, hX8]
                                    first
                                    | (obtain ⟨x, hx9⟩ := sp_nok hc149
                                       refine ⟨rfl, ?_, F8, G8⟩
                                       rw [hfin, hx9]
                                       rw [hx9] at hP8
                                       exact hP8)
                                    | (have q : s9.1.1 = 0 := (nI_eq (b := 0) (by omega) (by decide)).mp hc156
                                       refine ⟨rfl, ?_, F8, G8⟩
                                       rw [hfin, hs9]
                                       rw [hs9] at hP8
                                       show MP _ _ y tb n (if s9.1.1 = 0 then (Except.ok s9 : Except Nat sp_S) else .error s9.1.2.1)
                                       rw [if_pos q]
                                       exact hP8)
                                    | (have q : ¬ s9.1.1 = 0 := fun z => hc156 (by rw [z]; rfl)
                                       refine ⟨rfl, ?_, F8.tr F9, G8.tr G9⟩
                                       rw [hfin, hs9]
                                       rw [sp_tk0, hs9] at hP9
                                       show MP _ _ y tb n (if s9.1.1 = 0 then (Except.ok s9 : Except Nat sp_S) else .error s9.1.2.1)
                                       rw [if_neg q]
                                       exact hP9)⟩) dX6_readText_165
                                · skip
                                  refine k_aload_n C (f := 0) (i := 0) (p := 0) rfl rfl dX6_readText_159 ?_
                                  refine k_iconst C ic_0 dX6_readText_160 ?_
                                  refine k_callVj C s_X6_191 h_X6_takes (L6_s (by assumption)) rfl (ct_X6_takes hx (F8.txt ht) hP8) rfl rfl (Nat.le_of_ble_eq_true rfl) ⟨Nat.le_of_ble_eq_true rfl, Nat.le_of_ble_eq_true rfl⟩ ⟨Nat.le_of_ble_eq_true rfl, Nat.le_of_ble_eq_true rfl⟩ ⟨rfl, rfl⟩ dX6_readText_161 ?_
                                  intro v I9 J9 hv
                                  obtain ⟨rfl, hP9, F9, G9⟩ := hv
                                  refine k_pop C rfl dX6_readText_164 ?_
                                  exact k_vret C (Nat.le_of_ble_eq_true rfl) (Nat.le_of_ble_eq_true rfl) (⟨rfl, by
                                    have hfin : md_read tb n (.ok s0) = md_fin e8 := by
                                      unfold md_read md_rd4
                                      rw [← he1, ← he2, ← he3, ← he4, ← hEE5, hX5, ← hEE6, hX6, ← hEE7, hX7, ← hEE8, hX8]
                                    first
                                    | (obtain ⟨x, hx9⟩ := sp_nok hc149
                                       refine ⟨rfl, ?_, F8, G8⟩
                                       rw [hfin, hx9]
                                       rw [hx9] at hP8
                                       exact hP8)
                                    | (have q : s9.1.1 = 0 := (nI_eq (b := 0) (by omega) (by decide)).mp hc156
                                       refine ⟨rfl, ?_, F8, G8⟩
                                       rw [hfin, hs9]
                                       rw [hs9] at hP8
                                       show MP _ _ y tb n (if s9.1.1 = 0 then (Except.ok s9 : Except Nat sp_S) else .error s9.1.2.1)
                                       rw [if_pos q]
                                       exact hP8)
                                    | (have q : ¬ s9.1.1 = 0 := fun z => hc156 (by rw [z]; rfl)
                                       refine ⟨rfl, ?_, F8.tr F9, G8.tr G9⟩
                                       rw [hfin, hs9]
                                       rw [sp_tk0, hs9] at hP9
                                       show MP _ _ y tb n (if s9.1.1 = 0 then (Except.ok s9 : Except Nat sp_S) else .error s9.1.2.1)
                                       rw [if_neg q]
                                       exact hP9)⟩) dX6_readText_165
                            · skip
                              obtain ⟨s8, hs8⟩ := sp_ok_iff.mp (Decidable.byContradiction hc125)
                              have hQ8 := hP8
                              rw [hs8] at hQ8
                              have hB8 : sp_nl s8.2 ≤ 20 := hQ8.2.2.2.2.1.2.2.2.2
                              refine k_aload_n C (f := 0) (i := 0) (p := 0) rfl rfl dX6_readText_128 ?_
                              refine k_ldc2 C l_X6_227 dX6_readText_129 ?_
                              refine k_callVp C s_X6_197 h_X6_isWord (L6_s (by assumption)) rfl (ct_X6_isWord hx) rfl rfl (Nat.le_of_ble_eq_true rfl) ⟨Nat.le_of_ble_eq_true rfl, Nat.le_of_ble_eq_true rfl⟩ ⟨Nat.le_of_ble_eq_true rfl, Nat.le_of_ble_eq_true rfl⟩ ⟨rfl, rfl⟩ dX6_readText_132 ?_
                              refine k_ifb_eq C (tgt := 145) (by decide) dX6_readText_135 (fun hc135 => ?_) (fun hc135 => ?_)
                              · skip
                                have hX8 : EE8 = e8 := by
                                  rw [← hE8, hs8, md_lp_n (fun z => hc135 (by
                                    have q := (MTok_isw (si := 5) hQ8.2.2.1 (by decide) (by decide)).mpr z
                                    exact ⟨q.1, q.2.trans (show md_own 5 = (247162 : Int64) by decide +kernel)⟩))]
                                refine k_aload_n C (f := 0) (i := 0) (p := 0) rfl rfl dX6_readText_145 ?_
                                refine k_getI C f_X6_184 (L6_s (by assumption)) (fun _ _ _ => rfl) (MP_17 hP8) dX6_readText_146 ?_
                                refine k_ifb_ne C (tgt := 165) (by decide) dX6_readText_149 (fun hc149 => ?_) (fun hc149 => ?_)
                                · skip
                                  exact k_vret C (Nat.le_of_ble_eq_true rfl) (Nat.le_of_ble_eq_true rfl) (⟨rfl, by
                                    have hfin : md_read tb n (.ok s0) = md_fin e8 := by
                                      unfold md_read md_rd4
                                      rw [← he1, ← he2, ← he3, ← he4, ← hEE5, hX5, ← hEE6, hX6, ← hEE7, hX7, ← hEE8, hX8]
                                    first
                                    | (obtain ⟨x, hx9⟩ := sp_nok hc149
                                       refine ⟨rfl, ?_, F8, G8⟩
                                       rw [hfin, hx9]
                                       rw [hx9] at hP8
                                       exact hP8)
                                    | (have q : s9.1.1 = 0 := (nI_eq (b := 0) (by omega) (by decide)).mp hc156
                                       refine ⟨rfl, ?_, F8, G8⟩
                                       rw [hfin, hs9]
                                       rw [hs9] at hP8
                                       show MP _ _ y tb n (if s9.1.1 = 0 then (Except.ok s9 : Except Nat sp_S) else .error s9.1.2.1)
                                       rw [if_pos q]
                                       exact hP8)
                                    | (have q : ¬ s9.1.1 = 0 := fun z => hc156 (by rw [z]; rfl)
                                       refine ⟨rfl, ?_, F8.tr F9, G8.tr G9⟩
                                       rw [hfin, hs9]
                                       rw [sp_tk0, hs9] at hP9
                                       show MP _ _ y tb n (if s9.1.1 = 0 then (Except.ok s9 : Except Nat sp_S) else .error s9.1.2.1)
                                       rw [if_neg q]
                                       exact hP9)⟩) dX6_readText_165
                                · skip
                                  obtain ⟨s9, hs9⟩ := sp_ok_iff.mp (Decidable.byContradiction hc149)
                                  have hQ9 := hP8
                                  rw [hs9] at hQ9
                                  have m14 := hQ9.2.2.1.1
                                  have mb1 := hQ9.2.2.1.2.2.2.2.2.1
                                  refine k_aload_n C (f := 0) (i := 0) (p := 0) rfl rfl dX6_readText_152 ?_
                                  refine k_getI C f_X6_164 (L6_s (by assumption)) (fun _ _ _ => rfl) (m14) dX6_readText_153 ?_
                                  refine k_if_eq C (tgt := 165) (by decide) dX6_readText_156 (fun hc156 => ?_) (fun hc156 => ?_)
                                  · skip
                                    exact k_vret C (Nat.le_of_ble_eq_true rfl) (Nat.le_of_ble_eq_true rfl) (⟨rfl, by
                                      have hfin : md_read tb n (.ok s0) = md_fin e8 := by
                                        unfold md_read md_rd4
                                        rw [← he1, ← he2, ← he3, ← he4, ← hEE5, hX5, ← hEE6, hX6, ← hEE7, hX7, ← hEE8, hX8]
                                      first
                                      | (obtain ⟨x, hx9⟩ := sp_nok hc149
                                         refine ⟨rfl, ?_, F8, G8⟩
                                         rw [hfin, hx9]
                                         rw [hx9] at hP8
                                         exact hP8)
                                      | (have q : s9.1.1 = 0 := (nI_eq (b := 0) (by omega) (by decide)).mp hc156
                                         refine ⟨rfl, ?_, F8, G8⟩
                                         rw [hfin, hs9]
                                         rw [hs9] at hP8
                                         show MP _ _ y tb n (if s9.1.1 = 0 then (Except.ok s9 : Except Nat sp_S) else .error s9.1.2.1)
                                         rw [if_pos q]
                                         exact hP8)
                                      | (have q : ¬ s9.1.1 = 0 := fun z => hc156 (by rw [z]; rfl)
                                         refine ⟨rfl, ?_, F8.tr F9, G8.tr G9⟩
                                         rw [hfin, hs9]
                                         rw [sp_tk0, hs9] at hP9
                                         show MP _ _ y tb n (if s9.1.1 = 0 then (Except.ok s9 : Except Nat sp_S) else .error s9.1.2.1)
                                         rw [if_neg q]
                                         exact hP9)⟩) dX6_readText_165
                                  · skip
                                    refine k_aload_n C (f := 0) (i := 0) (p := 0) rfl rfl dX6_readText_159 ?_
                                    refine k_iconst C ic_0 dX6_readText_160 ?_
                                    refine k_callVj C s_X6_191 h_X6_takes (L6_s (by assumption)) rfl (ct_X6_takes hx (F8.txt ht) hP8) rfl rfl (Nat.le_of_ble_eq_true rfl) ⟨Nat.le_of_ble_eq_true rfl, Nat.le_of_ble_eq_true rfl⟩ ⟨Nat.le_of_ble_eq_true rfl, Nat.le_of_ble_eq_true rfl⟩ ⟨rfl, rfl⟩ dX6_readText_161 ?_
                                    intro v I9 J9 hv
                                    obtain ⟨rfl, hP9, F9, G9⟩ := hv
                                    refine k_pop C rfl dX6_readText_164 ?_
                                    exact k_vret C (Nat.le_of_ble_eq_true rfl) (Nat.le_of_ble_eq_true rfl) (⟨rfl, by
                                      have hfin : md_read tb n (.ok s0) = md_fin e8 := by
                                        unfold md_read md_rd4
                                        rw [← he1, ← he2, ← he3, ← he4, ← hEE5, hX5, ← hEE6, hX6, ← hEE7, hX7, ← hEE8, hX8]
                                      first
                                      | (obtain ⟨x, hx9⟩ := sp_nok hc149
                                         refine ⟨rfl, ?_, F8, G8⟩
                                         rw [hfin, hx9]
                                         rw [hx9] at hP8
                                         exact hP8)
                                      | (have q : s9.1.1 = 0 := (nI_eq (b := 0) (by omega) (by decide)).mp hc156
                                         refine ⟨rfl, ?_, F8, G8⟩
                                         rw [hfin, hs9]
                                         rw [hs9] at hP8
                                         show MP _ _ y tb n (if s9.1.1 = 0 then (Except.ok s9 : Except Nat sp_S) else .error s9.1.2.1)
                                         rw [if_pos q]
                                         exact hP8)
                                      | (have q : ¬ s9.1.1 = 0 := fun z => hc156 (by rw [z]; rfl)
                                         refine ⟨rfl, ?_, F8.tr F9, G8.tr G9⟩
                                         rw [hfin, hs9]
                                         rw [sp_tk0, hs9] at hP9
                                         show MP _ _ y tb n (if s9.1.1 = 0 then (Except.ok s9 : Except Nat sp_S) else .error s9.1.2.1)
                                         rw [if_neg q]
                                         exact hP9)⟩) dX6_readText_165
                              · skip
                                have hw8 : sp_isw tb s8.1 5 = true := (MTok_isw hQ8.2.2.1 (by decide) (by decide)).mp ⟨hc135.1, hc135.2.trans (show (247162 : Int64) = md_own 5 by decide +kernel)⟩
                                refine k_aload_n C (f := 0) (i := 0) (p := 0) rfl rfl dX6_readText_138 ?_
                                refine k_callVj C s_X6_229 h_X6_readLoad (L6_s (by assumption)) rfl (ct_X6_readLoad hx (F8.txt ht) hP8) rfl rfl (Nat.le_of_ble_eq_true rfl) ⟨Nat.le_of_ble_eq_true rfl, Nat.le_of_ble_eq_true rfl⟩ ⟨Nat.le_of_ble_eq_true rfl, Nat.le_of_ble_eq_true rfl⟩ ⟨rfl, rfl⟩ dX6_readText_139 ?_
                                intro v I8' J8' hv
                                obtain ⟨rfl, hP8', F8', G8'⟩ := hv
                                have F8' := F8.tr F8'
                                have G8' := G8.tr G8'
                                refine k_goto C (tgt := 121) (by decide) dX6_readText_142 ?_
                                refine k_sub [0] rfl ?_
                                obtain ⟨k0, rfl⟩ : ∃ k0, k = k0 + 1 := ⟨k - 1, by omega⟩
                                rw [hs8] at hE8 hK8 hP8'
                                exact ih121 k0 I8' J8' _ hP8' (by
                                  have z := hK8.2 s8 rfl
                                  have zb := hB8
                                  refine ⟨by omega, fun s' hs' => ?_⟩
                                  by_cases c : md_pl s8 = true
                                  · replace hs' : sp_bd (md_gt md_pl (.ok s8)) (sp_rLoad tb n) = .ok s' := hs'
                                    rw [md_gt_t c] at hs'
                                    have c2 := ((md_Cl tb n).1 s8 hw8).mp c
                                    have c3 : sp_nl s'.2 = sp_nl s8.2 + 1 := (md_Cl tb n).2 s8 s' c2 hs'
                                    omega
                                  · replace hs' : sp_bd (md_gt md_pl (.ok s8)) (sp_rLoad tb n) = .ok s' := hs'
                                    rw [md_gt_f c] at hs'; cases hs') (by rw [md_lp_y hw8] at hE8; exact hE8) F8' G8' (by omega)
                        refine k_sub [0] rfl ?_
                        exact loop121 23 22 I7 J7 e7 hP7 ⟨by decide, fun s _ => by omega⟩ hEE8.symm F7 G7 (by decide)
                      · skip
                        obtain ⟨s7, hs7⟩ := sp_ok_iff.mp (Decidable.byContradiction hc101)
                        have hQ7 := hP7
                        rw [hs7] at hQ7
                        have hB7 : sp_ns s7.2 ≤ 6 := hQ7.2.2.2.2.1.2.2.2.1
                        refine k_aload_n C (f := 0) (i := 0) (p := 0) rfl rfl dX6_readText_104 ?_
                        refine k_ldc2 C l_X6_222 dX6_readText_105 ?_
                        refine k_callVp C s_X6_197 h_X6_isWord (L6_s (by assumption)) rfl (ct_X6_isWord hx) rfl rfl (Nat.le_of_ble_eq_true rfl) ⟨Nat.le_of_ble_eq_true rfl, Nat.le_of_ble_eq_true rfl⟩ ⟨Nat.le_of_ble_eq_true rfl, Nat.le_of_ble_eq_true rfl⟩ ⟨rfl, rfl⟩ dX6_readText_108 ?_
                        refine k_ifb_eq C (tgt := 121) (by decide) dX6_readText_111 (fun hc111 => ?_) (fun hc111 => ?_)
                        · skip
                          have hX7 : EE7 = e7 := by
                            rw [← hE7, hs7, md_lp_n (fun z => hc111 (by
                              have q := (MTok_isw (si := 4) hQ7.2.2.1 (by decide) (by decide)).mpr z
                              exact ⟨q.1, q.2.trans (show md_own 4 = (10502473 : Int64) by decide +kernel)⟩))]
                          obtain ⟨EE8, hEE8⟩ : ∃ z : Except Nat sp_S, z = md_lp tb 5 md_pl (sp_rLoad tb n) 22 e7 := ⟨_, rfl⟩
                          have loop121 : ∀ (f : Nat) (k : Nat) (I8 : am_I) (J8 : am_J) (e8 : Except Nat sp_S), (MP I8 J8 y tb n e8) → (1 ≤ k ∧ ∀ s : sp_S, e8 = .ok s → 22 ≤ k + sp_nl s.2) → (md_lp tb 5 md_pl (sp_rLoad tb n) k e8 = EE8) → (MPf y I I8) → (JFr y J J8) → (k) < f → am_K G X { frames := 6, cells := 0, slots := 0, locals := 129 } 1 Λ I8 J8 0 0 121 [(0, .ref y)] [] := by
                            intro f
                            induction f with
                            | zero => intro k I8 J8 e8 hP8 hK8 hE8 F8 G8 hf; exact absurd hf (Nat.not_lt_zero _)
                            | succ f ih121 =>
                              intro k I8 J8 e8 hP8 hK8 hE8 F8 G8 hf
                              refine k_aload_n C (f := 0) (i := 0) (p := 0) rfl rfl dX6_readText_121 ?_
                              refine k_getI C f_X6_184 (L6_s (by assumption)) (fun _ _ _ => rfl) (MP_17 hP8) dX6_readText_122 ?_
                              refine k_ifb_ne C (tgt := 145) (by decide) dX6_readText_125 (fun hc125 => ?_) (fun hc125 => ?_)
                              · skip
                                have hX8 : EE8 = e8 := by
                                  rw [← hE8]
                                  obtain ⟨x, hx9⟩ := sp_nok hc125
                                  rw [hx9, md_lp_e]
                                refine k_aload_n C (f := 0) (i := 0) (p := 0) rfl rfl dX6_readText_145 ?_
                                refine k_getI C f_X6_184 (L6_s (by assumption)) (fun _ _ _ => rfl) (MP_17 hP8) dX6_readText_146 ?_
                                refine k_ifb_ne C (tgt := 165) (by decide) dX6_readText_149 (fun hc149 => ?_) (fun hc149 => ?_)
                                · skip
                                  exact k_vret C (Nat.le_of_ble_eq_true rfl) (Nat.le_of_ble_eq_true rfl) (⟨rfl, by
                                    have hfin : md_read tb n (.ok s0) = md_fin e8 := by
                                      unfold md_read md_rd4
                                      rw [← he1, ← he2, ← he3, ← he4, ← hEE5, hX5, ← hEE6, hX6, ← hEE7, hX7, ← hEE8, hX8]
                                    first
                                    | (obtain ⟨x, hx9⟩ := sp_nok hc149
                                       refine ⟨rfl, ?_, F8, G8⟩
                                       rw [hfin, hx9]
                                       rw [hx9] at hP8
                                       exact hP8)
                                    | (have q : s9.1.1 = 0 := (nI_eq (b := 0) (by omega) (by decide)).mp hc156
                                       refine ⟨rfl, ?_, F8, G8⟩
                                       rw [hfin, hs9]
                                       rw [hs9] at hP8
                                       show MP _ _ y tb n (if s9.1.1 = 0 then (Except.ok s9 : Except Nat sp_S) else .error s9.1.2.1)
                                       rw [if_pos q]
                                       exact hP8)
                                    | (have q : ¬ s9.1.1 = 0 := fun z => hc156 (by rw [z]; rfl)
                                       refine ⟨rfl, ?_, F8.tr F9, G8.tr G9⟩
                                       rw [hfin, hs9]
                                       rw [sp_tk0, hs9] at hP9
                                       show MP _ _ y tb n (if s9.1.1 = 0 then (Except.ok s9 : Except Nat sp_S) else .error s9.1.2.1)
                                       rw [if_neg q]
                                       exact hP9)⟩) dX6_readText_165
                                · skip
                                  obtain ⟨s9, hs9⟩ := sp_ok_iff.mp (Decidable.byContradiction hc149)
                                  have hQ9 := hP8
                                  rw [hs9] at hQ9
                                  have m14 := hQ9.2.2.1.1
                                  have mb1 := hQ9.2.2.1.2.2.2.2.2.1
                                  refine k_aload_n C (f := 0) (i := 0) (p := 0) rfl rfl dX6_readText_152 ?_
                                  refine k_getI C f_X6_164 (L6_s (by assumption)) (fun _ _ _ => rfl) (m14) dX6_readText_153 ?_
                                  refine k_if_eq C (tgt := 165) (by decide) dX6_readText_156 (fun hc156 => ?_) (fun hc156 => ?_)
                                  · skip
                                    exact k_vret C (Nat.le_of_ble_eq_true rfl) (Nat.le_of_ble_eq_true rfl) (⟨rfl, by
                                      have hfin : md_read tb n (.ok s0) = md_fin e8 := by
                                        unfold md_read md_rd4
                                        rw [← he1, ← he2, ← he3, ← he4, ← hEE5, hX5, ← hEE6, hX6, ← hEE7, hX7, ← hEE8, hX8]
                                      first
                                      | (obtain ⟨x, hx9⟩ := sp_nok hc149
                                         refine ⟨rfl, ?_, F8, G8⟩
                                         rw [hfin, hx9]
                                         rw [hx9] at hP8
                                         exact hP8)
                                      | (have q : s9.1.1 = 0 := (nI_eq (b := 0) (by omega) (by decide)).mp hc156
                                         refine ⟨rfl, ?_, F8, G8⟩
                                         rw [hfin, hs9]
                                         rw [hs9] at hP8
                                         show MP _ _ y tb n (if s9.1.1 = 0 then (Except.ok s9 : Except Nat sp_S) else .error s9.1.2.1)
                                         rw [if_pos q]
                                         exact hP8)
                                      | (have q : ¬ s9.1.1 = 0 := fun z => hc156 (by rw [z]; rfl)
                                         refine ⟨rfl, ?_, F8.tr F9, G8.tr G9⟩
                                         rw [hfin, hs9]
                                         rw [sp_tk0, hs9] at hP9
                                         show MP _ _ y tb n (if s9.1.1 = 0 then (Except.ok s9 : Except Nat sp_S) else .error s9.1.2.1)
                                         rw [if_neg q]
                                         exact hP9)⟩) dX6_readText_165
                                  · skip
                                    refine k_aload_n C (f := 0) (i := 0) (p := 0) rfl rfl dX6_readText_159 ?_
                                    refine k_iconst C ic_0 dX6_readText_160 ?_
                                    refine k_callVj C s_X6_191 h_X6_takes (L6_s (by assumption)) rfl (ct_X6_takes hx (F8.txt ht) hP8) rfl rfl (Nat.le_of_ble_eq_true rfl) ⟨Nat.le_of_ble_eq_true rfl, Nat.le_of_ble_eq_true rfl⟩ ⟨Nat.le_of_ble_eq_true rfl, Nat.le_of_ble_eq_true rfl⟩ ⟨rfl, rfl⟩ dX6_readText_161 ?_
                                    intro v I9 J9 hv
                                    obtain ⟨rfl, hP9, F9, G9⟩ := hv
                                    refine k_pop C rfl dX6_readText_164 ?_
                                    exact k_vret C (Nat.le_of_ble_eq_true rfl) (Nat.le_of_ble_eq_true rfl) (⟨rfl, by
                                      have hfin : md_read tb n (.ok s0) = md_fin e8 := by
                                        unfold md_read md_rd4
                                        rw [← he1, ← he2, ← he3, ← he4, ← hEE5, hX5, ← hEE6, hX6, ← hEE7, hX7, ← hEE8, hX8]
                                      first
                                      | (obtain ⟨x, hx9⟩ := sp_nok hc149
                                         refine ⟨rfl, ?_, F8, G8⟩
                                         rw [hfin, hx9]
                                         rw [hx9] at hP8
                                         exact hP8)
                                      | (have q : s9.1.1 = 0 := (nI_eq (b := 0) (by omega) (by decide)).mp hc156
                                         refine ⟨rfl, ?_, F8, G8⟩
                                         rw [hfin, hs9]
                                         rw [hs9] at hP8
                                         show MP _ _ y tb n (if s9.1.1 = 0 then (Except.ok s9 : Except Nat sp_S) else .error s9.1.2.1)
                                         rw [if_pos q]
                                         exact hP8)
                                      | (have q : ¬ s9.1.1 = 0 := fun z => hc156 (by rw [z]; rfl)
                                         refine ⟨rfl, ?_, F8.tr F9, G8.tr G9⟩
                                         rw [hfin, hs9]
                                         rw [sp_tk0, hs9] at hP9
                                         show MP _ _ y tb n (if s9.1.1 = 0 then (Except.ok s9 : Except Nat sp_S) else .error s9.1.2.1)
                                         rw [if_neg q]
                                         exact hP9)⟩) dX6_readText_165
                              · skip
                                obtain ⟨s8, hs8⟩ := sp_ok_iff.mp (Decidable.byContradiction hc125)
                                have hQ8 := hP8
                                rw [hs8] at hQ8
                                have hB8 : sp_nl s8.2 ≤ 20 := hQ8.2.2.2.2.1.2.2.2.2
                                refine k_aload_n C (f := 0) (i := 0) (p := 0) rfl rfl dX6_readText_128 ?_
                                refine k_ldc2 C l_X6_227 dX6_readText_129 ?_
                                refine k_callVp C s_X6_197 h_X6_isWord (L6_s (by assumption)) rfl (ct_X6_isWord hx) rfl rfl (Nat.le_of_ble_eq_true rfl) ⟨Nat.le_of_ble_eq_true rfl, Nat.le_of_ble_eq_true rfl⟩ ⟨Nat.le_of_ble_eq_true rfl, Nat.le_of_ble_eq_true rfl⟩ ⟨rfl, rfl⟩ dX6_readText_132 ?_
                                refine k_ifb_eq C (tgt := 145) (by decide) dX6_readText_135 (fun hc135 => ?_) (fun hc135 => ?_)
                                · skip
                                  have hX8 : EE8 = e8 := by
                                    rw [← hE8, hs8, md_lp_n (fun z => hc135 (by
                                      have q := (MTok_isw (si := 5) hQ8.2.2.1 (by decide) (by decide)).mpr z
                                      exact ⟨q.1, q.2.trans (show md_own 5 = (247162 : Int64) by decide +kernel)⟩))]
                                  refine k_aload_n C (f := 0) (i := 0) (p := 0) rfl rfl dX6_readText_145 ?_
                                  refine k_getI C f_X6_184 (L6_s (by assumption)) (fun _ _ _ => rfl) (MP_17 hP8) dX6_readText_146 ?_
                                  refine k_ifb_ne C (tgt := 165) (by decide) dX6_readText_149 (fun hc149 => ?_) (fun hc149 => ?_)
                                  · skip
                                    exact k_vret C (Nat.le_of_ble_eq_true rfl) (Nat.le_of_ble_eq_true rfl) (⟨rfl, by
                                      have hfin : md_read tb n (.ok s0) = md_fin e8 := by
                                        unfold md_read md_rd4
                                        rw [← he1, ← he2, ← he3, ← he4, ← hEE5, hX5, ← hEE6, hX6, ← hEE7, hX7, ← hEE8, hX8]
                                      first
                                      | (obtain ⟨x, hx9⟩ := sp_nok hc149
                                         refine ⟨rfl, ?_, F8, G8⟩
                                         rw [hfin, hx9]
                                         rw [hx9] at hP8
                                         exact hP8)
                                      | (have q : s9.1.1 = 0 := (nI_eq (b := 0) (by omega) (by decide)).mp hc156
                                         refine ⟨rfl, ?_, F8, G8⟩
                                         rw [hfin, hs9]
                                         rw [hs9] at hP8
                                         show MP _ _ y tb n (if s9.1.1 = 0 then (Except.ok s9 : Except Nat sp_S) else .error s9.1.2.1)
                                         rw [if_pos q]
                                         exact hP8)
                                      | (have q : ¬ s9.1.1 = 0 := fun z => hc156 (by rw [z]; rfl)
                                         refine ⟨rfl, ?_, F8.tr F9, G8.tr G9⟩
                                         rw [hfin, hs9]
                                         rw [sp_tk0, hs9] at hP9
                                         show MP _ _ y tb n (if s9.1.1 = 0 then (Except.ok s9 : Except Nat sp_S) else .error s9.1.2.1)
                                         rw [if_neg q]
                                         exact hP9)⟩) dX6_readText_165
                                  · skip
                                    obtain ⟨s9, hs9⟩ := sp_ok_iff.mp (Decidable.byContradiction hc149)
                                    have hQ9 := hP8
                                    rw [hs9] at hQ9
                                    have m14 := hQ9.2.2.1.1
                                    have mb1 := hQ9.2.2.1.2.2.2.2.2.1
                                    refine k_aload_n C (f := 0) (i := 0) (p := 0) rfl rfl dX6_readText_152 ?_
                                    refine k_getI C f_X6_164 (L6_s (by assumption)) (fun _ _ _ => rfl) (m14) dX6_readText_153 ?_
                                    refine k_if_eq C (tgt := 165) (by decide) dX6_readText_156 (fun hc156 => ?_) (fun hc156 => ?_)
                                    · skip
                                      exact k_vret C (Nat.le_of_ble_eq_true rfl) (Nat.le_of_ble_eq_true rfl) (⟨rfl, by
                                        have hfin : md_read tb n (.ok s0) = md_fin e8 := by
                                          unfold md_read md_rd4
                                          rw [← he1, ← he2, ← he3, ← he4, ← hEE5, hX5, ← hEE6, hX6, ← hEE7, hX7, ← hEE8, hX8]
                                        first
                                        | (obtain ⟨x, hx9⟩ := sp_nok hc149
                                           refine ⟨rfl, ?_, F8, G8⟩
                                           rw [hfin, hx9]
                                           rw [hx9] at hP8
                                           exact hP8)
                                        | (have q : s9.1.1 = 0 := (nI_eq (b := 0) (by omega) (by decide)).mp hc156
                                           refine ⟨rfl, ?_, F8, G8⟩
                                           rw [hfin, hs9]
                                           rw [hs9] at hP8
                                           show MP _ _ y tb n (if s9.1.1 = 0 then (Except.ok s9 : Except Nat sp_S) else .error s9.1.2.1)
                                           rw [if_pos q]
                                           exact hP8)
                                        | (have q : ¬ s9.1.1 = 0 := fun z => hc156 (by rw [z]; rfl)
                                           refine ⟨rfl, ?_, F8.tr F9, G8.tr G9⟩
                                           rw [hfin, hs9]
                                           rw [sp_tk0, hs9] at hP9
                                           show MP _ _ y tb n (if s9.1.1 = 0 then (Except.ok s9 : Except Nat sp_S) else .error s9.1.2.1)
                                           rw [if_neg q]
                                           exact hP9)⟩) dX6_readText_165
                                    · skip
                                      refine k_aload_n C (f := 0) (i := 0) (p := 0) rfl rfl dX6_readText_159 ?_
                                      refine k_iconst C ic_0 dX6_readText_160 ?_
                                      refine k_callVj C s_X6_191 h_X6_takes (L6_s (by assumption)) rfl (ct_X6_takes hx (F8.txt ht) hP8) rfl rfl (Nat.le_of_ble_eq_true rfl) ⟨Nat.le_of_ble_eq_true rfl, Nat.le_of_ble_eq_true rfl⟩ ⟨Nat.le_of_ble_eq_true rfl, Nat.le_of_ble_eq_true rfl⟩ ⟨rfl, rfl⟩ dX6_readText_161 ?_
                                      intro v I9 J9 hv
                                      obtain ⟨rfl, hP9, F9, G9⟩ := hv
                                      refine k_pop C rfl dX6_readText_164 ?_
                                      exact k_vret C (Nat.le_of_ble_eq_true rfl) (Nat.le_of_ble_eq_true rfl) (⟨rfl, by
                                        have hfin : md_read tb n (.ok s0) = md_fin e8 := by
                                          unfold md_read md_rd4
                                          rw [← he1, ← he2, ← he3, ← he4, ← hEE5, hX5, ← hEE6, hX6, ← hEE7, hX7, ← hEE8, hX8]
                                        first
                                        | (obtain ⟨x, hx9⟩ := sp_nok hc149
                                           refine ⟨rfl, ?_, F8, G8⟩
                                           rw [hfin, hx9]
                                           rw [hx9] at hP8
                                           exact hP8)
                                        | (have q : s9.1.1 = 0 := (nI_eq (b := 0) (by omega) (by decide)).mp hc156
                                           refine ⟨rfl, ?_, F8, G8⟩
                                           rw [hfin, hs9]
                                           rw [hs9] at hP8
                                           show MP _ _ y tb n (if s9.1.1 = 0 then (Except.ok s9 : Except Nat sp_S) else .error s9.1.2.1)
                                           rw [if_pos q]
                                           exact hP8)
                                        | (have q : ¬ s9.1.1 = 0 := fun z => hc156 (by rw [z]; rfl)
                                           refine ⟨rfl, ?_, F8.tr F9, G8.tr G9⟩
                                           rw [hfin, hs9]
                                           rw [sp_tk0, hs9] at hP9
                                           show MP _ _ y tb n (if s9.1.1 = 0 then (Except.ok s9 : Except Nat sp_S) else .error s9.1.2.1)
                                           rw [if_neg q]
                                           exact hP9)⟩) dX6_readText_165
                                · skip
                                  have hw8 : sp_isw tb s8.1 5 = true := (MTok_isw hQ8.2.2.1 (by decide) (by decide)).mp ⟨hc135.1, hc135.2.trans (show (247162 : Int64) = md_own 5 by decide +kernel)⟩
                                  refine k_aload_n C (f := 0) (i := 0) (p := 0) rfl rfl dX6_readText_138 ?_
                                  refine k_callVj C s_X6_229 h_X6_readLoad (L6_s (by assumption)) rfl (ct_X6_readLoad hx (F8.txt ht) hP8) rfl rfl (Nat.le_of_ble_eq_true rfl) ⟨Nat.le_of_ble_eq_true rfl, Nat.le_of_ble_eq_true rfl⟩ ⟨Nat.le_of_ble_eq_true rfl, Nat.le_of_ble_eq_true rfl⟩ ⟨rfl, rfl⟩ dX6_readText_139 ?_
                                  intro v I8' J8' hv
                                  obtain ⟨rfl, hP8', F8', G8'⟩ := hv
                                  have F8' := F8.tr F8'
                                  have G8' := G8.tr G8'
                                  refine k_goto C (tgt := 121) (by decide) dX6_readText_142 ?_
                                  refine k_sub [0] rfl ?_
                                  obtain ⟨k0, rfl⟩ : ∃ k0, k = k0 + 1 := ⟨k - 1, by omega⟩
                                  rw [hs8] at hE8 hK8 hP8'
                                  exact ih121 k0 I8' J8' _ hP8' (by
                                    have z := hK8.2 s8 rfl
                                    have zb := hB8
                                    refine ⟨by omega, fun s' hs' => ?_⟩
                                    by_cases c : md_pl s8 = true
                                    · replace hs' : sp_bd (md_gt md_pl (.ok s8)) (sp_rLoad tb n) = .ok s' := hs'
                                      rw [md_gt_t c] at hs'
                                      have c2 := ((md_Cl tb n).1 s8 hw8).mp c
                                      have c3 : sp_nl s'.2 = sp_nl s8.2 + 1 := (md_Cl tb n).2 s8 s' c2 hs'
                                      omega
                                    · replace hs' : sp_bd (md_gt md_pl (.ok s8)) (sp_rLoad tb n) = .ok s' := hs'
                                      rw [md_gt_f c] at hs'; cases hs') (by rw [md_lp_y hw8] at hE8; exact hE8) F8' G8' (by omega)
                          refine k_sub [0] rfl ?_
                          exact loop121 23 22 I7 J7 e7 hP7 ⟨by decide, fun s _ => by omega⟩ hEE8.symm F7 G7 (by decide)
                        · skip
                          have hw7 : sp_isw tb s7.1 4 = true := (MTok_isw hQ7.2.2.1 (by decide) (by decide)).mp ⟨hc111.1, hc111.2.trans (show (10502473 : Int64) = md_own 4 by decide +kernel)⟩
                          refine k_aload_n C (f := 0) (i := 0) (p := 0) rfl rfl dX6_readText_114 ?_
                          refine k_callVj C s_X6_224 h_X6_readStorm (L6_s (by assumption)) rfl (ct_X6_readStorm hx (F7.txt ht) hP7) rfl rfl (Nat.le_of_ble_eq_true rfl) ⟨Nat.le_of_ble_eq_true rfl, Nat.le_of_ble_eq_true rfl⟩ ⟨Nat.le_of_ble_eq_true rfl, Nat.le_of_ble_eq_true rfl⟩ ⟨rfl, rfl⟩ dX6_readText_115 ?_
                          intro v I7' J7' hv
                          obtain ⟨rfl, hP7', F7', G7'⟩ := hv
                          have F7' := F7.tr F7'
                          have G7' := G7.tr G7'
                          refine k_goto C (tgt := 97) (by decide) dX6_readText_118 ?_
                          refine k_sub [0] rfl ?_
                          obtain ⟨k0, rfl⟩ : ∃ k0, k = k0 + 1 := ⟨k - 1, by omega⟩
                          rw [hs7] at hE7 hK7 hP7'
                          exact ih97 k0 I7' J7' _ hP7' (by
                            have z := hK7.2 s7 rfl
                            have zb := hB7
                            refine ⟨by omega, fun s' hs' => ?_⟩
                            by_cases c : md_ps s7 = true
                            · replace hs' : sp_bd (md_gt md_ps (.ok s7)) (sp_rStorm tb n) = .ok s' := hs'
                              rw [md_gt_t c] at hs'
                              have c2 := ((md_Cs tb n).1 s7 hw7).mp c
                              have c3 : sp_ns s'.2 = sp_ns s7.2 + 1 := (md_Cs tb n).2 s7 s' c2 hs'
                              omega
                            · replace hs' : sp_bd (md_gt md_ps (.ok s7)) (sp_rStorm tb n) = .ok s' := hs'
                              rw [md_gt_f c] at hs'; cases hs') (by rw [md_lp_y hw7] at hE7; exact hE7) F7' G7' (by omega)
                  refine k_sub [0] rfl ?_
                  exact loop97 9 8 I6 J6 e6 hP6 ⟨by decide, fun s _ => by omega⟩ hEE7.symm F6 G6 (by decide)
                · skip
                  obtain ⟨s6, hs6⟩ := sp_ok_iff.mp (Decidable.byContradiction hc77)
                  have hQ6 := hP6
                  rw [hs6] at hQ6
                  have hB6 : sp_nw s6.2 ≤ 8 := hQ6.2.2.2.2.1.2.2.1
                  refine k_aload_n C (f := 0) (i := 0) (p := 0) rfl rfl dX6_readText_80 ?_
                  refine k_ldc2 C l_X6_217 dX6_readText_81 ?_
                  refine k_callVp C s_X6_197 h_X6_isWord (L6_s (by assumption)) rfl (ct_X6_isWord hx) rfl rfl (Nat.le_of_ble_eq_true rfl) ⟨Nat.le_of_ble_eq_true rfl, Nat.le_of_ble_eq_true rfl⟩ ⟨Nat.le_of_ble_eq_true rfl, Nat.le_of_ble_eq_true rfl⟩ ⟨rfl, rfl⟩ dX6_readText_84 ?_
                  refine k_ifb_eq C (tgt := 97) (by decide) dX6_readText_87 (fun hc87 => ?_) (fun hc87 => ?_)
                  · skip
                    have hX6 : EE6 = e6 := by
                      rw [← hE6, hs6, md_lp_n (fun z => hc87 (by
                        have q := (MTok_isw (si := 3) hQ6.2.2.1 (by decide) (by decide)).mpr z
                        exact ⟨q.1, q.2.trans (show md_own 3 = (456690 : Int64) by decide +kernel)⟩))]
                    obtain ⟨EE7, hEE7⟩ : ∃ z : Except Nat sp_S, z = md_lp tb 4 md_ps (sp_rStorm tb n) 8 e6 := ⟨_, rfl⟩
                    have loop97 : ∀ (f : Nat) (k : Nat) (I7 : am_I) (J7 : am_J) (e7 : Except Nat sp_S), (MP I7 J7 y tb n e7) → (1 ≤ k ∧ ∀ s : sp_S, e7 = .ok s → 8 ≤ k + sp_ns s.2) → (md_lp tb 4 md_ps (sp_rStorm tb n) k e7 = EE7) → (MPf y I I7) → (JFr y J J7) → (k) < f → am_K G X { frames := 6, cells := 0, slots := 0, locals := 129 } 1 Λ I7 J7 0 0 97 [(0, .ref y)] [] := by
                      intro f
                      induction f with
                      | zero => intro k I7 J7 e7 hP7 hK7 hE7 F7 G7 hf; exact absurd hf (Nat.not_lt_zero _)
                      | succ f ih97 =>
                        intro k I7 J7 e7 hP7 hK7 hE7 F7 G7 hf
                        refine k_aload_n C (f := 0) (i := 0) (p := 0) rfl rfl dX6_readText_97 ?_
                        refine k_getI C f_X6_184 (L6_s (by assumption)) (fun _ _ _ => rfl) (MP_17 hP7) dX6_readText_98 ?_
                        refine k_ifb_ne C (tgt := 121) (by decide) dX6_readText_101 (fun hc101 => ?_) (fun hc101 => ?_)
                        · skip
                          have hX7 : EE7 = e7 := by
                            rw [← hE7]
                            obtain ⟨x, hx9⟩ := sp_nok hc101
                            rw [hx9, md_lp_e]
                          obtain ⟨EE8, hEE8⟩ : ∃ z : Except Nat sp_S, z = md_lp tb 5 md_pl (sp_rLoad tb n) 22 e7 := ⟨_, rfl⟩
                          have loop121 : ∀ (f : Nat) (k : Nat) (I8 : am_I) (J8 : am_J) (e8 : Except Nat sp_S), (MP I8 J8 y tb n e8) → (1 ≤ k ∧ ∀ s : sp_S, e8 = .ok s → 22 ≤ k + sp_nl s.2) → (md_lp tb 5 md_pl (sp_rLoad tb n) k e8 = EE8) → (MPf y I I8) → (JFr y J J8) → (k) < f → am_K G X { frames := 6, cells := 0, slots := 0, locals := 129 } 1 Λ I8 J8 0 0 121 [(0, .ref y)] [] := by
                            intro f
                            induction f with
                            | zero => intro k I8 J8 e8 hP8 hK8 hE8 F8 G8 hf; exact absurd hf (Nat.not_lt_zero _)
                            | succ f ih121 =>
                              intro k I8 J8 e8 hP8 hK8 hE8 F8 G8 hf
                              refine k_aload_n C (f := 0) (i := 0) (p := 0) rfl rfl dX6_readText_121 ?_
                              refine k_getI C f_X6_184 (L6_s (by assumption)) (fun _ _ _ => rfl) (MP_17 hP8) dX6_readText_122 ?_
                              refine k_ifb_ne C (tgt := 145) (by decide) dX6_readText_125 (fun hc125 => ?_) (fun hc125 => ?_)
                              · skip
                                have hX8 : EE8 = e8 := by
                                  rw [← hE8]
                                  obtain ⟨x, hx9⟩ := sp_nok hc125
                                  rw [hx9, md_lp_e]
                                refine k_aload_n C (f := 0) (i := 0) (p := 0) rfl rfl dX6_readText_145 ?_
                                refine k_getI C f_X6_184 (L6_s (by assumption)) (fun _ _ _ => rfl) (MP_17 hP8) dX6_readText_146 ?_
                                refine k_ifb_ne C (tgt := 165) (by decide) dX6_readText_149 (fun hc149 => ?_) (fun hc149 => ?_)
                                · skip
                                  exact k_vret C (Nat.le_of_ble_eq_true rfl) (Nat.le_of_ble_eq_true rfl) (⟨rfl, by
                                    have hfin : md_read tb n (.ok s0) = md_fin e8 := by
                                      unfold md_read md_rd4
                                      rw [← he1, ← he2, ← he3, ← he4, ← hEE5, hX5, ← hEE6, hX6, ← hEE7, hX7, ← hEE8, hX8]
                                    first
                                    | (obtain ⟨x, hx9⟩ := sp_nok hc149
                                       refine ⟨rfl, ?_, F8, G8⟩
                                       rw [hfin, hx9]
                                       rw [hx9] at hP8
                                       exact hP8)
                                    | (have q : s9.1.1 = 0 := (nI_eq (b := 0) (by omega) (by decide)).mp hc156
                                       refine ⟨rfl, ?_, F8, G8⟩
                                       rw [hfin, hs9]
                                       rw [hs9] at hP8
                                       show MP _ _ y tb n (if s9.1.1 = 0 then (Except.ok s9 : Except Nat sp_S) else .error s9.1.2.1)
                                       rw [if_pos q]
                                       exact hP8)
                                    | (have q : ¬ s9.1.1 = 0 := fun z => hc156 (by rw [z]; rfl)
                                       refine ⟨rfl, ?_, F8.tr F9, G8.tr G9⟩
                                       rw [hfin, hs9]
                                       rw [sp_tk0, hs9] at hP9
                                       show MP _ _ y tb n (if s9.1.1 = 0 then (Except.ok s9 : Except Nat sp_S) else .error s9.1.2.1)
                                       rw [if_neg q]
                                       exact hP9)⟩) dX6_readText_165
                                · skip
                                  obtain ⟨s9, hs9⟩ := sp_ok_iff.mp (Decidable.byContradiction hc149)
                                  have hQ9 := hP8
                                  rw [hs9] at hQ9
                                  have m14 := hQ9.2.2.1.1
                                  have mb1 := hQ9.2.2.1.2.2.2.2.2.1
                                  refine k_aload_n C (f := 0) (i := 0) (p := 0) rfl rfl dX6_readText_152 ?_
                                  refine k_getI C f_X6_164 (L6_s (by assumption)) (fun _ _ _ => rfl) (m14) dX6_readText_153 ?_
                                  refine k_if_eq C (tgt := 165) (by decide) dX6_readText_156 (fun hc156 => ?_) (fun hc156 => ?_)
                                  · skip
                                    exact k_vret C (Nat.le_of_ble_eq_true rfl) (Nat.le_of_ble_eq_true rfl) (⟨rfl, by
                                      have hfin : md_read tb n (.ok s0) = md_fin e8 := by
                                        unfold md_read md_rd4
                                        rw [← he1, ← he2, ← he3, ← he4, ← hEE5, hX5, ← hEE6, hX6, ← hEE7, hX7, ← hEE8, hX8]
                                      first
                                      | (obtain ⟨x, hx9⟩ := sp_nok hc149
                                         refine ⟨rfl, ?_, F8, G8⟩
                                         rw [hfin, hx9]
                                         rw [hx9] at hP8
                                         exact hP8)
                                      | (have q : s9.1.1 = 0 := (nI_eq (b := 0) (by omega) (by decide)).mp hc156
                                         refine ⟨rfl, ?_, F8, G8⟩
                                         rw [hfin, hs9]
                                         rw [hs9] at hP8
                                         show MP _ _ y tb n (if s9.1.1 = 0 then (Except.ok s9 : Except Nat sp_S) else .error s9.1.2.1)
                                         rw [if_pos q]
                                         exact hP8)
                                      | (have q : ¬ s9.1.1 = 0 := fun z => hc156 (by rw [z]; rfl)
                                         refine ⟨rfl, ?_, F8.tr F9, G8.tr G9⟩
                                         rw [hfin, hs9]
                                         rw [sp_tk0, hs9] at hP9
                                         show MP _ _ y tb n (if s9.1.1 = 0 then (Except.ok s9 : Except Nat sp_S) else .error s9.1.2.1)
                                         rw [if_neg q]
                                         exact hP9)⟩) dX6_readText_165
                                  · skip
                                    refine k_aload_n C (f := 0) (i := 0) (p := 0) rfl rfl dX6_readText_159 ?_
                                    refine k_iconst C ic_0 dX6_readText_160 ?_
                                    refine k_callVj C s_X6_191 h_X6_takes (L6_s (by assumption)) rfl (ct_X6_takes hx (F8.txt ht) hP8) rfl rfl (Nat.le_of_ble_eq_true rfl) ⟨Nat.le_of_ble_eq_true rfl, Nat.le_of_ble_eq_true rfl⟩ ⟨Nat.le_of_ble_eq_true rfl, Nat.le_of_ble_eq_true rfl⟩ ⟨rfl, rfl⟩ dX6_readText_161 ?_
                                    intro v I9 J9 hv
                                    obtain ⟨rfl, hP9, F9, G9⟩ := hv
                                    refine k_pop C rfl dX6_readText_164 ?_
                                    exact k_vret C (Nat.le_of_ble_eq_true rfl) (Nat.le_of_ble_eq_true rfl) (⟨rfl, by
                                      have hfin : md_read tb n (.ok s0) = md_fin e8 := by
                                        unfold md_read md_rd4
                                        rw [← he1, ← he2, ← he3, ← he4, ← hEE5, hX5, ← hEE6, hX6, ← hEE7, hX7, ← hEE8, hX8]
                                      first
                                      | (obtain ⟨x, hx9⟩ := sp_nok hc149
                                         refine ⟨rfl, ?_, F8, G8⟩
                                         rw [hfin, hx9]
                                         rw [hx9] at hP8
                                         exact hP8)
                                      | (have q : s9.1.1 = 0 := (nI_eq (b := 0) (by omega) (by decide)).mp hc156
                                         refine ⟨rfl, ?_, F8, G8⟩
                                         rw [hfin, hs9]
                                         rw [hs9] at hP8
                                         show MP _ _ y tb n (if s9.1.1 = 0 then (Except.ok s9 : Except Nat sp_S) else .error s9.1.2.1)
                                         rw [if_pos q]
                                         exact hP8)
                                      | (have q : ¬ s9.1.1 = 0 := fun z => hc156 (by rw [z]; rfl)
                                         refine ⟨rfl, ?_, F8.tr F9, G8.tr G9⟩
                                         rw [hfin, hs9]
                                         rw [sp_tk0, hs9] at hP9
                                         show MP _ _ y tb n (if s9.1.1 = 0 then (Except.ok s9 : Except Nat sp_S) else .error s9.1.2.1)
                                         rw [if_neg q]
                                         exact hP9)⟩) dX6_readText_165
                              · skip
                                obtain ⟨s8, hs8⟩ := sp_ok_iff.mp (Decidable.byContradiction hc125)
                                have hQ8 := hP8
                                rw [hs8] at hQ8
                                have hB8 : sp_nl s8.2 ≤ 20 := hQ8.2.2.2.2.1.2.2.2.2
                                refine k_aload_n C (f := 0) (i := 0) (p := 0) rfl rfl dX6_readText_128 ?_
                                refine k_ldc2 C l_X6_227 dX6_readText_129 ?_
                                refine k_callVp C s_X6_197 h_X6_isWord (L6_s (by assumption)) rfl (ct_X6_isWord hx) rfl rfl (Nat.le_of_ble_eq_true rfl) ⟨Nat.le_of_ble_eq_true rfl, Nat.le_of_ble_eq_true rfl⟩ ⟨Nat.le_of_ble_eq_true rfl, Nat.le_of_ble_eq_true rfl⟩ ⟨rfl, rfl⟩ dX6_readText_132 ?_
                                refine k_ifb_eq C (tgt := 145) (by decide) dX6_readText_135 (fun hc135 => ?_) (fun hc135 => ?_)
                                · skip
                                  have hX8 : EE8 = e8 := by
                                    rw [← hE8, hs8, md_lp_n (fun z => hc135 (by
                                      have q := (MTok_isw (si := 5) hQ8.2.2.1 (by decide) (by decide)).mpr z
                                      exact ⟨q.1, q.2.trans (show md_own 5 = (247162 : Int64) by decide +kernel)⟩))]
                                  refine k_aload_n C (f := 0) (i := 0) (p := 0) rfl rfl dX6_readText_145 ?_
                                  refine k_getI C f_X6_184 (L6_s (by assumption)) (fun _ _ _ => rfl) (MP_17 hP8) dX6_readText_146 ?_
                                  refine k_ifb_ne C (tgt := 165) (by decide) dX6_readText_149 (fun hc149 => ?_) (fun hc149 => ?_)
                                  · skip
                                    exact k_vret C (Nat.le_of_ble_eq_true rfl) (Nat.le_of_ble_eq_true rfl) (⟨rfl, by
                                      have hfin : md_read tb n (.ok s0) = md_fin e8 := by
                                        unfold md_read md_rd4
                                        rw [← he1, ← he2, ← he3, ← he4, ← hEE5, hX5, ← hEE6, hX6, ← hEE7, hX7, ← hEE8, hX8]
                                      first
                                      | (obtain ⟨x, hx9⟩ := sp_nok hc149
                                         refine ⟨rfl, ?_, F8, G8⟩
                                         rw [hfin, hx9]
                                         rw [hx9] at hP8
                                         exact hP8)
                                      | (have q : s9.1.1 = 0 := (nI_eq (b := 0) (by omega) (by decide)).mp hc156
                                         refine ⟨rfl, ?_, F8, G8⟩
                                         rw [hfin, hs9]
                                         rw [hs9] at hP8
                                         show MP _ _ y tb n (if s9.1.1 = 0 then (Except.ok s9 : Except Nat sp_S) else .error s9.1.2.1)
                                         rw [if_pos q]
                                         exact hP8)
                                      | (have q : ¬ s9.1.1 = 0 := fun z => hc156 (by rw [z]; rfl)
                                         refine ⟨rfl, ?_, F8.tr F9, G8.tr G9⟩
                                         rw [hfin, hs9]
                                         rw [sp_tk0, hs9] at hP9
                                         show MP _ _ y tb n (if s9.1.1 = 0 then (Except.ok s9 : Except Nat sp_S) else .error s9.1.2.1)
                                         rw [if_neg q]
                                         exact hP9)⟩) dX6_readText_165
                                  · skip
                                    obtain ⟨s9, hs9⟩ := sp_ok_iff.mp (Decidable.byContradiction hc149)
                                    have hQ9 := hP8
                                    rw [hs9] at hQ9
                                    have m14 := hQ9.2.2.1.1
                                    have mb1 := hQ9.2.2.1.2.2.2.2.2.1
                                    refine k_aload_n C (f := 0) (i := 0) (p := 0) rfl rfl dX6_readText_152 ?_
                                    refine k_getI C f_X6_164 (L6_s (by assumption)) (fun _ _ _ => rfl) (m14) dX6_readText_153 ?_
                                    refine k_if_eq C (tgt := 165) (by decide) dX6_readText_156 (fun hc156 => ?_) (fun hc156 => ?_)
                                    · skip
                                      exact k_vret C (Nat.le_of_ble_eq_true rfl) (Nat.le_of_ble_eq_true rfl) (⟨rfl, by
                                        have hfin : md_read tb n (.ok s0) = md_fin e8 := by
                                          unfold md_read md_rd4
                                          rw [← he1, ← he2, ← he3, ← he4, ← hEE5, hX5, ← hEE6, hX6, ← hEE7, hX7, ← hEE8, hX8]
                                        first
                                        | (obtain ⟨x, hx9⟩ := sp_nok hc149
                                           refine ⟨rfl, ?_, F8, G8⟩
                                           rw [hfin, hx9]
                                           rw [hx9] at hP8
                                           exact hP8)
                                        | (have q : s9.1.1 = 0 := (nI_eq (b := 0) (by omega) (by decide)).mp hc156
                                           refine ⟨rfl, ?_, F8, G8⟩
                                           rw [hfin, hs9]
                                           rw [hs9] at hP8
                                           show MP _ _ y tb n (if s9.1.1 = 0 then (Except.ok s9 : Except Nat sp_S) else .error s9.1.2.1)
                                           rw [if_pos q]
                                           exact hP8)
                                        | (have q : ¬ s9.1.1 = 0 := fun z => hc156 (by rw [z]; rfl)
                                           refine ⟨rfl, ?_, F8.tr F9, G8.tr G9⟩
                                           rw [hfin, hs9]
                                           rw [sp_tk0, hs9] at hP9
                                           show MP _ _ y tb n (if s9.1.1 = 0 then (Except.ok s9 : Except Nat sp_S) else .error s9.1.2.1)
                                           rw [if_neg q]
                                           exact hP9)⟩) dX6_readText_165
                                    · skip
                                      refine k_aload_n C (f := 0) (i := 0) (p := 0) rfl rfl dX6_readText_159 ?_
                                      refine k_iconst C ic_0 dX6_readText_160 ?_
                                      refine k_callVj C s_X6_191 h_X6_takes (L6_s (by assumption)) rfl (ct_X6_takes hx (F8.txt ht) hP8) rfl rfl (Nat.le_of_ble_eq_true rfl) ⟨Nat.le_of_ble_eq_true rfl, Nat.le_of_ble_eq_true rfl⟩ ⟨Nat.le_of_ble_eq_true rfl, Nat.le_of_ble_eq_true rfl⟩ ⟨rfl, rfl⟩ dX6_readText_161 ?_
                                      intro v I9 J9 hv
                                      obtain ⟨rfl, hP9, F9, G9⟩ := hv
                                      refine k_pop C rfl dX6_readText_164 ?_
                                      exact k_vret C (Nat.le_of_ble_eq_true rfl) (Nat.le_of_ble_eq_true rfl) (⟨rfl, by
                                        have hfin : md_read tb n (.ok s0) = md_fin e8 := by
                                          unfold md_read md_rd4
                                          rw [← he1, ← he2, ← he3, ← he4, ← hEE5, hX5, ← hEE6, hX6, ← hEE7, hX7, ← hEE8, hX8]
                                        first
                                        | (obtain ⟨x, hx9⟩ := sp_nok hc149
                                           refine ⟨rfl, ?_, F8, G8⟩
                                           rw [hfin, hx9]
                                           rw [hx9] at hP8
                                           exact hP8)
                                        | (have q : s9.1.1 = 0 := (nI_eq (b := 0) (by omega) (by decide)).mp hc156
                                           refine ⟨rfl, ?_, F8, G8⟩
                                           rw [hfin, hs9]
                                           rw [hs9] at hP8
                                           show MP _ _ y tb n (if s9.1.1 = 0 then (Except.ok s9 : Except Nat sp_S) else .error s9.1.2.1)
                                           rw [if_pos q]
                                           exact hP8)
                                        | (have q : ¬ s9.1.1 = 0 := fun z => hc156 (by rw [z]; rfl)
                                           refine ⟨rfl, ?_, F8.tr F9, G8.tr G9⟩
                                           rw [hfin, hs9]
                                           rw [sp_tk0, hs9] at hP9
                                           show MP _ _ y tb n (if s9.1.1 = 0 then (Except.ok s9 : Except Nat sp_S) else .error s9.1.2.1)
                                           rw [if_neg q]
                                           exact hP9)⟩) dX6_readText_165
                                · skip
                                  have hw8 : sp_isw tb s8.1 5 = true := (MTok_isw hQ8.2.2.1 (by decide) (by decide)).mp ⟨hc135.1, hc135.2.trans (show (247162 : Int64) = md_own 5 by decide +kernel)⟩
                                  refine k_aload_n C (f := 0) (i := 0) (p := 0) rfl rfl dX6_readText_138 ?_
                                  refine k_callVj C s_X6_229 h_X6_readLoad (L6_s (by assumption)) rfl (ct_X6_readLoad hx (F8.txt ht) hP8) rfl rfl (Nat.le_of_ble_eq_true rfl) ⟨Nat.le_of_ble_eq_true rfl, Nat.le_of_ble_eq_true rfl⟩ ⟨Nat.le_of_ble_eq_true rfl, Nat.le_of_ble_eq_true rfl⟩ ⟨rfl, rfl⟩ dX6_readText_139 ?_
                                  intro v I8' J8' hv
                                  obtain ⟨rfl, hP8', F8', G8'⟩ := hv
                                  have F8' := F8.tr F8'
                                  have G8' := G8.tr G8'
                                  refine k_goto C (tgt := 121) (by decide) dX6_readText_142 ?_
                                  refine k_sub [0] rfl ?_
                                  obtain ⟨k0, rfl⟩ : ∃ k0, k = k0 + 1 := ⟨k - 1, by omega⟩
                                  rw [hs8] at hE8 hK8 hP8'
                                  exact ih121 k0 I8' J8' _ hP8' (by
                                    have z := hK8.2 s8 rfl
                                    have zb := hB8
                                    refine ⟨by omega, fun s' hs' => ?_⟩
                                    by_cases c : md_pl s8 = true
                                    · replace hs' : sp_bd (md_gt md_pl (.ok s8)) (sp_rLoad tb n) = .ok s' := hs'
                                      rw [md_gt_t c] at hs'
                                      have c2 := ((md_Cl tb n).1 s8 hw8).mp c
                                      have c3 : sp_nl s'.2 = sp_nl s8.2 + 1 := (md_Cl tb n).2 s8 s' c2 hs'
                                      omega
                                    · replace hs' : sp_bd (md_gt md_pl (.ok s8)) (sp_rLoad tb n) = .ok s' := hs'
                                      rw [md_gt_f c] at hs'; cases hs') (by rw [md_lp_y hw8] at hE8; exact hE8) F8' G8' (by omega)
                          refine k_sub [0] rfl ?_
                          exact loop121 23 22 I7 J7 e7 hP7 ⟨by decide, fun s _ => by omega⟩ hEE8.symm F7 G7 (by decide)
                        · skip
                          obtain ⟨s7, hs7⟩ := sp_ok_iff.mp (Decidable.byContradiction hc101)
                          have hQ7 := hP7
                          rw [hs7] at hQ7
                          have hB7 : sp_ns s7.2 ≤ 6 := hQ7.2.2.2.2.1.2.2.2.1
                          refine k_aload_n C (f := 0) (i := 0) (p := 0) rfl rfl dX6_readText_104 ?_
                          refine k_ldc2 C l_X6_222 dX6_readText_105 ?_
                          refine k_callVp C s_X6_197 h_X6_isWord (L6_s (by assumption)) rfl (ct_X6_isWord hx) rfl rfl (Nat.le_of_ble_eq_true rfl) ⟨Nat.le_of_ble_eq_true rfl, Nat.le_of_ble_eq_true rfl⟩ ⟨Nat.le_of_ble_eq_true rfl, Nat.le_of_ble_eq_true rfl⟩ ⟨rfl, rfl⟩ dX6_readText_108 ?_
                          refine k_ifb_eq C (tgt := 121) (by decide) dX6_readText_111 (fun hc111 => ?_) (fun hc111 => ?_)
                          · skip
                            have hX7 : EE7 = e7 := by
                              rw [← hE7, hs7, md_lp_n (fun z => hc111 (by
                                have q := (MTok_isw (si := 4) hQ7.2.2.1 (by decide) (by decide)).mpr z
                                exact ⟨q.1, q.2.trans (show md_own 4 = (10502473 : Int64) by decide +kernel)⟩))]
                            obtain ⟨EE8, hEE8⟩ : ∃ z : Except Nat sp_S, z = md_lp tb 5 md_pl (sp_rLoad tb n) 22 e7 := ⟨_, rfl⟩
                            have loop121 : ∀ (f : Nat) (k : Nat) (I8 : am_I) (J8 : am_J) (e8 : Except Nat sp_S), (MP I8 J8 y tb n e8) → (1 ≤ k ∧ ∀ s : sp_S, e8 = .ok s → 22 ≤ k + sp_nl s.2) → (md_lp tb 5 md_pl (sp_rLoad tb n) k e8 = EE8) → (MPf y I I8) → (JFr y J J8) → (k) < f → am_K G X { frames := 6, cells := 0, slots := 0, locals := 129 } 1 Λ I8 J8 0 0 121 [(0, .ref y)] [] := by
                              intro f
                              induction f with
                              | zero => intro k I8 J8 e8 hP8 hK8 hE8 F8 G8 hf; exact absurd hf (Nat.not_lt_zero _)
                              | succ f ih121 =>
                                intro k I8 J8 e8 hP8 hK8 hE8 F8 G8 hf
                                refine k_aload_n C (f := 0) (i := 0) (p := 0) rfl rfl dX6_readText_121 ?_
                                refine k_getI C f_X6_184 (L6_s (by assumption)) (fun _ _ _ => rfl) (MP_17 hP8) dX6_readText_122 ?_
                                refine k_ifb_ne C (tgt := 145) (by decide) dX6_readText_125 (fun hc125 => ?_) (fun hc125 => ?_)
                                · skip
                                  have hX8 : EE8 = e8 := by
                                    rw [← hE8]
                                    obtain ⟨x, hx9⟩ := sp_nok hc125
                                    rw [hx9, md_lp_e]
                                  refine k_aload_n C (f := 0) (i := 0) (p := 0) rfl rfl dX6_readText_145 ?_
                                  refine k_getI C f_X6_184 (L6_s (by assumption)) (fun _ _ _ => rfl) (MP_17 hP8) dX6_readText_146 ?_
                                  refine k_ifb_ne C (tgt := 165) (by decide) dX6_readText_149 (fun hc149 => ?_) (fun hc149 => ?_)
                                  · skip
                                    exact k_vret C (Nat.le_of_ble_eq_true rfl) (Nat.le_of_ble_eq_true rfl) (⟨rfl, by
                                      have hfin : md_read tb n (.ok s0) = md_fin e8 := by
                                        unfold md_read md_rd4
                                        rw [← he1, ← he2, ← he3, ← he4, ← hEE5, hX5, ← hEE6, hX6, ← hEE7, hX7, ← hEE8, hX8]
                                      first
                                      | (obtain ⟨x, hx9⟩ := sp_nok hc149
                                         refine ⟨rfl, ?_, F8, G8⟩
                                         rw [hfin, hx9]
                                         rw [hx9] at hP8
                                         exact hP8)
                                      | (have q : s9.1.1 = 0 := (nI_eq (b := 0) (by omega) (by decide)).mp hc156
                                         refine ⟨rfl, ?_, F8, G8⟩
                                         rw [hfin, hs9]
                                         rw [hs9] at hP8
                                         show MP _ _ y tb n (if s9.1.1 = 0 then (Except.ok s9 : Except Nat sp_S) else .error s9.1.2.1)
                                         rw [if_pos q]
                                         exact hP8)
                                      | (have q : ¬ s9.1.1 = 0 := fun z => hc156 (by rw [z]; rfl)
                                         refine ⟨rfl, ?_, F8.tr F9, G8.tr G9⟩
                                         rw [hfin, hs9]
                                         rw [sp_tk0, hs9] at hP9
                                         show MP _ _ y tb n (if s9.1.1 = 0 then (Except.ok s9 : Except Nat sp_S) else .error s9.1.2.1)
                                         rw [if_neg q]
                                         exact hP9)⟩) dX6_readText_165
                                  · skip
                                    obtain ⟨s9, hs9⟩ := sp_ok_iff.mp (Decidable.byContradiction hc149)
                                    have hQ9 := hP8
                                    rw [hs9] at hQ9
                                    have m14 := hQ9.2.2.1.1
                                    have mb1 := hQ9.2.2.1.2.2.2.2.2.1
                                    refine k_aload_n C (f := 0) (i := 0) (p := 0) rfl rfl dX6_readText_152 ?_
                                    refine k_getI C f_X6_164 (L6_s (by assumption)) (fun _ _ _ => rfl) (m14) dX6_readText_153 ?_
                                    refine k_if_eq C (tgt := 165) (by decide) dX6_readText_156 (fun hc156 => ?_) (fun hc156 => ?_)
                                    · skip
                                      exact k_vret C (Nat.le_of_ble_eq_true rfl) (Nat.le_of_ble_eq_true rfl) (⟨rfl, by
                                        have hfin : md_read tb n (.ok s0) = md_fin e8 := by
                                          unfold md_read md_rd4
                                          rw [← he1, ← he2, ← he3, ← he4, ← hEE5, hX5, ← hEE6, hX6, ← hEE7, hX7, ← hEE8, hX8]
                                        first
                                        | (obtain ⟨x, hx9⟩ := sp_nok hc149
                                           refine ⟨rfl, ?_, F8, G8⟩
                                           rw [hfin, hx9]
                                           rw [hx9] at hP8
                                           exact hP8)
                                        | (have q : s9.1.1 = 0 := (nI_eq (b := 0) (by omega) (by decide)).mp hc156
                                           refine ⟨rfl, ?_, F8, G8⟩
                                           rw [hfin, hs9]
                                           rw [hs9] at hP8
                                           show MP _ _ y tb n (if s9.1.1 = 0 then (Except.ok s9 : Except Nat sp_S) else .error s9.1.2.1)
                                           rw [if_pos q]
                                           exact hP8)
                                        | (have q : ¬ s9.1.1 = 0 := fun z => hc156 (by rw [z]; rfl)
                                           refine ⟨rfl, ?_, F8.tr F9, G8.tr G9⟩
                                           rw [hfin, hs9]
                                           rw [sp_tk0, hs9] at hP9
                                           show MP _ _ y tb n (if s9.1.1 = 0 then (Except.ok s9 : Except Nat sp_S) else .error s9.1.2.1)
                                           rw [if_neg q]
                                           exact hP9)⟩) dX6_readText_165
                                    · skip
                                      refine k_aload_n C (f := 0) (i := 0) (p := 0) rfl rfl dX6_readText_159 ?_
                                      refine k_iconst C ic_0 dX6_readText_160 ?_
                                      refine k_callVj C s_X6_191 h_X6_takes (L6_s (by assumption)) rfl (ct_X6_takes hx (F8.txt ht) hP8) rfl rfl (Nat.le_of_ble_eq_true rfl) ⟨Nat.le_of_ble_eq_true rfl, Nat.le_of_ble_eq_true rfl⟩ ⟨Nat.le_of_ble_eq_true rfl, Nat.le_of_ble_eq_true rfl⟩ ⟨rfl, rfl⟩ dX6_readText_161 ?_
                                      intro v I9 J9 hv
                                      obtain ⟨rfl, hP9, F9, G9⟩ := hv
                                      refine k_pop C rfl dX6_readText_164 ?_
                                      exact k_vret C (Nat.le_of_ble_eq_true rfl) (Nat.le_of_ble_eq_true rfl) (⟨rfl, by
                                        have hfin : md_read tb n (.ok s0) = md_fin e8 := by
                                          unfold md_read md_rd4
                                          rw [← he1, ← he2, ← he3, ← he4, ← hEE5, hX5, ← hEE6, hX6, ← hEE7, hX7, ← hEE8, hX8]
                                        first
                                        | (obtain ⟨x, hx9⟩ := sp_nok hc149
                                           refine ⟨rfl, ?_, F8, G8⟩
                                           rw [hfin, hx9]
                                           rw [hx9] at hP8
                                           exact hP8)
                                        | (have q : s9.1.1 = 0 := (nI_eq (b := 0) (by omega) (by decide)).mp hc156
                                           refine ⟨rfl, ?_, F8, G8⟩
                                           rw [hfin, hs9]
                                           rw [hs9] at hP8
                                           show MP _ _ y tb n (if s9.1.1 = 0 then (Except.ok s9 : Except Nat sp_S) else .error s9.1.2.1)
                                           rw [if_pos q]
                                           exact hP8)
                                        | (have q : ¬ s9.1.1 = 0 := fun z => hc156 (by rw [z]; rfl)
                                           refine ⟨rfl, ?_, F8.tr F9, G8.tr G9⟩
                                           rw [hfin, hs9]
                                           rw [sp_tk0, hs9] at hP9
                                           show MP _ _ y tb n (if s9.1.1 = 0 then (Except.ok s9 : Except Nat sp_S) else .error s9.1.2.1)
                                           rw [if_neg q]
                                           exact hP9)⟩) dX6_readText_165
                                · skip
                                  obtain ⟨s8, hs8⟩ := sp_ok_iff.mp (Decidable.byContradiction hc125)
                                  have hQ8 := hP8
                                  rw [hs8] at hQ8
                                  have hB8 : sp_nl s8.2 ≤ 20 := hQ8.2.2.2.2.1.2.2.2.2
                                  refine k_aload_n C (f := 0) (i := 0) (p := 0) rfl rfl dX6_readText_128 ?_
                                  refine k_ldc2 C l_X6_227 dX6_readText_129 ?_
                                  refine k_callVp C s_X6_197 h_X6_isWord (L6_s (by assumption)) rfl (ct_X6_isWord hx) rfl rfl (Nat.le_of_ble_eq_true rfl) ⟨Nat.le_of_ble_eq_true rfl, Nat.le_of_ble_eq_true rfl⟩ ⟨Nat.le_of_ble_eq_true rfl, Nat.le_of_ble_eq_true rfl⟩ ⟨rfl, rfl⟩ dX6_readText_132 ?_
                                  refine k_ifb_eq C (tgt := 145) (by decide) dX6_readText_135 (fun hc135 => ?_) (fun hc135 => ?_)
                                  · skip
                                    have hX8 : EE8 = e8 := by
                                      rw [← hE8, hs8, md_lp_n (fun z => hc135 (by
                                        have q := (MTok_isw (si := 5) hQ8.2.2.1 (by decide) (by decide)).mpr z
                                        exact ⟨q.1, q.2.trans (show md_own 5 = (247162 : Int64) by decide +kernel)⟩))]
                                    refine k_aload_n C (f := 0) (i := 0) (p := 0) rfl rfl dX6_readText_145 ?_
                                    refine k_getI C f_X6_184 (L6_s (by assumption)) (fun _ _ _ => rfl) (MP_17 hP8) dX6_readText_146 ?_
                                    refine k_ifb_ne C (tgt := 165) (by decide) dX6_readText_149 (fun hc149 => ?_) (fun hc149 => ?_)
                                    · skip
                                      exact k_vret C (Nat.le_of_ble_eq_true rfl) (Nat.le_of_ble_eq_true rfl) (⟨rfl, by
                                        have hfin : md_read tb n (.ok s0) = md_fin e8 := by
                                          unfold md_read md_rd4
                                          rw [← he1, ← he2, ← he3, ← he4, ← hEE5, hX5, ← hEE6, hX6, ← hEE7, hX7, ← hEE8, hX8]
                                        first
                                        | (obtain ⟨x, hx9⟩ := sp_nok hc149
                                           refine ⟨rfl, ?_, F8, G8⟩
                                           rw [hfin, hx9]
                                           rw [hx9] at hP8
                                           exact hP8)
                                        | (have q : s9.1.1 = 0 := (nI_eq (b := 0) (by omega) (by decide)).mp hc156
                                           refine ⟨rfl, ?_, F8, G8⟩
                                           rw [hfin, hs9]
                                           rw [hs9] at hP8
                                           show MP _ _ y tb n (if s9.1.1 = 0 then (Except.ok s9 : Except Nat sp_S) else .error s9.1.2.1)
                                           rw [if_pos q]
                                           exact hP8)
                                        | (have q : ¬ s9.1.1 = 0 := fun z => hc156 (by rw [z]; rfl)
                                           refine ⟨rfl, ?_, F8.tr F9, G8.tr G9⟩
                                           rw [hfin, hs9]
                                           rw [sp_tk0, hs9] at hP9
                                           show MP _ _ y tb n (if s9.1.1 = 0 then (Except.ok s9 : Except Nat sp_S) else .error s9.1.2.1)
                                           rw [if_neg q]
                                           exact hP9)⟩) dX6_readText_165
                                    · skip
                                      obtain ⟨s9, hs9⟩ := sp_ok_iff.mp (Decidable.byContradiction hc149)
                                      have hQ9 := hP8
                                      rw [hs9] at hQ9
                                      have m14 := hQ9.2.2.1.1
                                      have mb1 := hQ9.2.2.1.2.2.2.2.2.1
                                      refine k_aload_n C (f := 0) (i := 0) (p := 0) rfl rfl dX6_readText_152 ?_
                                      refine k_getI C f_X6_164 (L6_s (by assumption)) (fun _ _ _ => rfl) (m14) dX6_readText_153 ?_
                                      refine k_if_eq C (tgt := 165) (by decide) dX6_readText_156 (fun hc156 => ?_) (fun hc156 => ?_)
                                      · skip
                                        exact k_vret C (Nat.le_of_ble_eq_true rfl) (Nat.le_of_ble_eq_true rfl) (⟨rfl, by
                                          have hfin : md_read tb n (.ok s0) = md_fin e8 := by
                                            unfold md_read md_rd4
                                            rw [← he1, ← he2, ← he3, ← he4, ← hEE5, hX5, ← hEE6, hX6, ← hEE7, hX7, ← hEE8, hX8]
                                          first
                                          | (obtain ⟨x, hx9⟩ := sp_nok hc149
                                             refine ⟨rfl, ?_, F8, G8⟩
                                             rw [hfin, hx9]
                                             rw [hx9] at hP8
                                             exact hP8)
                                          | (have q : s9.1.1 = 0 := (nI_eq (b := 0) (by omega) (by decide)).mp hc156
                                             refine ⟨rfl, ?_, F8, G8⟩
                                             rw [hfin, hs9]
                                             rw [hs9] at hP8
                                             show MP _ _ y tb n (if s9.1.1 = 0 then (Except.ok s9 : Except Nat sp_S) else .error s9.1.2.1)
                                             rw [if_pos q]
                                             exact hP8)
                                          | (have q : ¬ s9.1.1 = 0 := fun z => hc156 (by rw [z]; rfl)
                                             refine ⟨rfl, ?_, F8.tr F9, G8.tr G9⟩
                                             rw [hfin, hs9]
                                             rw [sp_tk0, hs9] at hP9
                                             show MP _ _ y tb n (if s9.1.1 = 0 then (Except.ok s9 : Except Nat sp_S) else .error s9.1.2.1)
                                             rw [if_neg q]
                                             exact hP9)⟩) dX6_readText_165
                                      · skip
                                        refine k_aload_n C (f := 0) (i := 0) (p := 0) rfl rfl dX6_readText_159 ?_
                                        refine k_iconst C ic_0 dX6_readText_160 ?_
                                        refine k_callVj C s_X6_191 h_X6_takes (L6_s (by assumption)) rfl (ct_X6_takes hx (F8.txt ht) hP8) rfl rfl (Nat.le_of_ble_eq_true rfl) ⟨Nat.le_of_ble_eq_true rfl, Nat.le_of_ble_eq_true rfl⟩ ⟨Nat.le_of_ble_eq_true rfl, Nat.le_of_ble_eq_true rfl⟩ ⟨rfl, rfl⟩ dX6_readText_161 ?_
                                        intro v I9 J9 hv
                                        obtain ⟨rfl, hP9, F9, G9⟩ := hv
                                        refine k_pop C rfl dX6_readText_164 ?_
                                        exact k_vret C (Nat.le_of_ble_eq_true rfl) (Nat.le_of_ble_eq_true rfl) (⟨rfl, by
                                          have hfin : md_read tb n (.ok s0) = md_fin e8 := by
                                            unfold md_read md_rd4
                                            rw [← he1, ← he2, ← he3, ← he4, ← hEE5, hX5, ← hEE6, hX6, ← hEE7, hX7, ← hEE8, hX8]
                                          first
                                          | (obtain ⟨x, hx9⟩ := sp_nok hc149
                                             refine ⟨rfl, ?_, F8, G8⟩
                                             rw [hfin, hx9]
                                             rw [hx9] at hP8
                                             exact hP8)
                                          | (have q : s9.1.1 = 0 := (nI_eq (b := 0) (by omega) (by decide)).mp hc156
                                             refine ⟨rfl, ?_, F8, G8⟩
                                             rw [hfin, hs9]
                                             rw [hs9] at hP8
                                             show MP _ _ y tb n (if s9.1.1 = 0 then (Except.ok s9 : Except Nat sp_S) else .error s9.1.2.1)
                                             rw [if_pos q]
                                             exact hP8)
                                          | (have q : ¬ s9.1.1 = 0 := fun z => hc156 (by rw [z]; rfl)
                                             refine ⟨rfl, ?_, F8.tr F9, G8.tr G9⟩
                                             rw [hfin, hs9]
                                             rw [sp_tk0, hs9] at hP9
                                             show MP _ _ y tb n (if s9.1.1 = 0 then (Except.ok s9 : Except Nat sp_S) else .error s9.1.2.1)
                                             rw [if_neg q]
                                             exact hP9)⟩) dX6_readText_165
                                  · skip
                                    have hw8 : sp_isw tb s8.1 5 = true := (MTok_isw hQ8.2.2.1 (by decide) (by decide)).mp ⟨hc135.1, hc135.2.trans (show (247162 : Int64) = md_own 5 by decide +kernel)⟩
                                    refine k_aload_n C (f := 0) (i := 0) (p := 0) rfl rfl dX6_readText_138 ?_
                                    refine k_callVj C s_X6_229 h_X6_readLoad (L6_s (by assumption)) rfl (ct_X6_readLoad hx (F8.txt ht) hP8) rfl rfl (Nat.le_of_ble_eq_true rfl) ⟨Nat.le_of_ble_eq_true rfl, Nat.le_of_ble_eq_true rfl⟩ ⟨Nat.le_of_ble_eq_true rfl, Nat.le_of_ble_eq_true rfl⟩ ⟨rfl, rfl⟩ dX6_readText_139 ?_
                                    intro v I8' J8' hv
                                    obtain ⟨rfl, hP8', F8', G8'⟩ := hv
                                    have F8' := F8.tr F8'
                                    have G8' := G8.tr G8'
                                    refine k_goto C (tgt := 121) (by decide) dX6_readText_142 ?_
                                    refine k_sub [0] rfl ?_
                                    obtain ⟨k0, rfl⟩ : ∃ k0, k = k0 + 1 := ⟨k - 1, by omega⟩
                                    rw [hs8] at hE8 hK8 hP8'
                                    exact ih121 k0 I8' J8' _ hP8' (by
                                      have z := hK8.2 s8 rfl
                                      have zb := hB8
                                      refine ⟨by omega, fun s' hs' => ?_⟩
                                      by_cases c : md_pl s8 = true
                                      · replace hs' : sp_bd (md_gt md_pl (.ok s8)) (sp_rLoad tb n) = .ok s' := hs'
                                        rw [md_gt_t c] at hs'
                                        have c2 := ((md_Cl tb n).1 s8 hw8).mp c
                                        have c3 : sp_nl s'.2 = sp_nl s8.2 + 1 := (md_Cl tb n).2 s8 s' c2 hs'
                                        omega
                                      · replace hs' : sp_bd (md_gt md_pl (.ok s8)) (sp_rLoad tb n) = .ok s' := hs'
                                        rw [md_gt_f c] at hs'; cases hs') (by rw [md_lp_y hw8] at hE8; exact hE8) F8' G8' (by omega)
                            refine k_sub [0] rfl ?_
                            exact loop121 23 22 I7 J7 e7 hP7 ⟨by decide, fun s _ => by omega⟩ hEE8.symm F7 G7 (by decide)
                          · skip
                            have hw7 : sp_isw tb s7.1 4 = true := (MTok_isw hQ7.2.2.1 (by decide) (by decide)).mp ⟨hc111.1, hc111.2.trans (show (10502473 : Int64) = md_own 4 by decide +kernel)⟩
                            refine k_aload_n C (f := 0) (i := 0) (p := 0) rfl rfl dX6_readText_114 ?_
                            refine k_callVj C s_X6_224 h_X6_readStorm (L6_s (by assumption)) rfl (ct_X6_readStorm hx (F7.txt ht) hP7) rfl rfl (Nat.le_of_ble_eq_true rfl) ⟨Nat.le_of_ble_eq_true rfl, Nat.le_of_ble_eq_true rfl⟩ ⟨Nat.le_of_ble_eq_true rfl, Nat.le_of_ble_eq_true rfl⟩ ⟨rfl, rfl⟩ dX6_readText_115 ?_
                            intro v I7' J7' hv
                            obtain ⟨rfl, hP7', F7', G7'⟩ := hv
                            have F7' := F7.tr F7'
                            have G7' := G7.tr G7'
                            refine k_goto C (tgt := 97) (by decide) dX6_readText_118 ?_
                            refine k_sub [0] rfl ?_
                            obtain ⟨k0, rfl⟩ : ∃ k0, k = k0 + 1 := ⟨k - 1, by omega⟩
                            rw [hs7] at hE7 hK7 hP7'
                            exact ih97 k0 I7' J7' _ hP7' (by
                              have z := hK7.2 s7 rfl
                              have zb := hB7
                              refine ⟨by omega, fun s' hs' => ?_⟩
                              by_cases c : md_ps s7 = true
                              · replace hs' : sp_bd (md_gt md_ps (.ok s7)) (sp_rStorm tb n) = .ok s' := hs'
                                rw [md_gt_t c] at hs'
                                have c2 := ((md_Cs tb n).1 s7 hw7).mp c
                                have c3 : sp_ns s'.2 = sp_ns s7.2 + 1 := (md_Cs tb n).2 s7 s' c2 hs'
                                omega
                              · replace hs' : sp_bd (md_gt md_ps (.ok s7)) (sp_rStorm tb n) = .ok s' := hs'
                                rw [md_gt_f c] at hs'; cases hs') (by rw [md_lp_y hw7] at hE7; exact hE7) F7' G7' (by omega)
                    refine k_sub [0] rfl ?_
                    exact loop97 9 8 I6 J6 e6 hP6 ⟨by decide, fun s _ => by omega⟩ hEE7.symm F6 G6 (by decide)
                  · skip
                    have hw6 : sp_isw tb s6.1 3 = true := (MTok_isw hQ6.2.2.1 (by decide) (by decide)).mp ⟨hc87.1, hc87.2.trans (show (456690 : Int64) = md_own 3 by decide +kernel)⟩
                    refine k_aload_n C (f := 0) (i := 0) (p := 0) rfl rfl dX6_readText_90 ?_
                    refine k_callVj C s_X6_219 h_X6_readWell (L6_s (by assumption)) rfl (ct_X6_readWell hx (F6.txt ht) hP6) rfl rfl (Nat.le_of_ble_eq_true rfl) ⟨Nat.le_of_ble_eq_true rfl, Nat.le_of_ble_eq_true rfl⟩ ⟨Nat.le_of_ble_eq_true rfl, Nat.le_of_ble_eq_true rfl⟩ ⟨rfl, rfl⟩ dX6_readText_91 ?_
                    intro v I6' J6' hv
                    obtain ⟨rfl, hP6', F6', G6'⟩ := hv
                    have F6' := F6.tr F6'
                    have G6' := G6.tr G6'
                    refine k_goto C (tgt := 73) (by decide) dX6_readText_94 ?_
                    refine k_sub [0] rfl ?_
                    obtain ⟨k0, rfl⟩ : ∃ k0, k = k0 + 1 := ⟨k - 1, by omega⟩
                    rw [hs6] at hE6 hK6 hP6'
                    exact ih73 k0 I6' J6' _ hP6' (by
                      have z := hK6.2 s6 rfl
                      have zb := hB6
                      refine ⟨by omega, fun s' hs' => ?_⟩
                      by_cases c : md_pwl s6 = true
                      · replace hs' : sp_bd (md_gt md_pwl (.ok s6)) (sp_rWell tb n) = .ok s' := hs'
                        rw [md_gt_t c] at hs'
                        have c2 := ((md_Cw tb n).1 s6 hw6).mp c
                        have c3 : sp_nw s'.2 = sp_nw s6.2 + 1 := (md_Cw tb n).2 s6 s' c2 hs'
                        omega
                      · replace hs' : sp_bd (md_gt md_pwl (.ok s6)) (sp_rWell tb n) = .ok s' := hs'
                        rw [md_gt_f c] at hs'; cases hs') (by rw [md_lp_y hw6] at hE6; exact hE6) F6' G6' (by omega)
            refine k_sub [0] rfl ?_
            exact loop73 11 10 I5 J5 e5 hP5 ⟨by decide, fun s _ => by omega⟩ hEE6.symm F5 G5 (by decide)
          · skip
            have hw5 : sp_isw tb s5.1 2 = true := (MTok_isw hQ5.2.2.1 (by decide) (by decide)).mp ⟨hc63.1, hc63.2.trans (show (1623630 : Int64) = md_own 2 by decide +kernel)⟩
            refine k_aload_n C (f := 0) (i := 0) (p := 0) rfl rfl dX6_readText_66 ?_
            refine k_callVj C s_X6_214 h_X6_readCamel (L6_s (by assumption)) rfl (ct_X6_readCamel hx (F5.txt ht) hP5) rfl rfl (Nat.le_of_ble_eq_true rfl) ⟨Nat.le_of_ble_eq_true rfl, Nat.le_of_ble_eq_true rfl⟩ ⟨Nat.le_of_ble_eq_true rfl, Nat.le_of_ble_eq_true rfl⟩ ⟨rfl, rfl⟩ dX6_readText_67 ?_
            intro v I5' J5' hv
            obtain ⟨rfl, hP5', F5', G5'⟩ := hv
            have F5' := F5.tr F5'
            have G5' := G5.tr G5'
            refine k_goto C (tgt := 49) (by decide) dX6_readText_70 ?_
            refine k_sub [0] rfl ?_
            obtain ⟨k0, rfl⟩ : ∃ k0, k = k0 + 1 := ⟨k - 1, by omega⟩
            rw [hs5] at hE5 hK5 hP5'
            exact ih49 k0 I5' J5' _ hP5' (by
              have z := hK5.2 s5 rfl
              have zb := hB5
              refine ⟨by omega, fun s' hs' => ?_⟩
              by_cases c : (md_pc tb) s5 = true
              · replace hs' : sp_bd (md_gt (md_pc tb) (.ok s5)) (sp_rCamel tb n) = .ok s' := hs'
                rw [md_gt_t c] at hs'
                have c2 := ((md_Cc tb n).1 s5 hw5).mp c
                have c3 : sp_nc s'.2 = sp_nc s5.2 + 1 := (md_Cc tb n).2 s5 s' c2 hs'
                omega
              · replace hs' : sp_bd (md_gt (md_pc tb) (.ok s5)) (sp_rCamel tb n) = .ok s' := hs'
                rw [md_gt_f c] at hs'; cases hs') (by rw [md_lp_y hw5] at hE5; exact hE5) F5' G5' (by omega)
    refine k_sub [0] rfl ?_
    exact loop49 13 12 I4 J4 e4 hP4 ⟨by decide, fun s _ => by omega⟩ hEE5.symm F4 G4 (by decide)
