def sp_addCamel (r : Nat → Int32) (x y z : Int32) : Nat → Int32 := upd (upd (upd (upd (upd r (10 + 8 * sp_nc r) x) (11 + 8 * sp_nc r) y) (12 + 8 * sp_nc r) z) (13 + 8 * sp_nc r) z) 6 (nI (sp_nc r + 1))
def sp_addWell (r : Nat → Int32) (x y z : Int32) : Nat → Int32 := upd (upd (upd (upd (upd r (90 + 4 * sp_nw r) x) (91 + 4 * sp_nw r) y) (92 + 4 * sp_nw r) z) (93 + 4 * sp_nw r) y) 7 (nI (sp_nw r + 1))
def sp_addStorm (r : Nat → Int32) (x y z : Int32) : Nat → Int32 := upd (upd (upd (upd r (122 + 3 * sp_ns r) x) (123 + 3 * sp_ns r) y) (124 + 3 * sp_ns r) z) 8 (nI (sp_ns r + 1))
theorem PR_addCamel {I I' : am_I} {p : Nat} {r : Nat → Int32} {x y z : Int32} (h : PlanRel I p r) (hn : sp_nc r < 10) (hI : ∀ A K : Nat, ¬ (A = p ∧ K = 1) → ¬ (K = sp_nc r ∧ p + 1 ≤ A ∧ A ≤ p + 3) → I' A K = I A K) (h1 : I' p 1 = nI (sp_nc r + 1)) (hx : I' (p + 1) (sp_nc r) = x) (hy : I' (p + 2) (sp_nc r) = y) (hz : I' (p + 3) (sp_nc r) = z) : PlanRel I' p (sp_addCamel r x y z) := by
  have hw := PR_w h
  have ht := PR_t h
  have n6 : sp_nc (sp_addCamel r x y z) = sp_nc r + 1 := by
    show (sp_addCamel r x y z 6).toNatClampNeg = _
    unfold sp_addCamel
    rw [upd_eq, nI_clamp (by omega)]
  have hlo : ∀ i : Nat, i ≠ 6 → ¬ (10 + 8 * sp_nc r ≤ i ∧ i ≤ 13 + 8 * sp_nc r) → sp_addCamel r x y z i = r i := fun i g1 g2 => by
    unfold sp_addCamel
    rw [upd_ne g1, upd_ne (by omega), upd_ne (by omega), upd_ne (by omega), upd_ne (by omega)]
  have n7 : sp_nw (sp_addCamel r x y z) = sp_nw r := by unfold sp_nw; rw [hlo 7 (by omega) (by omega)]
  have n8 : sp_ns (sp_addCamel r x y z) = sp_ns r := by unfold sp_ns; rw [hlo 8 (by omega) (by omega)]
  unfold PlanRel
  rw [n6, n7, n8]
  refine ⟨⟨h1, ?_, ?_, by omega, hw, ht⟩, fun A K i hm => ?_⟩
  · rw [hI _ _ (by omega) (by omega)]; exact PR_5 h
  · rw [hI _ _ (by omega) (by omega)]; exact PR_9 h
  · unfold pm at hm
    rcases hm with ⟨e, e2, e3⟩ | ⟨e, e2, e3⟩ | ⟨e, e2, e3⟩ | ⟨e, e2, e3⟩ | ⟨e, e2, e3⟩ | ⟨e, e2, e3⟩ | ⟨e, e2, e3⟩ | ⟨e, e2, e3⟩ | ⟨e, e2, e3⟩ | ⟨e, e2, e3⟩
    · rw [e, e2, e3, hI _ _ (by omega) (by omega), hlo _ (by omega) (by omega)]; exact PR_0 h
    · by_cases g : K = sp_nc r
      · rw [e, e3, g, hx]
        unfold sp_addCamel
        rw [upd_ne (by omega), upd_ne (by omega), upd_ne (by omega), upd_ne (by omega), upd_eq]
      · rw [e, e3, hI _ _ (by omega) (by omega), hlo _ (by omega) (by omega)]; exact PRa_2 h (by omega)
    · by_cases g : K = sp_nc r
      · rw [e, e3, g, hy]
        unfold sp_addCamel
        rw [upd_ne (by omega), upd_ne (by omega), upd_ne (by omega), upd_eq]
      · rw [e, e3, hI _ _ (by omega) (by omega), hlo _ (by omega) (by omega)]; exact PRa_3 h (by omega)
    · by_cases g : K = sp_nc r
      · rw [e, e3, g, hz]
        unfold sp_addCamel
        rw [upd_ne (by omega), upd_ne (by omega), upd_eq]
      · rw [e, e3, hI _ _ (by omega) (by omega), hlo _ (by omega) (by omega)]; exact PRa_4 h (by omega)
    · rw [e, e3, hI _ _ (by omega) (by omega), hlo _ (by omega) (by omega)]; exact PRa_6 h e2
    · rw [e, e3, hI _ _ (by omega) (by omega), hlo _ (by omega) (by omega)]; exact PRa_7 h e2
    · rw [e, e3, hI _ _ (by omega) (by omega), hlo _ (by omega) (by omega)]; exact PRa_8 h e2
    · rw [e, e3, hI _ _ (by omega) (by omega), hlo _ (by omega) (by omega)]; exact PRa_10 h e2
    · rw [e, e3, hI _ _ (by omega) (by omega), hlo _ (by omega) (by omega)]; exact PRa_11 h e2
    · rw [e, e3, hI _ _ (by omega) (by omega), hlo _ (by omega) (by omega)]; exact PRa_12 h e2
theorem PR_addWell {I I' : am_I} {p : Nat} {r : Nat → Int32} {x y z : Int32} (h : PlanRel I p r) (hn : sp_nw r < 8) (hI : ∀ A K : Nat, ¬ (A = p ∧ K = 5) → ¬ (K = sp_nw r ∧ p + 4 ≤ A ∧ A ≤ p + 6) → I' A K = I A K) (h1 : I' p 5 = nI (sp_nw r + 1)) (hx : I' (p + 4) (sp_nw r) = x) (hy : I' (p + 5) (sp_nw r) = y) (hz : I' (p + 6) (sp_nw r) = z) : PlanRel I' p (sp_addWell r x y z) := by
  have hc := PR_c h
  have ht := PR_t h
  have n7 : sp_nw (sp_addWell r x y z) = sp_nw r + 1 := by
    show (sp_addWell r x y z 7).toNatClampNeg = _
    unfold sp_addWell
    rw [upd_eq, nI_clamp (by omega)]
  have hlo : ∀ i : Nat, i ≠ 7 → ¬ (90 + 4 * sp_nw r ≤ i ∧ i ≤ 93 + 4 * sp_nw r) → sp_addWell r x y z i = r i := fun i g1 g2 => by
    unfold sp_addWell
    rw [upd_ne g1, upd_ne (by omega), upd_ne (by omega), upd_ne (by omega), upd_ne (by omega)]
  have n6 : sp_nc (sp_addWell r x y z) = sp_nc r := by unfold sp_nc; rw [hlo 6 (by omega) (by omega)]
  have n8 : sp_ns (sp_addWell r x y z) = sp_ns r := by unfold sp_ns; rw [hlo 8 (by omega) (by omega)]
  unfold PlanRel
  rw [n6, n7, n8]
  refine ⟨⟨?_, h1, ?_, hc, by omega, ht⟩, fun A K i hm => ?_⟩
  · rw [hI _ _ (by omega) (by omega)]; exact PR_1 h
  · rw [hI _ _ (by omega) (by omega)]; exact PR_9 h
  · unfold pm at hm
    rcases hm with ⟨e, e2, e3⟩ | ⟨e, e2, e3⟩ | ⟨e, e2, e3⟩ | ⟨e, e2, e3⟩ | ⟨e, e2, e3⟩ | ⟨e, e2, e3⟩ | ⟨e, e2, e3⟩ | ⟨e, e2, e3⟩ | ⟨e, e2, e3⟩ | ⟨e, e2, e3⟩
    · rw [e, e2, e3, hI _ _ (by omega) (by omega), hlo _ (by omega) (by omega)]; exact PR_0 h
    · rw [e, e3, hI _ _ (by omega) (by omega), hlo _ (by omega) (by omega)]; exact PRa_2 h e2
    · rw [e, e3, hI _ _ (by omega) (by omega), hlo _ (by omega) (by omega)]; exact PRa_3 h e2
    · rw [e, e3, hI _ _ (by omega) (by omega), hlo _ (by omega) (by omega)]; exact PRa_4 h e2
    · by_cases g : K = sp_nw r
      · rw [e, e3, g, hx]
        unfold sp_addWell
        rw [upd_ne (by omega), upd_ne (by omega), upd_ne (by omega), upd_ne (by omega), upd_eq]
      · rw [e, e3, hI _ _ (by omega) (by omega), hlo _ (by omega) (by omega)]; exact PRa_6 h (by omega)
    · by_cases g : K = sp_nw r
      · rw [e, e3, g, hy]
        unfold sp_addWell
        rw [upd_ne (by omega), upd_ne (by omega), upd_ne (by omega), upd_eq]
      · rw [e, e3, hI _ _ (by omega) (by omega), hlo _ (by omega) (by omega)]; exact PRa_7 h (by omega)
    · by_cases g : K = sp_nw r
      · rw [e, e3, g, hz]
        unfold sp_addWell
        rw [upd_ne (by omega), upd_ne (by omega), upd_eq]
      · rw [e, e3, hI _ _ (by omega) (by omega), hlo _ (by omega) (by omega)]; exact PRa_8 h (by omega)
    · rw [e, e3, hI _ _ (by omega) (by omega), hlo _ (by omega) (by omega)]; exact PRa_10 h e2
    · rw [e, e3, hI _ _ (by omega) (by omega), hlo _ (by omega) (by omega)]; exact PRa_11 h e2
    · rw [e, e3, hI _ _ (by omega) (by omega), hlo _ (by omega) (by omega)]; exact PRa_12 h e2
theorem PR_addStorm {I I' : am_I} {p : Nat} {r : Nat → Int32} {x y z : Int32} (h : PlanRel I p r) (hn : sp_ns r < 6) (hI : ∀ A K : Nat, ¬ (A = p ∧ K = 9) → ¬ (K = sp_ns r ∧ p + 7 ≤ A ∧ A ≤ p + 9) → I' A K = I A K) (h1 : I' p 9 = nI (sp_ns r + 1)) (hx : I' (p + 7) (sp_ns r) = x) (hy : I' (p + 8) (sp_ns r) = y) (hz : I' (p + 9) (sp_ns r) = z) : PlanRel I' p (sp_addStorm r x y z) := by
  have hc := PR_c h
  have hw := PR_w h
  have n8 : sp_ns (sp_addStorm r x y z) = sp_ns r + 1 := by
    show (sp_addStorm r x y z 8).toNatClampNeg = _
    unfold sp_addStorm
    rw [upd_eq, nI_clamp (by omega)]
  have hlo : ∀ i : Nat, i ≠ 8 → ¬ (122 + 3 * sp_ns r ≤ i ∧ i ≤ 124 + 3 * sp_ns r) → sp_addStorm r x y z i = r i := fun i g1 g2 => by
    unfold sp_addStorm
    rw [upd_ne g1, upd_ne (by omega), upd_ne (by omega), upd_ne (by omega)]
  have n6 : sp_nc (sp_addStorm r x y z) = sp_nc r := by unfold sp_nc; rw [hlo 6 (by omega) (by omega)]
  have n7 : sp_nw (sp_addStorm r x y z) = sp_nw r := by unfold sp_nw; rw [hlo 7 (by omega) (by omega)]
  unfold PlanRel
  rw [n6, n7, n8]
  refine ⟨⟨?_, ?_, h1, hc, hw, by omega⟩, fun A K i hm => ?_⟩
  · rw [hI _ _ (by omega) (by omega)]; exact PR_1 h
  · rw [hI _ _ (by omega) (by omega)]; exact PR_5 h
  · unfold pm at hm
    rcases hm with ⟨e, e2, e3⟩ | ⟨e, e2, e3⟩ | ⟨e, e2, e3⟩ | ⟨e, e2, e3⟩ | ⟨e, e2, e3⟩ | ⟨e, e2, e3⟩ | ⟨e, e2, e3⟩ | ⟨e, e2, e3⟩ | ⟨e, e2, e3⟩ | ⟨e, e2, e3⟩
    · rw [e, e2, e3, hI _ _ (by omega) (by omega), hlo _ (by omega) (by omega)]; exact PR_0 h
    · rw [e, e3, hI _ _ (by omega) (by omega), hlo _ (by omega) (by omega)]; exact PRa_2 h e2
    · rw [e, e3, hI _ _ (by omega) (by omega), hlo _ (by omega) (by omega)]; exact PRa_3 h e2
    · rw [e, e3, hI _ _ (by omega) (by omega), hlo _ (by omega) (by omega)]; exact PRa_4 h e2
    · rw [e, e3, hI _ _ (by omega) (by omega), hlo _ (by omega) (by omega)]; exact PRa_6 h e2
    · rw [e, e3, hI _ _ (by omega) (by omega), hlo _ (by omega) (by omega)]; exact PRa_7 h e2
    · rw [e, e3, hI _ _ (by omega) (by omega), hlo _ (by omega) (by omega)]; exact PRa_8 h e2
    · by_cases g : K = sp_ns r
      · rw [e, e3, g, hx]
        unfold sp_addStorm
        rw [upd_ne (by omega), upd_ne (by omega), upd_ne (by omega), upd_eq]
      · rw [e, e3, hI _ _ (by omega) (by omega), hlo _ (by omega) (by omega)]; exact PRa_10 h (by omega)
    · by_cases g : K = sp_ns r
      · rw [e, e3, g, hy]
        unfold sp_addStorm
        rw [upd_ne (by omega), upd_ne (by omega), upd_eq]
      · rw [e, e3, hI _ _ (by omega) (by omega), hlo _ (by omega) (by omega)]; exact PRa_11 h (by omega)
    · by_cases g : K = sp_ns r
      · rw [e, e3, g, hz]
        unfold sp_addStorm
        rw [upd_ne (by omega), upd_eq]
      · rw [e, e3, hI _ _ (by omega) (by omega), hlo _ (by omega) (by omega)]; exact PRa_12 h (by omega)
/-- a plan copied: cell by cell -/
theorem PR_copy {I I' : am_I} {p po : Nat} {r : Nat → Int32} (h : PlanRel I po r) (h1 : I' p 0 = I po 0 ∧ I' p 1 = I po 1 ∧ I' p 5 = I po 5 ∧ I' p 9 = I po 9)
    (ha : ∀ t j : Nat, (1 ≤ t ∧ t < 4 ∧ j < 10) ∨ (4 ≤ t ∧ t < 7 ∧ j < 8) ∨ (7 ≤ t ∧ t < 10 ∧ j < 6) → I' (p + t) j = I (po + t) j) : PlanRel I' p r := by
  have hc := PR_c h
  have hw := PR_w h
  have ht := PR_t h
  refine ⟨⟨h1.2.1.trans (PR_1 h), h1.2.2.1.trans (PR_5 h), h1.2.2.2.trans (PR_9 h), hc, hw, ht⟩, fun A K i hm => ?_⟩
  unfold pm at hm
  rcases hm with ⟨e, e2, e3⟩ | ⟨e, e2, e3⟩ | ⟨e, e2, e3⟩ | ⟨e, e2, e3⟩ | ⟨e, e2, e3⟩ | ⟨e, e2, e3⟩ | ⟨e, e2, e3⟩ | ⟨e, e2, e3⟩ | ⟨e, e2, e3⟩ | ⟨e, e2, e3⟩
  · rw [e, e2, e3]; exact h1.1.trans (PR_0 h)
  · rw [e, e3]; exact (ha 1 K (by omega)).trans (PRa_2 h e2)
  · rw [e, e3]; exact (ha 2 K (by omega)).trans (PRa_3 h e2)
  · rw [e, e3]; exact (ha 3 K (by omega)).trans (PRa_4 h e2)
  · rw [e, e3]; exact (ha 4 K (by omega)).trans (PRa_6 h e2)
  · rw [e, e3]; exact (ha 5 K (by omega)).trans (PRa_7 h e2)
  · rw [e, e3]; exact (ha 6 K (by omega)).trans (PRa_8 h e2)
  · rw [e, e3]; exact (ha 7 K (by omega)).trans (PRa_10 h e2)
  · rw [e, e3]; exact (ha 8 K (by omega)).trans (PRa_11 h e2)
  · rw [e, e3]; exact (ha 9 K (by omega)).trans (PRa_12 h e2)
/-- a history: how many, where the next one goes, what was before each change (0: the latest) -/
def HistRel (I : am_I) (h p ct nx : Nat) (rs : Nat → Nat → Int32) : Prop := I h 1 = nI nx ∧ I h 2 = nI ct ∧ nx < 8 ∧ ct ≤ 8 ∧ ∀ s : Nat, s < ct → CarRel I (h + 2 + 11 * ((nx + 7 - s) % 8)) (h + 3 + 11 * ((nx + 7 - s) % 8)) p (rs s) ∧ (rs s 3 = 0 ∨ rs s 3 = 1)
