/-! ===== more ways to call ===== -/
section AM5
variable {G : am_G} {X : am_X} {R : Room} {own : String} {cc : ByteArray} {nL : Nat} {ret : Option FieldType} {tb : List ExceptionTableEntry} {Q : State → Prop}
variable {Λ : am_L} {I : am_I} {J : am_J} {k n pc : Nat} {ls : List (Nat × Value)} {st : List Value}
theorem k_callVq (C : am_Cx G X own cc nL ret tb Q) {y : MethodName} {b' : ByteArray} {nL' nn mc ms : Nat} {ret' : Option FieldType} {R' : Room} {As rest : List Value} {idx : Nat} {a ci : Nat} {q : vw_C} {v : Value} (hS0 : am_SV own idx y q.1 nn) (hcode : Cond.code y b' nL' ret' ∈ am_tbl) (hs : Λ.1 a = (1, ci)) (hq : vwCl[ci]? = some q) (hM : am_Ct G y b' nL' ret' R' (.ref a :: As) Λ I J (am_pure v Λ I J) am_never) (hnn : As.length = nn) (hst : st = As.reverse ++ .ref a :: rest) (hW : (rest.map fun v => v.category).sum ≤ 8) (hfr : R'.frames + 1 ≤ R.frames ∧ 8 + (nL' + 11) + R'.locals ≤ R.locals) (hmc : R'.cells = mc ∧ R'.slots = ms) (hce : k + mc ≤ R.cells ∧ n + ms ≤ R.slots) (hd : decode cc pc = .ok (.invokevirtual idx, 3)) (kk : am_K G X R nL Λ I J (k + mc) (n + ms) (pc + 3) ls (v :: rest)) : am_K G X R nL Λ I J k n pc ls st := k_callVl C hS0 hcode hs hq hM hnn hst hW hfr hmc hce hd (fun w Λ' I' J' h => by obtain ⟨rfl, rfl, rfl, rfl⟩ := h; exact kk)
theorem k_callVgq (C : am_Cx G X own cc nL ret tb Q) {y : MethodName} {b' : ByteArray} {nL' nn mc ms : Nat} {ret' : Option FieldType} {R' : Room} {As rest : List Value} {idx : Nat} {a ci : Nat} {q : vw_C} {P : Option Value → am_I → Prop} (hS0 : am_SV own idx y q.1 nn) (hcode : Cond.code y b' nL' ret' ∈ am_tbl) (hs : Λ.1 a = (1, ci)) (hq : vwCl[ci]? = some q) (hM : am_Ct G y b' nL' ret' R' (.ref a :: As) Λ I J (am_gen Λ J P) am_never) (hnn : As.length = nn) (hst : st = As.reverse ++ .ref a :: rest) (hW : (rest.map fun v => v.category).sum ≤ 8) (hfr : R'.frames + 1 ≤ R.frames ∧ 8 + (nL' + 11) + R'.locals ≤ R.locals) (hmc : R'.cells = mc ∧ R'.slots = ms) (hce : k + mc ≤ R.cells ∧ n + ms ≤ R.slots) (hd : decode cc pc = .ok (.invokevirtual idx, 3)) (kk : ∀ (v : Option Value) (I' : am_I), P v I' → am_K G X R nL Λ I' J (k + mc) (n + ms) (pc + 3) ls (v.toList ++ rest)) : am_K G X R nL Λ I J k n pc ls st := k_callVl C hS0 hcode hs hq hM hnn hst hW hfr hmc hce hd (fun w Λ' I' J' h => by obtain ⟨rfl, rfl, h⟩ := h; exact kk w I' h)
theorem k_callUq (C : am_Cx G X own cc nL ret tb Q) {y : MethodName} {b' : ByteArray} {nL' nn mc ms : Nat} {ret' : Option FieldType} {R' : Room} {As rest : List Value} {idx : Nat} {a ci : Nat} {q : vw_C} {v : Value} (hS0 : am_SU own idx y q.1 nn) (hcode : Cond.code y b' nL' ret' ∈ am_tbl) (hs : Λ.1 a = (1, ci)) (hq : vwCl[ci]? = some q) (hM : am_Ct G y b' nL' ret' R' (.ref a :: As) Λ I J (am_pure v Λ I J) am_never) (hnn : As.length = nn) (hst : st = As.reverse ++ .ref a :: rest) (hW : (rest.map fun v => v.category).sum ≤ 8) (hfr : R'.frames + 1 ≤ R.frames ∧ 8 + (nL' + 11) + R'.locals ≤ R.locals) (hmc : R'.cells = mc ∧ R'.slots = ms) (hce : k + mc ≤ R.cells ∧ n + ms ≤ R.slots) (hd : decode cc pc = .ok (.invokevirtual idx, 3)) (kk : am_K G X R nL Λ I J (k + mc) (n + ms) (pc + 3) ls (v :: rest)) : am_K G X R nL Λ I J k n pc ls st := by
  obtain ⟨rfl, rfl⟩ := hmc
  exact k_callU C hS0 hcode hs hq hM hnn hst hW hfr hce hd (fun w Λ' I' J' h => by obtain ⟨rfl, rfl, rfl, rfl⟩ := h; exact kk)
theorem k_callUg (C : am_Cx G X own cc nL ret tb Q) {y : MethodName} {b' : ByteArray} {nL' nn mc ms : Nat} {ret' : Option FieldType} {R' : Room} {As rest : List Value} {idx : Nat} {a ci : Nat} {q : vw_C} {P : Option Value → am_I → Prop} (hS0 : am_SU own idx y q.1 nn) (hcode : Cond.code y b' nL' ret' ∈ am_tbl) (hs : Λ.1 a = (1, ci)) (hq : vwCl[ci]? = some q) (hM : am_Ct G y b' nL' ret' R' (.ref a :: As) Λ I J (am_gen Λ J P) am_never) (hnn : As.length = nn) (hst : st = As.reverse ++ .ref a :: rest) (hW : (rest.map fun v => v.category).sum ≤ 8) (hfr : R'.frames + 1 ≤ R.frames ∧ 8 + (nL' + 11) + R'.locals ≤ R.locals) (hmc : R'.cells = mc ∧ R'.slots = ms) (hce : k + mc ≤ R.cells ∧ n + ms ≤ R.slots) (hd : decode cc pc = .ok (.invokevirtual idx, 3)) (kk : ∀ (v : Option Value) (I' : am_I), P v I' → am_K G X R nL Λ I' J (k + mc) (n + ms) (pc + 3) ls (v.toList ++ rest)) : am_K G X R nL Λ I J k n pc ls st := by
  obtain ⟨rfl, rfl⟩ := hmc
  exact k_callU C hS0 hcode hs hq hM hnn hst hW hfr hce hd (fun w Λ' I' J' h => by obtain ⟨rfl, rfl, h⟩ := h; exact kk w I' h)
theorem k_callUl (C : am_Cx G X own cc nL ret tb Q) {y : MethodName} {b' : ByteArray} {nL' nn mc ms : Nat} {ret' : Option FieldType} {R' : Room} {As rest : List Value} {idx : Nat} {a ci : Nat} {q : vw_C} {Post' : am_PT} (hS0 : am_SU own idx y q.1 nn) (hcode : Cond.code y b' nL' ret' ∈ am_tbl) (hs : Λ.1 a = (1, ci)) (hq : vwCl[ci]? = some q) (hM : am_Ct G y b' nL' ret' R' (.ref a :: As) Λ I J Post' am_never) (hnn : As.length = nn) (hst : st = As.reverse ++ .ref a :: rest) (hW : (rest.map fun v => v.category).sum ≤ 8) (hfr : R'.frames + 1 ≤ R.frames ∧ 8 + (nL' + 11) + R'.locals ≤ R.locals) (hmc : R'.cells = mc ∧ R'.slots = ms) (hce : k + mc ≤ R.cells ∧ n + ms ≤ R.slots) (hd : decode cc pc = .ok (.invokevirtual idx, 3)) (kk : ∀ (v : Option Value) (Λ' : am_L) (I' : am_I) (J' : am_J), Post' v Λ' I' J' → am_K G X R nL Λ' I' J' (k + mc) (n + ms) (pc + 3) ls (v.toList ++ rest)) : am_K G X R nL Λ I J k n pc ls st := by
  obtain ⟨rfl, rfl⟩ := hmc
  exact k_callU C hS0 hcode hs hq hM hnn hst hW hfr hce hd kk
theorem k_callPq (C : am_Cx G X own cc nL ret tb Q) {y : MethodName} {b' : ByteArray} {nL' nn mc ms : Nat} {ret' : Option FieldType} {R' : Room} {As rest : List Value} {idx : Nat} {a ci : Nat} {q : vw_C} {v : Value} (hS0 : am_SP own idx y nn) (hcode : Cond.code y b' nL' ret' ∈ am_tbl) (hs : Λ.1 a = (1, ci)) (hq : vwCl[ci]? = some q) (hno : y.name ≠ "<init>") (hM : am_Ct G y b' nL' ret' R' (.ref a :: As) Λ I J (am_pure v Λ I J) am_never) (hnn : As.length = nn) (hst : st = As.reverse ++ .ref a :: rest) (hW : (rest.map fun v => v.category).sum ≤ 8) (hfr : R'.frames + 1 ≤ R.frames ∧ 8 + (nL' + 11) + R'.locals ≤ R.locals) (hmc : R'.cells = mc ∧ R'.slots = ms) (hce : k + mc ≤ R.cells ∧ n + ms ≤ R.slots) (hd : decode cc pc = .ok (.invokespecial idx, 3)) (kk : am_K G X R nL Λ I J (k + mc) (n + ms) (pc + 3) ls (v :: rest)) : am_K G X R nL Λ I J k n pc ls st := by
  obtain ⟨rfl, rfl⟩ := hmc
  exact k_callP C hS0 hcode hs hq hno hM hnn hst hW hfr hce hd (fun w Λ' I' J' h => by obtain ⟨rfl, rfl, rfl, rfl⟩ := h; exact kk)
theorem k_callPg (C : am_Cx G X own cc nL ret tb Q) {y : MethodName} {b' : ByteArray} {nL' nn mc ms : Nat} {ret' : Option FieldType} {R' : Room} {As rest : List Value} {idx : Nat} {a ci : Nat} {q : vw_C} {P : Option Value → am_I → Prop} (hS0 : am_SP own idx y nn) (hcode : Cond.code y b' nL' ret' ∈ am_tbl) (hs : Λ.1 a = (1, ci)) (hq : vwCl[ci]? = some q) (hno : y.name ≠ "<init>") (hM : am_Ct G y b' nL' ret' R' (.ref a :: As) Λ I J (am_gen Λ J P) am_never) (hnn : As.length = nn) (hst : st = As.reverse ++ .ref a :: rest) (hW : (rest.map fun v => v.category).sum ≤ 8) (hfr : R'.frames + 1 ≤ R.frames ∧ 8 + (nL' + 11) + R'.locals ≤ R.locals) (hmc : R'.cells = mc ∧ R'.slots = ms) (hce : k + mc ≤ R.cells ∧ n + ms ≤ R.slots) (hd : decode cc pc = .ok (.invokespecial idx, 3)) (kk : ∀ (v : Option Value) (I' : am_I), P v I' → am_K G X R nL Λ I' J (k + mc) (n + ms) (pc + 3) ls (v.toList ++ rest)) : am_K G X R nL Λ I J k n pc ls st := by
  obtain ⟨rfl, rfl⟩ := hmc
  exact k_callP C hS0 hcode hs hq hno hM hnn hst hW hfr hce hd (fun w Λ' I' J' h => by obtain ⟨rfl, rfl, h⟩ := h; exact kk w I' h)
theorem k_callPl (C : am_Cx G X own cc nL ret tb Q) {y : MethodName} {b' : ByteArray} {nL' nn mc ms : Nat} {ret' : Option FieldType} {R' : Room} {As rest : List Value} {idx : Nat} {a ci : Nat} {q : vw_C} {Post' : am_PT} (hS0 : am_SP own idx y nn) (hcode : Cond.code y b' nL' ret' ∈ am_tbl) (hs : Λ.1 a = (1, ci)) (hq : vwCl[ci]? = some q) (hno : y.name ≠ "<init>") (hM : am_Ct G y b' nL' ret' R' (.ref a :: As) Λ I J Post' am_never) (hnn : As.length = nn) (hst : st = As.reverse ++ .ref a :: rest) (hW : (rest.map fun v => v.category).sum ≤ 8) (hfr : R'.frames + 1 ≤ R.frames ∧ 8 + (nL' + 11) + R'.locals ≤ R.locals) (hmc : R'.cells = mc ∧ R'.slots = ms) (hce : k + mc ≤ R.cells ∧ n + ms ≤ R.slots) (hd : decode cc pc = .ok (.invokespecial idx, 3)) (kk : ∀ (v : Option Value) (Λ' : am_L) (I' : am_I) (J' : am_J), Post' v Λ' I' J' → am_K G X R nL Λ' I' J' (k + mc) (n + ms) (pc + 3) ls (v.toList ++ rest)) : am_K G X R nL Λ I J k n pc ls st := by
  obtain ⟨rfl, rfl⟩ := hmc
  exact k_callP C hS0 hcode hs hq hno hM hnn hst hW hfr hce hd kk
theorem k_callWq (C : am_Cx G X own cc nL ret tb Q) {x y : MethodName} {b' bx : ByteArray} {nx : Nat} {rx : Option FieldType} {nL' nn mc ms : Nat} {ret' : Option FieldType} {R' : Room} {As rest : List Value} {idx : Nat} {a ci : Nat} {q : vw_C} {v : Value} (hS0 : am_SW own idx x y q.1 nn) (hcx : Cond.code x bx nx rx ∈ am_tbl) (hcode : Cond.code y b' nL' ret' ∈ am_tbl) (hs : Λ.1 a = (1, ci)) (hq : vwCl[ci]? = some q) (hM : am_Ct G y b' nL' ret' R' (.ref a :: As) Λ I J (am_pure v Λ I J) am_never) (hnn : As.length = nn) (hst : st = As.reverse ++ .ref a :: rest) (hW : (rest.map fun v => v.category).sum ≤ 8) (hfr : R'.frames + 1 ≤ R.frames ∧ 8 + (nL' + 11) + R'.locals ≤ R.locals) (hmc : R'.cells = mc ∧ R'.slots = ms) (hce : k + mc ≤ R.cells ∧ n + ms ≤ R.slots) (hd : decode cc pc = .ok (.invokevirtual idx, 3)) (kk : am_K G X R nL Λ I J (k + mc) (n + ms) (pc + 3) ls (v :: rest)) : am_K G X R nL Λ I J k n pc ls st := by
  obtain ⟨rfl, rfl⟩ := hmc
  exact k_callW C hS0 hcx hcode hs hq hM hnn hst hW hfr hce hd (fun w Λ' I' J' h => by obtain ⟨rfl, rfl, rfl, rfl⟩ := h; exact kk)
theorem k_callWg (C : am_Cx G X own cc nL ret tb Q) {x y : MethodName} {b' bx : ByteArray} {nx : Nat} {rx : Option FieldType} {nL' nn mc ms : Nat} {ret' : Option FieldType} {R' : Room} {As rest : List Value} {idx : Nat} {a ci : Nat} {q : vw_C} {P : Option Value → am_I → Prop} (hS0 : am_SW own idx x y q.1 nn) (hcx : Cond.code x bx nx rx ∈ am_tbl) (hcode : Cond.code y b' nL' ret' ∈ am_tbl) (hs : Λ.1 a = (1, ci)) (hq : vwCl[ci]? = some q) (hM : am_Ct G y b' nL' ret' R' (.ref a :: As) Λ I J (am_gen Λ J P) am_never) (hnn : As.length = nn) (hst : st = As.reverse ++ .ref a :: rest) (hW : (rest.map fun v => v.category).sum ≤ 8) (hfr : R'.frames + 1 ≤ R.frames ∧ 8 + (nL' + 11) + R'.locals ≤ R.locals) (hmc : R'.cells = mc ∧ R'.slots = ms) (hce : k + mc ≤ R.cells ∧ n + ms ≤ R.slots) (hd : decode cc pc = .ok (.invokevirtual idx, 3)) (kk : ∀ (v : Option Value) (I' : am_I), P v I' → am_K G X R nL Λ I' J (k + mc) (n + ms) (pc + 3) ls (v.toList ++ rest)) : am_K G X R nL Λ I J k n pc ls st := by
  obtain ⟨rfl, rfl⟩ := hmc
  exact k_callW C hS0 hcx hcode hs hq hM hnn hst hW hfr hce hd (fun w Λ' I' J' h => by obtain ⟨rfl, rfl, h⟩ := h; exact kk w I' h)
theorem k_callWl (C : am_Cx G X own cc nL ret tb Q) {x y : MethodName} {b' bx : ByteArray} {nx : Nat} {rx : Option FieldType} {nL' nn mc ms : Nat} {ret' : Option FieldType} {R' : Room} {As rest : List Value} {idx : Nat} {a ci : Nat} {q : vw_C} {Post' : am_PT} (hS0 : am_SW own idx x y q.1 nn) (hcx : Cond.code x bx nx rx ∈ am_tbl) (hcode : Cond.code y b' nL' ret' ∈ am_tbl) (hs : Λ.1 a = (1, ci)) (hq : vwCl[ci]? = some q) (hM : am_Ct G y b' nL' ret' R' (.ref a :: As) Λ I J Post' am_never) (hnn : As.length = nn) (hst : st = As.reverse ++ .ref a :: rest) (hW : (rest.map fun v => v.category).sum ≤ 8) (hfr : R'.frames + 1 ≤ R.frames ∧ 8 + (nL' + 11) + R'.locals ≤ R.locals) (hmc : R'.cells = mc ∧ R'.slots = ms) (hce : k + mc ≤ R.cells ∧ n + ms ≤ R.slots) (hd : decode cc pc = .ok (.invokevirtual idx, 3)) (kk : ∀ (v : Option Value) (Λ' : am_L) (I' : am_I) (J' : am_J), Post' v Λ' I' J' → am_K G X R nL Λ' I' J' (k + mc) (n + ms) (pc + 3) ls (v.toList ++ rest)) : am_K G X R nL Λ I J k n pc ls st := by
  obtain ⟨rfl, rfl⟩ := hmc
  exact k_callW C hS0 hcx hcode hs hq hM hnn hst hW hfr hce hd kk
theorem k_callIl (C : am_Cx G X own cc nL ret tb Q) {y : MethodName} {b' : ByteArray} {nL' nn mc ms : Nat} {R' : Room} {As rest : List Value} {Post' : am_PT} {idx : Nat} {a : Nat} (hS0 : am_SI own idx y nn) (hcode : Cond.code y b' nL' none ∈ am_tbl) (hM : am_Ct G y b' nL' none R' (.ref a :: As) Λ I J Post' am_never) (hnn : As.length = nn) (hst : st = As.reverse ++ .ref a :: rest) (hW : (rest.map fun v => v.category).sum ≤ 8) (hfr : R'.frames + 1 ≤ R.frames ∧ 8 + (nL' + 11) + R'.locals ≤ R.locals) (hmc : R'.cells = mc ∧ R'.slots = ms) (hce : k + mc ≤ R.cells ∧ n + ms ≤ R.slots) (hd : decode cc pc = .ok (.invokespecial idx, 3)) (kk : ∀ (v : Option Value) (Λ' : am_L) (I' : am_I) (J' : am_J), Post' v Λ' I' J' → am_K G X R nL Λ' I' J' (k + mc) (n + ms) (pc + 3) (ls) (v.toList ++ rest)) : am_K G X R nL Λ I J k n pc ls st := by
  obtain ⟨rfl, rfl⟩ := hmc
  exact k_callI (ret' := none) C hS0 hcode hM hnn hst hW hfr hce hd kk (fun _ _ _ _ h => h.elim)
/-- a call of a string constant's own method that changes cells -/
theorem k_callKg (C : am_Cx G X own cc nL ret tb Q) {y : MethodName} {b' : ByteArray} {nL' nn : Nat} {ret' : Option FieldType} {R' : Room} {As rest : List Value} {idx : Nat} {P : Option Value → am_I → Prop} {i : Nat} (hS0 : am_SV own idx y "java/lang/String" nn) (hcode : Cond.code y b' nL' ret' ∈ am_tbl) (hi : i < 43) (hM : am_Ct G y b' nL' ret' R' (.ref (G.2.2.2.2.1 i) :: As) Λ I J (am_gen Λ J P) am_never) (hnn : As.length = nn) (hst : st = As.reverse ++ .ref (G.2.2.2.2.1 i) :: rest) (hW : (rest.map fun v => v.category).sum ≤ 8) (hfr : R'.frames + 1 ≤ R.frames ∧ 8 + (nL' + 11) + R'.locals ≤ R.locals) (hce : k ≤ R.cells ∧ n ≤ R.slots) (h0 : R'.cells = 0 ∧ R'.slots = 0) (hd : decode cc pc = .ok (.invokevirtual idx, 3)) (kk : ∀ (v : Option Value) (I' : am_I), P v I' → am_K G X R nL Λ I' J k n (pc + 3) ls (v.toList ++ rest)) : am_K G X R nL Λ I J k n pc ls st := by
  intro H locs la hR hS hl
  obtain ⟨cell, q1, q2, q3⟩ := vk_recv C.he.2.2.2.2.2.1 (by rw [am_scount]; exact hi) hS
  obtain ⟨w1, w2, w3, w4, w5, w6, w7⟩ := hS0
  exact am_fin (vx_runV ⟨C.hx, C.hb, C.hm, C.ho, C.ht⟩ hM ⟨callB_of nn C.ht (am_goodc hcode) rfl rfl rfl (C.ht _ w4) (C.ht _ w1) ⟨w5, w6, w7⟩ hfr, C.ht _ w2, C.ht _ w3⟩ ⟨am_blind, ⟨cell, q1, q2, q3⟩, fun U hU hW => ⟨rfl, by rw [hU]; exact hR, C.he.to hW (by rw [hU]; exact hS)⟩⟩ rfl hnn hl.1 hst (am_w8 rfl hW) hd (by rw [h0.1, h0.2]; exact hce)) hS hl (fun w Λ' I' J' hp => by obtain ⟨rfl, rfl, hp⟩ := hp; rw [h0.1, h0.2]; exact kk w I' hp) (fun _ _ _ _ h => h.elim)
/-- a copy of an array of bytes -/
theorem am_rel_new2 {G : am_G} {Λ : am_L} {I I2 : am_I} {J : am_J} {H H' : Heap} {h : Nat} {s : Nat × Nat} (hI : ∀ b : Nat, b ≠ h → I2 b = I b) (hR : am_rel G Λ I J H) (hh : H.size = h) (z1 : H'.size = h + 1) (o1 : ∀ q : Nat, q < h → H'[q]? = H[q]?) (ha : am_at G (am_nS Λ h s) I2 (am_nJ J h) h H') : am_rel G (am_nS Λ h s) I2 (am_nJ J h) H' := by
  refine ⟨fun b => ?_, fun b hb => ?_, ?_⟩
  · by_cases e : b = h
    · rw [e]; exact ha
    · have h1 := hR.1 b
      have hlt : (Λ.1 b).1 ≠ 0 → b < h := fun q => by have := (hR.2.1 b q).2; omega
      unfold am_at at h1 ⊢
      rw [nS_ne e, nR_ne e, hI b e, nJ_old e]
      generalize hs : Λ.1 b = sb at h1 hlt ⊢
      split at h1 <;> rename_i q1 <;> (try trivial)
      · obtain ⟨r, g1, g2⟩ := h1
        exact ⟨r, g1, g2.kept (o1 b (hlt (Nat.succ_ne_zero _)))⟩
      all_goals (rw [o1 b (hlt (Nat.succ_ne_zero _))]; exact h1)
  · by_cases e : b = h
    · rw [e]
      exact ⟨by have := hR.2.2; omega, by omega⟩
    · rw [nS_ne e] at hb
      have := hR.2.1 b hb
      exact ⟨this.1, by omega⟩
  · have := hR.2.2
    omega
theorem k_clone (C : am_Cx G X RJ7 cc nL ret tb Q) {a m : Nat} (hs : Λ.1 a = (3, m)) (hfit : ∀ j : Nat, j < m → fits .byte (.int (I a j)) = true) (hRm : 1 ≤ R.frames ∧ (st.map fun v => v.category).sum + 14 ≤ R.locals) (hcell : k + 1 ≤ R.cells ∧ n + m ≤ R.slots) (hd : decode cc pc = .ok (.invokevirtual 310, 3))
    (kk : ∀ h : Nat, (∀ b : Nat, (Λ.1 b).1 ≠ 0 → b < h) → am_K G X R nL (am_nS Λ h (3, m)) (fun b => if b = h then I a else I b) (am_nJ J h) (k + 1) (n + m) (pc + 3) ls (.ref h :: st)) : am_K G X R nL Λ I J k n pc ls (.ref a :: st) := by
  intro H locs la hR hS hl
  have hcl : va_Nw (.castable "[B" "java/lang/Cloneable") X.2.2.1 := C.he.2.2.2.2.2.2.2.1 _ b_clone6 rfl
  obtain ⟨c0, t0', f1, f2, f3⟩ := Cond.castable_spec (va_Nw.use (A := X.2.2.2.2.1) rfl hcl)
  have hnm : X.2.2.1.vm.findClass "[B" = some (G.2.2.2.1 1) := va_nm_byte (C.hK.2 1 _ rfl).2
  cases hnm.symm.trans f1
  have hc0 : H[a]? = some (vp_cell (G.2.2.2.1 1) (m, .inl (I a))) := am_at_b hR hs
  intro T hT XX
  have hcellT : T.heap[a]? = some (vp_cell (G.2.2.2.1 1) (m, .inl (I a))) := by rw [hT]; exact hc0
  obtain ⟨-, kA, hkA, comp, hkind⟩ := State.isArrayOf_alike XX.warmed.alike ((C.hK.2 1 _ rfl).1 0 (fun _ => .null))
  obtain ⟨-, kS, hkS, compS, hkindS⟩ := (C.hK.2 1 _ rfl).1 0 (fun _ => .null)
  have hsz : (vp_cell (G.2.2.2.1 1) (m, .inl (I a))).slots.size = m := arrV_size _ _ _
  obtain ⟨vm', X', st'⟩ := XX.cloneArray C.hx C.ho (C.ht _ b_clone1) (C.ht _ b_clone2) (C.ht _ b_clone3) (C.ht _ b_clone4) (C.ht _ b_clone5) (a := a) (cell := vp_cell (G.2.2.2.1 1) (m, .inl (I a))) hcellT (fun k h => by cases h) (fun h => by cases h) hnm f2 f3
    (fun i v hv => by
      have hk' : T.vm.classes[G.2.2.2.1 1]? = some kA := hkA
      have hfv : fits .byte v = true := by
        have hv' : (arrV (G.2.2.2.1 1) m (fun j => .int (I a j))).slots[i]? = some v := hv
        have hi : i < m := by
          have := (Array.getElem?_eq_some_iff.mp hv').1
          rw [arrV_size] at this
          exact this
        rw [arrV_read _ _ hi] at hv'
        cases hv'
        exact hfit i hi
      have hcl0 : (vp_cell (G.2.2.2.1 1) (m, .inl (I a))).cls = G.2.2.2.1 1 := rfl
      rw [hcl0]
      simpa [State.fitsSlot, State.slotType?, hk', hkind] using hfv)
    (g := F0 X.2.2.2.1 pc la (.ref a :: st)) rfl (by rw [C.hm, hl.1]) rfl (by rw [C.hb]; exact hd) hRm.1 (by have := hRm.2; show 2 * 0 + _ + 14 ≤ _; omega) hcell.1 (by rw [hsz]; exact hcell.2) (hloader := Vm.clonesLoader_of_array hkS hkindS)
  rw [hsz] at X'
  generalize hH1 : H.push (vp_cell (G.2.2.2.1 1) (m, .inl (I a))) = H1
  have z1 : H1.size = H.size + 1 := by rw [← hH1, Array.size_push]
  have e1 : H1[H.size]? = some (vp_cell (G.2.2.2.1 1) (m, .inl (I a))) := by rw [← hH1, Array.getElem?_push_size]
  have o1 : ∀ q : Nat, q < H.size → H1[q]? = H[q]? := fun q hq => by rw [← hH1, Array.getElem?_push, if_neg (Nat.ne_of_lt hq)]
  obtain ⟨t, b1, b2⟩ := kk H.size (fun b hb => (hR.2.1 b hb).2) H1 locs la (am_rel_new2 (fun b hb => if_neg hb) hR rfl z1 o1 (by
      unfold am_at
      rw [nS_eq]
      show H1[H.size]? = some (vp_cell (G.2.2.2.1 1) (m, .inl (if H.size = H.size then I a else I H.size)))
      rw [if_pos rfl]
      exact e1)) (va_S_new hS rfl z1 o1) hl ((T.setVm vm').pushCell (vp_cell (G.2.2.2.1 1) (m, .inl (I a)))) (by rw [← hH1, ← hT]; rfl) X'
  refine ⟨t, st' t ?_, b2⟩
  rw [hT]
  exact b1
theorem k_castB (C : am_Cx G X own cc nL ret tb Q) {a m idx : Nat} (hs : Λ.1 a = (3, m)) (hk : Cond.classLink own idx "[B" ∈ am_tbl) (hd : decode cc pc = .ok (.checkcast idx, 3)) (kk : am_K G X R nL Λ I J k n (pc + 3) ls (.ref a :: st)) : am_K G X R nL Λ I J k n pc ls (.ref a :: st) := fun H locs la hR hS hl =>
  va_castE C.hx C.hb C.ho (C.ht _ hk) ⟨_, am_at_b hR hs, rfl, va_nm_byte (C.hK.2 1 _ rfl).2⟩ hd (kk H locs la hR hS hl)
/-- a method's own walk, its name known -/
theorem am_ctI_of {G : am_G} {y : MethodName} {b : ByteArray} {nL : Nat} {ret : Option FieldType} {R : Room} {args : List Value} {Λ : am_L} {I : am_I} {J : am_J} {Post : am_PT} {PX : am_XT} {own : String} (ho : y.cls = own) (hy : plainName y.cls = true) (hlen : (lg_sl args).length ≤ nL)
    (body : ∀ X : am_X, am_Cx G X own b nL ret [] (am_E G X Post PX R.cells R.slots) → X.2.2.2.2.2.2.1.name = y.name → am_K G X R nL Λ I J 0 0 0 (lv_args 0 args) []) : am_Ct G y b nL ret R args Λ I J Post PX := by
  subst ho
  refine vx_ofW (cc := b) (maxL := nL) (ret := ret) hy rfl ?_
  intro p e s m a below meth c s₁ B hml htb hv
  obtain ⟨rfl, hR, hE⟩ := hv
  have hts := atoms_spec (ws := Cond.code y b nL ret :: am_tbl) B.pre
  have htb' : c.exceptionTable.toList = [] := by
    cases h9 : c.exceptionTable.toList with
    | nil => rfl
    | cons x9 xs9 => exact (htb x9 (by rw [h9]; exact List.mem_cons_self)).elim
  have K := body (p, e, s, m, args.toArray, below, meth, c, vx_MQ below (am_Qc G Post) (am_XC G PX) args.toArray s R.cells R.slots (am_A G)) ⟨B.exec, B.bytes, hml, findClass_of_methodNamed B.named, fun w hw => hts w (List.mem_cons_of_mem _ hw), hE, B.notSynchronized, B.returns, htb', rfl⟩ (name_of_methodNamed B.named B.method).1 s.heap [] _ hR va_S.rf (lv_entry args hlen)
  rw [lg_entry_eq]
  exact K
end AM5
