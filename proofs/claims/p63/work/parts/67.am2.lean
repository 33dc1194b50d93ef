/-! ===== more rows of the abstract machine: switches, longs, objects made where the heap's size is not known ===== -/
theorem am_pass {own E : String} {pc : Nat} (cts : List Nat) (pre : List ExceptionTableEntry) (h : pre.all (fun z => !covers z pc || cts.contains z.catchType) = true) (hc : ∀ c ∈ cts, c ≠ 0 ∧ ∃ nm : String, Cond.classLink own c nm ∈ am_tbl ∧ ∃ i : Nat, am_ncs[i]? = some (E, nm)) : ∀ z ∈ pre, covers z pc = false ∨ (z.catchType ≠ 0 ∧ ∃ nm : String, Cond.classLink own z.catchType nm ∈ am_tbl ∧ ∃ i : Nat, am_ncs[i]? = some (E, nm)) := by
  intro z hz
  have h1 := List.all_eq_true.mp h z hz
  rcases Bool.or_eq_true _ _ ▸ h1 with g | g
  · exact Or.inl ((Bool.not_eq_true' _).mp g)
  · exact Or.inr (hc _ (by simpa using g))
theorem am_split {tb : List ExceptionTableEntry} {i : Nat} {x : ExceptionTableEntry} (h : tb[i]? = some x) : tb = tb.take i ++ x :: tb.drop (i + 1) := by
  obtain ⟨h1, h2⟩ := List.getElem?_eq_some_iff.mp h
  have e : tb.drop i = x :: tb.drop (i + 1) := by rw [← h2]; exact List.drop_eq_getElem_cons h1
  rw [← e]
  exact (List.take_append_drop i tb).symm
theorem sb_selects {x : MethodName} {s : State} {args : Array Value} {C : String} {n : Nat} (hy : x.cls ≠ "java/lang/invoke/MethodHandle" ∧ x.cls ≠ "java/lang/invoke/VarHandle") (hins : (Cond.instantiable C n).before args s = true) (hsame : (Cond.sameMethod x.cls x.cls x.name x.desc).before args s = true) (hpriv : (Cond.privateMethod x).before args s = true) (hinst : (Cond.instanceMethod x).before args s = true) : (Cond.selects C x x).before args s = true := by
  obtain ⟨c, k, hc, -⟩ := Cond.instantiable_spec hins
  obtain ⟨mk, methM, hnamed, hmethM, -, -⟩ := Cond.instanceMethod_spec hinst
  have hfound : s.methodFound? x.cls x.name x.desc = some mk := State.methodFound?_of_named hnamed hy
  have hcA : s.vm.findClass x.cls = some mk.cls := findClass_of_methodNamed hnamed
  obtain ⟨cn, ck, r1, hcn, hck, hni, -, -⟩ := Cond.sameMethod_found hsame
  have e : cn = mk.cls := Option.some.inj (hcn.symm.trans hcA)
  subst e
  have hsel : selectMethod {} s.vm c mk = .method mk := selectMethod_private hmethM (Cond.privateMethod_at hpriv mk methM hnamed hmethM)
  simp only [Cond.before, Cond.holds, Cond.value, hc, hfound, hnamed, hsel, hck]
  simp; exact hni
/-- an inherited or private method of a superclass, found by its receiver of class C -/
def am_SU (own : String) (idx : Nat) (y : MethodName) (C : String) (n : Nat) : Prop := Cond.methodLink own idx y ∈ am_tbl ∧ Cond.sameMethod y.cls y.cls y.name y.desc ∈ am_tbl ∧ Cond.instanceMethod y ∈ am_tbl ∧ (Cond.selects C y y ∈ am_tbl ∨ ∃ m : Nat, Cond.instantiable C m ∈ am_tbl ∧ Cond.privateMethod y ∈ am_tbl) ∧ Cond.initialized y.cls ∈ am_tbl ∧ y.cls ≠ "java/lang/invoke/MethodHandle" ∧ y.cls ≠ "java/lang/invoke/VarHandle" ∧ (parseMethodDescriptor y.desc).map (fun d => d.parameters.length) = some n
/-- invokespecial of the superclass's method -/
def am_SP (own : String) (idx : Nat) (y : MethodName) (n : Nat) : Prop := Cond.methodLink own idx y ∈ am_tbl ∧ Cond.sameMethod y.cls y.cls y.name y.desc ∈ am_tbl ∧ Cond.superclass own y.cls ∈ am_tbl ∧ Cond.instanceMethod y ∈ am_tbl ∧ Cond.initialized y.cls ∈ am_tbl ∧ y.cls ≠ "java/lang/invoke/MethodHandle" ∧ y.cls ≠ "java/lang/invoke/VarHandle" ∧ (parseMethodDescriptor y.desc).map (fun d => d.parameters.length) = some n
theorem am_met {G : am_G} {y : MethodName} {ws : List Cond} {R : Room} {P : Array Value → State → Prop} {Post : am_PT} (h : vx_Met G.1 y ws R P (am_Qc G Post) (am_XC G am_never) R.cells R.slots (am_A G)) : Met G.1 y ws R P (am_Qc G Post) R.cells R.slots (am_A G) := by
  intro p e ha hc hk s m a below hf hfit hpre happ
  obtain ⟨t, o, h1, h2, h3, h4⟩ := h p e ha hc hk s m a below hf hfit hpre happ
  refine ⟨t, o, h1, h2, h3, ?_⟩
  rcases h4 with h4 | ⟨q, -, E, ce, L, ⟨⟨Λ, I, J, hp, -⟩, -⟩, -⟩
  · exact h4
  · exact hp.elim
theorem am_vxrun {p : Program} {l : Launch} {e : Env} {R : Room} {s : State} {m : MethodId} {args : Array Value} {below : List Frame} {meth : Method} {c : Code} {H : Heap} {locs : List Loc} {cells slots mc ms : Nat} {g : JFrame} {rest : List Value} {Qa : State → Outcome → State → Prop} {XC : String → State → State → Prop} {free : Addr → Prop} (h : va_Run p l e R s m args below meth c H locs cells slots mc ms g rest Qa free) : vx_Run p l e R s m args below meth c H locs cells slots mc ms g rest Qa XC free := fun T hT X => Or.inl (h T hT X)
section AM2
variable {G : am_G} {X : am_X} {R : Room} {own : String} {cc : ByteArray} {nL : Nat} {ret : Option FieldType} {tb : List ExceptionTableEntry} {Q : State → Prop}
variable {Λ : am_L} {I : am_I} {J : am_J} {k n pc : Nat} {ls : List (Nat × Value)} {st : List Value} {Post : am_PT} {PX : am_XT} {mc ms : Nat} {ty : FieldType}
theorem k_tswIn (C : am_Cx G X own cc nL ret tb Q) {dflt lo hi : Int} {offs : Array Int} {len : Nat} {x : Int32} {off : Int} {tgt : Nat} (h1 : ¬ x.toInt < lo) (h2 : ¬ hi < x.toInt) (ho : offs[(x.toInt - lo).toNat]? = some off) (ht : (pc : Int) + off = (tgt : Int)) (hd : decode cc pc = .ok (.tableswitch dflt lo hi offs, len)) (kk : am_K G X R nL Λ I J k n (tgt) ls (st)) : am_K G X R nL Λ I J k n (pc) ls (.int x :: st) := fun H locs la hR hS hl => lv_tableIn C.hx C.hb hd h1 h2 ho ht (kk H locs la hR hS hl)
theorem k_tswOut (C : am_Cx G X own cc nL ret tb Q) {dflt lo hi : Int} {offs : Array Int} {len : Nat} {x : Int32} {tgt : Nat} (h1 : x.toInt < lo ∨ hi < x.toInt) (ht : (pc : Int) + dflt = (tgt : Int)) (hd : decode cc pc = .ok (.tableswitch dflt lo hi offs, len)) (kk : am_K G X R nL Λ I J k n (tgt) ls (st)) : am_K G X R nL Λ I J k n (pc) ls (.int x :: st) := fun H locs la hR hS hl => lv_tableOut C.hx C.hb hd h1 ht (kk H locs la hR hS hl)
theorem k_lstore (C : am_Cx G X own cc nL ret tb Q) {i : Nat} {x : Int64} {lv : List (Nat × Value)} (hi : i + 1 < nL) (hv : (i, Value.long x) :: ls.filter (fun q => !(q.1 == i) && (!(q.1 == i + 1) && !(q.1 + 1 == i && q.2.category == 2))) = lv) (hd : decode cc pc = .ok (.lstore i, 2)) (kk : am_K G X R nL Λ I J k n (pc + 2) lv (st)) : am_K G X R nL Λ I J k n (pc) ls (.long x :: st) := fun H locs la hR hS hl => lv_lstore C.hx C.hb hd hl hi hv (fun la hl => kk H locs la hR hS hl)
theorem k_lstore_n (C : am_Cx G X own cc nL ret tb Q) {f : Fin 4} {i : Nat} {x : Int64} {lv : List (Nat × Value)} (hf : (f : Nat) = i) (hi : i + 1 < nL) (hv : (i, Value.long x) :: ls.filter (fun q => !(q.1 == i) && (!(q.1 == i + 1) && !(q.1 + 1 == i && q.2.category == 2))) = lv) (hd : decode cc pc = .ok (.lstore_n f, 1)) (kk : am_K G X R nL Λ I J k n (pc + 1) lv (st)) : am_K G X R nL Λ I J k n (pc) ls (.long x :: st) := fun H locs la hR hS hl => lv_lstore_n C.hx C.hb hd hf hl hi hv (fun la hl => kk H locs la hR hS hl)
theorem k_ior (C : am_Cx G X own cc nL ret tb Q) {x y : Int32} (hd : decode cc pc = .ok (.ior, 1)) (kk : am_K G X R nL Λ I J k n (pc + 1) ls (.int (x ||| y) :: st)) : am_K G X R nL Λ I J k n (pc) ls (.int y :: .int x :: st) := fun H locs la hR hS hl => lv_ior C.hx C.hb hd (kk H locs la hR hS hl)
theorem k_ishl (C : am_Cx G X own cc nL ret tb Q) {x y : Int32} (hd : decode cc pc = .ok (.ishl, 1)) (kk : am_K G X R nL Λ I J k n (pc + 1) ls (.int (x <<< (y &&& 31)) :: st)) : am_K G X R nL Λ I J k n (pc) ls (.int y :: .int x :: st) := fun H locs la hR hS hl => lv_ishl C.hx C.hb hd (kk H locs la hR hS hl)
theorem k_ineg (C : am_Cx G X own cc nL ret tb Q) {x : Int32} (hd : decode cc pc = .ok (.ineg, 1)) (kk : am_K G X R nL Λ I J k n (pc + 1) ls (.int (-x) :: st)) : am_K G X R nL Λ I J k n (pc) ls (.int x :: st) := fun H locs la hR hS hl => lv_ineg C.hx C.hb hd (kk H locs la hR hS hl)
theorem k_fcmp (C : am_Cx G X own cc nL ret tb Q) {x y : UInt32} {op : CmpOp} {v : Int32} (hv : Op.cmpValue (FP.fcmp x y) op = v) (hd : decode cc pc = .ok (.fcmp op, 1)) (kk : am_K G X R nL Λ I J k n (pc + 1) ls (.int v :: st)) : am_K G X R nL Λ I J k n (pc) ls (.float y :: .float x :: st) := fun H locs la hR hS hl => lv_fcmp C.hx C.hb hd (by rw [hv]; exact kk H locs la hR hS hl)
theorem k_dcmp (C : am_Cx G X own cc nL ret tb Q) {x y : UInt64} {op : CmpOp} {v : Int32} (hv : Op.cmpValue (FP.dcmp x y) op = v) (hd : decode cc pc = .ok (.dcmp op, 1)) (kk : am_K G X R nL Λ I J k n (pc + 1) ls (.int v :: st)) : am_K G X R nL Λ I J k n (pc) ls (.double y :: .double x :: st) := fun H locs la hR hS hl => lv_dcmp C.hx C.hb hd (by rw [hv]; exact kk H locs la hR hS hl)
theorem k_ldcI (C : am_Cx G X own cc nL ret tb Q) {idx : Nat} {v : Int32} (hw : Cond.constant own idx v ∈ am_tbl) (hd : decode cc pc = .ok (.ldc idx, 2)) (kk : am_K G X R nL Λ I J k n (pc + 2) ls (.int v :: st)) : am_K G X R nL Λ I J k n (pc) ls (st) := fun H locs la hR hS hl => lv_ldc C.hx C.hb C.ho (C.ht _ hw) hd (kk H locs la hR hS hl)
theorem k_lret (C : am_Cx G X own cc nL (some .long) tb (am_E G X Post PX mc ms)) {v : Int64} (hk : k ≤ mc) (hn : n ≤ ms) (hp : Post (some (.long v)) Λ I J) (hd : decode cc pc = .ok (.lreturn, 1)) : am_K G X R nL Λ I J k n pc ls [.long v] := by
  intro H locs la hR hS hl
  rw [C.hq]
  exact W.widen hk hn (vx_ret (W.lret C.hx C.hb C.hr (fun t ht _ => ⟨⟨_, _, _, _, rfl, hp, by rw [ht]; exact hR⟩, hS.F ht⟩) hS.2.2 hd (hlocks := C.hl)))
theorem k_aret (C : am_Cx G X own cc nL (some ty) tb (am_E G X Post PX mc ms)) {a : Nat} (hty : (∃ n, ty = .object n) ∨ ∃ t, ty = .array t) (hk : k ≤ mc) (hn : n ≤ ms) (hp : Post (some (.ref a)) Λ I J) (hd : decode cc pc = .ok (.areturn, 1)) : am_K G X R nL Λ I J k n pc ls [.ref a] := by
  intro H locs la hR hS hl
  rw [C.hq]
  exact W.widen hk hn (vx_ret (W.aret C.hx C.hb C.hr hty (Or.inr ⟨a, rfl⟩) (fun t ht _ => ⟨⟨_, _, _, _, rfl, hp, by rw [ht]; exact hR⟩, hS.F ht⟩) hS.2.2 hd (hlocks := C.hl)))
theorem k_newA2 (C : am_Cx G X own cc nL ret tb Q) {N kd : Nat} {x : Int32} {atype : ArrayType} (harr : Cond.arrayClass (newarray.typeOf atype) ∈ am_tbl) (hx : x = nI N) (hN : N ≤ 2000) (hat : (atype = .int ∧ kd = 2) ∨ (atype = .byte ∧ kd = 3) ∨ (atype = .boolean ∧ kd = 4)) (hcell : k + 1 ≤ R.cells ∧ n + N ≤ R.slots) (hd : decode cc pc = .ok (.newarray atype, 2))
    (kk : ∀ h : Nat, (∀ a : Nat, (Λ.1 a).1 ≠ 0 → a < h) → am_K G X R nL (am_nS Λ h (kd, N)) (am_nI I h) (am_nJ J h) (k + 1) (n + N) (pc + 2) ls (.ref h :: st)) : am_K G X R nL Λ I J k n pc ls (.int x :: st) := by
  subst hx
  intro H locs la hR hS hl
  have hb : N * componentBytes (newarray.typeOf atype) ≤ 536870912 := by
    have : componentBytes (newarray.typeOf atype) ≤ 8 := by cases atype <;> decide
    exact Nat.le_trans (Nat.mul_le_mul hN this) (by decide)
  refine va_newaK C.hx C.hb (C.ht _ harr) rfl hd rfl (nI_pos (by omega)) (nI_clamp (by omega)) hb hcell.1 hcell.2 (rfl : H.size = H.size) fun H' cA e1 z1 o1 hA hnm => ?_
  refine kk H.size (fun a ha => (hR.2.1 a ha).2) H' locs la (am_rel_new hR rfl z1 o1 ?_) (va_S_new hS rfl z1 o1) hl
  unfold am_at
  rw [nS_eq, nI_new, nJ_new]
  rcases hat with ⟨rfl, rfl⟩ | ⟨rfl, rfl⟩ | ⟨rfl, rfl⟩
  · have hc : G.2.2.2.1 0 = cA := Option.some.inj ((C.hK.2 0 _ rfl).2.symm.trans hnm)
    show H'[H.size]? = some (vp_cell (G.2.2.2.1 0) (N, .inl (fun _ => 0)))
    rw [hc]
    exact e1
  · have hc : G.2.2.2.1 1 = cA := Option.some.inj ((C.hK.2 1 _ rfl).2.symm.trans hnm)
    show H'[H.size]? = some (vp_cell (G.2.2.2.1 1) (N, .inl (fun _ => 0)))
    rw [hc]
    exact e1
  · have hc : G.2.2.2.1 2 = cA := Option.some.inj ((C.hK.2 2 _ rfl).2.symm.trans hnm)
    show H'[H.size]? = some (vp_cell (G.2.2.2.1 2) (N, .inl (fun _ => 0)))
    rw [hc]
    exact e1
theorem k_newC2 (C : am_Cx G X own cc nL ret tb Q) {ci idx : Nat} {q : vw_C} (hq : vwCl[ci]? = some q) (hcl : Cond.classLink own idx q.1 ∈ am_tbl) (hins : Cond.instantiable q.1 q.2.2 ∈ am_tbl) (hini : Cond.initialized q.1 ∈ am_tbl) (hcell : k + 1 ≤ R.cells ∧ n + q.2.2 ≤ R.slots) (hd : decode cc pc = .ok (.new idx, 3))
    (kk : ∀ h : Nat, (∀ a : Nat, (Λ.1 a).1 ≠ 0 → a < h) → am_K G X R nL (am_nS Λ h (1, ci)) (am_nI I h) (am_nJ J h) (k + 1) (n + q.2.2) (pc + 3) ls (.ref h :: st)) : am_K G X R nL Λ I J k n pc ls st := by
  intro H locs la hR hS hl
  obtain ⟨g1, g2, g3⟩ := (am_cfa ci (am_ci hq)) q hq
  have hKn := C.hK.1 ci _ hq
  refine W.newcK C.hx C.hb C.ho (C.ht _ hcl) (C.ht _ hins) (C.ht _ hini) rfl hd hcell.1 hcell.2 hKn.2.1 (rfl : H.size = H.size) fun H' kC hkC e1 z1 o1 => ?_
  refine kk H.size (fun a ha => (hR.2.1 a ha).2) H' locs la (am_rel_new hR rfl z1 o1 ?_) (va_S_new hS rfl z1 o1) hl
  unfold am_at
  rw [nS_eq, nI_new, nJ_new, nR_eq]
  have hn := am_nf ci (am_ci hq) q hq
  exact ⟨q, hq, (u_born (am_ty ci) C.ht g1 hKn hkC e1 g2).to (fun j hj => am_okt_d (am_okt_all ci (am_ci hq) j (by omega)))⟩
theorem k_catchI (C : am_Cx G X own cc nL ret tb Q) {E name : String} (i : Nat) (x : ExceptionTableEntry) (cts : List Nat) (hi : tb[i]? = some x) (hp : (tb.take i).all (fun z => !covers z pc || cts.contains z.catchType) = true) (hc : ∀ c ∈ cts, c ≠ 0 ∧ ∃ nm : String, Cond.classLink own c nm ∈ am_tbl ∧ ∃ i : Nat, am_ncs[i]? = some (E, nm)) (hx : covers x pc = true) (h0 : x.catchType ≠ 0) (hlink : Cond.classLink own x.catchType name ∈ am_tbl) (hcast : Cond.castable E name ∈ lw_tbl)
    (kk : ∀ q : Nat, am_K G X R nL Λ I J k n (x.handlerPc) ls [.ref q]) : am_KX G X R nL Λ I J k n pc ls st E := k_catch C (tb.take i) x (tb.drop (i + 1)) (am_split hi) (am_pass cts _ hp hc) hx h0 hlink hcast kk
theorem k_callU (C : am_Cx G X own cc nL ret tb Q) {y : MethodName} {b' : ByteArray} {nL' nn : Nat} {ret' : Option FieldType} {R' : Room} {As rest : List Value} {Post' : am_PT} {idx : Nat} {a ci : Nat} {q : vw_C} (hS0 : am_SU own idx y q.1 nn) (hcode : Cond.code y b' nL' ret' ∈ am_tbl) (hs : Λ.1 a = (1, ci)) (hq : vwCl[ci]? = some q) (hM : am_Ct G y b' nL' ret' R' (.ref a :: As) Λ I J Post' am_never) (hnn : As.length = nn) (hst : st = As.reverse ++ .ref a :: rest) (hW : (rest.map fun v => v.category).sum ≤ 8) (hfr : R'.frames + 1 ≤ R.frames ∧ 8 + (nL' + 11) + R'.locals ≤ R.locals) (hce : k + R'.cells ≤ R.cells ∧ n + R'.slots ≤ R.slots) (hd : decode cc pc = .ok (.invokevirtual idx, 3)) (kk : ∀ (v : Option Value) (Λ' : am_L) (I' : am_I) (J' : am_J), Post' v Λ' I' J' → am_K G X R nL Λ' I' J' (k + R'.cells) (n + R'.slots) (pc + 3) (ls) (v.toList ++ rest)) : am_K G X R nL Λ I J k n pc ls st := by
  intro H locs la hR hS hl
  obtain ⟨r, h1, cell, q1, q2, q3, -⟩ := am_at_obj hR hs
  cases Option.some.inj (h1.symm.trans hq)
  obtain ⟨w1, w2, w3, w4, w5, w6, w7, w8⟩ := hS0
  have hsel : (Cond.selects q.1 y y).before X.2.2.2.2.1 X.2.2.1 = true := by
    rcases w4 with w4 | ⟨m, w4, w9⟩
    · exact C.ht _ w4
    · exact sb_selects ⟨w6, w7⟩ (C.ht _ w4) (C.ht _ w2) (C.ht _ w9) (C.ht _ w3)
  exact am_fin (PX' := am_never) (am_vxrun (va_runU (C := q.1) (owner := y.cls) (x := y) ⟨C.hx, C.hb, C.hm, C.ho, C.ht⟩ (am_met hM) ⟨⟨rfl, rfl, hfr.1, hfr.2, pay_in C.ht (am_goodc hcode), List.mem_cons_self⟩, C.ht _ hcode, C.ht _ w5, ⟨w6, w7⟩, fun sig h => (by rw [h] at w8; exact (Option.some.inj w8).symm), C.ht _ w1, C.ht _ w2, va_Decl.of (C.ht _ w3) (C.ht _ hcode), hsel, C.ht _ w3⟩ ⟨am_blind, ⟨cell, q1, by rw [q3]; rfl, by rw [q2]; exact (C.hK.1 ci _ h1).2.1⟩, fun U hU hW => ⟨rfl, by rw [hU]; exact hR, C.he.to hW (by rw [hU]; exact hS)⟩⟩ rfl hnn hl.1 hst (am_w8 rfl hW) hd hce)) hS hl kk (fun _ _ _ _ h => False.elim h)
theorem k_callP (C : am_Cx G X own cc nL ret tb Q) {y : MethodName} {b' : ByteArray} {nL' nn : Nat} {ret' : Option FieldType} {R' : Room} {As rest : List Value} {Post' : am_PT} {idx : Nat} {a ci : Nat} {q : vw_C} (hS0 : am_SP own idx y nn) (hcode : Cond.code y b' nL' ret' ∈ am_tbl) (hs : Λ.1 a = (1, ci)) (hq : vwCl[ci]? = some q) (hno : y.name ≠ "<init>") (hM : am_Ct G y b' nL' ret' R' (.ref a :: As) Λ I J Post' am_never) (hnn : As.length = nn) (hst : st = As.reverse ++ .ref a :: rest) (hW : (rest.map fun v => v.category).sum ≤ 8) (hfr : R'.frames + 1 ≤ R.frames ∧ 8 + (nL' + 11) + R'.locals ≤ R.locals) (hce : k + R'.cells ≤ R.cells ∧ n + R'.slots ≤ R.slots) (hd : decode cc pc = .ok (.invokespecial idx, 3)) (kk : ∀ (v : Option Value) (Λ' : am_L) (I' : am_I) (J' : am_J), Post' v Λ' I' J' → am_K G X R nL Λ' I' J' (k + R'.cells) (n + R'.slots) (pc + 3) (ls) (v.toList ++ rest)) : am_K G X R nL Λ I J k n pc ls st := by
  intro H locs la hR hS hl
  obtain ⟨r, h1, cell, q1, q2, q3, -⟩ := am_at_obj hR hs
  cases Option.some.inj (h1.symm.trans hq)
  obtain ⟨w1, w2, w3, w4, w5, w6, w7, w8⟩ := hS0
  exact am_fin (PX' := am_never) (am_vxrun (va_runSU (C := q.1) (C.hK.1 ci _ h1).2 ⟨C.hx, C.hb, C.hm, C.ho, C.ht⟩ (am_met hM) ⟨⟨rfl, rfl, hfr.1, hfr.2, pay_in C.ht (am_goodc hcode), List.mem_cons_self⟩, C.ht _ w1, C.ht _ w2, C.ht _ w3, C.ht _ w4, C.ht _ w5, C.ht _ hcode, hno, fun sig h => (by rw [h] at w8; exact (Option.some.inj w8).symm)⟩ ⟨am_blind, ⟨cell, q1, by rw [q3]; rfl, by rw [q2]; exact (C.hK.1 ci _ h1).2.1⟩, fun U hU hW => ⟨rfl, by rw [hU]; exact hR, C.he.to hW (by rw [hU]; exact hS)⟩⟩ rfl hnn hl.1 hst (am_w8 rfl hW) hd hce)) hS hl kk (fun _ _ _ _ h => False.elim h)
end AM2
