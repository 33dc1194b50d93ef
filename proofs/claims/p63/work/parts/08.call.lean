/-! ===== methods, ends, calls ===== -/
def am_pure (v : Value) (Λ : am_L) (I : am_I) (J : am_J) : am_PT := fun w Λ' I' J' => w = some v ∧ Λ' = Λ ∧ I' = I ∧ J' = J
def am_gen (Λ : am_L) (J : am_J) (P : Option Value → am_I → Prop) : am_PT := fun w Λ' I' J' => Λ' = Λ ∧ J' = J ∧ P w I'
def am_never : am_XT := fun _ _ _ _ => False
theorem am_blind {G : am_G} {args : List Value} {Λ : am_L} {I : am_I} {J : am_J} : FrameBlind (am_Pc G args Λ I J) := fun _ _ _ _ h => ⟨h.1, h.2.1, h.2.2.calling⟩
theorem am_ct_of {G : am_G} {y : MethodName} {b : ByteArray} {nL : Nat} {ret : Option FieldType} {R : Room} {args : List Value} {Λ : am_L} {I : am_I} {J : am_J} {Post : am_PT} {PX : am_XT} {own : String} (ho : y.cls = own) (hy : plainName y.cls = true) (hlen : (lg_sl args).length ≤ nL)
    (body : ∀ X : am_X, am_Cx G X own b nL ret [] (am_E G X Post PX R.cells R.slots) → am_K G X R nL Λ I J 0 0 0 (lv_args 0 args) []) : am_Ct G y b nL ret R args Λ I J Post PX := by
  subst ho
  refine vx_ofW (cc := b) (maxL := nL) (ret := ret) hy rfl ?_
  intro p e s m a below meth c s₁ B hml htb hv
  obtain ⟨rfl, hR, hE⟩ := hv
  have hts := atoms_spec (ws := Cond.code y b nL ret :: am_tbl) B.pre
  have htb' : c.exceptionTable.toList = [] := by
    cases h9 : c.exceptionTable.toList with
    | nil => rfl
    | cons x9 xs9 => exact (htb x9 (by rw [h9]; exact List.mem_cons_self)).elim
  have K := body (p, e, s, m, args.toArray, below, meth, c, vx_MQ below (am_Qc G Post) (am_XC G PX) args.toArray s R.cells R.slots (am_A G)) ⟨B.exec, B.bytes, hml, findClass_of_methodNamed B.named, fun w hw => hts w (List.mem_cons_of_mem _ hw), hE, B.notSynchronized, B.returns, htb', rfl⟩ s.heap [] _ hR va_S.rf (lv_entry args hlen)
  rw [lg_entry_eq]
  exact K
theorem am_ctH_of {G : am_G} {y : MethodName} {b : ByteArray} {nL : Nat} {ret : Option FieldType} {hh : List (Nat × Nat × Nat × Nat)} {R : Room} {args : List Value} {Λ : am_L} {I : am_I} {J : am_J} {Post : am_PT} {PX : am_XT} {own : String} (ho : y.cls = own) (hy : plainName y.cls = true) (hlen : (lg_sl args).length ≤ nL)
    (body : ∀ X : am_X, am_Cx G X own b nL ret (tableOf hh) (am_E G X Post PX R.cells R.slots) → am_K G X R nL Λ I J 0 0 0 (lv_args 0 args) []) : am_CtH G y b nL ret hh R args Λ I J Post PX := by
  subst ho
  refine vx_ofWH (cc := b) (maxL := nL) (ret := ret) (hh := hh) hy rfl ?_
  intro p e s m a below meth c s₁ B hml hv
  obtain ⟨rfl, hR, hE⟩ := hv
  have hts := atoms_spec (ws := Cond.codeWith y b nL ret hh :: am_tbl) B.pre
  have K := body (p, e, s, m, args.toArray, below, meth, c, vx_MQ below (am_Qc G Post) (am_XC G PX) args.toArray s R.cells R.slots (am_A G)) ⟨B.exec, B.bytes, hml, findClass_of_methodNamed B.named, fun w hw => hts w (List.mem_cons_of_mem _ hw), hE, B.notSynchronized, B.returns, vx_table (x := y) B (hts _ List.mem_cons_self), rfl⟩ s.heap [] _ hR va_S.rf (lv_entry args hlen)
  rw [lg_entry_eq]
  exact K
section AMC
variable {G : am_G} {X : am_X} {R : Room} {own : String} {cc : ByteArray} {nL : Nat} {ret : Option FieldType} {tb : List ExceptionTableEntry} {Q : State → Prop}
variable {Λ : am_L} {I : am_I} {J : am_J} {k n pc : Nat} {ls : List (Nat × Value)} {st : List Value} {Post : am_PT} {PX : am_XT} {mc ms : Nat} {ty : FieldType}
theorem k_iret (C : am_Cx G X own cc nL (some .int) tb (am_E G X Post PX mc ms)) {v : Int32} (hk : k ≤ mc) (hn : n ≤ ms) (hp : Post (some (.int v)) Λ I J) (hd : decode cc pc = .ok (.ireturn, 1)) : am_K G X R nL Λ I J (k) (n) (pc) (ls) ([(.int v)]) := by
  intro H locs la hR hS hl
  rw [C.hq]
  exact W.widen hk hn (vx_ret (W.iret C.hx C.hb C.hr (fun t ht _ => ⟨⟨_, _, _, _, rfl, hp, by rw [ht]; exact hR⟩, hS.F ht⟩) hS.2.2 hd (hlocks := C.hl)))
theorem k_vret (C : am_Cx G X own cc nL none tb (am_E G X Post PX mc ms))  (hk : k ≤ mc) (hn : n ≤ ms) (hp : Post none Λ I J) (hd : decode cc pc = .ok (.return_, 1)) : am_K G X R nL Λ I J (k) (n) (pc) (ls) ([]) := by
  intro H locs la hR hS hl
  rw [C.hq]
  exact W.widen hk hn (vx_ret (W.vret C.hx C.hb C.hr (fun t ht _ => ⟨⟨_, _, _, _, rfl, hp, by rw [ht]; exact hR⟩, hS.F ht⟩) hS.2.2 hd (hlocks := C.hl)))
theorem k_fret (C : am_Cx G X own cc nL (some .float) tb (am_E G X Post PX mc ms)) {v : UInt32} (hk : k ≤ mc) (hn : n ≤ ms) (hp : Post (some (.float v)) Λ I J) (hd : decode cc pc = .ok (.freturn, 1)) : am_K G X R nL Λ I J (k) (n) (pc) (ls) ([(.float v)]) := by
  intro H locs la hR hS hl
  rw [C.hq]
  exact W.widen hk hn (vx_ret (W.fret C.hx C.hb C.hr (fun t ht _ => ⟨⟨_, _, _, _, rfl, hp, by rw [ht]; exact hR⟩, hS.F ht⟩) hS.2.2 hd (hlocks := C.hl)))
theorem k_dret (C : am_Cx G X own cc nL (some .double) tb (am_E G X Post PX mc ms)) {v : UInt64} (hk : k ≤ mc) (hn : n ≤ ms) (hp : Post (some (.double v)) Λ I J) (hd : decode cc pc = .ok (.dreturn, 1)) : am_K G X R nL Λ I J (k) (n) (pc) (ls) ([(.double v)]) := by
  intro H locs la hR hS hl
  rw [C.hq]
  exact W.widen hk hn (vx_ret (W.dret C.hx C.hb C.hr (fun t ht _ => ⟨⟨_, _, _, _, rfl, hp, by rw [ht]; exact hR⟩, hS.F ht⟩) hS.2.2 hd (hlocks := C.hl)))
theorem k_zret (C : am_Cx G X own cc nL (some ty) tb (am_E G X Post PX mc ms)) {v : Int32} (hz : narrow ty (.int v) = .int v) (hk : k ≤ mc) (hn : n ≤ ms) (hp : Post (some (.int v)) Λ I J) (hd : decode cc pc = .ok (.ireturn, 1)) : am_K G X R nL Λ I J (k) (n) (pc) (ls) ([(.int v)]) := by
  intro H locs la hR hS hl
  rw [C.hq]
  exact W.widen hk hn (vx_ret (W.zret C.hx C.hb C.hr hz (fun t ht _ => ⟨⟨_, _, _, _, rfl, hp, by rw [ht]; exact hR⟩, hS.F ht⟩) hS.2.2 hd (hlocks := C.hl)))
theorem k_widen {k' n' : Nat} (hk : k ≤ k') (hn : n ≤ n') (kk : am_K G X R nL Λ I J (k') (n') (pc) (ls) (st)) : am_K G X R nL Λ I J (k) (n) (pc) (ls) (st) := fun H locs la hR hS hl => W.widen hk hn (kk H locs la hR hS hl)
theorem k_sub {ls' : List (Nat × Value)} (ps : List Nat) (h : lv_pick ls ps = ls') (kk : am_K G X R nL Λ I J (k) (n) (pc) (ls') (st)) : am_K G X R nL Λ I J (k) (n) (pc) (ls) (st) := fun H locs la hR hS hl => kk H locs la hR hS (lv_sub hl ps h)
theorem k_max (C : am_Cx G X own cc nL ret tb Q) {idx : Nat} {x y v : Int32} (hv : (if x < y then y else x) = v) (hl : Cond.methodLink own idx Lib.Math.max.name ∈ am_tbl) (hRm : 1 ≤ R.frames ∧ (st.map fun v => v.category).sum + 13 ≤ R.locals) (hc : k ≤ R.cells ∧ n ≤ R.slots) (hd : decode cc pc = .ok (.invokestatic idx, 3)) (kk : am_K G X R nL Λ I J (k) (n) (pc + 3) (ls) (.int v :: st)) : am_K G X R nL Λ I J (k) (n) (pc) (ls) (.int y :: .int x :: st) := by
  intro H locs la hR hS hla
  subst hv
  exact va_mmax C.hx C.hb (by rw [C.hm, hla.1]) C.ho (C.ht _ hl) (C.ht _ am_mx1) (C.ht _ am_mx2) (C.ht _ am_mx3) hRm.1 hRm.2 hc.1 hc.2 hd (kk H locs la hR hS hla)
theorem k_min (C : am_Cx G X own cc nL ret tb Q) {idx : Nat} {x y v : Int32} (hv : (if y < x then y else x) = v) (hl : Cond.methodLink own idx Lib.Math.min.name ∈ am_tbl) (hRm : 1 ≤ R.frames ∧ (st.map fun v => v.category).sum + 13 ≤ R.locals) (hc : k ≤ R.cells ∧ n ≤ R.slots) (hd : decode cc pc = .ok (.invokestatic idx, 3)) (kk : am_K G X R nL Λ I J (k) (n) (pc + 3) (ls) (.int v :: st)) : am_K G X R nL Λ I J (k) (n) (pc) (ls) (.int y :: .int x :: st) := by
  intro H locs la hR hS hla
  subst hv
  exact va_mmin C.hx C.hb (by rw [C.hm, hla.1]) C.ho (C.ht _ hl) (C.ht _ am_mn1) (C.ht _ am_mx2) (C.ht _ am_mn3) hRm.1 hRm.2 hc.1 hc.2 hd (kk H locs la hR hS hla)
theorem am_fin {H : Heap} {locs : List Loc} {la : Array Slot} {mc ms : Nat} {rest : List Value} {a : Array Value} {Post' : am_PT} {PX' : am_XT} (hr : vx_Run X.1 G.1 X.2.1 R X.2.2.1 X.2.2.2.1 X.2.2.2.2.1 X.2.2.2.2.2.1 X.2.2.2.2.2.2.1 X.2.2.2.2.2.2.2.1 H locs k n mc ms (F0 X.2.2.2.1 pc la st) rest (am_Qc G Post' a) (am_XC G PX') (am_A G)) (hS : va_S (am_A G) X.2.2.1.heap H locs) (hl : lv_has la nL ls)
    (kk : ∀ (v : Option Value) (Λ' : am_L) (I' : am_I) (J' : am_J), Post' v Λ' I' J' → am_K G X R nL Λ' I' J' (k + mc) (n + ms) (pc + 3) (ls) (v.toList ++ rest)) (kx : ∀ (E : String) (Λ' : am_L) (I' : am_I) (J' : am_J), PX' E Λ' I' J' → am_KX G X R nL Λ' I' J' (k + mc) (n + ms) (pc) (ls) (rest) E) :
    W X.1 G.1 X.2.1 R X.2.2.1 X.2.2.2.1 X.2.2.2.2.1 X.2.2.2.2.2.1 X.2.2.2.2.2.2.1 X.2.2.2.2.2.2.2.1 H locs k n X.2.2.2.2.2.2.2.2 (F0 X.2.2.2.1 pc la st) := by
  intro T hT XX
  rcases hr T hT XX with ⟨v, st₀, t, T', L, h0, X', hL, e1, e2, ⟨⟨v', Λ', I', J', hv, hp, hb⟩, hF⟩, sg⟩ | ⟨q, st₀, t, T', L, E, ce, h0, X', hL, e1, e2, ⟨⟨Λ', I', J', hp, hb⟩, hF⟩, hce, hcv, hcl, sg⟩
  · cases hv
    obtain ⟨k1, k2, k3⟩ := vx_keep h0 e1 hS (fun _ _ h => h) (fun _ h => h) hL hF
    obtain ⟨t2, a1, b1⟩ := kk v Λ' I' J' hp T'.heap (locs ++ L) la (by rw [e1]; exact hb) k3 hl T' rfl X'
    exact ⟨t2, sg t2 a1, b1⟩
  · obtain ⟨k1, k2, k3⟩ := vx_keep h0 e1 hS (fun _ _ h => h) (fun _ h => h) hL hF
    obtain ⟨t2, a1, b1⟩ := kx E Λ' I' J' hp T'.heap (locs ++ L) la q ce (by rw [e1]; exact hb) k3 hl (by rw [e1]; exact hce) hcv hcl T' rfl X'
    exact ⟨t2, sg.trans a1, b1⟩
theorem am_w8 {rest : List Value} {g : JFrame} (h0 : g.monitorRoom = 0) (hW : (rest.map fun v => v.category).sum ≤ 8) : 2 * g.monitorRoom + (rest.map fun v => v.category).sum ≤ 8 := by rw [h0]; omega
theorem k_callV (C : am_Cx G X own cc nL ret tb Q) {y : MethodName} {b' : ByteArray} {nL' nn : Nat} {ret' : Option FieldType} {R' : Room} {As rest : List Value} {Post' : am_PT} {PX' : am_XT} {idx : Nat} {a ci : Nat} {q : vw_C} (hS0 : am_SV own idx y q.1 nn) (hcode : Cond.code y b' nL' ret' ∈ am_tbl) (hs : Λ.1 a = (1, ci)) (hq : vwCl[ci]? = some q) (hM : am_Ct G y b' nL' ret' R' (.ref a :: As) Λ I J Post' PX') (hnn : As.length = nn) (hst : st = As.reverse ++ .ref a :: rest) (hW : (rest.map fun v => v.category).sum ≤ 8) (hfr : R'.frames + 1 ≤ R.frames ∧ 8 + (nL' + 11) + R'.locals ≤ R.locals) (hce : k + R'.cells ≤ R.cells ∧ n + R'.slots ≤ R.slots) (hd : decode cc pc = .ok (.invokevirtual idx, 3)) (kk : ∀ (v : Option Value) (Λ' : am_L) (I' : am_I) (J' : am_J), Post' v Λ' I' J' → am_K G X R nL Λ' I' J' (k + R'.cells) (n + R'.slots) (pc + 3) (ls) (v.toList ++ rest)) (kx : ∀ (E : String) (Λ' : am_L) (I' : am_I) (J' : am_J), PX' E Λ' I' J' → am_KX G X R nL Λ' I' J' (k + R'.cells) (n + R'.slots) (pc) (ls) (rest) E) : am_K G X R nL Λ I J (k) (n) (pc) (ls) (st) := by
  intro H locs la hR hS hl
  obtain ⟨r, h1, cell, q1, q2, q3, -⟩ := am_at_obj hR hs
  cases Option.some.inj (h1.symm.trans hq)
  obtain ⟨w1, w2, w3, w4, w5, w6, w7⟩ := hS0
  exact am_fin (vx_runV ⟨C.hx, C.hb, C.hm, C.ho, C.ht⟩ hM ⟨callB_of nn C.ht (am_goodc hcode) rfl rfl rfl (C.ht _ w4) (C.ht _ w1) ⟨w5, w6, w7⟩ hfr, C.ht _ w2, C.ht _ w3⟩ ⟨am_blind, ⟨cell, q1, by rw [q3]; rfl, by rw [q2]; exact (C.hK.1 ci _ h1).2.1⟩, fun U hU hW => ⟨rfl, by rw [hU]; exact hR, C.he.to hW (by rw [hU]; exact hS)⟩⟩ rfl hnn hl.1 hst (am_w8 rfl hW) hd hce) hS hl kk kx
theorem k_callS (C : am_Cx G X own cc nL ret tb Q) {y : MethodName} {b' : ByteArray} {nL' nn : Nat} {ret' : Option FieldType} {R' : Room} {As rest : List Value} {Post' : am_PT} {PX' : am_XT} {idx : Nat} (hS0 : am_SS own idx y nn) (hcode : Cond.code y b' nL' ret' ∈ am_tbl) (hM : am_Ct G y b' nL' ret' R' As Λ I J Post' PX') (hnn : As.length = nn) (hst : st = As.reverse ++ rest) (hW : (rest.map fun v => v.category).sum ≤ 8) (hfr : R'.frames + 1 ≤ R.frames ∧ 8 + (nL' + 11) + R'.locals ≤ R.locals) (hce : k + R'.cells ≤ R.cells ∧ n + R'.slots ≤ R.slots) (hd : decode cc pc = .ok (.invokestatic idx, 3)) (kk : ∀ (v : Option Value) (Λ' : am_L) (I' : am_I) (J' : am_J), Post' v Λ' I' J' → am_K G X R nL Λ' I' J' (k + R'.cells) (n + R'.slots) (pc + 3) (ls) (v.toList ++ rest)) (kx : ∀ (E : String) (Λ' : am_L) (I' : am_I) (J' : am_J), PX' E Λ' I' J' → am_KX G X R nL Λ' I' J' (k + R'.cells) (n + R'.slots) (pc) (ls) (rest) E) : am_K G X R nL Λ I J (k) (n) (pc) (ls) (st) := by
  intro H locs la hR hS hl
  obtain ⟨w1, w2, w4, w5, w6, w7⟩ := hS0
  exact am_fin (vx_runS ⟨C.hx, C.hb, C.hm, C.ho, C.ht⟩ hM ⟨callB_of nn C.ht (am_goodc hcode) rfl rfl rfl (C.ht _ w4) (C.ht _ w1) ⟨w5, w6, w7⟩ hfr, C.ht _ w2⟩ ⟨am_blind, fun U hU hW => ⟨rfl, by rw [hU]; exact hR, C.he.to hW (by rw [hU]; exact hS)⟩⟩ rfl hnn hl.1 hst (am_w8 rfl hW) hd hce) hS hl kk kx
theorem k_callI (C : am_Cx G X own cc nL ret tb Q) {y : MethodName} {b' : ByteArray} {nL' nn : Nat} {ret' : Option FieldType} {R' : Room} {As rest : List Value} {Post' : am_PT} {PX' : am_XT} {idx : Nat} {a : Nat} (hS0 : am_SI own idx y nn) (hcode : Cond.code y b' nL' none ∈ am_tbl) (hM : am_Ct G y b' nL' none R' (.ref a :: As) Λ I J Post' PX') (hnn : As.length = nn) (hst : st = As.reverse ++ .ref a :: rest) (hW : (rest.map fun v => v.category).sum ≤ 8) (hfr : R'.frames + 1 ≤ R.frames ∧ 8 + (nL' + 11) + R'.locals ≤ R.locals) (hce : k + R'.cells ≤ R.cells ∧ n + R'.slots ≤ R.slots) (hd : decode cc pc = .ok (.invokespecial idx, 3)) (kk : ∀ (v : Option Value) (Λ' : am_L) (I' : am_I) (J' : am_J), Post' v Λ' I' J' → am_K G X R nL Λ' I' J' (k + R'.cells) (n + R'.slots) (pc + 3) (ls) (v.toList ++ rest)) (kx : ∀ (E : String) (Λ' : am_L) (I' : am_I) (J' : am_J), PX' E Λ' I' J' → am_KX G X R nL Λ' I' J' (k + R'.cells) (n + R'.slots) (pc) (ls) (rest) E) : am_K G X R nL Λ I J (k) (n) (pc) (ls) (st) := by
  intro H locs la hR hS hl
  obtain ⟨w1, w2, w4, w8, w5, w6, w7⟩ := hS0
  exact am_fin (vx_runI ⟨C.hx, C.hb, C.hm, C.ho, C.ht⟩ hM ⟨callB_of nn C.ht (am_goodc hcode) rfl rfl rfl (C.ht _ w4) (C.ht _ w1) ⟨w5, w6, w7⟩ hfr, w8, C.ht _ w2⟩ ⟨am_blind, fun U hU hW => ⟨rfl, by rw [hU]; exact hR, C.he.to hW (by rw [hU]; exact hS)⟩⟩ rfl hnn hl.1 hst (am_w8 rfl hW) hd hce) hS hl kk kx
theorem k_callIN (C : am_Cx G X own cc nL ret tb Q) {y : MethodName} {b' : ByteArray} {nL' nn : Nat} {ret' : Option FieldType} {R' : Room} {As rest : List Value} {Post' : am_PT} {PX' : am_XT} {idx : Nat} {a : Nat} {host : String} (hni : Cond.methodLinkNest own idx y host ∈ lw_tbl) (w2 : Cond.instanceMethod y ∈ am_tbl) (w4 : Cond.initialized y.cls ∈ am_tbl) (w8 : y.name = "<init>") (wd : y.cls ≠ "java/lang/invoke/MethodHandle" ∧ y.cls ≠ "java/lang/invoke/VarHandle" ∧ (parseMethodDescriptor y.desc).map (fun d => d.parameters.length) = some nn) (hcode : Cond.code y b' nL' none ∈ am_tbl) (hM : am_Ct G y b' nL' none R' (.ref a :: As) Λ I J Post' PX') (hnn : As.length = nn) (hst : st = As.reverse ++ .ref a :: rest) (hW : (rest.map fun v => v.category).sum ≤ 8) (hfr : R'.frames + 1 ≤ R.frames ∧ 8 + (nL' + 11) + R'.locals ≤ R.locals) (hce : k + R'.cells ≤ R.cells ∧ n + R'.slots ≤ R.slots) (hd : decode cc pc = .ok (.invokespecial idx, 3)) (kk : ∀ (v : Option Value) (Λ' : am_L) (I' : am_I) (J' : am_J), Post' v Λ' I' J' → am_K G X R nL Λ' I' J' (k + R'.cells) (n + R'.slots) (pc + 3) (ls) (v.toList ++ rest)) (kx : ∀ (E : String) (Λ' : am_L) (I' : am_I) (J' : am_J), PX' E Λ' I' J' → am_KX G X R nL Λ' I' J' (k + R'.cells) (n + R'.slots) (pc) (ls) (rest) E) : am_K G X R nL Λ I J (k) (n) (pc) (ls) (st) := by
  intro H locs la hR hS hl
  exact am_fin (vx_runIN ⟨C.hx, C.hb, C.hm, C.ho, C.ht⟩ hM ⟨va_cnB nn C.ht (am_goodc hcode) rfl rfl rfl (C.he.2.2.2.2.2.2.2.1 _ hni rfl) (C.ht _ w4) wd hfr, w8, C.ht _ w2⟩ ⟨am_blind, fun U hU hW => ⟨rfl, by rw [hU]; exact hR, C.he.to hW (by rw [hU]; exact hS)⟩⟩ rfl hnn hl.1 hst (am_w8 rfl hW) hd hce) hS hl kk kx
theorem am_goodw {w0 : Cond} (h : w0 ∈ am_tbl) : ∀ w ∈ w0 :: am_tbl, ∀ (a' : Array Value) (U : State), True := fun _ _ _ _ => trivial
theorem k_callSH (C : am_Cx G X own cc nL ret tb Q) {y : MethodName} {b' : ByteArray} {nL' nn : Nat} {ret' : Option FieldType} {R' : Room} {As rest : List Value} {Post' : am_PT} {PX' : am_XT} {idx : Nat} {hh : List (Nat × Nat × Nat × Nat)} (hS0 : am_SS own idx y nn) (hcode : Cond.codeWith y b' nL' ret' hh ∈ am_tbl) (hM : am_CtH G y b' nL' ret' hh R' As Λ I J Post' PX') (hnn : As.length = nn) (hst : st = As.reverse ++ rest) (hW : (rest.map fun v => v.category).sum ≤ 8) (hfr : R'.frames + 1 ≤ R.frames ∧ 8 + (nL' + 11) + R'.locals ≤ R.locals) (hce : k + R'.cells ≤ R.cells ∧ n + R'.slots ≤ R.slots) (hd : decode cc pc = .ok (.invokestatic idx, 3)) (kk : ∀ (v : Option Value) (Λ' : am_L) (I' : am_I) (J' : am_J), Post' v Λ' I' J' → am_K G X R nL Λ' I' J' (k + R'.cells) (n + R'.slots) (pc + 3) (ls) (v.toList ++ rest)) (kx : ∀ (E : String) (Λ' : am_L) (I' : am_I) (J' : am_J), PX' E Λ' I' J' → am_KX G X R nL Λ' I' J' (k + R'.cells) (n + R'.slots) (pc) (ls) (rest) E) : am_K G X R nL Λ I J (k) (n) (pc) (ls) (st) := by
  intro H locs la hR hS hl
  obtain ⟨w1, w2, w4, w5, w6, w7⟩ := hS0
  exact am_fin (vx_runSX ⟨C.hx, C.hb, C.hm, C.ho, C.ht⟩ hM ⟨⟨rfl, rfl, hfr.1, hfr.2, pay_in C.ht (am_goodc hcode), List.mem_cons_self⟩, C.ht _ hcode, C.ht _ w4, ⟨w5, w6⟩, fun sig h => (by rw [h] at w7; exact (Option.some.inj w7).symm), C.ht _ w1, C.ht _ w2⟩ ⟨am_blind, fun U hU hW => ⟨rfl, by rw [hU]; exact hR, C.he.to hW (by rw [hU]; exact hS)⟩⟩ rfl hnn hl.1 hst (am_w8 rfl hW) hd hce) hS hl kk kx
theorem k_callVp (C : am_Cx G X own cc nL ret tb Q) {y : MethodName} {b' : ByteArray} {nL' nn : Nat} {ret' : Option FieldType} {R' : Room} {As rest : List Value} {idx : Nat} {v : Value} {a ci : Nat} {q : vw_C} (hS0 : am_SV own idx y q.1 nn) (hcode : Cond.code y b' nL' ret' ∈ am_tbl) (hs : Λ.1 a = (1, ci)) (hq : vwCl[ci]? = some q) (hM : am_Ct G y b' nL' ret' R' (.ref a :: As) Λ I J (am_pure v Λ I J) am_never) (hnn : As.length = nn) (hst : st = As.reverse ++ .ref a :: rest) (hW : (rest.map fun v => v.category).sum ≤ 8) (hfr : R'.frames + 1 ≤ R.frames ∧ 8 + (nL' + 11) + R'.locals ≤ R.locals) (hce : k ≤ R.cells ∧ n ≤ R.slots) (h0 : R'.cells = 0 ∧ R'.slots = 0) (hd : decode cc pc = .ok (.invokevirtual idx, 3)) (kk : am_K G X R nL Λ I J (k) (n) (pc + 3) (ls) (v :: rest)) : am_K G X R nL Λ I J (k) (n) (pc) (ls) (st) := k_callV C hS0 hcode hs hq hM hnn hst hW hfr (by rw [h0.1, h0.2]; exact hce) hd (fun w Λ' I' J' hp => by obtain ⟨rfl, rfl, rfl, rfl⟩ := hp; rw [h0.1, h0.2]; exact kk) (fun _ _ _ _ h => h.elim)
theorem k_callVg (C : am_Cx G X own cc nL ret tb Q) {y : MethodName} {b' : ByteArray} {nL' nn : Nat} {ret' : Option FieldType} {R' : Room} {As rest : List Value} {idx : Nat} {P : Option Value → am_I → Prop} {a ci : Nat} {q : vw_C} (hS0 : am_SV own idx y q.1 nn) (hcode : Cond.code y b' nL' ret' ∈ am_tbl) (hs : Λ.1 a = (1, ci)) (hq : vwCl[ci]? = some q) (hM : am_Ct G y b' nL' ret' R' (.ref a :: As) Λ I J (am_gen Λ J P) am_never) (hnn : As.length = nn) (hst : st = As.reverse ++ .ref a :: rest) (hW : (rest.map fun v => v.category).sum ≤ 8) (hfr : R'.frames + 1 ≤ R.frames ∧ 8 + (nL' + 11) + R'.locals ≤ R.locals) (hce : k ≤ R.cells ∧ n ≤ R.slots) (h0 : R'.cells = 0 ∧ R'.slots = 0) (hd : decode cc pc = .ok (.invokevirtual idx, 3)) (kk : ∀ (v : Option Value) (I' : am_I), P v I' → am_K G X R nL Λ I' J (k) (n) (pc + 3) (ls) (v.toList ++ rest)) : am_K G X R nL Λ I J (k) (n) (pc) (ls) (st) := k_callV C hS0 hcode hs hq hM hnn hst hW hfr (by rw [h0.1, h0.2]; exact hce) hd (fun w Λ' I' J' hp => by obtain ⟨rfl, rfl, hp⟩ := hp; rw [h0.1, h0.2]; exact kk w I' hp) (fun _ _ _ _ h => h.elim)
theorem k_callSp (C : am_Cx G X own cc nL ret tb Q) {y : MethodName} {b' : ByteArray} {nL' nn : Nat} {ret' : Option FieldType} {R' : Room} {As rest : List Value} {idx : Nat} {v : Value} (hS0 : am_SS own idx y nn) (hcode : Cond.code y b' nL' ret' ∈ am_tbl) (hM : am_Ct G y b' nL' ret' R' (As) Λ I J (am_pure v Λ I J) am_never) (hnn : As.length = nn) (hst : st = As.reverse ++ rest) (hW : (rest.map fun v => v.category).sum ≤ 8) (hfr : R'.frames + 1 ≤ R.frames ∧ 8 + (nL' + 11) + R'.locals ≤ R.locals) (hce : k ≤ R.cells ∧ n ≤ R.slots) (h0 : R'.cells = 0 ∧ R'.slots = 0) (hd : decode cc pc = .ok (.invokestatic idx, 3)) (kk : am_K G X R nL Λ I J (k) (n) (pc + 3) (ls) (v :: rest)) : am_K G X R nL Λ I J (k) (n) (pc) (ls) (st) := k_callS C hS0 hcode hM hnn hst hW hfr (by rw [h0.1, h0.2]; exact hce) hd (fun w Λ' I' J' hp => by obtain ⟨rfl, rfl, rfl, rfl⟩ := hp; rw [h0.1, h0.2]; exact kk) (fun _ _ _ _ h => h.elim)
theorem k_callSg (C : am_Cx G X own cc nL ret tb Q) {y : MethodName} {b' : ByteArray} {nL' nn : Nat} {ret' : Option FieldType} {R' : Room} {As rest : List Value} {idx : Nat} {P : Option Value → am_I → Prop} (hS0 : am_SS own idx y nn) (hcode : Cond.code y b' nL' ret' ∈ am_tbl) (hM : am_Ct G y b' nL' ret' R' (As) Λ I J (am_gen Λ J P) am_never) (hnn : As.length = nn) (hst : st = As.reverse ++ rest) (hW : (rest.map fun v => v.category).sum ≤ 8) (hfr : R'.frames + 1 ≤ R.frames ∧ 8 + (nL' + 11) + R'.locals ≤ R.locals) (hce : k ≤ R.cells ∧ n ≤ R.slots) (h0 : R'.cells = 0 ∧ R'.slots = 0) (hd : decode cc pc = .ok (.invokestatic idx, 3)) (kk : ∀ (v : Option Value) (I' : am_I), P v I' → am_K G X R nL Λ I' J (k) (n) (pc + 3) (ls) (v.toList ++ rest)) : am_K G X R nL Λ I J (k) (n) (pc) (ls) (st) := k_callS C hS0 hcode hM hnn hst hW hfr (by rw [h0.1, h0.2]; exact hce) hd (fun w Λ' I' J' hp => by obtain ⟨rfl, rfl, hp⟩ := hp; rw [h0.1, h0.2]; exact kk w I' hp) (fun _ _ _ _ h => h.elim)
theorem am_words {L : List Cond} (C : am_Cx G X own cc nL ret tb Q) (h : ∀ w ∈ L, w ∈ lw_tbl ∧ (goodWord w || am_nw w) = true) : ∀ w ∈ L, w.before X.2.2.2.2.1 X.2.2.1 = true := fun w hw => by
  obtain ⟨h1, h2⟩ := h w hw
  rcases Bool.or_eq_true _ _ ▸ h2 with g | g
  · exact C.ht _ (am_wf h1 g)
  · exact va_Nw.use (am_nw_on g) (C.he.2.2.2.2.2.2.2.1 w h1 g)
/-- a throw's words: own, class index, class, constructor's index -/
def am_TW (own : String) (ik : Nat) (cls : String) (ic : Nat) (names : List String) : Prop := Bundle.fit cls = true ∧ (∀ n ∈ names, Bundle.fit n = true) ∧ Cond.classLink own ik cls ∈ am_tbl ∧ Cond.initialized cls ∈ am_tbl ∧ (∀ w ∈ vx_atS own ic cls names, w ∈ lw_tbl ∧ (goodWord w || am_nw w) = true) ∧ (∀ w ∈ Cond.classLink own ik cls :: Cond.initialized cls :: vx_atS own ic cls names, vx_ot w = true)
theorem am_up_new {G : am_G} {Λ : am_L} {I : am_I} {J : am_J} {H H' : Heap} (h : am_rel G Λ I J H) (hz : H.size ≤ H'.size) (ho : ∀ q : Nat, q < H.size → H'[q]? = H[q]?) : am_rel G Λ I J H' := by
  refine ⟨fun b => ?_, fun b hb => ⟨(h.2.1 b hb).1, Nat.lt_of_lt_of_le (h.2.1 b hb).2 hz⟩, Nat.le_trans h.2.2 hz⟩
  have h1 := h.1 b
  by_cases e : (Λ.1 b).1 = 0
  · unfold am_at
    split <;> rename_i q1 <;> (try trivial) <;> (rw [q1] at e; cases e)
  · have hq := ho b (h.2.1 b e).2
    unfold am_at at h1 ⊢
    split at h1 <;> rename_i q1 <;> (try trivial)
    · obtain ⟨r, g1, g2⟩ := h1
      exact ⟨r, g1, g2.kept hq⟩
    all_goals (rw [hq]; exact h1)
theorem k_throwS (C : am_Cx G X own cc nL ret [] (am_E G X Post PX mc ms)) {cls text : String} {names : List String} {ik is ic si : Nat} (hT : am_TW own ik cls ic names) (hsi : am_strs[si]? = some (own, is, text)) (hk : k + 1 ≤ mc) (hn : n + 6 ≤ ms) (hp : PX cls Λ I J) (hF : names.length + 3 < R.frames ∧ (st.map fun v => v.category).sum + (13 * (names.length + 1) + 43) ≤ R.locals) (hc : k + 1 ≤ R.cells ∧ n + 6 ≤ R.slots)
    (d0 : decode cc pc = .ok (.new ik, 3)) (d3 : decode cc (pc + 3) = .ok (.dup, 1)) (d4 : decode cc (pc + 4) = .ok (.ldc is, 2)) (d6 : decode cc (pc + 6) = .ok (.invokespecial ic, 3)) (d9 : decode cc (pc + 9) = .ok (.athrow, 1)) : am_K G X R nL Λ I J (k) (n) (pc) (ls) (st) := by
  intro H locs la hR hS hl
  rw [C.hq]
  obtain ⟨t1, t2, t3, t4, t5, t6⟩ := hT
  exact vx_throwS (A := am_A G) C.hx C.hb C.he.1 C.ho t1 t2 (C.ht _ t3) (C.ht _ t4) (C.he.2.2.2.2.1 si _ hsi) (am_words C t5) t6 C.he.2.2.1 C.he.2.2.2.1 hS (by rw [hl.1, C.hm]) d0 d3 d4 d6 d9 (by rw [C.htb]; intro x hx; cases hx) hF.1 hF.2 hc.1 hc.2 C.hl
    (fun t _ hz ho => ⟨⟨_, _, _, hp, am_up_new hR hz ho⟩, Nat.le_trans hS.1 hz, fun q h1 h2 => (ho q (Nat.lt_of_lt_of_le h1 hS.1)).trans (hS.2.1 q h1 h2)⟩) hS.2.2 hk hn
theorem k_throwSW (C : am_Cx G X own cc nL ret [] (am_E G X Post PX mc ms)) {cls text : String} {names : List String} {ik is ic si : Nat} (hT : am_TW own ik cls ic names) (hsi : am_strs[si]? = some (own, is, text)) (hk : k + 1 ≤ mc) (hn : n + 6 ≤ ms) (hp : PX cls Λ I J) (hF : names.length + 3 < R.frames ∧ (st.map fun v => v.category).sum + (13 * (names.length + 1) + 43) ≤ R.locals) (hc : k + 1 ≤ R.cells ∧ n + 6 ≤ R.slots)
    (d0 : decode cc pc = .ok (.new ik, 3)) (d3 : decode cc (pc + 3) = .ok (.dup, 1)) (d4 : decode cc (pc + 4) = .ok (.ldc_w is, 3)) (d6 : decode cc (pc + 7) = .ok (.invokespecial ic, 3)) (d9 : decode cc (pc + 10) = .ok (.athrow, 1)) : am_K G X R nL Λ I J (k) (n) (pc) (ls) (st) := by
  intro H locs la hR hS hl
  rw [C.hq]
  obtain ⟨t1, t2, t3, t4, t5, t6⟩ := hT
  exact vx_throwSW (A := am_A G) C.hx C.hb C.he.1 C.ho t1 t2 (C.ht _ t3) (C.ht _ t4) (C.he.2.2.2.2.1 si _ hsi) (am_words C t5) t6 C.he.2.2.1 C.he.2.2.2.1 hS (by rw [hl.1, C.hm]) d0 d3 d4 d6 d9 (by rw [C.htb]; intro x hx; cases hx) hF.1 hF.2 hc.1 hc.2 C.hl
    (fun t _ hz ho => ⟨⟨_, _, _, hp, am_up_new hR hz ho⟩, Nat.le_trans hS.1 hz, fun q h1 h2 => (ho q (Nat.lt_of_lt_of_le h1 hS.1)).trans (hS.2.1 q h1 h2)⟩) hS.2.2 hk hn
theorem k_objInit (C : am_Cx G X own cc nL ret tb Q) {idx a : Nat} (hl : Cond.methodLink own idx objectInit ∈ am_tbl) (hRm : 1 ≤ R.frames ∧ (st.map fun v => v.category).sum + 12 ≤ R.locals) (hd : decode cc pc = .ok (.invokespecial idx, 3)) (kk : am_K G X R nL Λ I J (k) (n) (pc + 3) (ls) (st)) : am_K G X R nL Λ I J (k) (n) (pc) (ls) (.ref a :: st) := by
  intro H locs la hR hS hla
  exact W.objInit C.hx C.hb C.ho (C.ht _ hl) (C.ht _ am_oi1) (C.ht _ am_oi2) rfl (by rw [hla.1, C.hm]) rfl hd hRm.1 (by show 2 * 0 + _ + 12 ≤ _; omega) (kk H locs la hR hS hla)
theorem k_out (C : am_Cx G X own cc nL ret tb (am_E G X Post PX mc ms)) {E : String} (htb : tb = []) (hk : k ≤ mc) (hn : n ≤ ms) (hp : PX E Λ I J) : am_KX G X R nL Λ I J (k) (n) (pc) (ls) (st) E := by
  intro H locs la q ce hR hS hl h1 h2 h3
  subst htb
  rw [C.hq]
  exact vx_out (by rw [C.htb]; intro x hx; cases hx) C.hl h1 h2 h3 (fun t ht _ => ⟨⟨_, _, _, hp, by rw [ht]; exact hR⟩, hS.F ht⟩) hS.2.2 hk hn
theorem k_catch (C : am_Cx G X own cc nL ret tb Q) {E name : String} (pre : List ExceptionTableEntry) (x : ExceptionTableEntry) (suf : List ExceptionTableEntry) (hsp : tb = pre ++ x :: suf) (hpass : ∀ z ∈ pre, covers z pc = false ∨ (z.catchType ≠ 0 ∧ ∃ nm : String, Cond.classLink own z.catchType nm ∈ am_tbl ∧ ∃ i : Nat, am_ncs[i]? = some (E, nm))) (hx : covers x pc = true) (h0 : x.catchType ≠ 0) (hlink : Cond.classLink own x.catchType name ∈ am_tbl) (hcast : Cond.castable E name ∈ lw_tbl)
    (kk : ∀ q : Nat, am_K G X R nL Λ I J (k) (n) (x.handlerPc) (ls) ([.ref q])) : am_KX G X R nL Λ I J (k) (n) (pc) (ls) (st) E := by
  intro H locs la q ce hR hS hl h1 h2 h3
  exact vx_catch C.ho pre x suf (by rw [C.htb, hsp]) (fun z hz => (hpass z hz).imp id (fun h => ⟨h.1, h.2.choose, C.ht _ h.2.choose_spec.1, by obtain ⟨i, hi⟩ := h.2.choose_spec.2; exact C.he.2.2.2.2.2.2.2.2 i _ hi⟩)) hx h0 (C.ht _ hlink) (va_Nw.use rfl (C.he.2.2.2.2.2.2.2.1 _ hcast rfl)) h1 h2 h3 (kk q H locs la hR hS hl)
end AMC
