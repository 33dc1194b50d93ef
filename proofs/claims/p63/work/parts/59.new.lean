/-! ===== objects and arrays are made: the heap's size is known ===== -/
theorem W_sized {p : Program} {l : Launch} {e : Env} {R : Room} {s : State} {m : MethodId} {args : Array Value} {below : List Frame} {meth : Method} {c : Code} {H : Heap} {locs : List Loc} {cells slots : Nat} {Q : State → Prop} {g : JFrame} (kk : H.size ≤ s.heap.size + cells → W p l e R s m args below meth c H locs cells slots Q g) : W p l e R s m args below meth c H locs cells slots Q g := fun T hT X => kk (by rw [← hT]; exact X.same.2.2.1) T hT X
def am_low (Λ : am_L) (z k : Nat) : Prop := k = 0 ∨ ∃ a : Nat, (Λ.1 a).1 ≠ 0 ∧ z + k = a + 1
def am_PcN (G : am_G) (args : List Value) (Λ : am_L) (I : am_I) (J : am_J) (z : Nat) : Array Value → State → Prop := va_Pc args (fun U => am_rel G Λ I J U.heap ∧ am_env G U ∧ U.heap.size = z ∧ va_AO RX0 U)
theorem am_blindN {G : am_G} {args : List Value} {Λ : am_L} {I : am_I} {J : am_J} {z : Nat} : FrameBlind (am_PcN G args Λ I J z) := fun _ s _ _ h => ⟨h.1, h.2.1, h.2.2.1.calling, h.2.2.2.1, va_AO.moved (Vm.Alike.refl s.vm) h.2.2.2.2⟩
/-- a contract that knows where the next cell will be -/
def am_CtN (G : am_G) (y : MethodName) (b : ByteArray) (nL : Nat) (R : Room) (args : List Value) (Λ : am_L) (I : am_I) (J : am_J) (z : Nat) (Post : am_PT) (PX : am_XT) : Prop :=
  vx_Met G.1 y (Cond.code y b nL none :: am_tbl) R (am_PcN G args Λ I J z) (am_Qc G Post) (am_XC G PX) R.cells R.slots (am_A G)
theorem am_ctN_of {G : am_G} {y : MethodName} {b : ByteArray} {nL z : Nat} {R : Room} {args : List Value} {Λ : am_L} {I : am_I} {J : am_J} {Post : am_PT} {PX : am_XT} {own : String} (ho : y.cls = own) (hy : plainName y.cls = true) (hlen : (lg_sl args).length ≤ nL)
    (body : ∀ X : am_X, am_Cx G X own b nL none [] (am_E G X Post PX R.cells R.slots) → X.2.2.1.heap.size = z → X.2.2.2.2.2.2.1.name = y.name → va_AO RX0 X.2.2.1 → am_K G X R nL Λ I J 0 0 0 (lv_args 0 args) []) : am_CtN G y b nL R args Λ I J z Post PX := by
  subst ho
  refine vx_ofW (cc := b) (maxL := nL) (ret := none) hy rfl ?_
  intro p e s m a below meth c s₁ B hml htb hv
  obtain ⟨rfl, hR, hE, hZ, hO⟩ := hv
  have hts := atoms_spec (ws := Cond.code y b nL none :: am_tbl) B.pre
  have htb' : c.exceptionTable.toList = [] := by
    cases h9 : c.exceptionTable.toList with
    | nil => rfl
    | cons x9 xs9 => exact (htb x9 (by rw [h9]; exact List.mem_cons_self)).elim
  have K := body (p, e, s, m, args.toArray, below, meth, c, vx_MQ below (am_Qc G Post) (am_XC G PX) args.toArray s R.cells R.slots (am_A G)) ⟨B.exec, B.bytes, hml, findClass_of_methodNamed B.named, fun w hw => hts w (List.mem_cons_of_mem _ hw), hE, B.notSynchronized, B.returns, htb', rfl⟩ hZ (name_of_methodNamed B.named B.method).1 hO s.heap [] _ hR va_S.rf (lv_entry args hlen)
  rw [lg_entry_eq]
  exact K
def am_nS (Λ : am_L) (h : Nat) (s : Nat × Nat) : am_L := (fun a => if a = h then s else Λ.1 a, fun a j => if a = h then none else Λ.2 a j)
def am_nI (I : am_I) (h : Nat) : am_I := fun a j => if a = h then 0 else I a j
def am_nJ (J : am_J) (h : Nat) : am_J := fun a j => if a = h then 0 else J a j
theorem nS_eq {Λ : am_L} {h : Nat} {s : Nat × Nat} : (am_nS Λ h s).1 h = s := if_pos rfl
theorem nS_ne {Λ : am_L} {h a : Nat} {s : Nat × Nat} (q : a ≠ h) : (am_nS Λ h s).1 a = Λ.1 a := if_neg q
theorem nR_eq {Λ : am_L} {h : Nat} {s : Nat × Nat} : (am_nS Λ h s).2 h = fun _ => none := by
  funext j
  exact if_pos rfl
theorem nR_ne {Λ : am_L} {h a : Nat} {s : Nat × Nat} (q : a ≠ h) : (am_nS Λ h s).2 a = Λ.2 a := by
  funext j
  exact if_neg q
theorem nI_new {I : am_I} {h : Nat} : am_nI I h h = fun _ => 0 := by
  funext j
  exact if_pos rfl
theorem nI_old {I : am_I} {h a : Nat} (q : a ≠ h) : am_nI I h a = I a := by
  funext j
  exact if_neg q
theorem nJ_new {J : am_J} {h : Nat} : am_nJ J h h = fun _ => 0 := by
  funext j
  exact if_pos rfl
theorem nJ_old {J : am_J} {h a : Nat} (q : a ≠ h) : am_nJ J h a = J a := by
  funext j
  exact if_neg q
theorem am_rel_new {G : am_G} {Λ : am_L} {I : am_I} {J : am_J} {H H' : Heap} {h : Nat} {s : Nat × Nat} (hR : am_rel G Λ I J H) (hh : H.size = h) (z1 : H'.size = h + 1) (o1 : ∀ q : Nat, q < h → H'[q]? = H[q]?) (ha : am_at G (am_nS Λ h s) (am_nI I h) (am_nJ J h) h H') : am_rel G (am_nS Λ h s) (am_nI I h) (am_nJ J h) H' := by
  refine ⟨fun b => ?_, fun b hb => ?_, ?_⟩
  · by_cases e : b = h
    · rw [e]; exact ha
    · have h1 := hR.1 b
      have hlt : (Λ.1 b).1 ≠ 0 → b < h := fun q => by have := (hR.2.1 b q).2; omega
      unfold am_at at h1 ⊢
      rw [nS_ne e, nR_ne e, nI_old e, nJ_old e]
      generalize hs : Λ.1 b = sb at h1 hlt ⊢
      split at h1 <;> rename_i q1 <;> (try trivial)
      · obtain ⟨r, g1, g2⟩ := h1
        exact ⟨r, g1, g2.kept (o1 b (hlt (Nat.succ_ne_zero _)))⟩
      all_goals (rw [o1 b (hlt (Nat.succ_ne_zero _))]; exact h1)
  · by_cases e : b = h
    · rw [e]
      exact ⟨by have := hR.2.2; omega, by omega⟩
    · rw [nS_ne e] at hb
      have := hR.2.1 b hb
      exact ⟨this.1, by omega⟩
  · have := hR.2.2
    omega
section KNEW
variable {G : am_G} {X : am_X} {R : Room} {own : String} {cc : ByteArray} {nL : Nat} {ret : Option FieldType} {tb : List ExceptionTableEntry} {Q : State → Prop}
variable {Λ : am_L} {I : am_I} {J : am_J} {k n pc z : Nat} {ls : List (Nat × Value)} {st : List Value}
theorem am_sz {H : Heap} {locs : List Loc} (hR : am_rel G Λ I J H) (hS : va_S (am_A G) X.2.2.1.heap H locs) (hz : X.2.2.1.heap.size = z) (hlow : am_low Λ z k) (hup : H.size ≤ X.2.2.1.heap.size + k) : H.size = z + k := by
  have h0 := hS.1
  rcases hlow with h | ⟨a, h1, h2⟩
  · omega
  · have := (hR.2.1 a h1).2
    omega
theorem va_S_new {A : Nat → Prop} {H0 H H' : Heap} {locs : List Loc} {h : Nat} (hS : va_S A H0 H locs) (hh : H.size = h) (z1 : H'.size = h + 1) (o1 : ∀ q : Nat, q < h → H'[q]? = H[q]?) : va_S A H0 H' locs := ⟨by have := hS.1; omega, fun x h1 h2 => (o1 x (by have := hS.1; omega)).trans (hS.2.1 x h1 h2), hS.2.2⟩
theorem k_newA (C : am_Cx G X own cc nL ret tb Q) {N kd h : Nat} {x : Int32} {atype : ArrayType} (hz : X.2.2.1.heap.size = z) (hlow : am_low Λ z k) (hh : h = z + k) (harr : Cond.arrayClass (newarray.typeOf atype) ∈ am_tbl) (hx : x = nI N) (hN : N ≤ 2000) (hat : (atype = .int ∧ kd = 2) ∨ (atype = .byte ∧ kd = 3) ∨ (atype = .boolean ∧ kd = 4) ) (hcell : k + 1 ≤ R.cells ∧ n + N ≤ R.slots) (hd : decode cc pc = .ok (.newarray atype, 2))
    (kk : am_K G X R nL (am_nS Λ h (kd, N)) (am_nI I h) (am_nJ J h) (k + 1) (n + N) (pc + 2) ls (.ref h :: st)) : am_K G X R nL Λ I J k n pc ls (.int x :: st) := by
  subst hx
  subst hh
  intro H locs la hR hS hl
  refine W_sized fun hup => ?_
  have hsz := am_sz hR hS hz hlow hup
  have hb : N * componentBytes (newarray.typeOf atype) ≤ 536870912 := by
    have : componentBytes (newarray.typeOf atype) ≤ 8 := by cases atype <;> decide
    exact Nat.le_trans (Nat.mul_le_mul hN this) (by decide)
  refine va_newaK C.hx C.hb (C.ht _ harr) rfl hd rfl (nI_pos (by omega)) (nI_clamp (by omega)) hb hcell.1 hcell.2 hsz fun H' cA e1 z1 o1 hA hnm => ?_
  refine kk H' locs la (am_rel_new hR hsz z1 o1 ?_) (va_S_new hS hsz z1 o1) hl
  unfold am_at
  rw [nS_eq, nI_new, nJ_new]
  rcases hat with ⟨rfl, rfl⟩ | ⟨rfl, rfl⟩ | ⟨rfl, rfl⟩
  · have hc : G.2.2.2.1 0 = cA := Option.some.inj ((C.hK.2 0 _ rfl).2.symm.trans hnm)
    show H'[z + k]? = some (vp_cell (G.2.2.2.1 0) (N, .inl (fun _ => 0)))
    rw [hc]
    exact e1
  · have hc : G.2.2.2.1 1 = cA := Option.some.inj ((C.hK.2 1 _ rfl).2.symm.trans hnm)
    show H'[z + k]? = some (vp_cell (G.2.2.2.1 1) (N, .inl (fun _ => 0)))
    rw [hc]
    exact e1
  · have hc : G.2.2.2.1 2 = cA := Option.some.inj ((C.hK.2 2 _ rfl).2.symm.trans hnm)
    show H'[z + k]? = some (vp_cell (G.2.2.2.1 2) (N, .inl (fun _ => 0)))
    rw [hc]
    exact e1
def am_okt : FieldType → Bool
  | .object _ => true
  | .array _ => true
  | .long => true
  | .int => true
  | .boolean => true
  | .byte => true
  | _ => false
theorem am_okt_d {ty : FieldType} (h : am_okt ty = true) : defaultValue ty = am_fv ty none 0 0 := by
  cases ty <;> first | rfl | cases h
theorem am_okt_all : ∀ ci : Nat, ci < 8 → ∀ kf : Nat, kf < 20 → am_okt (am_ty ci kf) = true := by decide +kernel
theorem am_nf : ∀ ci : Nat, ci < 8 → ∀ q : vw_C, vwCl[ci]? = some q → q.2.2 ≤ 20 := by
  intro ci h q hq
  rcases ci with _ | _ | _ | _ | _ | _ | _ | _ | ci
  · cases hq; decide
  · cases hq; decide
  · cases hq; decide
  · cases hq; decide
  · cases hq; decide
  · cases hq; decide
  · cases hq; decide
  · cases hq; decide
  · omega
theorem k_newC (C : am_Cx G X own cc nL ret tb Q) {ci h idx : Nat} {q : vw_C} (hz : X.2.2.1.heap.size = z) (hlow : am_low Λ z k) (hh : h = z + k) (hq : vwCl[ci]? = some q) (hcl : Cond.classLink own idx q.1 ∈ am_tbl) (hins : Cond.instantiable q.1 q.2.2 ∈ am_tbl) (hini : Cond.initialized q.1 ∈ am_tbl) (hcell : k + 1 ≤ R.cells ∧ n + q.2.2 ≤ R.slots) (hd : decode cc pc = .ok (.new idx, 3))
    (kk : am_K G X R nL (am_nS Λ h (1, ci)) (am_nI I h) (am_nJ J h) (k + 1) (n + q.2.2) (pc + 3) ls (.ref h :: st)) : am_K G X R nL Λ I J k n pc ls st := by
  subst hh
  intro H locs la hR hS hl
  refine W_sized fun hup => ?_
  have hsz := am_sz hR hS hz hlow hup
  obtain ⟨g1, g2, g3⟩ := (am_cfa ci (am_ci hq)) q hq
  have hKn := C.hK.1 ci _ hq
  refine W.newcK C.hx C.hb C.ho (C.ht _ hcl) (C.ht _ hins) (C.ht _ hini) rfl hd hcell.1 hcell.2 hKn.2.1 hsz fun H' kC hkC e1 z1 o1 => ?_
  refine kk H' locs la (am_rel_new hR hsz z1 o1 ?_) (va_S_new hS hsz z1 o1) hl
  unfold am_at
  rw [nS_eq, nI_new, nJ_new, nR_eq]
  have hn := am_nf ci (am_ci hq) q hq
  exact ⟨q, hq, (u_born (am_ty ci) C.ht g1 hKn hkC e1 g2).to (fun j hj => am_okt_d (am_okt_all ci (am_ci hq) j (by omega)))⟩
theorem k_putF (C : am_Cx G X own cc nL ret tb Q) {a b idx ci kf : Nat} {q : vw_C} (hin : X.2.2.2.2.2.2.1.name = "<init>") (hF : am_F own idx ci kf q) (hs : Λ.1 a = (1, ci)) (hfin : (q.2.1 kf).2.2.2 = true) (hdecl : (q.2.1 kf).1 = own) (hty : am_ty ci kf = .array .int ∨ am_ty ci kf = .array .byte ∨ am_ty ci kf = .array .boolean ∨ am_ty ci kf = .array (.object RX0) ∨ ∃ D : String, am_ty ci kf = .object D) (hd : decode cc pc = .ok (.putfield idx, 3))
    (kk : am_K G X R nL (Λ.1, am_ur Λ.2 a kf (some b)) I J k n (pc + 3) ls st) : am_K G X R nL Λ I J k n pc ls (.ref b :: .ref a :: st) := by
  intro H locs la hR hS hl
  obtain ⟨r, h1, cell, q1, q2, q3, q4⟩ := am_at_obj hR hs
  obtain ⟨cf, kc, fi, f, e1, e2, e3⟩ := am_slot hF C
  cases Option.some.inj (h1.symm.trans hF.1)
  obtain ⟨g1, g2, g3⟩ := (am_cfa ci (am_ci h1)) q h1
  have hap := va_apart (own := own) (C := q.1) (T := q.2.1) (N := q.2.2) C.ht g1 (am_ty ci) g2 g3 C.hK h1
  obtain ⟨hSS, hfc, kC, hkC, hkind⟩ := C.hK.1 ci _ h1
  have hlay := C.ht _ (g1 _ (u_in_lay hF.2.1))
  unfold u_lay at hlay
  rw [if_pos hfin] at hlay
  have hcf : X.2.2.2.1.cls = cf := by
    obtain ⟨_, _, c', _, _, _, -, -, hf', -, -, -, hown2, -⟩ := Cond.laysFinal_spec hlay
    have e1' : c' = cf := by have := e1.symm.trans hf'; simp at this; exact this.1.symm
    rw [hdecl] at hown2
    rw [← e1']; exact Option.some.inj (C.ho.symm.trans hown2)
  have hnf : narrow (am_ty ci kf) (.ref b) = .ref b ∧ fits (am_ty ci kf) (.ref b) = true := by
    rcases hty with h | h | h | h | ⟨D, h⟩ <;> rw [h] <;> exact ⟨rfl, rfl⟩
  have h6 := u_fits hfc hkC hkind (Or.inr hlay) e1 (g2 _ hF.2.1) hnf.1 hnf.2
  refine W.putFinK C.hx C.hb C.ho (C.ht _ hF.2.2) e1 e3 hcf hin (by rw [q2]; exact h6) q1 q3 (by rw [e2]; exact k2_hasslot (q4 _ hF.2.1)) rfl rfl hd fun H' e4 e5 e6 => ?_
  rw [e2] at e4 ⊢
  have hv : ∀ j : Nat, am_fv (am_ty ci j) (am_ur Λ.2 a kf (some b) a j) (I a j) (J a j) = if j = kf then Value.ref b else am_fv (am_ty ci j) (Λ.2 a j) (I a j) (J a j) := fun j => by
    by_cases e : j = kf
    · rw [if_pos e, e]
      rcases hty with h | h | h | h | ⟨D, h⟩ <;> rw [h] <;> simp [am_fv, am_ur, va_rf]
    · rw [if_neg e]
      simp [am_ur, e]
  refine kk H' _ la (am_at_put (Λ' := (Λ.1, am_ur Λ.2 a kf (some b))) hR rfl (fun c hc => am_ur_ne hc) (fun _ _ => rfl) (fun _ _ => rfl) ?_ e5 e6) (hS.put e5 e6 (hR.2.1 a (by rw [hs]; exact Nat.one_ne_zero)).1) hl
  unfold am_at
  show (match Λ.1 a with
  | (0, _) => True
  | (1, ci) => _
  | (2, n) => _
  | (3, n) => _
  | (4, n) => _
  | (6, n) => _
  | _ => True)
  rw [hs]
  refine ⟨q, h1, t_OB.to (V := updV (fun k => am_fv (am_ty ci k) (Λ.2 a k) (I a k) (J a k)) kf (.ref b)) ⟨_, e4, q2, q3, t_set q4 hap hF.2.1 (.ref b)⟩ (fun j _ => ?_)⟩
  rw [hv j]
  simp [updV]
theorem k_newQ (C : am_Cx G X own cc nL ret tb Q) {N h idx : Nat} {x : Int32} (hz : X.2.2.1.heap.size = z) (hlow : am_low Λ z k) (hh : h = z + k) (hcl : Cond.classLink own idx RX0 ∈ am_tbl) (hover : va_AO RX0 X.2.2.1) (hx : x = nI N) (hN : N ≤ 2000) (hcell : k + 1 ≤ R.cells ∧ n + N ≤ R.slots) (hd : decode cc pc = .ok (.anewarray idx, 3))
    (kk : am_K G X R nL (am_nS Λ h (6, N)) (am_nI I h) (am_nJ J h) (k + 1) (n + N) (pc + 3) ls (.ref h :: st)) : am_K G X R nL Λ I J k n pc ls (.int x :: st) := by
  subst hx
  subst hh
  intro H locs la hR hS hl
  refine W_sized fun hup => ?_
  have hsz := am_sz hR hS hz hlow hup
  have hcN : (nI N).toNatClampNeg = N := nI_clamp (by omega)
  refine W.anew C.hx C.hb C.ho (C.ht _ hcl) (va_AO.use hover) rfl hd rfl (nI_pos (by omega)) (by rw [hcN]; omega) hcell.1 (by rw [hcN]; exact hcell.2) fun cA kA comp f1 f2 f3 f4 => ?_
  generalize hH1 : H.push ({ cls := cA, slots := Array.replicate (nI N).toNatClampNeg .null, vm := .none } : Cell) = H1
  have z1 : H1.size = z + k + 1 := by rw [← hH1, Array.size_push, hsz]
  have e1 : H1[z + k]? = some (arrV cA N (fun _ => .null)) := by rw [← hH1, ← hsz, Array.getElem?_push_size, hcN, ← arrV_new]
  have o1 : ∀ q : Nat, q < z + k → H1[q]? = H[q]? := fun q hq => by rw [← hH1, Array.getElem?_push, if_neg (by omega)]
  rw [hcN, hsz]
  refine kk H1 locs la (am_rel_new hR hsz z1 o1 ?_) (va_S_new hS hsz z1 o1) hl
  unfold am_at
  rw [nS_eq, nR_eq]
  obtain ⟨kA', comp', k1, k2, k3, k4⟩ := (C.hK.2 4 _ rfl).2
  have hc : G.2.2.2.1 4 = cA := Option.some.inj (k4.symm.trans f1)
  show H1[z + k]? = some (vp_cell (G.2.2.2.1 4) (N, .inr (.inr (.inr (.inr (fun _ => none))))))
  rw [hc]
  exact e1
theorem k_aast (C : am_Cx G X own cc nL ret tb Q) {a b j m : Nat} {i : Int32} (hs : Λ.1 a = (6, m)) (hv : Λ.1 b = (1, 0)) (hi : i = nI j) (hj : j < m) (hm : m < 2 ^ 31) (hd : decode cc pc = .ok (.aastore, 1))
    (kk : am_K G X R nL (Λ.1, am_ur Λ.2 a j (some b)) I J k n (pc + 1) ls st) : am_K G X R nL Λ I J k n pc ls (.ref b :: .int i :: .ref a :: st) := by
  intro H locs la hR hS hl
  have hcell := am_at_q hR hs
  have e0 : i.toNatClampNeg = j := by rw [hi]; exact nI_clamp (by omega)
  obtain ⟨r', hr', cellV, g1, g2, g3, -⟩ := am_at_obj hR hv
  have hcls := (C.hK.1 0 r' hr').2
  obtain ⟨kA, comp, k1, k2, k3, -⟩ := (C.hK.2 4 _ rfl).2
  have hr0 : r'.1 = RX0 := by cases hr'; rfl
  have hcomp : comp = G.2.2.1.1 0 := Option.some.inj (k3.symm.trans (by rw [← hr0]; exact hcls.1))
  subst hcomp
  obtain ⟨kC, hkC, -⟩ := hcls.2
  refine W.aast C.hx C.hb hcell (fun q h => by cases h) (fun h => by cases h) k1 k2 rfl hkC ⟨by rw [hi]; exact nI_pos (by omega), by show _ < (arrV _ _ _).slots.size; rw [arrV_size, e0]; exact hj⟩ g1 (fun q h => by rw [g3] at h; cases h) (by rw [g2]; exact hkC) (by rw [g2]; exact va_assign hcls) rfl rfl hd fun H1 e4 e5 e6 => ?_
  refine kk H1 _ la (am_at_put (Λ' := (Λ.1, am_ur Λ.2 a j (some b))) hR rfl (fun c hc => am_ur_ne hc) (fun _ _ => rfl) (fun _ _ => rfl) ?_ e5 e6) (hS.put e5 e6 (hR.2.1 a (by rw [hs]; exact Nat.succ_ne_zero _)).1) hl
  unfold am_at
  show (match Λ.1 a with
  | (0, _) => True
  | (1, ci) => _
  | (2, n) => _
  | (3, n) => _
  | (4, n) => _
  | (6, n) => _
  | _ => True)
  rw [hs]
  show H1[a]? = some (vp_cell (G.2.2.2.1 4) (m, .inr (.inr (.inr (.inr (am_ur Λ.2 a j (some b) a))))))
  rw [e4, e0, am_ur_row, vp_cell_q, vp_cell_q, arrV_store]
  congr 2
  funext q
  by_cases hq : q = j
  · subst hq
    simp [updV, va_up, va_rf]
  · simp [updV, va_up, hq]
theorem k_callIz (C : am_Cx G X own cc nL ret tb Q) {y : MethodName} {b' : ByteArray} {nL' nn h : Nat} {R' : Room} {As rest : List Value} {P : am_L → am_I → am_J → Prop} {idx a : Nat} (hz : X.2.2.1.heap.size = z) (hlow : am_low Λ z k) (hh : h = z + k) (hO : va_AO RX0 X.2.2.1) (hS0 : am_SI own idx y nn) (hcode : Cond.code y b' nL' none ∈ am_tbl) (hM : am_CtN G y b' nL' R' (.ref a :: As) Λ I J h (fun v Λ' I' J' => v = none ∧ P Λ' I' J') am_never) (hnn : As.length = nn) (hst : st = As.reverse ++ .ref a :: rest) (hW : (rest.map fun v => v.category).sum ≤ 8) (hfr : R'.frames + 1 ≤ R.frames ∧ 8 + (nL' + 11) + R'.locals ≤ R.locals) (hce : k + R'.cells ≤ R.cells ∧ n + R'.slots ≤ R.slots) (hd : decode cc pc = .ok (.invokespecial idx, 3))
    (kk : ∀ (Λ' : am_L) (I' : am_I) (J' : am_J), P Λ' I' J' → am_K G X R nL Λ' I' J' (k + R'.cells) (n + R'.slots) (pc + 3) ls rest) : am_K G X R nL Λ I J k n pc ls st := by
  subst hh
  intro H locs la hR hS hl
  refine W_sized fun hup => ?_
  have hsz := am_sz hR hS hz hlow hup
  obtain ⟨w1, w2, w4, w8, w5, w6, w7⟩ := hS0
  exact am_fin (vx_runI ⟨C.hx, C.hb, C.hm, C.ho, C.ht⟩ hM ⟨callB_of nn C.ht (am_goodc hcode) rfl rfl rfl (C.ht _ w4) (C.ht _ w1) ⟨w5, w6, w7⟩ hfr, w8, C.ht _ w2⟩ ⟨am_blindN, fun U hU hW => ⟨rfl, by rw [hU]; exact hR, C.he.to hW (by rw [hU]; exact hS), by rw [hU]; exact hsz, va_AO.moved hW.alike hO⟩⟩ rfl hnn hl.1 hst (am_w8 rfl hW) hd hce) hS hl (fun v Λ' I' J' hp => by
    obtain ⟨rfl, hp⟩ := hp
    exact kk Λ' I' J' hp) (fun _ _ _ _ h => h.elim)
theorem k_callNz (C : am_Cx G X own cc nL ret tb Q) {y : MethodName} {b' : ByteArray} {nL' nn h : Nat} {R' : Room} {As rest : List Value} {P : am_L → am_I → am_J → Prop} {idx a : Nat} {host : String} (hz : X.2.2.1.heap.size = z) (hlow : am_low Λ z k) (hh : h = z + k) (hO : va_AO RX0 X.2.2.1) (hni : Cond.methodLinkNest own idx y host ∈ lw_tbl) (w2 : Cond.instanceMethod y ∈ am_tbl) (w4 : Cond.initialized y.cls ∈ am_tbl) (w8 : y.name = "<init>") (wd : y.cls ≠ "java/lang/invoke/MethodHandle" ∧ y.cls ≠ "java/lang/invoke/VarHandle" ∧ (parseMethodDescriptor y.desc).map (fun d => d.parameters.length) = some nn) (hcode : Cond.code y b' nL' none ∈ am_tbl) (hM : am_CtN G y b' nL' R' (.ref a :: As) Λ I J h (fun v Λ' I' J' => v = none ∧ P Λ' I' J') am_never) (hnn : As.length = nn) (hst : st = As.reverse ++ .ref a :: rest) (hW : (rest.map fun v => v.category).sum ≤ 8) (hfr : R'.frames + 1 ≤ R.frames ∧ 8 + (nL' + 11) + R'.locals ≤ R.locals) (hce : k + R'.cells ≤ R.cells ∧ n + R'.slots ≤ R.slots) (hd : decode cc pc = .ok (.invokespecial idx, 3))
    (kk : ∀ (Λ' : am_L) (I' : am_I) (J' : am_J), P Λ' I' J' → am_K G X R nL Λ' I' J' (k + R'.cells) (n + R'.slots) (pc + 3) ls rest) : am_K G X R nL Λ I J k n pc ls st := by
  subst hh
  intro H locs la hR hS hl
  refine W_sized fun hup => ?_
  have hsz := am_sz hR hS hz hlow hup
  exact am_fin (vx_runIN ⟨C.hx, C.hb, C.hm, C.ho, C.ht⟩ hM ⟨va_cnB nn C.ht (am_goodc hcode) rfl rfl rfl (C.he.2.2.2.2.2.2.2.1 _ hni rfl) (C.ht _ w4) wd hfr, w8, C.ht _ w2⟩ ⟨am_blindN, fun U hU hW => ⟨rfl, by rw [hU]; exact hR, C.he.to hW (by rw [hU]; exact hS), by rw [hU]; exact hsz, va_AO.moved hW.alike hO⟩⟩ rfl hnn hl.1 hst (am_w8 rfl hW) hd hce) hS hl (fun v Λ' I' J' hp => by
    obtain ⟨rfl, hp⟩ := hp
    exact kk Λ' I' J' hp) (fun _ _ _ _ h => h.elim)
end KNEW

