/-! THE CLAIM OUT OF ONE WALK OF THE LAW'S BODY. Your part is whole_start (and what it stands on); all else here is the same for every law, but numbers. -/
def R_law : String := "CaravanRouteLaw"
def lw_P (b : Addr) (xs : List Int32) (args : Array Value) (s : State) : Prop := args = #[.ref b] ∧ s.IntsAt b xs ∧ xs.length ≤ 3072 ∧ (Jvm.Cond.and given_1 narrow_1).before args s = true
/-- what a walk over the start with the record d0 says of its end, said of the start itself -/
theorem lw_closed {s t : State} {o : Outcome} {d0 : Drawn} {L : List Loc} {k n : Nat} (hd0 : s.drawn.sameBut d0 lw_cs) (hv : ∃ v, o = .returned v) (hW : (s.setDrawn d0).WarmedH t.vm) (hs : (s.setDrawn d0).sameButNew ({ t with vm := s.vm } : State) L k n) : State.butDraws s t lw_cs (fun t1 => Framed s o t1 L k n) := by
  have h2 : t.drawn = d0 := congrArg State.drawn hs.1
  refine ⟨⟨hv, hW, State.sameButNew.setDrawn hs s.drawn⟩, ?_, by decide⟩
  rw [h2]
  exact hd0
def lw_Q (_ : Array Value) (s : State) (o : Outcome) (t : State) : Prop := o = .returned (some (.int 1)) ∧ State.butDraws s t lw_cs (fun t1 => Framed s o t1 [] 601024 7293034)
def lw_Z (below : List Frame) (a : Array Value) (s : State) : State → Prop := fun t => ∃ o, t.status = .running ∧ Ended t below o ∧ lw_Q a s o t
/-- the law's own end, with 1 on the stack, nothing written that was there before, its room as the claim has it; d0: the record of draws at this point (at the entry s.drawn: begin with 'refine W.base ?_' and 'have hd0 := Drawn.sameBut.refl s.drawn lw_cs') -/
theorem lw_ret {p : Program} {l : Launch} {e : Env} {s : State} {m : MethodId} {below : List Frame} {meth : Method} {c : Code} {b : Nat} {d0 : Drawn} (hd0 : s.drawn.sameBut d0 lw_cs) (hx : p.tables.exec = Jvm.exec) (hb : c.code = code) (hr : meth.sig.returnType = ret) (hlocks : meth.locks = false) {pc : Nat} {H : Heap} {ls : Array Slot} (hdg : decode code pc = .ok (.ireturn, 1)) : W p l e room_1 (s.setDrawn d0) m #[Value.ref b] below meth c H [] 601024 7293034 (lw_Z below #[Value.ref b] s) (F0 m pc ls [.int 1]) := by
  intro T hT X
  obtain ⟨fs, hret, hrun, hended, hW, hframe⟩ := X.leave (v := some (.int 1)) (hlocks := hlocks) (fun h => by rw [hr] at h; cases h)
  have hmeth' : T.vm.method? m = some meth := X.method'
  refine ⟨T.setFrames fs, ?_, .returned (some (.int 1)), hrun, hended, rfl, lw_closed hd0 ⟨_, rfl⟩ hW hframe⟩
  jvm_step X.here [X.here.top, hx, hb, hdg, hmeth', hr, ret, narrow_b1]
  (try refine ⟨rfl, ?_⟩); (try refine ⟨rfl, ?_⟩)
  first | (intro acts; rw [hret _ acts rfl rfl rfl]) | rw [hret _ _ rfl rfl rfl]
  exact Steps.refl _
/-- what holds at the law's entry: the machine, the code, the tables' words (any of lw_tbl by 'hts w (by decide +kernel)'), the script of L ints xs at the cell b, what the Statement gives of the start (any of its parts by flat_of_before) -/
def lw_At (p : Program) (s : State) (m : MethodId) (meth : Method) (c : Code) (b L : Nat) (xs : Nat → Int32) : Prop :=
  p.tables.exec = Jvm.exec ∧ c.code = code ∧ meth.sig.returnType = ret ∧ c.maxLocals = 9 ∧ s.vm.findClass R_law = some m.cls ∧ (∀ w ∈ lw_tbl, w.before #[Value.ref b] s = true) ∧ va_X b L xs s s.heap ∧ b < s.heap.size ∧ meth.locks = false ∧ (Jvm.Cond.and given_1 narrow_1).before #[Value.ref b] s = true
-- ===== MY PART BEGINS =====
/-! ===== the law's body, from its entry ===== -/
theorem RouLay_agree {Λ Λ' : am_L} {x : Nat} (h : RouLay Λ x) (ha : ∀ b : Nat, x ≤ b → b < x + 173 → Λ'.1 b = Λ.1 b ∧ Λ'.2 b = Λ.2 b) : RouLay Λ' x := by
  obtain ⟨h1, r0, r2, r3, r4, r5, s5, r6, s6, r7, s7, r8, q1, q2, q3, q4, q5, q6, q7⟩ := h
  have hx := ha x (by omega) (by omega)
  exact ⟨hx.1.trans h1, (congrFun hx.2 0).trans r0, (congrFun hx.2 2).trans r2, (congrFun hx.2 3).trans r3, (congrFun hx.2 4).trans r4, (congrFun hx.2 5).trans r5, (ha _ (by omega) (by omega)).1.trans s5, (congrFun hx.2 6).trans r6, (ha _ (by omega) (by omega)).1.trans s6, (congrFun hx.2 7).trans r7, (ha _ (by omega) (by omega)).1.trans s7, (congrFun hx.2 8).trans r8,
    InLay_agree q1 (fun b g1 g2 => ha b (by omega) (by omega)), PlanLay_agree q2 (fun b g1 g2 => (ha b (by omega) (by omega)).1) (ha _ (by omega) (by omega)).2, CarLay_agree q3 (fun b hb => ha b (by omega) (by omega)), CarLay_agree q4 (fun b hb => ha b (by omega) (by omega)), HistLay_agree q5 (fun b hb => ha b (by omega) (by omega)),
    fun j hj => ⟨(congrFun (ha (x + 146) (by omega) (by omega)).2 j).trans (q6 j hj).1, CarLay_agree (q6 j hj).2 (fun b hb => ha b (by omega) (by omega))⟩, WriLay_agree q7 (fun b g1 g2 => ha b (by omega) (by omega))⟩
theorem ModLay_agree {Λ Λ' : am_L} {y : Nat} (h : ModLay Λ y) (ha : ∀ b : Nat, y ≤ b → b < y + 10 → Λ'.1 b = Λ.1 b ∧ Λ'.2 b = Λ.2 b) : ModLay Λ' y := by
  obtain ⟨h1, r0, s1, r1, s2, r2, s3, r3, s4, r4, s5, r5, s6, r7, s7, r11, s8, r18, s9⟩ := h
  have hx := ha y (by omega) (by omega)
  exact ⟨hx.1.trans h1, (congrFun hx.2 0).trans r0, (ha _ (by omega) (by omega)).1.trans s1, (congrFun hx.2 1).trans r1, (ha _ (by omega) (by omega)).1.trans s2, (congrFun hx.2 2).trans r2, (ha _ (by omega) (by omega)).1.trans s3, (congrFun hx.2 3).trans r3, (ha _ (by omega) (by omega)).1.trans s4, (congrFun hx.2 4).trans r4, (ha _ (by omega) (by omega)).1.trans s5, (congrFun hx.2 5).trans r5, (ha _ (by omega) (by omega)).1.trans s6, (congrFun hx.2 7).trans r7, (ha _ (by omega) (by omega)).1.trans s7, (congrFun hx.2 11).trans r11, (ha _ (by omega) (by omega)).1.trans s8, (congrFun hx.2 18).trans r18, (ha _ (by omega) (by omega)).1.trans s9⟩
theorem MM_far {I I' : am_I} {y n ct : Nat} {tb : Nat → Nat} {err : Int32} {r : Nat → Int32} {hs : Nat → Nat → Int32} {kp : Nat → Bool} {sn : Nat → Nat → Int32} {w : Nat × (Nat → Int32)} (h : ModRel I y tb n err r ct hs kp sn w) (hf : ∀ b : Nat, y ≤ b → b < y + 10 → I' b = I b) : ModRel I' y tb n err r ct hs kp sn w := by
  have e := hf y (by omega) (by omega)
  exact MM_agree h (by rw [e]) (by rw [e]) (by rw [e]) (by rw [e]) (hf _ (by omega) (by omega)) (hf _ (by omega) (by omega)) (hf _ (by omega) (by omega)) (hf _ (by omega) (by omega)) (hf _ (by omega) (by omega)) (hf _ (by omega) (by omega))
set_option maxHeartbeats 4000000 in
set_option maxRecDepth 100000 in
theorem lw_body {G : am_G} {X : am_X} {tz : List ExceptionTableEntry} {Q : State → Prop} {b L z : Nat} {xs : Nat → Int32} (C : am_Cx G X RL cL_law 9 (some .boolean) tz Q) (S : LSc G X b L xs) (hL : L ≤ 3072) (hz : X.2.2.1.heap.size = z) (hO : va_AO RX0 X.2.2.1)
    (kend : ∀ (Λ : am_L) (x y o c : Nat) (I : am_I) (J : am_J) (k n : Nat), k ≤ 6000 → n ≤ 60000 → am_K G X room_1 9 Λ I J k n 2928 (lw_LS b x y o c) []) : am_K G X room_1 9 ((fun _ => (0, 0)), fun _ _ => none) (fun _ _ => 0) (fun _ _ => 0) 0 0 0 [(0, .ref b)] [] := by
  refine k_newC C (h := z) hz (Or.inl rfl) rfl (ci := 5) (q := (RX5, TX5, 9)) rfl am_cl_RL_8 am_in_5 am_it_5 ⟨Nat.le_of_ble_eq_true rfl, Nat.le_of_ble_eq_true rfl⟩ dL_law_0 ?_
  obtain ⟨Λ1, hΛ1, s1⟩ : ∃ Λ1 : am_L, am_nS ((fun _ => (0, 0)), fun _ _ => none) z (1, 5) = Λ1 ∧ Λ1.1 z = (1, 5) := ⟨_, rfl, nS_eq⟩
  rw [hΛ1]
  clear hΛ1
  refine k_dup C rfl dL_law_3 ?_
  refine k_callIz C (h := z + 1) hz (Or.inr ⟨z, by rw [s1]; decide, rfl⟩) rfl hO s_L_148 h_X5_init (ct_X5_init s1) rfl rfl (Nat.le_of_ble_eq_true rfl) ⟨Nat.le_of_ble_eq_true rfl, Nat.le_of_ble_eq_true rfl⟩ ⟨Nat.le_of_ble_eq_true rfl, Nat.le_of_ble_eq_true rfl⟩ dL_law_4 ?_
  intro Λ2 I2 J2 hp
  obtain ⟨hx2, E2, F2, r0, hr0, hR2⟩ := hp
  refine k_astore_n C (f := 1) (i := 1) (lv := [(1, _), (0, _)]) rfl (Nat.le_of_ble_eq_true rfl) rfl dL_law_7 ?_
  refine k_newC C (h := z + 173) hz (Or.inr ⟨z + 172, by rw [A4_0 hx2.2.2.2.2.2.2.2.2.2.2.2.2.2.2.2.2.2.2]; decide, rfl⟩) rfl (ci := 6) (q := (RX6, TX6, 20)) rfl am_cl_RL_149 am_in_6 am_it_6 ⟨Nat.le_of_ble_eq_true rfl, Nat.le_of_ble_eq_true rfl⟩ dL_law_8 ?_
  obtain ⟨Λ3, hΛ3, s3, O3⟩ : ∃ Λ3 : am_L, am_nS Λ2 (z + 173) (1, 6) = Λ3 ∧ Λ3.1 (z + 173) = (1, 6) ∧ ∀ a : Nat, a ≠ z + 173 → Λ3.1 a = Λ2.1 a ∧ Λ3.2 a = Λ2.2 a := ⟨_, rfl, nS_eq, fun a ha => ⟨nS_ne ha, nR_ne ha⟩⟩
  obtain ⟨I3, hI3, z3, P3⟩ : ∃ I3 : am_I, am_nI I2 (z + 173) = I3 ∧ I3 (z + 173) = (fun _ => 0) ∧ ∀ a : Nat, a ≠ z + 173 → I3 a = I2 a := ⟨_, rfl, nI_new, fun a ha => nI_old ha⟩
  rw [hΛ3, hI3]
  clear hΛ3 hI3
  refine k_dup C rfl dL_law_11 ?_
  refine k_callIz C (h := z + 174) hz (Or.inr ⟨z + 173, by rw [s3]; decide, rfl⟩) rfl hO s_L_151 h_X6_init (ct_X6_init s3 z3 hr0) rfl rfl (Nat.le_of_ble_eq_true rfl) ⟨Nat.le_of_ble_eq_true rfl, Nat.le_of_ble_eq_true rfl⟩ ⟨Nat.le_of_ble_eq_true rfl, Nat.le_of_ble_eq_true rfl⟩ dL_law_12 ?_
  intro Λ4 I4 J4 hp
  obtain ⟨hy4, E4, F4, hM4⟩ := hp
  refine k_astore_n C (f := 2) (i := 2) (lv := [(2, _), (1, _), (0, _)]) rfl (Nat.le_of_ble_eq_true rfl) rfl dL_law_15 ?_
  refine k_iconst C ic_1 dL_law_16 ?_
  refine k_newA C (h := z + 183) (N := 1) (kd := 5) hz (Or.inr ⟨z + 182, by rw [show z + 182 = z + 173 + 9 from rfl, A6_18 hy4]; decide, rfl⟩) rfl am_ar_l rfl (by decide) (Or.inr (Or.inr (Or.inr ⟨rfl, rfl⟩))) ⟨Nat.le_of_ble_eq_true rfl, Nat.le_of_ble_eq_true rfl⟩ dL_law_17 ?_
  obtain ⟨Λ5, hΛ5, s5, O5⟩ : ∃ Λ5 : am_L, am_nS Λ4 (z + 183) (5, 1) = Λ5 ∧ Λ5.1 (z + 183) = (5, 1) ∧ ∀ a : Nat, a ≠ z + 183 → Λ5.1 a = Λ4.1 a ∧ Λ5.2 a = Λ4.2 a := ⟨_, rfl, nS_eq, fun a ha => ⟨nS_ne ha, nR_ne ha⟩⟩
  obtain ⟨I5, hI5, P5⟩ : ∃ I5 : am_I, am_nI I4 (z + 183) = I5 ∧ ∀ a : Nat, a ≠ z + 183 → I5 a = I4 a := ⟨_, rfl, fun a ha => nI_old ha⟩
  rw [hΛ5, hI5]
  clear hΛ5 hI5
  refine k_astore_n C (f := 3) (i := 3) (lv := [(3, _), (2, _), (1, _), (0, _)]) rfl (Nat.le_of_ble_eq_true rfl) rfl dL_law_19 ?_
  refine k_iconst C ic_0 dL_law_20 ?_
  refine k_istore C (i := 4) (lv := [(4, _), (3, _), (2, _), (1, _), (0, _)]) (Nat.le_of_ble_eq_true rfl) rfl dL_law_21 ?_
  refine k_sub [4, 3, 2, 1, 0] rfl ?_
  have hLx : RouLay Λ5 z := RouLay_agree hx2 (fun a g1 g2 => ⟨(O5 a (by omega)).1.trans ((E4.1 a (Or.inl (by omega))).1.trans (O3 a (by omega)).1), (O5 a (by omega)).2.trans ((E4.2 a (Or.inl (by omega)) (by omega)).trans (O3 a (by omega)).2)⟩)
  have hLy : ModLay Λ5 (z + 173) := ModLay_agree hy4 (fun a g1 g2 => O5 a (by omega))
  have hRx : RouRel I5 z (fun _ => 0) 0 (-1) r0 0 (fun _ _ => 0) (fun _ => false) (fun _ _ => 0) (0, fun _ => 0) := RR_out hR2 (fun a g1 g2 => (P5 a (by omega)).trans ((F4 a (by omega)).trans (P3 a (by omega))))
  have hMy : ModRel I5 (z + 173) (fun _ => 0) 0 (-1) r0 0 (fun _ _ => 0) (fun _ => false) (fun _ _ => 0) (0, fun _ => 0) := MM_far hM4 (fun a g1 g2 => P5 a (by omega))
  exact lw_loop (x := z) (y := z + 173) (o := z + 183) C S hL ⟨hLx, hLy, s5, Nat.le_refl _, Nat.le_refl _⟩ (fun c I J k n h1 h2 => kend Λ5 _ _ _ c I J k n h1 h2) 700 0 I5 _ _ _ ⟨_, _, _, _, _, _, _, _, _, hRx, hMy, rowok_parse hr0, fun s h => absurd h (Nat.not_lt_zero s), fun j _ h => (by cases h), Or.inl rfl⟩ (Nat.zero_le _) (Nat.le_of_ble_eq_true rfl) (Nat.le_of_ble_eq_true rfl) (by omega)
set_option maxHeartbeats 4000000 in
/-- YOUR PART: from the entry, for every script of at most 3072 ints, the law comes to its end with true ('hflags': the launch's flags, for a law that throws: no stack traces) -/
theorem whole_start {p : Program} {e : Env} {s : State} {m : MethodId} {below : List Frame} {meth : Method} {c : Code} (l : Launch) (hflags : l.flags = flags0) {b L : Nat} {xs : Nat → Int32} (hL : L ≤ 3072) (C0 : lw_At p s m meth c b L xs) : W p l e room_1 s m #[Value.ref b] below meth c s.heap [] 0 0 (lw_Z below #[Value.ref b] s) (entryFrame m ([Value.ref b] : List Value).toArray 9) := by
  obtain ⟨hx, hb, hr, hml, hown, hts, hX, hbl, hlocks, hgv⟩ := C0
  obtain ⟨G, hG1, hG2, hE, hAO⟩ := lw_env l hflags hts hgv
  subst hG1
  have C : am_Cx G (p, e, s, m, #[Value.ref b], below, meth, c, lw_Z below #[Value.ref b] s) RL cL_law 9 (some .boolean) c.exceptionTable.toList (lw_Z below #[Value.ref b] s) := ⟨hx, hb, hml, hown, fun w hw => hts w (List.mem_filter.mp hw).1, hE, hlocks, hr, rfl, rfl⟩
  have hl := lv_entry ([.ref b]) (n := 9) (Nat.le_of_ble_eq_true rfl)
  rw [lg_entry_eq]
  generalize (lg_sl ([.ref b]) ++ List.replicate (9 - (lg_sl ([.ref b])).length) Slot.unset).toArray = la at hl ⊢
  have hl : lv_has la 9 [(0, .ref b)] := hl
  refine lw_body C ⟨hX, hbl, by show ¬ G.2.1 ≤ b; rw [hG2]; exact Nat.not_le.mpr hbl⟩ hL rfl hAO (fun Λ x y o c' I J k n h1 h2 => ?_) s.heap [] la ⟨fun a => True.intro, fun a h => absurd rfl h, by rw [hG2]; exact Nat.le_refl _⟩ va_S.rf hl
  refine k_iconst C ic_1 dL_law_2928 ?_
  intro H locs la2 hR hS hl2
  refine va_forget (fun q hq => Nat.le_trans (Nat.le_of_eq hG2.symm) (hS.2.2 q hq)) ?_
  refine W.widen (k := 601024) (n := 7293034) (by omega) (by omega) ?_
  exact lw_ret (Drawn.sameBut.refl s.drawn lw_cs) hx hb hr hlocks dL_law_2929
-- ===== YOUR PART ENDS =====
set_option maxHeartbeats 4000000 in
theorem lw_walk (l : Launch) (hflags : l.flags = flags0) (b : Addr) (xs : List Int32) : MetFree l x (headSpec (Jvm.Cond.code x code maxLocals ret :: tables_1) room_1) (lw_P b xs) (fun _ _ _ _ _ => True) lw_Q := by
  refine MetFree.of_bodyS (code := code) (maxLocals := maxLocals) (ret := ret) (by decide) ?_ ?_
  · intro args s m h hn
    obtain ⟨meth, c, h1, h2, h3, h4, h5, h6, -, -⟩ := Cond.code_spec hn (atoms_spec (ws := Jvm.Cond.code x code maxLocals ret :: tables_1) h _ List.mem_cons_self)
    exact ⟨meth, c, h1, h2, h3, h4, h5, h6⟩
  · intro p e s m args below meth c s₁ B hml0 hP _
    obtain ⟨rfl, hx, hbd, hgv⟩ := hP
    obtain ⟨scr, harrAt, hlist, hof, hsmall⟩ := hx
    obtain ⟨hcb, hkn, -, -⟩ := State.arrayAt?_spec harrAt
    have hown : s.vm.findClass R_law = some m.cls := findClass_of_methodNamed B.named
    have hts0 : ∀ c ∈ (Jvm.Cond.code x code maxLocals ret :: tables_1), c.before #[Value.ref b] s = true := atoms_spec (ws := Jvm.Cond.code x code maxLocals ret :: tables_1) B.pre
    have hts : ∀ w ∈ lw_tbl, w.before #[Value.ref b] s = true := k2_hts_sels lw_privs (fun w hw => hts0 w (List.mem_cons_of_mem _ hw)) lw_privs_ok
    have hml : c.maxLocals = 9 := B.maxLocals_eq (hts0 _ List.mem_cons_self)
    have X₀ : Stand p l e room_1 s m #[Value.ref b] below meth c s₁ [] 0 0 := Stand.of_body B
    have hh0 : s₁.heap = s.heap := by rw [B.state]; rfl
    have hsz : scr.slots.size = xs.length := by rw [← Array.length_toList, hlist, List.length_map]
    have hval : ∀ j : Nat, j < xs.length → scr.slots[j]? = some (.int (xs.getD j 0)) := fun j hj => by
      rw [← Array.getElem?_toList, hlist]
      simp [hj]
    have hbl : b < s.heap.size := (Array.getElem?_eq_some_iff.mp hcb).1
    have hX : va_X b xs.length (fun j => xs.getD j 0) s s.heap := ⟨scr, hcb, hof, hkn, hsz, hval⟩
    have K : W p l e room_1 s m #[Value.ref b] below meth c s₁.heap [] 0 0 (lw_Z below #[Value.ref b] s) (entryFrame m ([Value.ref b] : List Value).toArray 9) := by
      rw [hh0]
      exact whole_start l hflags hbd ⟨B.exec, B.bytes, B.returns, hml, hown, hts, hX, hbl, B.notSynchronized, hgv⟩
    obtain ⟨t, a1, o, b1, b2, b3⟩ := K s₁ rfl X₀
    exact ⟨t, o, a1, b1, b2, b3⟩
theorem lw_pre_spec {args : Array Value} {s : State} (h : (Jvm.Cond.and given_1 narrow_1).before args s = true) (hr : rest_1_c.before args s = true) : ∃ (b : Addr) (xs : List Int32), lw_P b xs args s := by
  have hs := flat_of_before _ h
  have hq := flat_of_before _ hr
  have hc : (Cond.count 1).before args s = true := hs _ (by decide +kernel)
  have harr : (Cond.arrayOf (.arg 0) .int).before args s = true := hs _ (by decide +kernel)
  have hle : (Cond.le (.length (.arg 0)) (.int 3072)).before args s = true := hs _ (by decide +kernel)
  have hlen : (Cond.isInt (.length (.arg 0))).before args s = true := hq _ (by decide +kernel)
  have hall : (Cond.all (.arg 0) (.isInt (.elem (.arg 0) (.index 0)))).before args s = true := hq _ (by decide +kernel)
  obtain ⟨b, xs, hb, hx⟩ := State.ints_of_pre rfl harr hlen hall
  have hsm : xs.length < 2 ^ 31 := hx.choose_spec.2.2.2
  have hev : (Term.length (.arg 0)).eval args s none [] s = some (.int xs.length.toInt32) := hx.length_eval hb
  have hv := Cond.le_ints hev (show (Term.int 3072).eval args s none [] s = some (.int 3072) from rfl)
  have hd : xs.length.toInt32 ≤ 3072 := by
    simpa [Cond.before, Cond.holds, hv] using hle
  have hN : xs.length ≤ 3072 := (Int32.ofNat_le_ofNat hsm (by decide)).mp (show Int32.ofNat xs.length ≤ Int32.ofNat 3072 from hd)
  exact ⟨b, xs, Cond.one_arg hc (show args[0]? = some (.ref b) from hb), hx, hN, h⟩
theorem lw_comes (l : Launch) (hflags : l.flags = flags0) : Comes l x (Jvm.Cond.code x code maxLocals ret :: tables_1) room_1 (fun tb e args s => Calls_1 tb e args s ∧ rest_1 tb e args s ∧ Pre_1 tb e args s)
    (fun _ _ args s o t => lw_Q args s o t) := by
  intro p e ha hc hk s m args below hf hfit hheap happ hpre
  obtain ⟨b, xs, hP⟩ := lw_pre_spec hpre.2.2 hpre.2.1
  obtain ⟨k, o, h1, h2, h3, hQ⟩ := lw_walk l hflags b xs p e ha hc hk s m args below hf ((Spec.applies_iff_loose hf).mp happ).1 hP trivial
  exact ⟨k, o, h1, h2, h3, hQ⟩
theorem lw_frame {s t : State} {o : Outcome} {args : Array Value} (h : State.butDraws s t lw_cs (fun t1 => Framed s o t1 [] 601024 7293034)) :
    State.butDraws s t [Jvm.Choice.named "NaN.bits"] (fun t1 => Framed s o t1 (fieldLocs frame_1_writes args s ++ arrayLocs frame_1_arrays args s ++ staticLocs frame_1_statics s) 601024 7293034) := h
theorem lw_limb (L : Cond) (hL : ∀ (args : Array Value) (s t : State), L.after args s (.returned (some (.int 1))) t = true) :
    ArmFor flags0 classFile x code maxLocals ret World_1 tables_1 room_1 Calls_1 rest_1 Pre_1
      (fun tb e a s o t => postC L tb e a s o t ∧ State.butDraws s t [Jvm.Choice.named "NaN.bits"] (fun t1 => Framed s o t1 (fieldLocs frame_1_writes a s ++ arrayLocs frame_1_arrays a s ++ staticLocs frame_1_statics s) 601024 7293034)) := by
  intro l hflags _ _ p e ha hc hk s m args below hf hfit hheap happ hpre
  obtain ⟨k, o, h1, h2, h3, rfl, hF⟩ := lw_comes l hflags p e ha hc hk s m args below hf hfit hheap happ hpre
  exact ⟨k, _, h1, h2, h3, hL args s _, lw_frame hF⟩
theorem i_vc : Claimed_1_1 ∧ Claimed_1_2 := ⟨lw_limb limb_1_1 (fun args s t => by simp [limb_1_1, Cond.after, Cond.holds, Cond.value]), lw_limb limb_1_2 (fun args s t => Cond.after_iff.mpr (by
  first | (rw [show limb_1_2 = Cond.eq .result (.int 1) from rfl, Cond.eq_ints (x := 1) (y := 1) rfl rfl]; simp; done) | (simp [limb_1_2, Cond.value, Term.eval]; done)))⟩
