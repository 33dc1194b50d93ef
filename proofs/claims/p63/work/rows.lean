section
-- ===== PART A: goes FIRST, ahead of the names: the tables' words, and 'selects' of the private methods out of them =====
/-- a private method of a class that the tables say can be made, by its rows of tables_1 -/
def lw_okq (q : MethodName × Nat) : Prop := (q.1.cls ≠ "java/lang/invoke/MethodHandle" ∧ q.1.cls ≠ "java/lang/invoke/VarHandle") ∧ Cond.instantiable q.1.cls q.2 ∈ tables_1 ∧ Cond.privateMethod q.1 ∈ tables_1 ∧ Cond.instanceMethod q.1 ∈ tables_1
theorem lw_p0 : lw_okq (⟨"CaravanRoute$Input", "takeByte", "(I)V"⟩, 8) := ⟨⟨by decide +kernel, by decide +kernel⟩, List.mem_of_getElem? (i := 35) (by decide +kernel), List.mem_of_getElem? (i := 261) (by decide +kernel), List.mem_of_getElem? (i := 262) (by decide +kernel)⟩
theorem lw_p1 : lw_okq (⟨"CaravanRoute$Input", "step", "()V"⟩, 8) := ⟨⟨by decide +kernel, by decide +kernel⟩, List.mem_of_getElem? (i := 35) (by decide +kernel), List.mem_of_getElem? (i := 269) (by decide +kernel), List.mem_of_getElem? (i := 270) (by decide +kernel)⟩
theorem lw_p2 : lw_okq (⟨"CaravanRoute$Input", "stepOverWord", "()V"⟩, 8) := ⟨⟨by decide +kernel, by decide +kernel⟩, List.mem_of_getElem? (i := 35) (by decide +kernel), List.mem_of_getElem? (i := 273) (by decide +kernel), List.mem_of_getElem? (i := 274) (by decide +kernel)⟩
theorem lw_p3 : lw_okq (⟨"CaravanRoute$Input", "stepOverNumber", "()V"⟩, 8) := ⟨⟨by decide +kernel, by decide +kernel⟩, List.mem_of_getElem? (i := 35) (by decide +kernel), List.mem_of_getElem? (i := 277) (by decide +kernel), List.mem_of_getElem? (i := 278) (by decide +kernel)⟩
theorem lw_p4 : lw_okq (⟨"CaravanRoute$Input", "readRoute", "()Z"⟩, 8) := ⟨⟨by decide +kernel, by decide +kernel⟩, List.mem_of_getElem? (i := 35) (by decide +kernel), List.mem_of_getElem? (i := 281) (by decide +kernel), List.mem_of_getElem? (i := 282) (by decide +kernel)⟩
theorem lw_p5 : lw_okq (⟨"CaravanRoute$Input", "isWord", "(Ljava/lang/String;)Z"⟩, 8) := ⟨⟨by decide +kernel, by decide +kernel⟩, List.mem_of_getElem? (i := 35) (by decide +kernel), List.mem_of_getElem? (i := 286) (by decide +kernel), List.mem_of_getElem? (i := 287) (by decide +kernel)⟩
theorem lw_p6 : lw_okq (⟨"CaravanRoute$Input", "takeNumber", "(II)Z"⟩, 8) := ⟨⟨by decide +kernel, by decide +kernel⟩, List.mem_of_getElem? (i := 35) (by decide +kernel), List.mem_of_getElem? (i := 290) (by decide +kernel), List.mem_of_getElem? (i := 291) (by decide +kernel)⟩
theorem lw_p7 : lw_okq (⟨"CaravanRoute$Input", "takeSemicolon", "()Z"⟩, 8) := ⟨⟨by decide +kernel, by decide +kernel⟩, List.mem_of_getElem? (i := 35) (by decide +kernel), List.mem_of_getElem? (i := 298) (by decide +kernel), List.mem_of_getElem? (i := 299) (by decide +kernel)⟩
theorem lw_p8 : lw_okq (⟨"CaravanRoute$Input", "readCamels", "()Z"⟩, 8) := ⟨⟨by decide +kernel, by decide +kernel⟩, List.mem_of_getElem? (i := 35) (by decide +kernel), List.mem_of_getElem? (i := 302) (by decide +kernel), List.mem_of_getElem? (i := 303) (by decide +kernel)⟩
theorem lw_p9 : lw_okq (⟨"CaravanRoute$Input", "readCamel", "()Z"⟩, 8) := ⟨⟨by decide +kernel, by decide +kernel⟩, List.mem_of_getElem? (i := 35) (by decide +kernel), List.mem_of_getElem? (i := 307) (by decide +kernel), List.mem_of_getElem? (i := 308) (by decide +kernel)⟩
theorem lw_p10 : lw_okq (⟨"CaravanRoute$Input", "readWells", "()Z"⟩, 8) := ⟨⟨by decide +kernel, by decide +kernel⟩, List.mem_of_getElem? (i := 35) (by decide +kernel), List.mem_of_getElem? (i := 315) (by decide +kernel), List.mem_of_getElem? (i := 316) (by decide +kernel)⟩
theorem lw_p11 : lw_okq (⟨"CaravanRoute$Input", "readWell", "()Z"⟩, 8) := ⟨⟨by decide +kernel, by decide +kernel⟩, List.mem_of_getElem? (i := 35) (by decide +kernel), List.mem_of_getElem? (i := 320) (by decide +kernel), List.mem_of_getElem? (i := 321) (by decide +kernel)⟩
theorem lw_p12 : lw_okq (⟨"CaravanRoute$Input", "readStorms", "()Z"⟩, 8) := ⟨⟨by decide +kernel, by decide +kernel⟩, List.mem_of_getElem? (i := 35) (by decide +kernel), List.mem_of_getElem? (i := 332) (by decide +kernel), List.mem_of_getElem? (i := 333) (by decide +kernel)⟩
theorem lw_p13 : lw_okq (⟨"CaravanRoute$Input", "readStorm", "()Z"⟩, 8) := ⟨⟨by decide +kernel, by decide +kernel⟩, List.mem_of_getElem? (i := 35) (by decide +kernel), List.mem_of_getElem? (i := 337) (by decide +kernel), List.mem_of_getElem? (i := 338) (by decide +kernel)⟩
theorem lw_p14 : lw_okq (⟨"CaravanRoute$Input", "readLoads", "()Z"⟩, 8) := ⟨⟨by decide +kernel, by decide +kernel⟩, List.mem_of_getElem? (i := 35) (by decide +kernel), List.mem_of_getElem? (i := 349) (by decide +kernel), List.mem_of_getElem? (i := 350) (by decide +kernel)⟩
theorem lw_p15 : lw_okq (⟨"CaravanRoute$Input", "readLoad", "()Z"⟩, 8) := ⟨⟨by decide +kernel, by decide +kernel⟩, List.mem_of_getElem? (i := 35) (by decide +kernel), List.mem_of_getElem? (i := 354) (by decide +kernel), List.mem_of_getElem? (i := 355) (by decide +kernel)⟩
def lw_privs_1 : List (MethodName × Nat) := [(⟨"CaravanRoute$Input", "takeByte", "(I)V"⟩, 8), (⟨"CaravanRoute$Input", "step", "()V"⟩, 8), (⟨"CaravanRoute$Input", "stepOverWord", "()V"⟩, 8), (⟨"CaravanRoute$Input", "stepOverNumber", "()V"⟩, 8), (⟨"CaravanRoute$Input", "readRoute", "()Z"⟩, 8), (⟨"CaravanRoute$Input", "isWord", "(Ljava/lang/String;)Z"⟩, 8), (⟨"CaravanRoute$Input", "takeNumber", "(II)Z"⟩, 8), (⟨"CaravanRoute$Input", "takeSemicolon", "()Z"⟩, 8), (⟨"CaravanRoute$Input", "readCamels", "()Z"⟩, 8), (⟨"CaravanRoute$Input", "readCamel", "()Z"⟩, 8), (⟨"CaravanRoute$Input", "readWells", "()Z"⟩, 8), (⟨"CaravanRoute$Input", "readWell", "()Z"⟩, 8), (⟨"CaravanRoute$Input", "readStorms", "()Z"⟩, 8), (⟨"CaravanRoute$Input", "readStorm", "()Z"⟩, 8), (⟨"CaravanRoute$Input", "readLoads", "()Z"⟩, 8), (⟨"CaravanRoute$Input", "readLoad", "()Z"⟩, 8)]
theorem lw_r1 : ∀ q ∈ lw_privs_1, lw_okq q := List.forall_mem_cons.mpr ⟨lw_p0, List.forall_mem_cons.mpr ⟨lw_p1, List.forall_mem_cons.mpr ⟨lw_p2, List.forall_mem_cons.mpr ⟨lw_p3, List.forall_mem_cons.mpr ⟨lw_p4, List.forall_mem_cons.mpr ⟨lw_p5, List.forall_mem_cons.mpr ⟨lw_p6, List.forall_mem_cons.mpr ⟨lw_p7, List.forall_mem_cons.mpr ⟨lw_p8, List.forall_mem_cons.mpr ⟨lw_p9, List.forall_mem_cons.mpr ⟨lw_p10, List.forall_mem_cons.mpr ⟨lw_p11, List.forall_mem_cons.mpr ⟨lw_p12, List.forall_mem_cons.mpr ⟨lw_p13, List.forall_mem_cons.mpr ⟨lw_p14, List.forall_mem_cons.mpr ⟨lw_p15, fun _ h => absurd h List.not_mem_nil⟩⟩⟩⟩⟩⟩⟩⟩⟩⟩⟩⟩⟩⟩⟩⟩
theorem lw_p16 : lw_okq (⟨"java/lang/Throwable", "fillInStackTrace", "(I)Ljava/lang/Throwable;"⟩, 6) := ⟨⟨by decide +kernel, by decide +kernel⟩, List.mem_of_getElem? (i := 551) (by decide +kernel), List.mem_of_getElem? (i := 549) (by decide +kernel), List.mem_of_getElem? (i := 550) (by decide +kernel)⟩
theorem lw_p17 : lw_okq (⟨"CaravanRoute$Caravan", "tire", "(II)V"⟩, 17) := ⟨⟨by decide +kernel, by decide +kernel⟩, List.mem_of_getElem? (i := 41) (by decide +kernel), List.mem_of_getElem? (i := 613) (by decide +kernel), List.mem_of_getElem? (i := 614) (by decide +kernel)⟩
theorem lw_p18 : lw_okq (⟨"CaravanRoute$Caravan", "useWater", "(II)V"⟩, 17) := ⟨⟨by decide +kernel, by decide +kernel⟩, List.mem_of_getElem? (i := 41) (by decide +kernel), List.mem_of_getElem? (i := 621) (by decide +kernel), List.mem_of_getElem? (i := 622) (by decide +kernel)⟩
theorem lw_p19 : lw_okq (⟨"CaravanRoute$Caravan", "dropAllOf", "(I)V"⟩, 17) := ⟨⟨by decide +kernel, by decide +kernel⟩, List.mem_of_getElem? (i := 41) (by decide +kernel), List.mem_of_getElem? (i := 625) (by decide +kernel), List.mem_of_getElem? (i := 626) (by decide +kernel)⟩
theorem lw_p20 : lw_okq (⟨"CaravanRoute$Caravan", "endDay", "()V"⟩, 17) := ⟨⟨by decide +kernel, by decide +kernel⟩, List.mem_of_getElem? (i := 41) (by decide +kernel), List.mem_of_getElem? (i := 633) (by decide +kernel), List.mem_of_getElem? (i := 634) (by decide +kernel)⟩
theorem lw_p21 : lw_okq (⟨"CaravanRoute$Caravan", "nextToDrink", "([I)I"⟩, 17) := ⟨⟨by decide +kernel, by decide +kernel⟩, List.mem_of_getElem? (i := 41) (by decide +kernel), List.mem_of_getElem? (i := 662) (by decide +kernel), List.mem_of_getElem? (i := 663) (by decide +kernel)⟩
theorem lw_p22 : lw_okq (⟨"CaravanRoute", "requireCamel", "(I)V"⟩, 9) := ⟨⟨by decide +kernel, by decide +kernel⟩, List.mem_of_getElem? (i := 27) (by decide +kernel), List.mem_of_getElem? (i := 674) (by decide +kernel), List.mem_of_getElem? (i := 675) (by decide +kernel)⟩
theorem lw_p23 : lw_okq (⟨"CaravanRoute", "requireLoad", "(I)V"⟩, 9) := ⟨⟨by decide +kernel, by decide +kernel⟩, List.mem_of_getElem? (i := 27) (by decide +kernel), List.mem_of_getElem? (i := 701) (by decide +kernel), List.mem_of_getElem? (i := 702) (by decide +kernel)⟩
theorem lw_p24 : lw_okq (⟨"CaravanRoute", "requireSlot", "(I)V"⟩, 9) := ⟨⟨by decide +kernel, by decide +kernel⟩, List.mem_of_getElem? (i := 27) (by decide +kernel), List.mem_of_getElem? (i := 757) (by decide +kernel), List.mem_of_getElem? (i := 758) (by decide +kernel)⟩
theorem lw_p25 : lw_okq (⟨"CaravanRoute", "requireWell", "(I)V"⟩, 9) := ⟨⟨by decide +kernel, by decide +kernel⟩, List.mem_of_getElem? (i := 27) (by decide +kernel), List.mem_of_getElem? (i := 820) (by decide +kernel), List.mem_of_getElem? (i := 821) (by decide +kernel)⟩
def lw_privs_2 : List (MethodName × Nat) := [(⟨"java/lang/Throwable", "fillInStackTrace", "(I)Ljava/lang/Throwable;"⟩, 6), (⟨"CaravanRoute$Caravan", "tire", "(II)V"⟩, 17), (⟨"CaravanRoute$Caravan", "useWater", "(II)V"⟩, 17), (⟨"CaravanRoute$Caravan", "dropAllOf", "(I)V"⟩, 17), (⟨"CaravanRoute$Caravan", "endDay", "()V"⟩, 17), (⟨"CaravanRoute$Caravan", "nextToDrink", "([I)I"⟩, 17), (⟨"CaravanRoute", "requireCamel", "(I)V"⟩, 9), (⟨"CaravanRoute", "requireLoad", "(I)V"⟩, 9), (⟨"CaravanRoute", "requireSlot", "(I)V"⟩, 9), (⟨"CaravanRoute", "requireWell", "(I)V"⟩, 9)]
theorem lw_r2 : ∀ q ∈ lw_privs_2, lw_okq q := List.forall_mem_cons.mpr ⟨lw_p16, List.forall_mem_cons.mpr ⟨lw_p17, List.forall_mem_cons.mpr ⟨lw_p18, List.forall_mem_cons.mpr ⟨lw_p19, List.forall_mem_cons.mpr ⟨lw_p20, List.forall_mem_cons.mpr ⟨lw_p21, List.forall_mem_cons.mpr ⟨lw_p22, List.forall_mem_cons.mpr ⟨lw_p23, List.forall_mem_cons.mpr ⟨lw_p24, List.forall_mem_cons.mpr ⟨lw_p25, fun _ h => absurd h List.not_mem_nil⟩⟩⟩⟩⟩⟩⟩⟩⟩⟩
def lw_privs : List (MethodName × Nat) := lw_privs_1 ++ (lw_privs_2)
def lw_tbl : List Cond := k2_sels lw_privs ++ tables_1
theorem lw_privs_ok : ∀ q ∈ lw_privs, lw_okq q := by
  show ∀ q ∈ lw_privs_1 ++ (lw_privs_2), lw_okq q
  exact List.forall_mem_append.mpr ⟨lw_r1, lw_r2⟩
/-- the streams that the claim lets the run draw from -/
abbrev lw_cs : List Choice := [Jvm.Choice.named "NaN.bits"]
theorem lw_bits : nanBits ∈ lw_cs := by first | decide | exact List.mem_cons_self | simp [lw_cs, nanBits]
end
section
/-! ===== BEGIN words of one list among another's, by their places ===== -/
theorem goodIn_r {big : List Cond} (ws : List Cond) (ps : List Nat) (hp : ws = ps.filterMap (fun i => big[i]?)) (h : ws.all goodWord = true) : GoodIn big ws := by
  intro w hw
  have h1 := List.all_eq_true.mp h w hw
  rw [hp] at hw
  obtain ⟨i, -, hi⟩ := List.mem_filterMap.mp hw
  have hm : w ∈ big := by first | exact List.mem_of_getElem? hi | exact List.getElem?_mem hi
  exact ⟨hm, good_of_word h1⟩
theorem goodIn_app {big a b : List Cond} (ha : GoodIn big a) (hb : GoodIn big b) : GoodIn big (a ++ b) := fun w h => (List.mem_append.mp h).elim (ha w) (hb w)
theorem goodIn_ca {big a b : List Cond} {c : Cond} (ha : GoodIn big (c :: a)) (hb : GoodIn big b) : GoodIn big (c :: (a ++ b)) := fun w h => (List.mem_cons.mp h).elim (fun e => ha w (List.mem_cons.mpr (Or.inl e))) (fun h => (List.mem_append.mp h).elim (fun h => ha w (List.mem_cons.mpr (Or.inr h))) (hb w))
theorem goodIn_sub {big ws : List Cond} (hm : ∀ w ∈ ws, w ∈ big) (h : ws.all goodWord = true) : GoodIn big ws := fun w hw => ⟨hm w hw, good_of_word (List.all_eq_true.mp h w hw)⟩
/-! ===== END ===== -/

/-! ===== BEGIN exceptions that leave a method, and their catching by the caller (launches without stack traces) ===== -/
section VXA
/-! The laws vx_back, vx_callV, vx_callS, vx_callSW, vx_throw0, vx_throwS follow proofs of the library, with one case more: JvmDerived/Free/Laws.lean (Back.of_free), Shelf42/LK1.lean (callV, callS), Shelf/KitTraced.lean (throwNew0V, throwNewS). -/
/-- where a method has thrown q: the class by its name, the cell, what was written, the world -/
def vx_T (XC : String → State → State → Prop) (st : State) (q : Addr) (t : State) (mc ms : Nat) (free : Addr → Prop) : Prop :=
  ∃ (E : String) (ce : Cell) (L : List Loc), XC E st t ∧ t.heap[q]? = some ce ∧ ce.vm = .none ∧ st.vm.findClass E = some ce.cls ∧ st.WarmedH t.vm ∧ st.sameButNew ({ t with vm := st.vm } : State) L mc ms ∧ ∀ z ∈ L, free z.base
def vx_Q (Qc : Array Value → State → Outcome → State → Prop) (XC : String → State → State → Prop) (mc ms : Nat) (free : Addr → Prop) : Array Value → State → Outcome → State → Prop := fun a st o t =>
  (Qc a st o t ∧ ∃ L, FrameEnd st o t L mc ms ∧ ∀ q ∈ L, free q.base) ∨ ∃ q, o = .threw q ∧ vx_T XC st q t mc ms free
/-- a callee that returns or throws -/
def vx_Met (l : Launch) (y : MethodName) (ws : List Cond) (rm : Room) (Pc : Array Value → State → Prop) (Qc : Array Value → State → Outcome → State → Prop) (XC : String → State → State → Prop) (mc ms : Nat) (free : Addr → Prop) : Prop :=
  MetFree l y (headSpec ws rm) Pc (fun _ _ _ _ _ => True) (vx_Q Qc XC mc ms free)
def vx_Post (XC : String → State → State → Prop) (mc ms : Nat) (free : Addr → Prop) : Pt → Array Value → Addr → Pt → Prop := fun A a q B =>
  ∃ (g : JFrame) (mk : MethodId) (t : State) (L : List Loc) (E : String) (ce : Cell), B.U.heap = t.heap ∧ B.U.vm = t.vm ∧ XC E (A.U.calling g mk a) t ∧ t.heap[q]? = some ce ∧ ce.vm = .none ∧ A.U.vm.findClass E = some ce.cls ∧ B.locs = A.locs ++ L ∧ (∀ z ∈ L, free z.base) ∧ B.cells = A.cells + mc ∧ B.slots = A.slots + ms
def vx_Back (l : Launch) (R : Room) (p : Program) (e : Env) (below : List Frame) (s : State) (sargs : Array Value) (y : MethodName) (len W9 : Nat)
    (Pre : Pt → Array Value → Prop) (Post : Pt → Array Value → Option Value → Pt → Prop) (PostX : Pt → Array Value → Addr → Pt → Prop) : Prop :=
  ∀ (m : MethodId) (meth : Method) (c : Code) (A : Pt) (g : JFrame) (ig : Instr) (mk : MethodId) (a : Array Value),
    Stand p l e R s m sargs below meth c A.U A.locs A.cells A.slots → g.method = m → g.locals.size = c.maxLocals → decode c.code g.pc = .ok (ig, len) →
    2 * g.monitorRoom + (g.stack.map fun v => v.category).sum ≤ W9 → A.U.methodNamed? y = some mk → Pre A a →
    (∃ (v : Option Value) (B : Pt), Stand p l e R s m sargs below meth c B.U B.locs B.cells B.slots ∧ Post A a v B ∧
      Steps p.tables e below (doInvoke e (A.U.setTop g) [] mk a).1 (B.U.setTop { g with pc := g.pc + len, stack := v.toList ++ g.stack })) ∨
    (∃ (q : Addr) (B : Pt), Stand p l e R s m sargs below meth c B.U B.locs B.cells B.slots ∧ PostX A a q B ∧
      Steps p.tables e below (doInvoke e (A.U.setTop g) [] mk a).1 ((B.U.setTop g).pushFrame (.throwing q)))
section Payer
variable {l : Launch} {R : Room} {p : Program} {e : Env} {below : List Frame} {s : State} {sargs : Array Value} {y : MethodName} {len W9 : Nat}
theorem vx_back {ws : List Cond} {rm : Room} {Pc : Array Value → State → Prop} {Qc : Array Value → State → Outcome → State → Prop} {XC : String → State → State → Prop} {mc ms : Nat} {free : Addr → Prop} {bytes : ByteArray} {maxL : Nat} {ret : Option FieldType}
    (hM : vx_Met l y ws rm Pc Qc XC mc ms free) (hblind : FrameBlind Pc) (hrc : rm.cells = mc) (hrs : rm.slots = ms)
    (hframes : rm.frames + 1 ≤ R.frames) (hlocals : W9 + (maxL + 11) + rm.locals ≤ R.locals)
    (hws : ∀ w ∈ ws, ∀ a' U, s.WarmedH U.vm → w.before a' U = true) (hcode : Cond.code y bytes maxL ret ∈ ws) (hinit : ∀ a' U, s.WarmedH U.vm → (Cond.initialized y.cls).before a' U = true) :
    vx_Back l R p e below s sargs y len W9 (PreOf R mc ms Pc) (PostOf Qc mc ms free) (vx_Post XC mc ms free) := by
  intro m meth c A g ig mk a X hg hsize hdg hW hn hp
  have h1 : (headSpec ws rm).pre.before a A.U = true := atoms_intro fun w hw => hws w hw _ _ X.warmed
  have h2 : (Cond.code y bytes maxL ret).before a A.U = true := hws _ hcode _ _ X.warmed
  have h3 : (Cond.initialized y.cls).before a A.U = true := hinit _ _ X.warmed
  have h4 : A.cells + (headSpec ws rm).room.cells ≤ R.cells := by rw [show (headSpec ws rm).room.cells = mc from hrc]; exact hp.1
  have h5 : A.slots + (headSpec ws rm).room.slots ≤ R.slots := by rw [show (headSpec ws rm).room.slots = ms from hrs]; exact hp.2.1
  have hPc : Pc a (A.U.calling g mk a) := hblind _ _ _ _ hp.2.2
  obtain ⟨U, Ls, c0, s0⟩ := A
  dsimp only [Pt.U, Pt.locs, Pt.cells, Pt.slots] at h1 h2 h3 h4 h5 X hn hPc ⊢
  obtain ⟨methY, cY, hmY, hcY, -, hlY, -, -, -, -⟩ := Cond.code_spec hn h2
  obtain ⟨kY, hkY, -⟩ := className_of_methodNamed hn
  have hinitY : kY.init = .initialized := Cond.initialized_spec (findClass_of_methodNamed hn) hkY h3
  have h : At U g.method c below := by rw [hg]; exact X.here
  have hlocals9 : W9 + (maxL + 11) + (headSpec ws rm).room.locals ≤ R.locals := hlocals
  have happ : (headSpec ws rm).appliesLoose y e.platform (U.calling g mk a) = true :=
    Spec.appliesLoose_calling (g := g) h hdg hn hkY hinitY
      (X.room_calling (g := g) (R' := (headSpec ws rm).room) hsize hmY hcY hframes (by rw [hlY]; omega) h4 h5) h1
  obtain ⟨mid, hmid⟩ := h.above
  have hfr : (U.setTop g).frames = (.java g :: mid) ++ below := by rw [State.frames_setTop' g h.top, hmid]; rfl
  obtain ⟨o, s₂, hsteps, -, hend, hq⟩ := Steps.callFree hM p X.admits X.cas X.clock (acts := []) hfr happ hPc trivial
  have hq' : vx_Q Qc XC mc ms free a (U.calling g mk a) o s₂ := hq
  rw [State.frames_setTop' g h.top] at hend
  obtain ⟨g₀, hg0⟩ := Option.isSome_iff_exists.mp h.top
  obtain ⟨r, hr⟩ := State.topJava?_eq_some.mp hg0
  have hr' : (({ U with heap := s₂.heap, slotsUsed := s₂.slotsUsed } : State).setVm s₂.vm).frames = .java g₀ :: r := hr
  rcases hq' with ⟨hqc, L, hfe, hL⟩ | ⟨q, rfl, E, ce, L, hx, hce, hcv, hcl, hW₂, hsm, hL⟩
  · obtain ⟨⟨v, rfl⟩, hW₂, e2, q2, q3, q4, q5, q6⟩ := id hfe
    have e3 : s₂ = ({ (U.calling g mk a).setFrames s₂.frames with heap := s₂.heap, slotsUsed := s₂.slotsUsed } : State).setVm s₂.vm := by
      have : s₂ = ({ s₂ with vm := (U.calling g mk a).vm } : State).setVm s₂.vm := rfl
      rw [e2] at this
      exact this
    obtain ⟨c₂, i₂, len₂, hc₂, hd₂, hf₂⟩ := hend
    have hW' : U.WarmedH s₂.vm := hW₂
    have hcc : c₂ = c := by
      have h1 : s₂.code? g.method = U.code? g.method := by
        rw [State.code?_eq, State.code?_eq, hW'.alike.method?]
      exact Option.some.inj (hc₂.symm.trans (h1.trans h.code))
    subst hcc
    have hlen : len₂ = len := by rw [hdg] at hd₂; cases hd₂; rfl
    subst hlen
    have hs₂ : s₂ = (({ U with heap := s₂.heap, slotsUsed := s₂.slotsUsed } : State).setVm s₂.vm).setTop { g with pc := g.pc + len₂, stack := v.toList ++ g.stack } := by
      refine e3.trans ?_
      rw [hf₂, State.calling_eq h.top, State.setFrames_setFrames, State.setTop_of_frames _ hr', hr]
      rfl
    have hsame : U.sameButNew ({ U with heap := s₂.heap, slotsUsed := s₂.slotsUsed } : State) L mc ms := by
      refine ⟨?_, q2, q3, q4, q5, q6⟩
      obtain ⟨t, ht, -⟩ := State.frames_cons hr
      show ({ U with heap := s₂.heap, slotsUsed := s₂.slotsUsed } : State) = { U.setFrames U.frames with heap := s₂.heap, slotsUsed := s₂.slotsUsed }
      rw [State.setFrames_self ht]
    subst hg
    refine Or.inl ⟨v, ⟨(({ U with heap := s₂.heap, slotsUsed := s₂.slotsUsed } : State).setVm s₂.vm), Ls ++ L, c0 + mc, s0 + ms⟩,
      ⟨X.admits, X.cas, X.clock, X.frames, X.room, X.hears, X.method, X.code, (X.here.setHeapUsed s₂.heap s₂.slotsUsed).setVm hW'.alike, X.tail, State.WarmedH.trans X.warmed hW', X.limits, X.bytes, X.same.trans (hsame.setVm s.vm)⟩,
      ⟨g, mk, s₂, L, rfl, rfl, hqc, rfl, hL, rfl, rfl⟩, ?_⟩
    show Steps p.tables e below _ ((({ U with heap := s₂.heap, slotsUsed := s₂.slotsUsed } : State).setVm s₂.vm).setTop { g with pc := g.pc + len₂, stack := v.toList ++ g.stack })
    rw [← hs₂]
    exact hsteps
  · obtain ⟨e2, q2, q3, q4, q5, q6⟩ := id hsm
    have e3 : s₂ = ({ (U.calling g mk a).setFrames s₂.frames with heap := s₂.heap, slotsUsed := s₂.slotsUsed } : State).setVm s₂.vm := by
      have : s₂ = ({ s₂ with vm := (U.calling g mk a).vm } : State).setVm s₂.vm := rfl
      rw [e2] at this
      exact this
    have hf₂ : s₂.frames = .throwing q :: .java g :: U.frames.tail := hend
    have hW' : U.WarmedH s₂.vm := hW₂
    have hs₂ : s₂ = ((({ U with heap := s₂.heap, slotsUsed := s₂.slotsUsed } : State).setVm s₂.vm).setTop g).pushFrame (.throwing q) := by
      refine e3.trans ?_
      rw [hf₂, State.calling_eq h.top, State.setFrames_setFrames, State.pushFrame, State.frames_setTop _ hr', State.setTop_of_frames _ hr', State.setFrames_setFrames, hr]
      rfl
    have hsame : U.sameButNew ({ U with heap := s₂.heap, slotsUsed := s₂.slotsUsed } : State) L mc ms := by
      refine ⟨?_, q2, q3, q4, q5, q6⟩
      obtain ⟨t, ht, -⟩ := State.frames_cons hr
      show ({ U with heap := s₂.heap, slotsUsed := s₂.slotsUsed } : State) = { U.setFrames U.frames with heap := s₂.heap, slotsUsed := s₂.slotsUsed }
      rw [State.setFrames_self ht]
    subst hg
    refine Or.inr ⟨q, ⟨(({ U with heap := s₂.heap, slotsUsed := s₂.slotsUsed } : State).setVm s₂.vm), Ls ++ L, c0 + mc, s0 + ms⟩,
      ⟨X.admits, X.cas, X.clock, X.frames, X.room, X.hears, X.method, X.code, (X.here.setHeapUsed s₂.heap s₂.slotsUsed).setVm hW'.alike, X.tail, State.WarmedH.trans X.warmed hW', X.limits, X.bytes, X.same.trans (hsame.setVm s.vm)⟩,
      ⟨g, mk, s₂, L, E, ce, rfl, rfl, hx, hce, hcv, hcl, rfl, hL, rfl, rfl⟩, ?_⟩
    show Steps p.tables e below _ (((({ U with heap := s₂.heap, slotsUsed := s₂.slotsUsed } : State).setVm s₂.vm).setTop g).pushFrame (.throwing q))
    rw [← hs₂]
    exact hsteps
end Payer
section Calls
variable {p : Program} {l : Launch} {e : Env} {R : Room} {s : State} {m : MethodId} {args : Array Value} {below : List Frame} {meth : Method} {c : Code} {T : State} {locs : List Loc} {cells slots : Nat}
theorem vx_callV (X : Stand p l e R s m args below meth c T locs cells slots) (hexec : p.tables.exec = Jvm.exec) {own C : String} {index : Nat} {y : MethodName} {bytes : ByteArray} {maxL : Nat} {ret : Option FieldType}
    (hown : s.vm.findClass own = some m.cls) (hlink : (Cond.methodLink own index y).before args s = true) (hinst : (Cond.instanceMethod y).before args s = true) (hsel : (Cond.selects C y y).before args s = true)
    (hcode : (Cond.code y bytes maxL ret).before args s = true) (hy : y.cls ≠ "java/lang/invoke/MethodHandle" ∧ y.cls ≠ "java/lang/invoke/VarHandle")
    {W9 : Nat} {Pre : Pt → Array Value → Prop} {Post : Pt → Array Value → Option Value → Pt → Prop} {PostX : Pt → Array Value → Addr → Pt → Prop} (hK : vx_Back l R p e below s args y 3 W9 Pre Post PostX)
    {b : Addr} {cellB : Cell} (hcell : T.heap[b]? = some cellB) (hobj : cellB.vm.isStatics = false) (hcls : s.vm.findClass C = some cellB.cls)
    {g : JFrame} (hg : g.method = m) (hsize : g.locals.size = c.maxLocals) {argsL rest : List Value} (hlen : ∀ sig, parseMethodDescriptor y.desc = some sig → argsL.length = sig.parameters.length)
    (hstack : g.stack = argsL.reverse ++ .ref b :: rest) (hW : 2 * g.monitorRoom + (rest.map fun v => v.category).sum ≤ W9) (hdg : decode c.code g.pc = .ok (.invokevirtual index, 3))
    (hpre : ∀ vm₁, s.WarmedH vm₁ → Pre ⟨T.setVm vm₁, locs, cells, slots⟩ (Value.ref b :: argsL).toArray) :
    (∃ (v : Option Value) (vm₁ : Vm) (B : Pt), s.WarmedH vm₁ ∧ Stand p l e R s m args below meth c B.U B.locs B.cells B.slots ∧ Post ⟨T.setVm vm₁, locs, cells, slots⟩ (Value.ref b :: argsL).toArray v B ∧
      ∀ target, Steps p.tables e below (B.U.setTop { g with pc := g.pc + 3, stack := v.toList ++ rest }) target → Steps p.tables e below (T.setTop g) target) ∨
    (∃ (q : Addr) (vm₁ : Vm) (B : Pt), s.WarmedH vm₁ ∧ Stand p l e R s m args below meth c B.U B.locs B.cells B.slots ∧ PostX ⟨T.setVm vm₁, locs, cells, slots⟩ (Value.ref b :: argsL).toArray q B ∧
      Steps p.tables e below (T.setTop g) ((B.U.setTop { g with stack := rest }).pushFrame (.throwing q))) := by
  obtain ⟨mk, methM, hnamed, hmethM, hstM, habM⟩ := Cond.instanceMethod_spec hinst
  obtain ⟨methM', cM, hmethM', -, -, -, -, -, -, hsigM⟩ := Cond.code_spec hnamed hcode
  cases hmethM.symm.trans hmethM'
  obtain ⟨c2, r2, m2, q1, q2, q3, q4, kP, hkP, hkPi⟩ := Cond.selects_spec hsel
  cases hcls.symm.trans q1
  cases (State.methodFound?_of_named hnamed hy).symm.trans q2
  cases hnamed.symm.trans q3
  have hselP : selectMethod e.platform s.vm cellB.cls mk = .method mk := by rw [Launch.admits_selectMethod X.admits]; exact q4
  obtain ⟨vm₁, X₁, hstep₁⟩ := X.invokevirtual hexec hown hlink hnamed hmethM hstM hkP hkPi hy (a := b) (cell := cellB) hcell
    (fun z h => by rw [h] at hobj; cases hobj) hselP hmethM habM hkP hkPi (g := g) hg (argsL := argsL) (rest := rest) (hlen _ hsigM) hstack hdg
  rcases hK m meth c ⟨T.setVm vm₁, locs, cells, slots⟩ { g with stack := rest } (.invokevirtual index) mk (Value.ref b :: argsL).toArray X₁ hg hsize hdg hW (X₁.named hnamed) (hpre vm₁ X₁.warmed) with ⟨v, B, X', hpost, hsteps⟩ | ⟨q, B, X', hpost, hsteps⟩
  · exact Or.inl ⟨v, vm₁, B, X₁.warmed, X', hpost, fun target h => hstep₁ _ fun acts => by rw [doInvoke_state]; exact hsteps.trans h⟩
  · exact Or.inr ⟨q, vm₁, B, X₁.warmed, X', hpost, hstep₁ _ fun acts => by rw [doInvoke_state]; exact hsteps⟩
theorem vx_callS (X : Stand p l e R s m args below meth c T locs cells slots) (hexec : p.tables.exec = Jvm.exec) {own : String} {index : Nat} {y : MethodName} {bytes : ByteArray} {maxL : Nat} {ret : Option FieldType}
    (hown : s.vm.findClass own = some m.cls) (hlink : (Cond.methodLink own index y).before args s = true) (hstat : (Cond.static y).before args s = true) (hinit : (Cond.initialized y.cls).before args s = true)
    (hcode : (Cond.code y bytes maxL ret).before args s = true) (hy : y.cls ≠ "java/lang/invoke/MethodHandle" ∧ y.cls ≠ "java/lang/invoke/VarHandle")
    {W9 : Nat} {Pre : Pt → Array Value → Prop} {Post : Pt → Array Value → Option Value → Pt → Prop} {PostX : Pt → Array Value → Addr → Pt → Prop} (hK : vx_Back l R p e below s args y 3 W9 Pre Post PostX)
    {g : JFrame} (hg : g.method = m) (hsize : g.locals.size = c.maxLocals) {argsL rest : List Value} (hlen : ∀ sig, parseMethodDescriptor y.desc = some sig → argsL.length = sig.parameters.length)
    (hstack : g.stack = argsL.reverse ++ rest) (hW : 2 * g.monitorRoom + (rest.map fun v => v.category).sum ≤ W9) (hdg : decode c.code g.pc = .ok (.invokestatic index, 3))
    (hpre : ∀ vm₁, s.WarmedH vm₁ → Pre ⟨T.setVm vm₁, locs, cells, slots⟩ argsL.toArray) :
    (∃ (v : Option Value) (vm₁ : Vm) (B : Pt), s.WarmedH vm₁ ∧ Stand p l e R s m args below meth c B.U B.locs B.cells B.slots ∧ Post ⟨T.setVm vm₁, locs, cells, slots⟩ argsL.toArray v B ∧
      ∀ target, Steps p.tables e below (B.U.setTop { g with pc := g.pc + 3, stack := v.toList ++ rest }) target → Steps p.tables e below (T.setTop g) target) ∨
    (∃ (q : Addr) (vm₁ : Vm) (B : Pt), s.WarmedH vm₁ ∧ Stand p l e R s m args below meth c B.U B.locs B.cells B.slots ∧ PostX ⟨T.setVm vm₁, locs, cells, slots⟩ argsL.toArray q B ∧
      Steps p.tables e below (T.setTop g) ((B.U.setTop { g with stack := rest }).pushFrame (.throwing q))) := by
  obtain ⟨mk, hnamed⟩ := Cond.code_named hcode
  obtain ⟨methM, cM, hmethM, -, -, -, -, -, -, hsigM⟩ := Cond.code_spec hnamed hcode
  have hstatic : methM.isStatic = true := Cond.static_spec hnamed hmethM hstat
  obtain ⟨kP, hkP, -⟩ := className_of_methodNamed hnamed
  have hinitP : kP.init = .initialized := Cond.initialized_spec (findClass_of_methodNamed hnamed) hkP hinit
  obtain ⟨vm₁, X₁, hstep₁⟩ := X.invokestatic hexec hown hlink hnamed hmethM hstatic hkP hinitP hy (g := g) hg (argsL := argsL) (rest := rest) (hlen _ hsigM) hstack hdg
  rcases hK m meth c ⟨T.setVm vm₁, locs, cells, slots⟩ { g with stack := rest } (.invokestatic index) mk argsL.toArray X₁ hg hsize hdg hW (X₁.named hnamed) (hpre vm₁ X₁.warmed) with ⟨v, B, X', hpost, hsteps⟩ | ⟨q, B, X', hpost, hsteps⟩
  · exact Or.inl ⟨v, vm₁, B, X₁.warmed, X', hpost, fun target h => hstep₁ _ fun acts => by rw [doInvoke_state]; exact hsteps.trans h⟩
  · exact Or.inr ⟨q, vm₁, B, X₁.warmed, X', hpost, hstep₁ _ fun acts => by rw [doInvoke_state]; exact hsteps⟩
end Calls
theorem vx_cls {s : State} {T : State} {vm₁ : Vm} {E : String} {k : ClassId} (hW : s.WarmedH vm₁) (h : (T.setVm vm₁).vm.findClass E = some k) : s.vm.findClass E = some k := by
  have h1 : vm₁.findClass E = some k := h
  rw [hW.alike.findClass] at h1
  exact h1
/-- the method's frame g, with q thrown over it -/
def vx_W (p : Program) (l : Launch) (e : Env) (R : Room) (s : State) (m : MethodId) (args : Array Value) (below : List Frame) (meth : Method) (c : Code) (H : Heap) (locs : List Loc) (cells slots : Nat) (Q : State → Prop) (g : JFrame) (q : Addr) : Prop :=
  ∀ T : State, T.heap = H → Stand p l e R s m args below meth c T locs cells slots → ∃ t, Steps p.tables e below ((T.setTop g).pushFrame (.throwing q)) t ∧ Q t
def vx_Run (p : Program) (l : Launch) (e : Env) (R : Room) (s : State) (m : MethodId) (args : Array Value) (below : List Frame) (meth : Method) (c : Code) (H : Heap) (locs : List Loc) (cells slots mc ms : Nat) (g : JFrame) (rest : List Value) (Qa : State → Outcome → State → Prop) (XC : String → State → State → Prop) (free : Addr → Prop) : Prop :=
  ∀ T : State, T.heap = H → Stand p l e R s m args below meth c T locs cells slots →
    (∃ (v : Option Value) (st₀ t T' : State) (L : List Loc), st₀.heap = H ∧ Stand p l e R s m args below meth c T' (locs ++ L) (cells + mc) (slots + ms) ∧ (∀ q ∈ L, free q.base) ∧ T'.heap = t.heap ∧ T'.vm = t.vm ∧ Qa st₀ (.returned v) t ∧
      Goes p e below T g T' { g with pc := g.pc + 3, stack := v.toList ++ rest }) ∨
    (∃ (q : Addr) (st₀ t T' : State) (L : List Loc) (E : String) (ce : Cell), st₀.heap = H ∧ Stand p l e R s m args below meth c T' (locs ++ L) (cells + mc) (slots + ms) ∧ (∀ z ∈ L, free z.base) ∧ T'.heap = t.heap ∧ T'.vm = t.vm ∧ XC E st₀ t ∧ t.heap[q]? = some ce ∧ ce.vm = .none ∧ s.vm.findClass E = some ce.cls ∧
      Steps p.tables e below (T.setTop g) ((T'.setTop { g with stack := rest }).pushFrame (.throwing q)))
def vx_X {S : Type} (px : S → Prop) (B : String → S → State → Prop) (A : Nat → Prop) : String → State → State → Prop := fun E st t => ∃ u : S, px u ∧ B E u t ∧ va_F A st t
section Runs
variable {p : Program} {l : Launch} {e : Env} {R : Room} {s : State} {m : MethodId} {args : Array Value} {below : List Frame} {meth : Method} {c : Code} {H : Heap} {locs : List Loc} {cells slots : Nat}
variable {y : MethodName} {bytes cc : ByteArray} {maxL nL mc ms n index : Nat} {ret : Option FieldType} {ws : List Cond} {rm : Room} {Pc : Array Value → State → Prop} {Qc : Array Value → State → Outcome → State → Prop} {XC : String → State → State → Prop} {free : Addr → Prop} {Ts : List Cond} {own C : String} {b : Addr} {As rest : List Value} {g : JFrame}
theorem vx_callBack (cb : CallB R s args own index y bytes maxL ret ws rm mc ms n) (hM : vx_Met l y ws rm Pc Qc XC mc ms free) (hbl : FrameBlind Pc) : vx_Back l R p e below s args y 3 8 (PreOf R mc ms Pc) (PostOf Qc mc ms free) (vx_Post XC mc ms free) := by
  obtain ⟨hrc, hrs, hfr, hlo, hws, hcw, -, hini, -⟩ := cb
  exact vx_back (bytes := bytes) (maxL := maxL) (ret := ret) hM hbl hrc hrs hfr hlo hws hcw (fun a' U hW => word_at hW (Or.inl (by first | rfl | simp [Cond.onTables, Cond.keeps, Cond.steady])) hini)
theorem vx_runV (S : CallFix p m c cc nL s args Ts own) (hM : vx_Met l y ws rm Pc Qc XC mc ms free) (cw : CallW R s args own C index y bytes maxL ret ws rm mc ms n) (hp : PreV s H C b Pc As)
    (hg : g.method = m) (hn : As.length = n) (hsize : g.locals.size = nL) (hstack : g.stack = As.reverse ++ .ref b :: rest) (hW : 2 * g.monitorRoom + (rest.map fun v => v.category).sum ≤ 8) (hdg : decode cc g.pc = .ok (.invokevirtual index, 3)) (hf : cells + mc ≤ R.cells ∧ slots + ms ≤ R.slots) :
    vx_Run p l e R s m args below meth c H locs cells slots mc ms g rest (Qc (Value.ref b :: As).toArray) XC free := by
  have hK : vx_Back l R p e below s args y 3 8 (PreOf R mc ms Pc) (PostOf Qc mc ms free) (vx_Post XC mc ms free) := vx_callBack cw.1 hM hp.1
  obtain ⟨⟨-, -, -, -, -, -, hcode, -, hy, hlen, hl⟩, hin, hse⟩ := cw
  obtain ⟨hx, hb, hml, ho, -⟩ := S
  obtain ⟨-, ⟨cellB, hcB, hoB, hclB⟩, hPc⟩ := hp
  intro T hT X
  rcases vx_callV X hx (C := C) (bytes := bytes) (maxL := maxL) (ret := ret) ho hl hin hse hcode hy hK (by rw [hT]; exact hcB) hoB hclB hg (hsize.trans hml.symm) (argsL := As) (rest := rest) (fun sig h => hn.trans (hlen sig h)) hstack hW (by rw [hb]; exact hdg)
    (fun vm₁ hW₁ => ⟨hf.1, hf.2, hPc (T.setVm vm₁) hT hW₁⟩) with ⟨v, vm₁, ⟨U', l2, c2, s2⟩, hW₁, X', ⟨g', mk, t, L, e1, e2, hq, h1, hL, h2, h3⟩, st⟩ | ⟨q, vm₁, ⟨U', l2, c2, s2⟩, hW₁, X', ⟨g', mk, t, L, E, ce, e1, e2, hq, hce, hcv, hcl, h1, hL, h2, h3⟩, st⟩
  · dsimp only [Pt.U, Pt.locs, Pt.cells, Pt.slots] at X' e1 e2 h1 h2 h3 st
    subst h1; subst h2; subst h3
    exact Or.inl ⟨v, (T.setVm vm₁).calling g' mk (Value.ref b :: As).toArray, t, U', L, hT, X', hL, e1, e2, hq, st⟩
  · dsimp only [Pt.U, Pt.locs, Pt.cells, Pt.slots] at X' e1 e2 h1 h2 h3 st hcl
    subst h1; subst h2; subst h3
    exact Or.inr ⟨q, (T.setVm vm₁).calling g' mk (Value.ref b :: As).toArray, t, U', L, E, ce, hT, X', hL, e1, e2, hq, hce, hcv, vx_cls hW₁ hcl, st⟩
theorem vx_runS (S : CallFix p m c cc nL s args Ts own) (hM : vx_Met l y ws rm Pc Qc XC mc ms free) (cw : CallB R s args own index y bytes maxL ret ws rm mc ms n ∧ (Cond.static y).before args s = true) (hp : PreS s H Pc As)
    (hg : g.method = m) (hn : As.length = n) (hsize : g.locals.size = nL) (hstack : g.stack = As.reverse ++ rest) (hW : 2 * g.monitorRoom + (rest.map fun v => v.category).sum ≤ 8) (hdg : decode cc g.pc = .ok (.invokestatic index, 3)) (hf : cells + mc ≤ R.cells ∧ slots + ms ≤ R.slots) :
    vx_Run p l e R s m args below meth c H locs cells slots mc ms g rest (Qc As.toArray) XC free := by
  have hK : vx_Back l R p e below s args y 3 8 (PreOf R mc ms Pc) (PostOf Qc mc ms free) (vx_Post XC mc ms free) := vx_callBack cw.1 hM hp.1
  obtain ⟨⟨-, -, -, -, -, -, hcode, hini, hy, hlen, hl⟩, hstt⟩ := cw
  obtain ⟨hx, hb, hml, ho, -⟩ := S
  intro T hT X
  rcases vx_callS X hx (bytes := bytes) (maxL := maxL) (ret := ret) ho hl hstt hini hcode hy hK hg (hsize.trans hml.symm) (argsL := As) (rest := rest) (fun sig h => hn.trans (hlen sig h)) hstack hW (by rw [hb]; exact hdg)
    (fun vm₁ hW₁ => ⟨hf.1, hf.2, hp.2 (T.setVm vm₁) hT hW₁⟩) with ⟨v, vm₁, ⟨U', l2, c2, s2⟩, hW₁, X', ⟨g', mk, t, L, e1, e2, hq, h1, hL, h2, h3⟩, st⟩ | ⟨q, vm₁, ⟨U', l2, c2, s2⟩, hW₁, X', ⟨g', mk, t, L, E, ce, e1, e2, hq, hce, hcv, hcl, h1, hL, h2, h3⟩, st⟩
  · dsimp only [Pt.U, Pt.locs, Pt.cells, Pt.slots] at X' e1 e2 h1 h2 h3 st
    subst h1; subst h2; subst h3
    exact Or.inl ⟨v, (T.setVm vm₁).calling g' mk As.toArray, t, U', L, hT, X', hL, e1, e2, hq, st⟩
  · dsimp only [Pt.U, Pt.locs, Pt.cells, Pt.slots] at X' e1 e2 h1 h2 h3 st hcl
    subst h1; subst h2; subst h3
    exact Or.inr ⟨q, (T.setVm vm₁).calling g' mk As.toArray, t, U', L, E, ce, hT, X', hL, e1, e2, hq, hce, hcv, vx_cls hW₁ hcl, st⟩
end Runs
section Rows
variable {p : Program} {l : Launch} {e : Env} {R : Room} {s : State} {m : MethodId} {args : Array Value} {below : List Frame} {meth : Method} {c : Code} {H : Heap} {locs : List Loc} {cells slots : Nat} {Q : State → Prop}
variable {mc ms : Nat} {free : Addr → Prop} {A0 A1 : Nat → Prop} {H0 : Heap} {a : Array Value} {pc : Nat} {ls : Array Slot} {st0 rest : List Value}
theorem vx_keep {st₀ t T' : State} {L : List Loc} (h0 : st₀.heap = H) (e1 : T'.heap = t.heap) (hS : va_S A0 H0 H locs) (hA : ∀ q, q < H.size → A1 q → A0 q) (hf : ∀ q, free q → A0 q) (hL : ∀ q ∈ L, free q.base) (hF : va_F A1 st₀ t) :
    H.size ≤ T'.heap.size ∧ (∀ q : Nat, q < H.size → ¬ A1 q → T'.heap[q]? = H[q]?) ∧ va_S A0 H0 T'.heap (locs ++ L) := by
  obtain ⟨hz, hk⟩ := hF
  rw [h0] at hz hk
  exact ⟨by rw [e1]; exact hz, fun q h1 h2 => by rw [e1]; exact hk q h1 h2,
    ⟨Nat.le_trans hS.1 (by rw [e1]; exact hz), fun q h1 h2 => by rw [e1, hk q (Nat.lt_of_lt_of_le h1 hS.1) (fun z => h2 (hA q (Nat.lt_of_lt_of_le h1 hS.1) z))]; exact hS.2.1 q h1 h2, fun q hq => by
      rcases List.mem_append.mp hq with h | h
      · exact hS.2.2 q h
      · exact hf _ (hL q h)⟩⟩
theorem vx_calli {S SX : Type} {post : Int32 → S → Prop} {px : SX → Prop} {B : S → State → Prop} {BX : String → SX → State → Prop} {AX : Nat → Prop} (hr : vx_Run p l e R s m args below meth c H locs cells slots mc ms (F0 m pc ls st0) rest (va_Qi post B A1 a) (vx_X px BX AX) free) (hS : va_S A0 H0 H locs) (hA : ∀ q, q < H.size → A1 q → A0 q) (hf : ∀ q, free q → A0 q) (hAX : ∀ q, q < H.size → AX q → A0 q)
    (kx : ∀ (E : String) (ce : Cell) (q9 : Addr) (u : SX) (t : State) (H1 : Heap) (locs1 : List Loc), t.heap = H1 → s.vm.Alike t.vm → px u → BX E u t → H.size ≤ H1.size → (∀ q : Nat, q < H.size → ¬ AX q → H1[q]? = H[q]?) → va_S A0 H0 H1 locs1 → H1[q9]? = some ce → ce.vm = .none → s.vm.findClass E = some ce.cls → vx_W p l e R s m args below meth c H1 locs1 (cells + mc) (slots + ms) Q (F0 m pc ls rest) q9)
    (kk : ∀ (r : Int32) (u : S) (t : State) (H1 : Heap) (locs1 : List Loc), t.heap = H1 → s.vm.Alike t.vm → post r u → B u t → H.size ≤ H1.size → (∀ q : Nat, q < H.size → ¬ A1 q → H1[q]? = H[q]?) → va_S A0 H0 H1 locs1 → W p l e R s m args below meth c H1 locs1 (cells + mc) (slots + ms) Q (F0 m (pc + 3) ls (.int r :: rest))) : W p l e R s m args below meth c H locs cells slots Q (F0 m pc ls st0) := by
  intro T hT X
  rcases hr T hT X with ⟨v, st₀, t, T', L, h0, X', hL, e1, e2, ⟨⟨r, u, hv, hp, hb⟩, hF⟩, st⟩ | ⟨q, st₀, t, T', L, E, ce, h0, X', hL, e1, e2, ⟨u, hp, hb, hF⟩, hce, hcv, hcl, st⟩
  · cases hv
    obtain ⟨k1, k2, k3⟩ := vx_keep h0 e1 hS hA hf hL hF
    obtain ⟨t2, a1, b1⟩ := kk r u t T'.heap (locs ++ L) e1.symm (by rw [← e2]; exact X'.warmed.alike) hp hb k1 k2 k3 T' rfl X'
    exact ⟨t2, st t2 a1, b1⟩
  · obtain ⟨k1, k2, k3⟩ := vx_keep h0 e1 hS hAX hf hL hF
    obtain ⟨t2, a1, b1⟩ := kx E ce q u t T'.heap (locs ++ L) e1.symm (by rw [← e2]; exact X'.warmed.alike) hp hb k1 k2 k3 (by rw [e1]; exact hce) hcv hcl T' rfl X'
    exact ⟨t2, st.trans a1, b1⟩
theorem vx_calll {S SX : Type} {post : Int64 → S → Prop} {px : SX → Prop} {B : S → State → Prop} {BX : String → SX → State → Prop} {AX : Nat → Prop} (hr : vx_Run p l e R s m args below meth c H locs cells slots mc ms (F0 m pc ls st0) rest (va_Ql post B A1 a) (vx_X px BX AX) free) (hS : va_S A0 H0 H locs) (hA : ∀ q, q < H.size → A1 q → A0 q) (hf : ∀ q, free q → A0 q) (hAX : ∀ q, q < H.size → AX q → A0 q)
    (kx : ∀ (E : String) (ce : Cell) (q9 : Addr) (u : SX) (t : State) (H1 : Heap) (locs1 : List Loc), t.heap = H1 → s.vm.Alike t.vm → px u → BX E u t → H.size ≤ H1.size → (∀ q : Nat, q < H.size → ¬ AX q → H1[q]? = H[q]?) → va_S A0 H0 H1 locs1 → H1[q9]? = some ce → ce.vm = .none → s.vm.findClass E = some ce.cls → vx_W p l e R s m args below meth c H1 locs1 (cells + mc) (slots + ms) Q (F0 m pc ls rest) q9)
    (kk : ∀ (r : Int64) (u : S) (t : State) (H1 : Heap) (locs1 : List Loc), t.heap = H1 → s.vm.Alike t.vm → post r u → B u t → H.size ≤ H1.size → (∀ q : Nat, q < H.size → ¬ A1 q → H1[q]? = H[q]?) → va_S A0 H0 H1 locs1 → W p l e R s m args below meth c H1 locs1 (cells + mc) (slots + ms) Q (F0 m (pc + 3) ls (.long r :: rest))) : W p l e R s m args below meth c H locs cells slots Q (F0 m pc ls st0) := by
  intro T hT X
  rcases hr T hT X with ⟨v, st₀, t, T', L, h0, X', hL, e1, e2, ⟨⟨r, u, hv, hp, hb⟩, hF⟩, st⟩ | ⟨q, st₀, t, T', L, E, ce, h0, X', hL, e1, e2, ⟨u, hp, hb, hF⟩, hce, hcv, hcl, st⟩
  · cases hv
    obtain ⟨k1, k2, k3⟩ := vx_keep h0 e1 hS hA hf hL hF
    obtain ⟨t2, a1, b1⟩ := kk r u t T'.heap (locs ++ L) e1.symm (by rw [← e2]; exact X'.warmed.alike) hp hb k1 k2 k3 T' rfl X'
    exact ⟨t2, st t2 a1, b1⟩
  · obtain ⟨k1, k2, k3⟩ := vx_keep h0 e1 hS hAX hf hL hF
    obtain ⟨t2, a1, b1⟩ := kx E ce q u t T'.heap (locs ++ L) e1.symm (by rw [← e2]; exact X'.warmed.alike) hp hb k1 k2 k3 (by rw [e1]; exact hce) hcv hcl T' rfl X'
    exact ⟨t2, st.trans a1, b1⟩
theorem vx_callf {S SX : Type} {post : UInt32 → S → Prop} {px : SX → Prop} {B : S → State → Prop} {BX : String → SX → State → Prop} {AX : Nat → Prop} (hr : vx_Run p l e R s m args below meth c H locs cells slots mc ms (F0 m pc ls st0) rest (va_Qf post B A1 a) (vx_X px BX AX) free) (hS : va_S A0 H0 H locs) (hA : ∀ q, q < H.size → A1 q → A0 q) (hf : ∀ q, free q → A0 q) (hAX : ∀ q, q < H.size → AX q → A0 q)
    (kx : ∀ (E : String) (ce : Cell) (q9 : Addr) (u : SX) (t : State) (H1 : Heap) (locs1 : List Loc), t.heap = H1 → s.vm.Alike t.vm → px u → BX E u t → H.size ≤ H1.size → (∀ q : Nat, q < H.size → ¬ AX q → H1[q]? = H[q]?) → va_S A0 H0 H1 locs1 → H1[q9]? = some ce → ce.vm = .none → s.vm.findClass E = some ce.cls → vx_W p l e R s m args below meth c H1 locs1 (cells + mc) (slots + ms) Q (F0 m pc ls rest) q9)
    (kk : ∀ (r : UInt32) (u : S) (t : State) (H1 : Heap) (locs1 : List Loc), t.heap = H1 → s.vm.Alike t.vm → post r u → B u t → H.size ≤ H1.size → (∀ q : Nat, q < H.size → ¬ A1 q → H1[q]? = H[q]?) → va_S A0 H0 H1 locs1 → W p l e R s m args below meth c H1 locs1 (cells + mc) (slots + ms) Q (F0 m (pc + 3) ls (.float r :: rest))) : W p l e R s m args below meth c H locs cells slots Q (F0 m pc ls st0) := by
  intro T hT X
  rcases hr T hT X with ⟨v, st₀, t, T', L, h0, X', hL, e1, e2, ⟨⟨r, u, hv, hp, hb⟩, hF⟩, st⟩ | ⟨q, st₀, t, T', L, E, ce, h0, X', hL, e1, e2, ⟨u, hp, hb, hF⟩, hce, hcv, hcl, st⟩
  · cases hv
    obtain ⟨k1, k2, k3⟩ := vx_keep h0 e1 hS hA hf hL hF
    obtain ⟨t2, a1, b1⟩ := kk r u t T'.heap (locs ++ L) e1.symm (by rw [← e2]; exact X'.warmed.alike) hp hb k1 k2 k3 T' rfl X'
    exact ⟨t2, st t2 a1, b1⟩
  · obtain ⟨k1, k2, k3⟩ := vx_keep h0 e1 hS hAX hf hL hF
    obtain ⟨t2, a1, b1⟩ := kx E ce q u t T'.heap (locs ++ L) e1.symm (by rw [← e2]; exact X'.warmed.alike) hp hb k1 k2 k3 (by rw [e1]; exact hce) hcv hcl T' rfl X'
    exact ⟨t2, st.trans a1, b1⟩
theorem vx_calld {S SX : Type} {post : UInt64 → S → Prop} {px : SX → Prop} {B : S → State → Prop} {BX : String → SX → State → Prop} {AX : Nat → Prop} (hr : vx_Run p l e R s m args below meth c H locs cells slots mc ms (F0 m pc ls st0) rest (va_Qd post B A1 a) (vx_X px BX AX) free) (hS : va_S A0 H0 H locs) (hA : ∀ q, q < H.size → A1 q → A0 q) (hf : ∀ q, free q → A0 q) (hAX : ∀ q, q < H.size → AX q → A0 q)
    (kx : ∀ (E : String) (ce : Cell) (q9 : Addr) (u : SX) (t : State) (H1 : Heap) (locs1 : List Loc), t.heap = H1 → s.vm.Alike t.vm → px u → BX E u t → H.size ≤ H1.size → (∀ q : Nat, q < H.size → ¬ AX q → H1[q]? = H[q]?) → va_S A0 H0 H1 locs1 → H1[q9]? = some ce → ce.vm = .none → s.vm.findClass E = some ce.cls → vx_W p l e R s m args below meth c H1 locs1 (cells + mc) (slots + ms) Q (F0 m pc ls rest) q9)
    (kk : ∀ (r : UInt64) (u : S) (t : State) (H1 : Heap) (locs1 : List Loc), t.heap = H1 → s.vm.Alike t.vm → post r u → B u t → H.size ≤ H1.size → (∀ q : Nat, q < H.size → ¬ A1 q → H1[q]? = H[q]?) → va_S A0 H0 H1 locs1 → W p l e R s m args below meth c H1 locs1 (cells + mc) (slots + ms) Q (F0 m (pc + 3) ls (.double r :: rest))) : W p l e R s m args below meth c H locs cells slots Q (F0 m pc ls st0) := by
  intro T hT X
  rcases hr T hT X with ⟨v, st₀, t, T', L, h0, X', hL, e1, e2, ⟨⟨r, u, hv, hp, hb⟩, hF⟩, st⟩ | ⟨q, st₀, t, T', L, E, ce, h0, X', hL, e1, e2, ⟨u, hp, hb, hF⟩, hce, hcv, hcl, st⟩
  · cases hv
    obtain ⟨k1, k2, k3⟩ := vx_keep h0 e1 hS hA hf hL hF
    obtain ⟨t2, a1, b1⟩ := kk r u t T'.heap (locs ++ L) e1.symm (by rw [← e2]; exact X'.warmed.alike) hp hb k1 k2 k3 T' rfl X'
    exact ⟨t2, st t2 a1, b1⟩
  · obtain ⟨k1, k2, k3⟩ := vx_keep h0 e1 hS hAX hf hL hF
    obtain ⟨t2, a1, b1⟩ := kx E ce q u t T'.heap (locs ++ L) e1.symm (by rw [← e2]; exact X'.warmed.alike) hp hb k1 k2 k3 (by rw [e1]; exact hce) hcv hcl T' rfl X'
    exact ⟨t2, st.trans a1, b1⟩
theorem vx_callv {S SX : Type} {post : S → Prop} {px : SX → Prop} {B : S → State → Prop} {BX : String → SX → State → Prop} {AX : Nat → Prop} (hr : vx_Run p l e R s m args below meth c H locs cells slots mc ms (F0 m pc ls st0) rest (va_Qv post B A1 a) (vx_X px BX AX) free) (hS : va_S A0 H0 H locs) (hA : ∀ q, q < H.size → A1 q → A0 q) (hf : ∀ q, free q → A0 q) (hAX : ∀ q, q < H.size → AX q → A0 q)
    (kx : ∀ (E : String) (ce : Cell) (q9 : Addr) (u : SX) (t : State) (H1 : Heap) (locs1 : List Loc), t.heap = H1 → s.vm.Alike t.vm → px u → BX E u t → H.size ≤ H1.size → (∀ q : Nat, q < H.size → ¬ AX q → H1[q]? = H[q]?) → va_S A0 H0 H1 locs1 → H1[q9]? = some ce → ce.vm = .none → s.vm.findClass E = some ce.cls → vx_W p l e R s m args below meth c H1 locs1 (cells + mc) (slots + ms) Q (F0 m pc ls rest) q9)
    (kk : ∀ (u : S) (t : State) (H1 : Heap) (locs1 : List Loc), t.heap = H1 → s.vm.Alike t.vm → post u → B u t → H.size ≤ H1.size → (∀ q : Nat, q < H.size → ¬ A1 q → H1[q]? = H[q]?) → va_S A0 H0 H1 locs1 → W p l e R s m args below meth c H1 locs1 (cells + mc) (slots + ms) Q (F0 m (pc + 3) ls (rest))) : W p l e R s m args below meth c H locs cells slots Q (F0 m pc ls st0) := by
  intro T hT X
  rcases hr T hT X with ⟨v, st₀, t, T', L, h0, X', hL, e1, e2, ⟨⟨u, hv, hp, hb⟩, hF⟩, st⟩ | ⟨q, st₀, t, T', L, E, ce, h0, X', hL, e1, e2, ⟨u, hp, hb, hF⟩, hce, hcv, hcl, st⟩
  · cases hv
    obtain ⟨k1, k2, k3⟩ := vx_keep h0 e1 hS hA hf hL hF
    obtain ⟨t2, a1, b1⟩ := kk u t T'.heap (locs ++ L) e1.symm (by rw [← e2]; exact X'.warmed.alike) hp hb k1 k2 k3 T' rfl X'
    exact ⟨t2, st t2 a1, b1⟩
  · obtain ⟨k1, k2, k3⟩ := vx_keep h0 e1 hS hAX hf hL hF
    obtain ⟨t2, a1, b1⟩ := kx E ce q u t T'.heap (locs ++ L) e1.symm (by rw [← e2]; exact X'.warmed.alike) hp hb k1 k2 k3 (by rw [e1]; exact hce) hcv hcl T' rfl X'
    exact ⟨t2, st.trans a1, b1⟩
/-- caught by the row x of this method's table; the rows ahead don't take it -/
theorem vx_catch {own name : String} {E : String} {ce : Cell} {q : Addr} (hown : s.vm.findClass own = some m.cls) (pre : List ExceptionTableEntry) (x : ExceptionTableEntry) (suf : List ExceptionTableEntry) (hsplit : c.exceptionTable.toList = pre ++ x :: suf)
    (hpass : ∀ z ∈ pre, covers z pc = false ∨ (z.catchType ≠ 0 ∧ ∃ nm : String, (Cond.classLink own z.catchType nm).before args s = true ∧ va_Nc E nm s)) (hx : covers x pc = true) (h0 : x.catchType ≠ 0)
    (hlink : (Cond.classLink own x.catchType name).before args s = true) (hcast : (Cond.castable E name).before args s = true) (hcell : H[q]? = some ce) (hv : ce.vm = .none) (hcl : s.vm.findClass E = some ce.cls)
    (kk : W p l e R s m args below meth c H locs cells slots Q (F0 m x.handlerPc ls [.ref q])) : vx_W p l e R s m args below meth c H locs cells slots Q (F0 m pc ls rest) q := by
  intro T hT X
  have hpl : e.platform.magicAccessors = ({} : Platform).magicAccessors := by rw [X.admits.platform]
  obtain ⟨c3, c4, hc3, hc4, hasg⟩ := Cond.castable_spec hcast
  cases Option.some.inj (hc3.symm.trans hcl)
  obtain ⟨c5, hc5, hcl5⟩ := Cond.classLink_spec hown hlink e.platform hpl
  cases Option.some.inj (hc4.symm.trans hc5)
  obtain ⟨vm', X', st⟩ := X.thenCaughtThrough q (g := F0 m pc ls rest) rfl (Steps.refl _) (by rw [hT]; exact hcell) (by rw [hv]; rfl) (by obtain ⟨k9, h9, -⟩ := Vm.findClass_spec hcl; exact ⟨k9, h9⟩) pre x suf hsplit
    (fun z hz => by
      rcases hpass z hz with h | ⟨hz0, nm, hl1, hn1⟩
      · exact Or.inl h
      · obtain ⟨c6, hc6, hcl6⟩ := Cond.classLink_spec hown hl1 e.platform hpl
        obtain ⟨a8, b8, h1, h2, h3⟩ := hn1
        cases Option.some.inj (h1.symm.trans hcl)
        cases Option.some.inj (h2.symm.trans hc6)
        exact Or.inr ⟨hz0, _, hcl6, h3⟩) hx (Or.inr ⟨h0, c4, hcl5, hasg⟩)
  obtain ⟨t, a1, b1⟩ := kk (T.setVm vm') hT X'
  exact ⟨t, st.trans a1, b1⟩
end Rows
section Ends
variable {p : Program} {l : Launch} {e : Env} {R : Room} {s : State} {m : MethodId} {args : Array Value} {below : List Frame} {meth : Method} {c : Code} {H : Heap} {locs : List Loc} {cells slots : Nat} {Q : State → Prop}
variable {mc ms : Nat} {free : Addr → Prop} {A0 A1 : Nat → Prop} {H0 : Heap} {a : Array Value} {ls : Array Slot} {st0 rest : List Value}
variable {Qc : Array Value → State → Outcome → State → Prop} {XC : String → State → State → Prop}
/-- what a body that may throw owes at its end -/
def vx_MQ (below : List Frame) (Qc : Array Value → State → Outcome → State → Prop) (XC : String → State → State → Prop) (a : Array Value) (s : State) (mc ms : Nat) (free : Addr → Prop) : State → Prop := fun t =>
  ∃ o, t.status = .running ∧ Ended t below o ∧ vx_Q Qc XC mc ms free a s o t
theorem vx_ret {g : JFrame} {mc ms : Nat} (k : W p l e R s m args below meth c H locs cells slots (MQ below Qc args s mc ms free) g) : W p l e R s m args below meth c H locs cells slots (vx_MQ below Qc XC args s mc ms free) g := by
  intro T hT X
  obtain ⟨t, a1, o, b1, b2, b3, b4⟩ := k T hT X
  exact ⟨t, a1, o, b1, b2, Or.inl ⟨b3, b4⟩⟩
/-- not caught here: it goes on to the caller -/
theorem vx_widen {g : JFrame} {q : Addr} {k n : Nat} (h1 : cells ≤ k) (h2 : slots ≤ n) (kk : vx_W p l e R s m args below meth c H locs k n Q g q) : vx_W p l e R s m args below meth c H locs cells slots Q g q := fun T hT X => kk T hT (stand_widen X h1 h2)
theorem vx_out {pc : Nat} {E : String} {ce : Cell} {q : Addr} {mc ms : Nat} (hout : ∀ x ∈ c.exceptionTable.toList, covers x pc = false) (hlocks : meth.locks = false) (hcell : H[q]? = some ce) (hv : ce.vm = .none) (hcl : s.vm.findClass E = some ce.cls)
    (hx : ∀ t : State, t.heap = H → s.vm.Alike t.vm → XC E s t) (hf : ∀ z ∈ locs, free z.base) (hc : cells ≤ mc) (hs : slots ≤ ms) :
    vx_W p l e R s m args below meth c H locs cells slots (vx_MQ below Qc XC args s mc ms free) (F0 m pc ls rest) q := by
  intro T hT X
  obtain ⟨st1, hrun, hend, hW, hsm⟩ := X.leaveThrown q (g := F0 m pc ls rest) rfl rfl rfl hout hlocks
  have hcell9 : (T.setFrames (.throwing q :: below)).heap[q]? = some ce := by
    show T.heap[q]? = some ce
    rw [hT]; exact hcell
  exact ⟨_, st1, .threw q, hrun, hend, Or.inr ⟨q, rfl, E, ce, locs, hx _ hT hW.alike, hcell9, hv, hcl, hW, hsm.mono hc hs, hf⟩⟩
theorem vx_frame {U : State} {k n : Nat} (h : s.sameButNew ({ U with vm := s.vm } : State) locs k n) : s.heap.size ≤ U.heap.size ∧ ∀ q : Nat, q < s.heap.size → (∀ z ∈ locs, z.base ≠ q) → U.heap[q]? = s.heap[q]? := by
  obtain ⟨-, h2, -, -, -, h6⟩ := h
  refine ⟨h2, fun q hq hz => ?_⟩
  obtain ⟨c9, e1, e2, e3, e4⟩ := h6 q _ (Array.getElem?_eq_getElem hq)
  have hs : c9.slots = (s.heap[q]).slots := Array.ext_getElem? fun i => e4 i fun hm => hz _ hm rfl
  have h9 : c9 = s.heap[q] := by
    rw [hs] at e2
    exact e2
  have e5 : U.heap[q]? = some c9 := e1
  rw [e5, h9, Array.getElem?_eq_getElem hq]
/-- the words of a throw but the four that speak of the heap -/
def vx_no (w : Cond) : Bool := decide (w ≠ .isRef (.static Bundle.tN "UNASSIGNED_STACK" Bundle.steD)) && decide (w ≠ .isRef (.static Bundle.tN "SUPPRESSED_SENTINEL" Bundle.listD)) && decide (w ≠ .laysStatic Bundle.tN "UNASSIGNED_STACK" Bundle.steD) && decide (w ≠ .laysStatic Bundle.tN "SUPPRESSED_SENTINEL" Bundle.listD)
def vx_at0 (own : String) (ic : Nat) (X : String) (names : List String) : List Cond := (Bundle.ownAtoms0 own ic X names).filter vx_no
def vx_atS (own : String) (ic : Nat) (X : String) (names : List String) : List Cond := (Bundle.ownAtoms own ic X names).filter vx_no
/-- a word that the tables alone decide, or a good one -/
def vx_ot (w : Cond) : Bool := w.onTables || goodWord w
theorem vx_ot_at {args a' : Array Value} {s U : State} {w : Cond} (hW : s.WarmedH U.vm) (hvm : s.vm = U.vm) (hg : vx_ot w = true) (h : w.before args s = true) : w.before a' U = true := by
  simp only [vx_ot, Bool.or_eq_true] at hg
  rcases hg with hg | hg
  · exact va_tabs hg hvm h
  · exact word_at hW (good_of_word hg) h
/-- a list's words: the good ones out of the method's own list, the others by premises of their own -/
theorem vx_hat {args : Array Value} {s : State} {L B : List Cond} (h1 : ∀ w ∈ L.filter goodWord, w.before args s = true) (h2 : ∀ w ∈ L.filter (fun w => !goodWord w), w ∈ B) (h3 : ∀ w ∈ B, w.before args s = true) : ∀ w ∈ L, w.before args s = true := by
  intro w hw
  by_cases g : goodWord w = true
  · exact h1 w (List.mem_filter.mpr ⟨hw, g⟩)
  · refine h3 w (h2 w (List.mem_filter.mpr ⟨hw, ?_⟩))
    show (!goodWord w) = true
    cases hgw : goodWord w
    · rfl
    · exact absurd hgw g
theorem vx_c {args : Array Value} {s : State} {w : Cond} {B : List Cond} (h : w.before args s = true) (t : ∀ w ∈ B, w.before args s = true) : ∀ w' ∈ w :: B, w'.before args s = true := fun w' h' => (List.mem_cons.mp h').elim (fun e => by rw [e]; exact h) (t w')
theorem vx_n {args : Array Value} {s : State} : ∀ w ∈ ([] : List Cond), w.before args s = true := fun _ h => nomatch h
theorem vx_own {args : Array Value} {s : State} {L : List Cond} (h1 : ∀ w ∈ L.filter vx_no, w.before args s = true)
    (hU : (Cond.isRef (.static Bundle.tN "UNASSIGNED_STACK" Bundle.steD)).before args s = true) (hN : (Cond.isRef (.static Bundle.tN "SUPPRESSED_SENTINEL" Bundle.listD)).before args s = true)
    (lU : (Cond.laysStatic Bundle.tN "UNASSIGNED_STACK" Bundle.steD).before args s = true) (lN : (Cond.laysStatic Bundle.tN "SUPPRESSED_SENTINEL" Bundle.listD).before args s = true) : ∀ w ∈ L, w.before args s = true := by
  intro w hw
  by_cases e1 : w = .isRef (.static Bundle.tN "UNASSIGNED_STACK" Bundle.steD)
  · rw [e1]; exact hU
  · by_cases e2 : w = .isRef (.static Bundle.tN "SUPPRESSED_SENTINEL" Bundle.listD)
    · rw [e2]; exact hN
    · by_cases e3 : w = .laysStatic Bundle.tN "UNASSIGNED_STACK" Bundle.steD
      · rw [e3]; exact lU
      · by_cases e4 : w = .laysStatic Bundle.tN "SUPPRESSED_SENTINEL" Bundle.listD
        · rw [e4]; exact lN
        · exact h1 w (List.mem_filter.mpr ⟨hw, by unfold vx_no; rw [decide_eq_true e1, decide_eq_true e2, decide_eq_true e3, decide_eq_true e4]; rfl⟩)
/-- where a static field lies, its class's statics cell in H -/
def vx_L (C n d : String) (A : Nat → Prop) (U : State) (H : Heap) : Prop := ∃ (c : ClassId) (k : Class) (i : Nat) (f : Field) (a : Nat) (cell : Cell), U.vm.findClass C = some c ∧ U.fieldFound? C n d = some (c, k, i, f) ∧ f.isStatic = true ∧ k.statics = some a ∧ H[a]? = some cell ∧ cell.vm.isStatics = true ∧ cell.cls = c ∧ f.slot < cell.slots.size ∧ k.staticTypes[f.slot]? = some f.type ∧ ¬ A a
theorem vx_L.moved {C n d : String} {A : Nat → Prop} {u U : State} {H : Heap} (hvm : u.vm.Alike U.vm) (h : vx_L C n d A u H) : vx_L C n d A U H := by
  obtain ⟨c, k, i, f, a, cell, h1, h2, h3, h4, h5, h6, h7, h8, h9, h10⟩ := h
  obtain ⟨k', hi', he⟩ := State.fieldFound?_setVm hvm h2
  exact ⟨c, k', i, f, a, cell, by rw [hvm.findClass]; exact h1, hi', h3, by rw [he]; exact h4, h5, h6, h7, h8, by rw [he]; exact h9, h10⟩
theorem vx_L.kept {C n d : String} {A : Nat → Prop} {U : State} {H H1 : Heap} (h : vx_L C n d A U H) (hq : ∀ a : Nat, a < H.size → ¬ A a → H1[a]? = H[a]?) : vx_L C n d A U H1 := by
  obtain ⟨c, k, i, f, a, cell, h1, h2, h3, h4, h5, h6, h7, h8, h9, h10⟩ := h
  exact ⟨c, k, i, f, a, cell, h1, h2, h3, h4, by rw [hq a (Array.getElem?_eq_some_iff.mp h5).1 h10]; exact h5, h6, h7, h8, h9, h10⟩
theorem vx_L.narrow {C n d : String} {A B : Nat → Prop} {U : State} {H : Heap} (h : vx_L C n d A U H) (hAB : ∀ q, B q → A q) : vx_L C n d B U H := by
  obtain ⟨c, k, i, f, a, cell, h1, h2, h3, h4, h5, h6, h7, h8, h9, h10⟩ := h
  exact ⟨c, k, i, f, a, cell, h1, h2, h3, h4, h5, h6, h7, h8, h9, fun z => h10 (hAB _ z)⟩
theorem vx_L.word {C n d : String} {A : Nat → Prop} {s : State} {args : Array Value} (h : vx_L C n d A s s.heap) : (Cond.laysStatic C n d).before args s = true := by
  obtain ⟨c, k, i, f, a, cell, h1, h2, h3, h4, h5, h6, h7, h8, h9, -⟩ := h
  show (Cond.laysStatic C n d).holds args s none s [] = true
  exact Cond.laysStatic_of h1 h2 h3 h4 h5 h6 h7 h8 h9
/-- .. and what it holds: null or some reference -/
def vx_Zq (C n d : String) (A : Nat → Prop) (U : State) (H : Heap) : Prop := va_Zq C n d A U H ∧ vx_L C n d A U H
theorem vx_Zq.moved {C n d : String} {A : Nat → Prop} {u U : State} {H : Heap} (hvm : u.vm.Alike U.vm) (h : vx_Zq C n d A u H) : vx_Zq C n d A U H := ⟨va_Zq.moved hvm h.1, vx_L.moved hvm h.2⟩
theorem vx_Zq.kept {C n d : String} {A : Nat → Prop} {U : State} {H H1 : Heap} (h : vx_Zq C n d A U H) (hq : ∀ a : Nat, a < H.size → ¬ A a → H1[a]? = H[a]?) : vx_Zq C n d A U H1 := ⟨va_Zq.kept h.1 hq, vx_L.kept h.2 hq⟩
theorem vx_Zq.narrow {C n d : String} {A B : Nat → Prop} {U : State} {H : Heap} (h : vx_Zq C n d A U H) (hAB : ∀ q, B q → A q) : vx_Zq C n d B U H := ⟨va_Zq.narrow h.1 hAB, vx_L.narrow h.2 hAB⟩
theorem vx_Zqof {args : Array Value} {s : State} {C n d : String} {A : Nat → Prop} (hl : (Cond.laysStatic C n d).before args s = true) (hini : (Cond.initialized C).before args s = true) (h : (Cond.isRef (.static C n d)).before args s = true) (hA : ∀ a : Nat, a < s.heap.size → ¬ A a) : vx_Zq C n d A s s.heap := by
  refine ⟨va_Zqof hl hini h hA, ?_⟩
  obtain ⟨c, k, i, f, a, cell, h1, h2, h3, h4, h5, h6, h7, h8, h9⟩ := Cond.laysStatic_spec hl
  exact ⟨c, k, i, f, a, cell, h1, h2, h3, h4, h5, h6, h7, h8, h9, hA a (Array.getElem?_eq_some_iff.mp h5).1⟩
theorem vx_isRef {C n d : String} {v : Value} {A : Nat → Prop} {s : State} {args : Array Value} (h : va_Z C n d v A s s.heap) (hv : v.isRef = true) : (Cond.isRef (.static C n d)).before args s = true := by
  obtain ⟨cf, kf, fi, f, a, cell, h1, h2, h3, h4, h5, h6, h7, -⟩ := h
  have he : (Term.static C n d).eval args s none [] s = some v := by
    simp [Term.eval, State.fieldNamed?, h1, h2, h4, h5, h6, h7]
  simp only [Cond.before, Cond.holds, Cond.value, he]
  cases v <;> simp_all [Value.isRef]
theorem vx_isRefq {C n d : String} {A : Nat → Prop} {s : State} {args : Array Value} (h : va_Zq C n d A s s.heap) : (Cond.isRef (.static C n d)).before args s = true := by
  rcases h with h | ⟨t, h⟩
  · exact vx_isRef h rfl
  · exact vx_isRef h rfl
/-- the same frame, seen from here: as if the method were called anew in this heap -/
theorem vx_rebase {T : State} (X : Stand p l e R s m args below meth c T locs cells slots) {R' : Room} (hf : R'.frames ≤ R.frames) (hl : R'.locals ≤ R.locals) (hc : cells + R'.cells ≤ R.cells) (hs : slots + R'.slots ≤ R.slots) :
    Stand p l e R' ((T.setVm s.vm).setFrames (.invoking m args :: below)) m args below meth c T [] 0 0 := by
  have htop : (T.setVm s.vm).topJava?.isSome := X.here.top
  have hF : ((T.setVm s.vm).setFrames (.invoking m args :: below)).frames = .invoking m args :: below := State.frames_setFrames _ (State.cur_lt_of_top htop)
  obtain ⟨g₀, hg0⟩ := Option.isSome_iff_exists.mp htop
  obtain ⟨r, hr⟩ := State.topJava?_eq_some.mp hg0
  have hl9 : e.platform.stackLimits (T.setVm s.vm).me = e.platform.stackLimits s.me := X.limits
  have hb9 : (T.setVm s.vm).me.stackBytes = s.me.stackBytes := X.bytes
  refine ⟨X.admits, X.cas, X.clock, hF, ?_, X.hears, X.method, X.code, X.here, X.tail, X.warmed, ?_, ?_, ?_⟩
  · have h := X.room
    have hU : ((T.setVm s.vm).setFrames (.invoking m args :: below)).localsInUse = s.localsInUse := by
      rw [State.localsInUse_invoking hF (meth := meth) (c := c) X.method X.code, State.localsInUse_invoking X.frames X.method X.code]
    simp only [State.hasRoom, Bool.and_eq_true, decide_eq_true_eq] at h ⊢
    obtain ⟨⟨⟨⟨h1, h2, h3, h4, h5, h6⟩, h7⟩, h8⟩, h9⟩ := h
    rw [X.frames, List.length_cons] at h2 h3
    have q1 := X.heapSize
    have q2 := X.used
    simp only [hF, hU, List.length_cons, State.stackLimits_setFrames, State.stackBytes_setFrames, hl9, hb9]
    refine ⟨⟨⟨⟨by omega, by omega, by omega, by omega, by omega, h6⟩, ?_⟩, ?_⟩, X.book⟩
    · show T.heap.size + R'.cells ≤ e.platform.maxCells
      omega
    · show T.slotsUsed + R'.slots ≤ e.platform.maxSlots
      omega
  · rw [State.stackLimits_setFrames]; rfl
  · rw [State.stackBytes_setFrames]; rfl
  · refine ⟨?_, Nat.le_refl _, Nat.le_refl _, ?_, ?_, fun a c9 h9 => ⟨c9, h9, rfl, rfl, fun _ _ => rfl⟩⟩
    · obtain ⟨t, ht, -⟩ := State.frames_cons hr
      show T.setVm s.vm = { ((T.setVm s.vm).setFrames (.invoking m args :: below)).setFrames (T.setVm s.vm).frames with heap := T.heap, slotsUsed := T.slotsUsed }
      rw [State.setFrames_setFrames, State.setFrames_self ht]
      rfl
    · show T.slotsUsed = T.slotsUsed + ((T.heap.toList.drop T.heap.size).map (·.slots.size)).sum
      rw [List.drop_eq_nil_of_le (Nat.le_of_eq Array.length_toList)]
      rfl
    · show ((T.heap.toList.drop T.heap.size).map (·.slots.size)).sum ≤ 0
      rw [List.drop_eq_nil_of_le (Nat.le_of_eq Array.length_toList)]
      exact Nat.le_refl _
/-- 'throw new E()': new; dup; invokespecial; athrow -/
theorem vx_throw0 {cc : ByteArray} {pc : Nat} (hexec : p.tables.exec = Jvm.exec) (hb : c.code = cc) (hl : l.stackTraces = false) {own cls : String} {names : List String} {ik ic mc ms : Nat} {A : Nat → Prop}
    (hown : s.vm.findClass own = some m.cls) (hcls : Bundle.fit cls = true) (hnames : ∀ n ∈ names, Bundle.fit n = true)
    (hk : (Cond.classLink own ik cls).before args s = true) (hini : (Cond.initialized cls).before args s = true) (hat : ∀ w ∈ vx_at0 own ic cls names, w.before args s = true)
    (hgood : ∀ w ∈ Cond.classLink own ik cls :: Cond.initialized cls :: vx_at0 own ic cls names, vx_ot w = true)
    (hU : vx_Zq Bundle.tN "UNASSIGNED_STACK" Bundle.steD A s s.heap) (hN : vx_Zq Bundle.tN "SUPPRESSED_SENTINEL" Bundle.listD A s s.heap) (hS : va_S A s.heap H locs) (hsize : ls.size = c.maxLocals)
    (d0 : decode cc pc = .ok (.new ik, 3)) (d3 : decode cc (pc + 3) = .ok (.dup, 1)) (d4 : decode cc (pc + 4) = .ok (.invokespecial ic, 3)) (d7 : decode cc (pc + 7) = .ok (.athrow, 1))
    (hout : ∀ x ∈ c.exceptionTable.toList, covers x (pc + 7) = false)
    (hRframes : names.length + 3 < R.frames) (hRlocals : (rest.map fun v => v.category).sum + (13 * (names.length + 1) + 42) ≤ R.locals) (hRcells : cells + 1 ≤ R.cells) (hRslots : slots + 6 ≤ R.slots) (hlocks : meth.locks = false)
    (hx : ∀ t : State, s.vm.Alike t.vm → H.size ≤ t.heap.size → (∀ q : Nat, q < H.size → t.heap[q]? = H[q]?) → XC cls s t)
    (hf : ∀ z ∈ locs, free z.base) (hc : cells + 1 ≤ mc) (hs : slots + 6 ≤ ms) :
    W p l e R s m args below meth c H locs cells slots (vx_MQ below Qc XC args s mc ms free) (F0 m pc ls rest) := by
  intro T hT X
  have htr : e.platform.stackTraces = false := (show e.platform.stackTraces = l.stackTraces by rw [X.admits.platform]).trans hl
  have Y := vx_rebase X (R' := { frames := R.frames, locals := R.locals, cells := 1, slots := 6 }) (Nat.le_refl _) (Nat.le_refl _) hRcells hRslots
  obtain ⟨s', hA⟩ : ∃ z, z = (T.setVm s.vm).setFrames (.invoking m args :: below) := ⟨_, rfl⟩
  rw [← hA] at Y
  have hvm : s'.vm = s.vm := by rw [hA]; rfl
  have hhp : s'.heap = H := by rw [hA]; exact hT
  have hW0 : s.WarmedH s'.vm := by rw [hvm]; exact State.WarmedH.refl s
  have hat' : ∀ w ∈ vx_at0 own ic cls names, w.before args s' = true := fun w hw => vx_ot_at hW0 hvm.symm (hgood w (List.mem_cons_of_mem _ (List.mem_cons_of_mem _ hw))) (hat w hw)
  have hk' : (Cond.classLink own ik cls).before args s' = true := vx_ot_at hW0 hvm.symm (hgood _ List.mem_cons_self) hk
  have hini' : (Cond.initialized cls).before args s' = true := vx_ot_at hW0 hvm.symm (hgood _ (List.mem_cons_of_mem _ List.mem_cons_self)) hini
  have hU' : vx_Zq Bundle.tN "UNASSIGNED_STACK" Bundle.steD A s' s'.heap := by rw [hhp]; exact vx_Zq.moved hW0.alike (hU.kept hS.2.1)
  have hN' : vx_Zq Bundle.tN "SUPPRESSED_SENTINEL" Bundle.listD A s' s'.heap := by rw [hhp]; exact vx_Zq.moved hW0.alike (hN.kept hS.2.1)
  have h : ∀ w ∈ Bundle.ownAtoms0 own ic cls names, w.before args s' = true := vx_own hat' (vx_isRefq hU'.1) (vx_isRefq hN'.1) hU'.2.word hN'.2.word
  have hown' : s'.vm.findClass own = some m.cls := by rw [hvm]; exact hown
  have hins : (Cond.instantiable cls 6).before args s' = true := h _ (by simp [Bundle.ownAtoms0])
  obtain ⟨vm₁, cX, kX, hfX, hkX, -, -, X₁, st1⟩ := Y.newCold hexec (own := own) (C := cls) (index := ik) (n := 6) hown' hk' hins hini'
    (g := F0 m pc ls rest) rfl (by rw [hb]; exact d0) (Nat.le_refl _) (Nat.le_refl _)
  generalize hT1 : (T.setVm vm₁).pushCell { cls := cX, slots := kX.instanceTypes.map defaultValue, vm := .none } = T1 at X₁ st1
  have hcat : (Value.ref T.heap.size).category = 1 := rfl
  have hcellA : T1.heap[T.heap.size]? = some (freshCell cX kX) := by rw [← hT1]; exact State.heap_pushCell_size _ _
  have d3' : decode c.code (pc + 3) = .ok (.dup, 1) := by rw [hb]; exact d3
  obtain ⟨U, hsteps, hrun, hend, hW, hsame, ce, hce, hO⟩ := X₁.ctorThrow0 hexec htr (own := own) (cls := cls) (names := names) (ic := ic) hown' hcls hnames h (fun x hx => nomatch hx) hfX hkX hcellA (by rw [hhp, hT]; exact Nat.le_refl _)
    (g := { method := m, pc := pc + 4, locals := ls, stack := .ref T.heap.size :: .ref T.heap.size :: rest, locked := none }) rfl hsize rfl rfl (rest := rest) rfl
    (by rw [hb]; exact d4) (by rw [hb]; exact d7) hout hRframes (by simp only [List.map_cons, List.sum_cons, hcat]; omega) hlocks
  obtain ⟨f1, f2⟩ := vx_frame hsame
  rw [hhp] at f1 f2
  have hWs : s.WarmedH U.vm := State.WarmedH.trans hW0 hW
  have hcl : s.vm.findClass cls = some ce.cls := by
    have h9 := hO.cls
    rw [hvm] at h9
    exact h9
  have hall : s.sameButNew ({ U with vm := s.vm } : State) locs mc ms := by
    subst hA
    obtain ⟨e1, e2⟩ := hsame
    rw [State.setFrames_setFrames] at e1
    have h2 : (T.setVm s.vm).sameButNew ({ U with vm := s.vm } : State) [] (0 + 1) (0 + 6) := ⟨e1, e2⟩
    have h3 := X.same.trans h2
    rw [List.append_nil] at h3
    exact h3.mono hc hs
  refine ⟨U, ?_, .threw T.heap.size, hrun, hend, Or.inr ⟨T.heap.size, rfl, cls, ce, locs, hx U hWs.alike f1 (fun q hq => f2 q hq (fun z hz => nomatch hz)), hce, hO.vm, hcl, hWs, hall, hf⟩⟩
  refine st1 _ ?_
  show Steps p.tables e below (T1.setTop { method := m, pc := pc + 3, locals := ls, stack := .ref T.heap.size :: rest, locked := none }) _
  jvm_step X₁.here [X₁.here.top, hexec, d3', Value.category]
  exact hsteps
/-- 'throw new E("text")': new; dup; ldc; invokespecial; athrow -/
theorem vx_throwS {cc : ByteArray} {pc : Nat} (hexec : p.tables.exec = Jvm.exec) (hb : c.code = cc) (hl : l.stackTraces = false) {own cls text : String} {names : List String} {ik is ic mc ms sa : Nat} {A : Nat → Prop}
    (hown : s.vm.findClass own = some m.cls) (hcls : Bundle.fit cls = true) (hnames : ∀ n ∈ names, Bundle.fit n = true)
    (hk : (Cond.classLink own ik cls).before args s = true) (hini : (Cond.initialized cls).before args s = true) (hstr : vk_R own is text sa s) (hat : ∀ w ∈ vx_atS own ic cls names, w.before args s = true)
    (hgood : ∀ w ∈ Cond.classLink own ik cls :: Cond.initialized cls :: vx_atS own ic cls names, vx_ot w = true)
    (hU : vx_Zq Bundle.tN "UNASSIGNED_STACK" Bundle.steD A s s.heap) (hN : vx_Zq Bundle.tN "SUPPRESSED_SENTINEL" Bundle.listD A s s.heap) (hS : va_S A s.heap H locs) (hsize : ls.size = c.maxLocals)
    (d0 : decode cc pc = .ok (.new ik, 3)) (d3 : decode cc (pc + 3) = .ok (.dup, 1)) (d4 : decode cc (pc + 4) = .ok (.ldc is, 2)) (d6 : decode cc (pc + 6) = .ok (.invokespecial ic, 3)) (d9 : decode cc (pc + 9) = .ok (.athrow, 1))
    (hout : ∀ x ∈ c.exceptionTable.toList, covers x (pc + 9) = false)
    (hRframes : names.length + 3 < R.frames) (hRlocals : (rest.map fun v => v.category).sum + (13 * (names.length + 1) + 43) ≤ R.locals) (hRcells : cells + 1 ≤ R.cells) (hRslots : slots + 6 ≤ R.slots) (hlocks : meth.locks = false)
    (hx : ∀ t : State, s.vm.Alike t.vm → H.size ≤ t.heap.size → (∀ q : Nat, q < H.size → t.heap[q]? = H[q]?) → XC cls s t)
    (hf : ∀ z ∈ locs, free z.base) (hc : cells + 1 ≤ mc) (hs : slots + 6 ≤ ms) :
    W p l e R s m args below meth c H locs cells slots (vx_MQ below Qc XC args s mc ms free) (F0 m pc ls rest) := by
  intro T hT X
  have htr : e.platform.stackTraces = false := (show e.platform.stackTraces = l.stackTraces by rw [X.admits.platform]).trans hl
  have Y := vx_rebase X (R' := { frames := R.frames, locals := R.locals, cells := 1, slots := 6 }) (Nat.le_refl _) (Nat.le_refl _) hRcells hRslots
  obtain ⟨s', hA⟩ : ∃ z, z = (T.setVm s.vm).setFrames (.invoking m args :: below) := ⟨_, rfl⟩
  rw [← hA] at Y
  have hvm : s'.vm = s.vm := by rw [hA]; rfl
  have hhp : s'.heap = H := by rw [hA]; exact hT
  have hW0 : s.WarmedH s'.vm := by rw [hvm]; exact State.WarmedH.refl s
  have hat' : ∀ w ∈ vx_atS own ic cls names, w.before args s' = true := fun w hw => vx_ot_at hW0 hvm.symm (hgood w (List.mem_cons_of_mem _ (List.mem_cons_of_mem _ hw))) (hat w hw)
  have hk' : (Cond.classLink own ik cls).before args s' = true := vx_ot_at hW0 hvm.symm (hgood _ List.mem_cons_self) hk
  have hini' : (Cond.initialized cls).before args s' = true := vx_ot_at hW0 hvm.symm (hgood _ (List.mem_cons_of_mem _ List.mem_cons_self)) hini
  have hU' : vx_Zq Bundle.tN "UNASSIGNED_STACK" Bundle.steD A s' s'.heap := by rw [hhp]; exact vx_Zq.moved hW0.alike (hU.kept hS.2.1)
  have hN' : vx_Zq Bundle.tN "SUPPRESSED_SENTINEL" Bundle.listD A s' s'.heap := by rw [hhp]; exact vx_Zq.moved hW0.alike (hN.kept hS.2.1)
  have h : ∀ w ∈ Bundle.ownAtoms own ic cls names, w.before args s' = true := vx_own hat' (vx_isRefq hU'.1) (vx_isRefq hN'.1) hU'.2.word hN'.2.word
  have hown' : s'.vm.findClass own = some m.cls := by rw [hvm]; exact hown
  have hins : (Cond.instantiable cls 6).before args s' = true := h _ (by simp [Bundle.ownAtoms])
  obtain ⟨vm₁, cX, kX, hfX, hkX, -, -, X₁, st1⟩ := Y.newCold hexec (own := own) (C := cls) (index := ik) (n := 6) hown' hk' hins hini'
    (g := F0 m pc ls rest) rfl (by rw [hb]; exact d0) (Nat.le_refl _) (Nat.le_refl _)
  generalize hT1 : (T.setVm vm₁).pushCell { cls := cX, slots := kX.instanceTypes.map defaultValue, vm := .none } = T1 at X₁ st1
  have hcat : (Value.ref T.heap.size).category = 1 := rfl
  have hcellA : T1.heap[T.heap.size]? = some (freshCell cX kX) := by rw [← hT1]; exact State.heap_pushCell_size _ _
  have d3' : decode c.code (pc + 3) = .ok (.dup, 1) := by rw [hb]; exact d3
  have d4' : decode c.code (pc + 4) = .ok (.ldc is, 2) := by rw [hb]; exact d4
  have hstr' : vk_R own is text sa s' := vk_R.warm hW0 hstr
  obtain ⟨U, hsteps, hrun, hend, hW, hsame, ce, hce, hO⟩ := X₁.ctorThrowS hexec htr (own := own) (cls := cls) (names := names) (ic := ic) hown' hcls hnames h (fun x hx => nomatch hx) hfX hkX hcellA (by rw [hhp, hT]; exact Nat.le_refl _) (msg := .ref sa) rfl
    (g := { method := m, pc := pc + 6, locals := ls, stack := .ref sa :: .ref T.heap.size :: .ref T.heap.size :: rest, locked := none }) rfl hsize rfl rfl (rest := rest) rfl
    (by rw [hb]; exact d6) (by rw [hb]; exact d9) hout hRframes (by simp only [List.map_cons, List.sum_cons, hcat]; omega) hlocks
  obtain ⟨f1, f2⟩ := vx_frame hsame
  rw [hhp] at f1 f2
  have hWs : s.WarmedH U.vm := State.WarmedH.trans hW0 hW
  have hcl : s.vm.findClass cls = some ce.cls := by
    have h9 := hO.cls
    rw [hvm] at h9
    exact h9
  have hall : s.sameButNew ({ U with vm := s.vm } : State) locs mc ms := by
    subst hA
    obtain ⟨e1, e2⟩ := hsame
    rw [State.setFrames_setFrames] at e1
    have h2 : (T.setVm s.vm).sameButNew ({ U with vm := s.vm } : State) [] (0 + 1) (0 + 6) := ⟨e1, e2⟩
    have h3 := X.same.trans h2
    rw [List.append_nil] at h3
    exact h3.mono hc hs
  refine ⟨U, ?_, .threw T.heap.size, hrun, hend, Or.inr ⟨T.heap.size, rfl, cls, ce, locs, hx U hWs.alike f1 (fun q hq => f2 q hq (fun z hz => nomatch hz)), hce, hO.vm, hcl, hWs, hall, hf⟩⟩
  refine st1 _ ?_
  show Steps p.tables e below (T1.setTop { method := m, pc := pc + 3, locals := ls, stack := .ref T.heap.size :: rest, locked := none }) _
  jvm_step X₁.here [X₁.here.top, hexec, d3', Value.category]
  exact X₁.ldcString hexec (own := own) (text := text) (index := is) (a := sa) hown' hstr'.1 hstr'.2
    (g := { method := m, pc := pc + 4, locals := ls, stack := .ref T.heap.size :: .ref T.heap.size :: rest, locked := none }) rfl d4' _ hsteps
/-- 'throw new E("text")', the text by a wide index -/
theorem vx_throwSW {cc : ByteArray} {pc : Nat} (hexec : p.tables.exec = Jvm.exec) (hb : c.code = cc) (hl : l.stackTraces = false) {own cls text : String} {names : List String} {ik is ic mc ms sa : Nat} {A : Nat → Prop}
    (hown : s.vm.findClass own = some m.cls) (hcls : Bundle.fit cls = true) (hnames : ∀ n ∈ names, Bundle.fit n = true)
    (hk : (Cond.classLink own ik cls).before args s = true) (hini : (Cond.initialized cls).before args s = true) (hstr : vk_R own is text sa s) (hat : ∀ w ∈ vx_atS own ic cls names, w.before args s = true)
    (hgood : ∀ w ∈ Cond.classLink own ik cls :: Cond.initialized cls :: vx_atS own ic cls names, vx_ot w = true)
    (hU : vx_Zq Bundle.tN "UNASSIGNED_STACK" Bundle.steD A s s.heap) (hN : vx_Zq Bundle.tN "SUPPRESSED_SENTINEL" Bundle.listD A s s.heap) (hS : va_S A s.heap H locs) (hsize : ls.size = c.maxLocals)
    (d0 : decode cc pc = .ok (.new ik, 3)) (d3 : decode cc (pc + 3) = .ok (.dup, 1)) (d4 : decode cc (pc + 4) = .ok (.ldc_w is, 3)) (d7 : decode cc (pc + 7) = .ok (.invokespecial ic, 3)) (d10 : decode cc (pc + 10) = .ok (.athrow, 1))
    (hout : ∀ x ∈ c.exceptionTable.toList, covers x (pc + 10) = false)
    (hRframes : names.length + 3 < R.frames) (hRlocals : (rest.map fun v => v.category).sum + (13 * (names.length + 1) + 43) ≤ R.locals) (hRcells : cells + 1 ≤ R.cells) (hRslots : slots + 6 ≤ R.slots) (hlocks : meth.locks = false)
    (hx : ∀ t : State, s.vm.Alike t.vm → H.size ≤ t.heap.size → (∀ q : Nat, q < H.size → t.heap[q]? = H[q]?) → XC cls s t)
    (hf : ∀ z ∈ locs, free z.base) (hc : cells + 1 ≤ mc) (hs : slots + 6 ≤ ms) :
    W p l e R s m args below meth c H locs cells slots (vx_MQ below Qc XC args s mc ms free) (F0 m pc ls rest) := by
  intro T hT X
  have htr : e.platform.stackTraces = false := (show e.platform.stackTraces = l.stackTraces by rw [X.admits.platform]).trans hl
  have Y := vx_rebase X (R' := { frames := R.frames, locals := R.locals, cells := 1, slots := 6 }) (Nat.le_refl _) (Nat.le_refl _) hRcells hRslots
  obtain ⟨s', hA⟩ : ∃ z, z = (T.setVm s.vm).setFrames (.invoking m args :: below) := ⟨_, rfl⟩
  rw [← hA] at Y
  have hvm : s'.vm = s.vm := by rw [hA]; rfl
  have hhp : s'.heap = H := by rw [hA]; exact hT
  have hW0 : s.WarmedH s'.vm := by rw [hvm]; exact State.WarmedH.refl s
  have hat' : ∀ w ∈ vx_atS own ic cls names, w.before args s' = true := fun w hw => vx_ot_at hW0 hvm.symm (hgood w (List.mem_cons_of_mem _ (List.mem_cons_of_mem _ hw))) (hat w hw)
  have hk' : (Cond.classLink own ik cls).before args s' = true := vx_ot_at hW0 hvm.symm (hgood _ List.mem_cons_self) hk
  have hini' : (Cond.initialized cls).before args s' = true := vx_ot_at hW0 hvm.symm (hgood _ (List.mem_cons_of_mem _ List.mem_cons_self)) hini
  have hU' : vx_Zq Bundle.tN "UNASSIGNED_STACK" Bundle.steD A s' s'.heap := by rw [hhp]; exact vx_Zq.moved hW0.alike (hU.kept hS.2.1)
  have hN' : vx_Zq Bundle.tN "SUPPRESSED_SENTINEL" Bundle.listD A s' s'.heap := by rw [hhp]; exact vx_Zq.moved hW0.alike (hN.kept hS.2.1)
  have h : ∀ w ∈ Bundle.ownAtoms own ic cls names, w.before args s' = true := vx_own hat' (vx_isRefq hU'.1) (vx_isRefq hN'.1) hU'.2.word hN'.2.word
  have hown' : s'.vm.findClass own = some m.cls := by rw [hvm]; exact hown
  have hins : (Cond.instantiable cls 6).before args s' = true := h _ (by simp [Bundle.ownAtoms])
  obtain ⟨vm₁, cX, kX, hfX, hkX, -, -, X₁, st1⟩ := Y.newCold hexec (own := own) (C := cls) (index := ik) (n := 6) hown' hk' hins hini'
    (g := F0 m pc ls rest) rfl (by rw [hb]; exact d0) (Nat.le_refl _) (Nat.le_refl _)
  generalize hT1 : (T.setVm vm₁).pushCell { cls := cX, slots := kX.instanceTypes.map defaultValue, vm := .none } = T1 at X₁ st1
  have hcat : (Value.ref T.heap.size).category = 1 := rfl
  have hcellA : T1.heap[T.heap.size]? = some (freshCell cX kX) := by rw [← hT1]; exact State.heap_pushCell_size _ _
  have d3' : decode c.code (pc + 3) = .ok (.dup, 1) := by rw [hb]; exact d3
  have d4' : decode c.code (pc + 4) = .ok (.ldc_w is, 3) := by rw [hb]; exact d4
  have hstr' : vk_R own is text sa s' := vk_R.warm hW0 hstr
  obtain ⟨U, hsteps, hrun, hend, hW, hsame, ce, hce, hO⟩ := X₁.ctorThrowS hexec htr (own := own) (cls := cls) (names := names) (ic := ic) hown' hcls hnames h (fun x hx => nomatch hx) hfX hkX hcellA (by rw [hhp, hT]; exact Nat.le_refl _) (msg := .ref sa) rfl
    (g := { method := m, pc := pc + 7, locals := ls, stack := .ref sa :: .ref T.heap.size :: .ref T.heap.size :: rest, locked := none }) rfl hsize rfl rfl (rest := rest) rfl
    (by rw [hb]; exact d7) (by rw [hb]; exact d10) hout hRframes (by simp only [List.map_cons, List.sum_cons, hcat]; omega) hlocks
  obtain ⟨f1, f2⟩ := vx_frame hsame
  rw [hhp] at f1 f2
  have hWs : s.WarmedH U.vm := State.WarmedH.trans hW0 hW
  have hcl : s.vm.findClass cls = some ce.cls := by
    have h9 := hO.cls
    rw [hvm] at h9
    exact h9
  have hall : s.sameButNew ({ U with vm := s.vm } : State) locs mc ms := by
    subst hA
    obtain ⟨e1, e2⟩ := hsame
    rw [State.setFrames_setFrames] at e1
    have h2 : (T.setVm s.vm).sameButNew ({ U with vm := s.vm } : State) [] (0 + 1) (0 + 6) := ⟨e1, e2⟩
    have h3 := X.same.trans h2
    rw [List.append_nil] at h3
    exact h3.mono hc hs
  refine ⟨U, ?_, .threw T.heap.size, hrun, hend, Or.inr ⟨T.heap.size, rfl, cls, ce, locs, hx U hWs.alike f1 (fun q hq => f2 q hq (fun z hz => nomatch hz)), hce, hO.vm, hcl, hWs, hall, hf⟩⟩
  refine st1 _ ?_
  show Steps p.tables e below (T1.setTop { method := m, pc := pc + 3, locals := ls, stack := .ref T.heap.size :: rest, locked := none }) _
  jvm_step X₁.here [X₁.here.top, hexec, d3', Value.category]
  exact X₁.ldcStringW hexec (own := own) (text := text) (index := is) (a := sa) hown' hstr'.1 hstr'.2
    (g := { method := m, pc := pc + 4, locals := ls, stack := .ref T.heap.size :: .ref T.heap.size :: rest, locked := none }) rfl d4' _ hsteps
end Ends
section Bodies
variable {l : Launch}
theorem vx_ofW {y : MethodName} {ws ws' : List Cond} {rm : Room} {Pc : Array Value → State → Prop} {Qc : Array Value → State → Outcome → State → Prop} {XC : String → State → State → Prop} {mc ms : Nat} {free : Addr → Prop} {cc : ByteArray} {maxL : Nat} {ret : Option FieldType}
    (hy : plainName y.cls = true) (hw : ws = Cond.code y cc maxL ret :: ws')
    (body : ∀ p e s m args below meth c s₁, BodyLoose p l y (headSpec ws rm) cc maxL ret e s m args below meth c s₁ → c.maxLocals = maxL → (∀ x ∈ c.exceptionTable.toList, False) → Pc args s →
      W p l e (headSpec ws rm).room s m args below meth c s.heap [] 0 0 (vx_MQ below Qc XC args s mc ms free) (entryFrame m args maxL)) : vx_Met l y ws rm Pc Qc XC mc ms free := by
  refine MetFree.of_bodyS (code := cc) (maxLocals := maxL) (ret := ret) hy ?_ ?_
  · intro args s m h hn
    obtain ⟨meth, c, h1, h2, h3, h4, h5, h6, -, -⟩ := Cond.code_spec hn (atoms_spec (ws := ws) h _ (by rw [hw]; exact List.mem_cons_self))
    exact ⟨meth, c, h1, h2, h3, h4, h5, h6⟩
  · intro p e s m args below meth c s₁ B hml hP _
    have hh0 : s₁.heap = s.heap := by rw [B.state]; rfl
    have ht : ∀ x ∈ c.exceptionTable.toList, False := by
      obtain ⟨meth9, c9, h1, h2, -, -, -, -, h7, -⟩ := Cond.code_spec B.named (atoms_spec (ws := ws) B.pre _ (by rw [hw]; exact List.mem_cons_self))
      cases Option.some.inj (h1.symm.trans B.method)
      cases Option.some.inj (h2.symm.trans (Stand.of_body B).code)
      intro x hx
      rw [Array.isEmpty_iff.mp h7] at hx
      cases hx
    obtain ⟨t, a1, o, b1, b2, b3⟩ := body p e s m args below meth c s₁ B hml ht hP s₁ hh0 (Stand.of_body B)
    exact ⟨t, o, a1, b1, b2, b3⟩
/-- the table of a body with handlers -/
theorem vx_table {p : Program} {x y : MethodName} {S : Spec} {cc bytes : ByteArray} {maxL maxL' : Nat} {ret ret' : Option FieldType} {e : Env} {s s₁ : State} {m : MethodId} {args : Array Value} {below : List Frame} {meth : Method} {c : Code} {hh : List (Nat × Nat × Nat × Nat)}
    (B : BodyLoose p l y S cc maxL ret e s m args below meth c s₁) (h : (Cond.codeWith y bytes maxL' ret' hh).before args s = true) : c.exceptionTable.toList = tableOf hh := by
  obtain ⟨m9, meth9, c9, hn9, h1, h2, -, -, h6, -⟩ := Cond.codeWith_spec h
  cases Option.some.inj (hn9.symm.trans B.named)
  cases Option.some.inj (h1.symm.trans B.method)
  cases Option.some.inj (h2.symm.trans (Stand.of_body B).code)
  rw [← h6, table_eq]
end Bodies
end VXA
/-! ===== END ===== -/
/-! ===== BEGIN a static call of a method with an exception table ===== -/
section VXS
variable {p : Program} {l : Launch} {e : Env} {R : Room} {s : State} {m : MethodId} {args : Array Value} {below : List Frame} {meth : Method} {c : Code} {T : State} {H : Heap} {locs : List Loc} {cells slots : Nat}
abbrev vx_CSW (R : Room) (s : State) (args : Array Value) (own : String) (index : Nat) (y : MethodName) (bytes : ByteArray) (maxL : Nat) (ret : Option FieldType) (hh : List (Nat × Nat × Nat × Nat)) (ws : List Cond) (rm : Room) (mc ms n : Nat) : Prop :=
  (rm.cells = mc ∧ rm.slots = ms ∧ rm.frames + 1 ≤ R.frames ∧ 8 + (maxL + 11) + rm.locals ≤ R.locals ∧ (∀ w ∈ ws, ∀ (a' : Array Value) (U : State), s.WarmedH U.vm → w.before a' U = true) ∧ Cond.codeWith y bytes maxL ret hh ∈ ws) ∧
  (Cond.codeWith y bytes maxL ret hh).before args s = true ∧ (Cond.initialized y.cls).before args s = true ∧ (y.cls ≠ "java/lang/invoke/MethodHandle" ∧ y.cls ≠ "java/lang/invoke/VarHandle") ∧
  (∀ sig, parseMethodDescriptor y.desc = some sig → n = sig.parameters.length) ∧ (Cond.methodLink own index y).before args s = true ∧ (Cond.static y).before args s = true
theorem vx_cwSW {own : String} {index maxL mc ms : Nat} {y : MethodName} {bytes : ByteArray} {ret : Option FieldType} {hh : List (Nat × Nat × Nat × Nat)} {Ts ws ws' : List Cond} {rm : Room} (n : Nat) (ht : ∀ w ∈ Ts, w.before args s = true) (hT : GoodIn Ts (va_wsS own index y ws)) (hw : ws = Cond.codeWith y bytes maxL ret hh :: ws') (hrc : rm.cells = mc) (hrs : rm.slots = ms)
    (hd : y.cls ≠ "java/lang/invoke/MethodHandle" ∧ y.cls ≠ "java/lang/invoke/VarHandle" ∧ (parseMethodDescriptor y.desc).map (fun d => d.parameters.length) = some n) (hR : rm.frames + 1 ≤ R.frames ∧ 8 + (maxL + 11) + rm.locals ≤ R.locals) :
    vx_CSW R s args own index y bytes maxL ret hh ws rm mc ms n := by
  have ok : ∀ w ∈ va_wsS own index y ws, w.before args s = true := fun w h => ht w (hT w h).1
  have hG : GoodIn Ts ws := fun w h => hT w (by unfold va_wsS; exact List.mem_append_right _ h)
  have hc : Cond.codeWith y bytes maxL ret hh ∈ ws := by rw [hw]; exact List.mem_cons_self
  refine ⟨⟨hrc, hrs, hR.1, hR.2, pay_in ht hG, hc⟩, ht _ (hG _ hc).1, ok _ (by simp [va_wsS]), ⟨hd.1, hd.2.1⟩, fun sig h => ?_, ok _ (by simp [va_wsS]), ok _ (by simp [va_wsS])⟩
  have h2 := hd.2.2
  rw [h] at h2
  exact (Option.some.inj h2).symm
theorem vx_callSW (X : Stand p l e R s m args below meth c T locs cells slots) (hexec : p.tables.exec = Jvm.exec) {own : String} {index : Nat} {y : MethodName} {bytes : ByteArray} {maxL : Nat} {ret : Option FieldType} {hh : List (Nat × Nat × Nat × Nat)}
    (hown : s.vm.findClass own = some m.cls) (hlink : (Cond.methodLink own index y).before args s = true) (hstat : (Cond.static y).before args s = true) (hinit : (Cond.initialized y.cls).before args s = true)
    (hcode : (Cond.codeWith y bytes maxL ret hh).before args s = true) (hy : y.cls ≠ "java/lang/invoke/MethodHandle" ∧ y.cls ≠ "java/lang/invoke/VarHandle")
    {W9 : Nat} {Pre : Pt → Array Value → Prop} {Post : Pt → Array Value → Option Value → Pt → Prop} (hK : Back l R p e below s args y 3 W9 Pre Post)
    {g : JFrame} (hg : g.method = m) (hsize : g.locals.size = c.maxLocals) {argsL rest : List Value} (hlen : ∀ sig, parseMethodDescriptor y.desc = some sig → argsL.length = sig.parameters.length)
    (hstack : g.stack = argsL.reverse ++ rest) (hW : 2 * g.monitorRoom + (rest.map fun v => v.category).sum ≤ W9) (hdg : decode c.code g.pc = .ok (.invokestatic index, 3))
    (hpre : ∀ vm₁, s.WarmedH vm₁ → Pre ⟨T.setVm vm₁, locs, cells, slots⟩ argsL.toArray) :
    ∃ (v : Option Value) (vm₁ : Vm) (B : Pt), s.WarmedH vm₁ ∧ Stand p l e R s m args below meth c B.U B.locs B.cells B.slots ∧ Post ⟨T.setVm vm₁, locs, cells, slots⟩ argsL.toArray v B ∧
      ∀ target, Steps p.tables e below (B.U.setTop { g with pc := g.pc + 3, stack := v.toList ++ rest }) target → Steps p.tables e below (T.setTop g) target := by
  obtain ⟨mk, methM, cM, hnamed, hmethM, -, -, -, -, -, -, hsigM⟩ := Cond.codeWith_spec hcode
  have hstatic : methM.isStatic = true := Cond.static_spec hnamed hmethM hstat
  obtain ⟨kP, hkP, -⟩ := className_of_methodNamed hnamed
  have hinitP : kP.init = .initialized := Cond.initialized_spec (findClass_of_methodNamed hnamed) hkP hinit
  obtain ⟨vm₁, X₁, hstep₁⟩ := X.invokestatic hexec hown hlink hnamed hmethM hstatic hkP hinitP hy (g := g) hg (argsL := argsL) (rest := rest) (hlen _ hsigM) hstack hdg
  obtain ⟨v, B, X', hpost, hsteps⟩ := hK m meth c ⟨T.setVm vm₁, locs, cells, slots⟩ { g with stack := rest } (.invokestatic index) mk argsL.toArray X₁ hg hsize hdg hW (X₁.named hnamed) (hpre vm₁ X₁.warmed)
  exact ⟨v, vm₁, B, X₁.warmed, X', hpost, fun target h => hstep₁ _ fun acts => by rw [doInvoke_state]; exact hsteps.trans h⟩
theorem vx_runSW {y : MethodName} {bytes cc : ByteArray} {maxL nL mc ms n index : Nat} {ret : Option FieldType} {hh : List (Nat × Nat × Nat × Nat)} {ws : List Cond} {rm : Room} {Pc : Array Value → State → Prop} {Qc : Array Value → State → Outcome → State → Prop} {free : Addr → Prop} {Ts : List Cond} {own : String} {As rest : List Value} {g : JFrame}
    (S : CallFix p m c cc nL s args Ts own) (hM : Met l y ws rm Pc Qc mc ms free) (cw : vx_CSW R s args own index y bytes maxL ret hh ws rm mc ms n) (hp : PreS s H Pc As)
    (hg : g.method = m) (hn : As.length = n) (hsize : g.locals.size = nL) (hstack : g.stack = As.reverse ++ rest) (hW : 2 * g.monitorRoom + (rest.map fun v => v.category).sum ≤ 8) (hdg : decode cc g.pc = .ok (.invokestatic index, 3)) (hf : cells + mc ≤ R.cells ∧ slots + ms ≤ R.slots) :
    va_Run p l e R s m args below meth c H locs cells slots mc ms g rest (Qc As.toArray) (free) := by
  obtain ⟨⟨hrc, hrs, hfr, hlo, hws, hcw⟩, hcode, hini, hy, hlen, hl, hstt⟩ := cw
  have hK : Back l R p e below s args y 3 8 (PreOf R mc ms Pc) (PostOf Qc mc ms free) := va_backW (hh := hh) (bytes := bytes) (maxL := maxL) (ret := ret) hM hp.1 hrc hrs hfr hlo hws hcw (fun a' U hW => word_at hW (Or.inl (by first | rfl | simp [Cond.onTables, Cond.keeps, Cond.steady])) hini)
  obtain ⟨hx, hb, hml, ho, -⟩ := S
  intro T hT X
  obtain ⟨v, vm₁, ⟨U', l2, c2, s2⟩, hW₁, X', ⟨g', mk, t, L, e1, e2, hq, h1, hL, h2, h3⟩, st⟩ := vx_callSW X hx (hh := hh) (bytes := bytes) (maxL := maxL) (ret := ret) ho hl hstt hini hcode hy hK hg (hsize.trans hml.symm) (argsL := As) (rest := rest) (fun sig h => hn.trans (hlen sig h)) hstack hW (by rw [hb]; exact hdg)
    (fun vm₁ hW₁ => ⟨hf.1, hf.2, hp.2 (T.setVm vm₁) hT hW₁⟩)
  dsimp only [Pt.U, Pt.locs, Pt.cells, Pt.slots] at X' e1 e2 h1 h2 h3 st
  subst h1; subst h2; subst h3
  exact ⟨v, (T.setVm vm₁).calling g' mk As.toArray, t, U', L, hT, X', hL, e1, e2, hq, st⟩
/-- not caught here, past rows that name other classes: it goes on to the caller -/
theorem vx_outP {p : Program} {l : Launch} {e : Env} {R : Room} {s : State} {m : MethodId} {args : Array Value} {below : List Frame} {meth : Method} {c : Code} {H : Heap} {locs : List Loc} {cells slots : Nat} {free : Addr → Prop} {ls : Array Slot} {rest : List Value} {Qc : Array Value → State → Outcome → State → Prop} {XC : String → State → State → Prop}
    {pc : Nat} {own E : String} {ce : Cell} {q : Addr} {mc ms : Nat} (hown : s.vm.findClass own = some m.cls) (hlocks : meth.locks = false)
    (hpass : ∀ z ∈ c.exceptionTable.toList, covers z pc = false ∨ (z.catchType ≠ 0 ∧ ∃ nm : String, (Cond.classLink own z.catchType nm).before args s = true ∧ va_Nc E nm s)) (hcell : H[q]? = some ce) (hv : ce.vm = .none) (hcl : s.vm.findClass E = some ce.cls)
    (hx : ∀ t : State, t.heap = H → s.vm.Alike t.vm → XC E s t) (hf : ∀ z ∈ locs, free z.base) (hc : cells ≤ mc) (hs : slots ≤ ms) :
    vx_W p l e R s m args below meth c H locs cells slots (vx_MQ below Qc XC args s mc ms free) (F0 m pc ls rest) q := by
  intro T hT X
  have hpl : e.platform.magicAccessors = ({} : Platform).magicAccessors := by rw [X.admits.platform]
  obtain ⟨vm', hW', X', st⟩ := X.outThrough hlocks q (g := F0 m pc ls rest) rfl rfl rfl (cell := ce) (by rw [hT]; exact hcell) (by rw [hv]; rfl)
    (by obtain ⟨k9, h9, -⟩ := Vm.findClass_spec hcl; exact ⟨k9, h9⟩) (fun z hz => by
      rcases hpass z hz with h | ⟨hz0, nm, hl1, hn1⟩
      · exact Or.inl h
      · obtain ⟨c6, hc6, hcl6⟩ := Cond.classLink_spec hown hl1 e.platform hpl
        obtain ⟨a8, b8, h1, h2, h3⟩ := hn1
        cases Option.some.inj (h1.symm.trans hcl)
        cases Option.some.inj (h2.symm.trans hc6)
        exact Or.inr ⟨hz0, _, hcl6, h3⟩)
  obtain ⟨g₀, hfr⟩ := X'.frames_eq
  have hcell9 : ((T.setVm vm').setFrames (.throwing q :: below)).heap[q]? = some ce := by
    show T.heap[q]? = some ce
    rw [hT]; exact hcell
  have hend : Ended ((T.setVm vm').setFrames (.throwing q :: below)) below (.threw q) := State.frames_setFrames _ (State.cur_lt_of_frames hfr)
  refine ⟨(T.setVm vm').setFrames (.throwing q :: below), ?_, .threw q, X'.here.running, hend, Or.inr ⟨q, rfl, E, ce, locs, hx _ hT (X'.ends _).1.alike, hcell9, hv, hcl, (X'.ends _).1, (X'.ends _).2.mono hc hs, hf⟩⟩
  rw [X.pushThrowing_eq]
  exact st
/-- a thing of a world lies in the heap -/
theorem vx_lt {D : va_G} {cl : List vw_C} {ws : va_W} {H1 : Heap} (h : va_P D cl ws H1) {k : Nat} {q : Nat × va_E} (hk : ws[k]? = some q) : q.1 < H1.size := (h k q hk).lt
end VXS
/-! ===== END ===== -/
/-! ===== BEGIN methods with a table of their own: called by a name, returning or throwing ===== -/
section VXH
/-! vx_backW, vx_callVX, vx_callSX, vx_callVW, vx_runVW, vx_runVX, vx_runSX, vx_ofWH follow the same proofs as their sisters above (Free/Laws.lean, Shelf42/LK1.lean); vx_outP calls Shelf42/NT130.lean (outThrough). -/
section
variable {l : Launch} {R : Room} {p : Program} {e : Env} {below : List Frame} {s : State} {sargs : Array Value} {y : MethodName} {len W9 : Nat}
theorem vx_backW {ws : List Cond} {rm : Room} {Pc : Array Value → State → Prop} {Qc : Array Value → State → Outcome → State → Prop} {XC : String → State → State → Prop} {mc ms : Nat} {free : Addr → Prop} {bytes : ByteArray} {maxL : Nat} {ret : Option FieldType} {hh : List (Nat × Nat × Nat × Nat)}
    (hM : vx_Met l y ws rm Pc Qc XC mc ms free) (hblind : FrameBlind Pc) (hrc : rm.cells = mc) (hrs : rm.slots = ms)
    (hframes : rm.frames + 1 ≤ R.frames) (hlocals : W9 + (maxL + 11) + rm.locals ≤ R.locals)
    (hws : ∀ w ∈ ws, ∀ a' U, s.WarmedH U.vm → w.before a' U = true) (hcode : Cond.codeWith y bytes maxL ret hh ∈ ws) (hinit : ∀ a' U, s.WarmedH U.vm → (Cond.initialized y.cls).before a' U = true) :
    vx_Back l R p e below s sargs y len W9 (PreOf R mc ms Pc) (PostOf Qc mc ms free) (vx_Post XC mc ms free) := by
  intro m meth c A g ig mk a X hg hsize hdg hW hn hp
  have h1 : (headSpec ws rm).pre.before a A.U = true := atoms_intro fun w hw => hws w hw _ _ X.warmed
  have h2 : (Cond.codeWith y bytes maxL ret hh).before a A.U = true := hws _ hcode _ _ X.warmed
  have h3 : (Cond.initialized y.cls).before a A.U = true := hinit _ _ X.warmed
  have h4 : A.cells + (headSpec ws rm).room.cells ≤ R.cells := by rw [show (headSpec ws rm).room.cells = mc from hrc]; exact hp.1
  have h5 : A.slots + (headSpec ws rm).room.slots ≤ R.slots := by rw [show (headSpec ws rm).room.slots = ms from hrs]; exact hp.2.1
  have hPc : Pc a (A.U.calling g mk a) := hblind _ _ _ _ hp.2.2
  obtain ⟨U, Ls, c0, s0⟩ := A
  dsimp only [Pt.U, Pt.locs, Pt.cells, Pt.slots] at h1 h2 h3 h4 h5 X hn hPc ⊢
  obtain ⟨m9, methY, cY, hn9, hmY, hcY, -, hlY, -⟩ := Cond.codeWith_spec h2
  cases Option.some.inj (hn9.symm.trans hn)
  obtain ⟨kY, hkY, -⟩ := className_of_methodNamed hn
  have hinitY : kY.init = .initialized := Cond.initialized_spec (findClass_of_methodNamed hn) hkY h3
  have h : At U g.method c below := by rw [hg]; exact X.here
  have hlocals9 : W9 + (maxL + 11) + (headSpec ws rm).room.locals ≤ R.locals := hlocals
  have happ : (headSpec ws rm).appliesLoose y e.platform (U.calling g mk a) = true :=
    Spec.appliesLoose_calling (g := g) h hdg hn hkY hinitY
      (X.room_calling (g := g) (R' := (headSpec ws rm).room) hsize hmY hcY hframes (by rw [hlY]; omega) h4 h5) h1
  obtain ⟨mid, hmid⟩ := h.above
  have hfr : (U.setTop g).frames = (.java g :: mid) ++ below := by rw [State.frames_setTop' g h.top, hmid]; rfl
  obtain ⟨o, s₂, hsteps, -, hend, hq⟩ := Steps.callFree hM p X.admits X.cas X.clock (acts := []) hfr happ hPc trivial
  have hq' : vx_Q Qc XC mc ms free a (U.calling g mk a) o s₂ := hq
  rw [State.frames_setTop' g h.top] at hend
  obtain ⟨g₀, hg0⟩ := Option.isSome_iff_exists.mp h.top
  obtain ⟨r, hr⟩ := State.topJava?_eq_some.mp hg0
  have hr' : (({ U with heap := s₂.heap, slotsUsed := s₂.slotsUsed } : State).setVm s₂.vm).frames = .java g₀ :: r := hr
  rcases hq' with ⟨hqc, L, hfe, hL⟩ | ⟨q, rfl, E, ce, L, hx, hce, hcv, hcl, hW₂, hsm, hL⟩
  · obtain ⟨⟨v, rfl⟩, hW₂, e2, q2, q3, q4, q5, q6⟩ := id hfe
    have e3 : s₂ = ({ (U.calling g mk a).setFrames s₂.frames with heap := s₂.heap, slotsUsed := s₂.slotsUsed } : State).setVm s₂.vm := by
      have : s₂ = ({ s₂ with vm := (U.calling g mk a).vm } : State).setVm s₂.vm := rfl
      rw [e2] at this
      exact this
    obtain ⟨c₂, i₂, len₂, hc₂, hd₂, hf₂⟩ := hend
    have hW' : U.WarmedH s₂.vm := hW₂
    have hcc : c₂ = c := by
      have h1 : s₂.code? g.method = U.code? g.method := by
        rw [State.code?_eq, State.code?_eq, hW'.alike.method?]
      exact Option.some.inj (hc₂.symm.trans (h1.trans h.code))
    subst hcc
    have hlen : len₂ = len := by rw [hdg] at hd₂; cases hd₂; rfl
    subst hlen
    have hs₂ : s₂ = (({ U with heap := s₂.heap, slotsUsed := s₂.slotsUsed } : State).setVm s₂.vm).setTop { g with pc := g.pc + len₂, stack := v.toList ++ g.stack } := by
      refine e3.trans ?_
      rw [hf₂, State.calling_eq h.top, State.setFrames_setFrames, State.setTop_of_frames _ hr', hr]
      rfl
    have hsame : U.sameButNew ({ U with heap := s₂.heap, slotsUsed := s₂.slotsUsed } : State) L mc ms := by
      refine ⟨?_, q2, q3, q4, q5, q6⟩
      obtain ⟨t, ht, -⟩ := State.frames_cons hr
      show ({ U with heap := s₂.heap, slotsUsed := s₂.slotsUsed } : State) = { U.setFrames U.frames with heap := s₂.heap, slotsUsed := s₂.slotsUsed }
      rw [State.setFrames_self ht]
    subst hg
    refine Or.inl ⟨v, ⟨(({ U with heap := s₂.heap, slotsUsed := s₂.slotsUsed } : State).setVm s₂.vm), Ls ++ L, c0 + mc, s0 + ms⟩,
      ⟨X.admits, X.cas, X.clock, X.frames, X.room, X.hears, X.method, X.code, (X.here.setHeapUsed s₂.heap s₂.slotsUsed).setVm hW'.alike, X.tail, State.WarmedH.trans X.warmed hW', X.limits, X.bytes, X.same.trans (hsame.setVm s.vm)⟩,
      ⟨g, mk, s₂, L, rfl, rfl, hqc, rfl, hL, rfl, rfl⟩, ?_⟩
    show Steps p.tables e below _ ((({ U with heap := s₂.heap, slotsUsed := s₂.slotsUsed } : State).setVm s₂.vm).setTop { g with pc := g.pc + len₂, stack := v.toList ++ g.stack })
    rw [← hs₂]
    exact hsteps
  · obtain ⟨e2, q2, q3, q4, q5, q6⟩ := id hsm
    have e3 : s₂ = ({ (U.calling g mk a).setFrames s₂.frames with heap := s₂.heap, slotsUsed := s₂.slotsUsed } : State).setVm s₂.vm := by
      have : s₂ = ({ s₂ with vm := (U.calling g mk a).vm } : State).setVm s₂.vm := rfl
      rw [e2] at this
      exact this
    have hf₂ : s₂.frames = .throwing q :: .java g :: U.frames.tail := hend
    have hW' : U.WarmedH s₂.vm := hW₂
    have hs₂ : s₂ = ((({ U with heap := s₂.heap, slotsUsed := s₂.slotsUsed } : State).setVm s₂.vm).setTop g).pushFrame (.throwing q) := by
      refine e3.trans ?_
      rw [hf₂, State.calling_eq h.top, State.setFrames_setFrames, State.pushFrame, State.frames_setTop _ hr', State.setTop_of_frames _ hr', State.setFrames_setFrames, hr]
      rfl
    have hsame : U.sameButNew ({ U with heap := s₂.heap, slotsUsed := s₂.slotsUsed } : State) L mc ms := by
      refine ⟨?_, q2, q3, q4, q5, q6⟩
      obtain ⟨t, ht, -⟩ := State.frames_cons hr
      show ({ U with heap := s₂.heap, slotsUsed := s₂.slotsUsed } : State) = { U.setFrames U.frames with heap := s₂.heap, slotsUsed := s₂.slotsUsed }
      rw [State.setFrames_self ht]
    subst hg
    refine Or.inr ⟨q, ⟨(({ U with heap := s₂.heap, slotsUsed := s₂.slotsUsed } : State).setVm s₂.vm), Ls ++ L, c0 + mc, s0 + ms⟩,
      ⟨X.admits, X.cas, X.clock, X.frames, X.room, X.hears, X.method, X.code, (X.here.setHeapUsed s₂.heap s₂.slotsUsed).setVm hW'.alike, X.tail, State.WarmedH.trans X.warmed hW', X.limits, X.bytes, X.same.trans (hsame.setVm s.vm)⟩,
      ⟨g, mk, s₂, L, E, ce, rfl, rfl, hx, hce, hcv, hcl, rfl, hL, rfl, rfl⟩, ?_⟩
    show Steps p.tables e below _ (((({ U with heap := s₂.heap, slotsUsed := s₂.slotsUsed } : State).setVm s₂.vm).setTop g).pushFrame (.throwing q))
    rw [← hs₂]
    exact hsteps
end
variable {p : Program} {l : Launch} {e : Env} {R : Room} {s : State} {m : MethodId} {args : Array Value} {below : List Frame} {meth : Method} {c : Code} {T : State} {H : Heap} {locs : List Loc} {cells slots : Nat}
theorem vx_callVX (X : Stand p l e R s m args below meth c T locs cells slots) (hexec : p.tables.exec = Jvm.exec) {own C : String} {index : Nat} {y : MethodName} {bytes : ByteArray} {maxL : Nat} {ret : Option FieldType} {hh : List (Nat × Nat × Nat × Nat)}
    (hown : s.vm.findClass own = some m.cls) (hlink : (Cond.methodLink own index y).before args s = true) (hinst : (Cond.instanceMethod y).before args s = true) (hsel : (Cond.selects C y y).before args s = true)
    (hcode : (Cond.codeWith y bytes maxL ret hh).before args s = true) (hy : y.cls ≠ "java/lang/invoke/MethodHandle" ∧ y.cls ≠ "java/lang/invoke/VarHandle")
    {W9 : Nat} {Pre : Pt → Array Value → Prop} {Post : Pt → Array Value → Option Value → Pt → Prop} {PostX : Pt → Array Value → Addr → Pt → Prop} (hK : vx_Back l R p e below s args y 3 W9 Pre Post PostX)
    {b : Addr} {cellB : Cell} (hcell : T.heap[b]? = some cellB) (hobj : cellB.vm.isStatics = false) (hcls : s.vm.findClass C = some cellB.cls)
    {g : JFrame} (hg : g.method = m) (hsize : g.locals.size = c.maxLocals) {argsL rest : List Value} (hlen : ∀ sig, parseMethodDescriptor y.desc = some sig → argsL.length = sig.parameters.length)
    (hstack : g.stack = argsL.reverse ++ .ref b :: rest) (hW : 2 * g.monitorRoom + (rest.map fun v => v.category).sum ≤ W9) (hdg : decode c.code g.pc = .ok (.invokevirtual index, 3))
    (hpre : ∀ vm₁, s.WarmedH vm₁ → Pre ⟨T.setVm vm₁, locs, cells, slots⟩ (Value.ref b :: argsL).toArray) :
    (∃ (v : Option Value) (vm₁ : Vm) (B : Pt), s.WarmedH vm₁ ∧ Stand p l e R s m args below meth c B.U B.locs B.cells B.slots ∧ Post ⟨T.setVm vm₁, locs, cells, slots⟩ (Value.ref b :: argsL).toArray v B ∧
      ∀ target, Steps p.tables e below (B.U.setTop { g with pc := g.pc + 3, stack := v.toList ++ rest }) target → Steps p.tables e below (T.setTop g) target) ∨
    (∃ (q : Addr) (vm₁ : Vm) (B : Pt), s.WarmedH vm₁ ∧ Stand p l e R s m args below meth c B.U B.locs B.cells B.slots ∧ PostX ⟨T.setVm vm₁, locs, cells, slots⟩ (Value.ref b :: argsL).toArray q B ∧
      Steps p.tables e below (T.setTop g) ((B.U.setTop { g with stack := rest }).pushFrame (.throwing q))) := by
  obtain ⟨mk, methM, hnamed, hmethM, hstM, habM⟩ := Cond.instanceMethod_spec hinst
  obtain ⟨m8, methM', cM, hn8, hmethM', -, -, -, -, -, -, hsigM⟩ := Cond.codeWith_spec hcode
  cases Option.some.inj (hn8.symm.trans hnamed)
  cases hmethM.symm.trans hmethM'
  obtain ⟨c2, r2, m2, q1, q2, q3, q4, kP, hkP, hkPi⟩ := Cond.selects_spec hsel
  cases hcls.symm.trans q1
  cases (State.methodFound?_of_named hnamed hy).symm.trans q2
  cases hnamed.symm.trans q3
  have hselP : selectMethod e.platform s.vm cellB.cls mk = .method mk := by rw [Launch.admits_selectMethod X.admits]; exact q4
  obtain ⟨vm₁, X₁, hstep₁⟩ := X.invokevirtual hexec hown hlink hnamed hmethM hstM hkP hkPi hy (a := b) (cell := cellB) hcell
    (fun z h => by rw [h] at hobj; cases hobj) hselP hmethM habM hkP hkPi (g := g) hg (argsL := argsL) (rest := rest) (hlen _ hsigM) hstack hdg
  rcases hK m meth c ⟨T.setVm vm₁, locs, cells, slots⟩ { g with stack := rest } (.invokevirtual index) mk (Value.ref b :: argsL).toArray X₁ hg hsize hdg hW (X₁.named hnamed) (hpre vm₁ X₁.warmed) with ⟨v, B, X', hpost, hsteps⟩ | ⟨q, B, X', hpost, hsteps⟩
  · exact Or.inl ⟨v, vm₁, B, X₁.warmed, X', hpost, fun target h => hstep₁ _ fun acts => by rw [doInvoke_state]; exact hsteps.trans h⟩
  · exact Or.inr ⟨q, vm₁, B, X₁.warmed, X', hpost, hstep₁ _ fun acts => by rw [doInvoke_state]; exact hsteps⟩
theorem vx_callSX (X : Stand p l e R s m args below meth c T locs cells slots) (hexec : p.tables.exec = Jvm.exec) {own : String} {index : Nat} {y : MethodName} {bytes : ByteArray} {maxL : Nat} {ret : Option FieldType} {hh : List (Nat × Nat × Nat × Nat)}
    (hown : s.vm.findClass own = some m.cls) (hlink : (Cond.methodLink own index y).before args s = true) (hstat : (Cond.static y).before args s = true) (hinit : (Cond.initialized y.cls).before args s = true)
    (hcode : (Cond.codeWith y bytes maxL ret hh).before args s = true) (hy : y.cls ≠ "java/lang/invoke/MethodHandle" ∧ y.cls ≠ "java/lang/invoke/VarHandle")
    {W9 : Nat} {Pre : Pt → Array Value → Prop} {Post : Pt → Array Value → Option Value → Pt → Prop} {PostX : Pt → Array Value → Addr → Pt → Prop} (hK : vx_Back l R p e below s args y 3 W9 Pre Post PostX)
    {g : JFrame} (hg : g.method = m) (hsize : g.locals.size = c.maxLocals) {argsL rest : List Value} (hlen : ∀ sig, parseMethodDescriptor y.desc = some sig → argsL.length = sig.parameters.length)
    (hstack : g.stack = argsL.reverse ++ rest) (hW : 2 * g.monitorRoom + (rest.map fun v => v.category).sum ≤ W9) (hdg : decode c.code g.pc = .ok (.invokestatic index, 3))
    (hpre : ∀ vm₁, s.WarmedH vm₁ → Pre ⟨T.setVm vm₁, locs, cells, slots⟩ argsL.toArray) :
    (∃ (v : Option Value) (vm₁ : Vm) (B : Pt), s.WarmedH vm₁ ∧ Stand p l e R s m args below meth c B.U B.locs B.cells B.slots ∧ Post ⟨T.setVm vm₁, locs, cells, slots⟩ argsL.toArray v B ∧
      ∀ target, Steps p.tables e below (B.U.setTop { g with pc := g.pc + 3, stack := v.toList ++ rest }) target → Steps p.tables e below (T.setTop g) target) ∨
    (∃ (q : Addr) (vm₁ : Vm) (B : Pt), s.WarmedH vm₁ ∧ Stand p l e R s m args below meth c B.U B.locs B.cells B.slots ∧ PostX ⟨T.setVm vm₁, locs, cells, slots⟩ argsL.toArray q B ∧
      Steps p.tables e below (T.setTop g) ((B.U.setTop { g with stack := rest }).pushFrame (.throwing q))) := by
  obtain ⟨mk, methM, cM, hnamed, hmethM, -, -, -, -, -, -, hsigM⟩ := Cond.codeWith_spec hcode
  have hstatic : methM.isStatic = true := Cond.static_spec hnamed hmethM hstat
  obtain ⟨kP, hkP, -⟩ := className_of_methodNamed hnamed
  have hinitP : kP.init = .initialized := Cond.initialized_spec (findClass_of_methodNamed hnamed) hkP hinit
  obtain ⟨vm₁, X₁, hstep₁⟩ := X.invokestatic hexec hown hlink hnamed hmethM hstatic hkP hinitP hy (g := g) hg (argsL := argsL) (rest := rest) (hlen _ hsigM) hstack hdg
  rcases hK m meth c ⟨T.setVm vm₁, locs, cells, slots⟩ { g with stack := rest } (.invokestatic index) mk argsL.toArray X₁ hg hsize hdg hW (X₁.named hnamed) (hpre vm₁ X₁.warmed) with ⟨v, B, X', hpost, hsteps⟩ | ⟨q, B, X', hpost, hsteps⟩
  · exact Or.inl ⟨v, vm₁, B, X₁.warmed, X', hpost, fun target h => hstep₁ _ fun acts => by rw [doInvoke_state]; exact hsteps.trans h⟩
  · exact Or.inr ⟨q, vm₁, B, X₁.warmed, X', hpost, hstep₁ _ fun acts => by rw [doInvoke_state]; exact hsteps⟩
theorem vx_callVW (X : Stand p l e R s m args below meth c T locs cells slots) (hexec : p.tables.exec = Jvm.exec) {own C : String} {index : Nat} {y : MethodName} {bytes : ByteArray} {maxL : Nat} {ret : Option FieldType} {hh : List (Nat × Nat × Nat × Nat)}
    (hown : s.vm.findClass own = some m.cls) (hlink : (Cond.methodLink own index y).before args s = true) (hinst : (Cond.instanceMethod y).before args s = true) (hsel : (Cond.selects C y y).before args s = true)
    (hcode : (Cond.codeWith y bytes maxL ret hh).before args s = true) (hy : y.cls ≠ "java/lang/invoke/MethodHandle" ∧ y.cls ≠ "java/lang/invoke/VarHandle")
    {W9 : Nat} {Pre : Pt → Array Value → Prop} {Post : Pt → Array Value → Option Value → Pt → Prop} (hK : Back l R p e below s args y 3 W9 Pre Post)
    {b : Addr} {cellB : Cell} (hcell : T.heap[b]? = some cellB) (hobj : cellB.vm.isStatics = false) (hcls : s.vm.findClass C = some cellB.cls)
    {g : JFrame} (hg : g.method = m) (hsize : g.locals.size = c.maxLocals) {argsL rest : List Value} (hlen : ∀ sig, parseMethodDescriptor y.desc = some sig → argsL.length = sig.parameters.length)
    (hstack : g.stack = argsL.reverse ++ .ref b :: rest) (hW : 2 * g.monitorRoom + (rest.map fun v => v.category).sum ≤ W9) (hdg : decode c.code g.pc = .ok (.invokevirtual index, 3))
    (hpre : ∀ vm₁, s.WarmedH vm₁ → Pre ⟨T.setVm vm₁, locs, cells, slots⟩ (Value.ref b :: argsL).toArray) :
    ∃ (v : Option Value) (vm₁ : Vm) (B : Pt), s.WarmedH vm₁ ∧ Stand p l e R s m args below meth c B.U B.locs B.cells B.slots ∧ Post ⟨T.setVm vm₁, locs, cells, slots⟩ (Value.ref b :: argsL).toArray v B ∧
      ∀ target, Steps p.tables e below (B.U.setTop { g with pc := g.pc + 3, stack := v.toList ++ rest }) target → Steps p.tables e below (T.setTop g) target := by
  obtain ⟨mk, methM, hnamed, hmethM, hstM, habM⟩ := Cond.instanceMethod_spec hinst
  obtain ⟨m8, methM', cM, hn8, hmethM', -, -, -, -, -, -, hsigM⟩ := Cond.codeWith_spec hcode
  cases Option.some.inj (hn8.symm.trans hnamed)
  cases hmethM.symm.trans hmethM'
  obtain ⟨c2, r2, m2, q1, q2, q3, q4, kP, hkP, hkPi⟩ := Cond.selects_spec hsel
  cases hcls.symm.trans q1
  cases (State.methodFound?_of_named hnamed hy).symm.trans q2
  cases hnamed.symm.trans q3
  have hselP : selectMethod e.platform s.vm cellB.cls mk = .method mk := by rw [Launch.admits_selectMethod X.admits]; exact q4
  obtain ⟨vm₁, X₁, hstep₁⟩ := X.invokevirtual hexec hown hlink hnamed hmethM hstM hkP hkPi hy (a := b) (cell := cellB) hcell
    (fun z h => by rw [h] at hobj; cases hobj) hselP hmethM habM hkP hkPi (g := g) hg (argsL := argsL) (rest := rest) (hlen _ hsigM) hstack hdg
  obtain ⟨v, B, X', hpost, hsteps⟩ := hK m meth c ⟨T.setVm vm₁, locs, cells, slots⟩ { g with stack := rest } (.invokevirtual index) mk (Value.ref b :: argsL).toArray X₁ hg hsize hdg hW (X₁.named hnamed) (hpre vm₁ X₁.warmed)
  exact ⟨v, vm₁, B, X₁.warmed, X', hpost, fun target h => hstep₁ _ fun acts => by rw [doInvoke_state]; exact hsteps.trans h⟩
abbrev vx_CVW (R : Room) (s : State) (args : Array Value) (own C : String) (index : Nat) (y : MethodName) (bytes : ByteArray) (maxL : Nat) (ret : Option FieldType) (hh : List (Nat × Nat × Nat × Nat)) (ws : List Cond) (rm : Room) (mc ms n : Nat) : Prop :=
  (rm.cells = mc ∧ rm.slots = ms ∧ rm.frames + 1 ≤ R.frames ∧ 8 + (maxL + 11) + rm.locals ≤ R.locals ∧ (∀ w ∈ ws, ∀ (a' : Array Value) (U : State), s.WarmedH U.vm → w.before a' U = true) ∧ Cond.codeWith y bytes maxL ret hh ∈ ws) ∧
  (Cond.codeWith y bytes maxL ret hh).before args s = true ∧ (Cond.initialized y.cls).before args s = true ∧ (y.cls ≠ "java/lang/invoke/MethodHandle" ∧ y.cls ≠ "java/lang/invoke/VarHandle") ∧
  (∀ sig, parseMethodDescriptor y.desc = some sig → n = sig.parameters.length) ∧ (Cond.methodLink own index y).before args s = true ∧ (Cond.instanceMethod y).before args s = true ∧ (Cond.selects C y y).before args s = true
theorem vx_cwVW {own C : String} {index maxL mc ms : Nat} {y : MethodName} {bytes : ByteArray} {ret : Option FieldType} {hh : List (Nat × Nat × Nat × Nat)} {Ts ws ws' : List Cond} {rm : Room} (n : Nat) (ht : ∀ w ∈ Ts, w.before args s = true) (hT : GoodIn Ts (wsV own index C y ws)) (hw : ws = Cond.codeWith y bytes maxL ret hh :: ws') (hrc : rm.cells = mc) (hrs : rm.slots = ms)
    (hd : y.cls = C ∧ y.cls ≠ "java/lang/invoke/MethodHandle" ∧ y.cls ≠ "java/lang/invoke/VarHandle" ∧ (parseMethodDescriptor y.desc).map (fun d => d.parameters.length) = some n) (hR : rm.frames + 1 ≤ R.frames ∧ 8 + (maxL + 11) + rm.locals ≤ R.locals) :
    vx_CVW R s args own C index y bytes maxL ret hh ws rm mc ms n := by
  obtain ⟨hC, hd⟩ := hd
  subst hC
  have ok : ∀ w ∈ wsV own index y.cls y ws, w.before args s = true := fun w h => ht w (hT w h).1
  have hG : GoodIn Ts ws := fun w h => hT w (by unfold wsV; exact List.mem_append_right _ h)
  have hc : Cond.codeWith y bytes maxL ret hh ∈ ws := by rw [hw]; exact List.mem_cons_self
  refine ⟨⟨hrc, hrs, hR.1, hR.2, pay_in ht hG, hc⟩, ht _ (hG _ hc).1, ok _ (by simp [wsV]), ⟨hd.1, hd.2.1⟩, fun sig h => ?_, ok _ (by simp [wsV]), ok _ (by simp [wsV]), ok _ (by simp [wsV])⟩
  have h2 := hd.2.2
  rw [h] at h2
  exact (Option.some.inj h2).symm
theorem vx_runVW {y : MethodName} {bytes cc : ByteArray} {maxL nL mc ms n index : Nat} {ret : Option FieldType} {hh : List (Nat × Nat × Nat × Nat)} {ws : List Cond} {rm : Room} {Pc : Array Value → State → Prop} {Qc : Array Value → State → Outcome → State → Prop} {free : Addr → Prop} {Ts : List Cond} {own C : String} {b : Addr} {As rest : List Value} {g : JFrame}
    (S : CallFix p m c cc nL s args Ts own) (hM : Met l y ws rm Pc Qc mc ms free) (cw : vx_CVW R s args own C index y bytes maxL ret hh ws rm mc ms n) (hp : PreV s H C b Pc As)
    (hg : g.method = m) (hn : As.length = n) (hsize : g.locals.size = nL) (hstack : g.stack = As.reverse ++ .ref b :: rest) (hW : 2 * g.monitorRoom + (rest.map fun v => v.category).sum ≤ 8) (hdg : decode cc g.pc = .ok (.invokevirtual index, 3)) (hf : cells + mc ≤ R.cells ∧ slots + ms ≤ R.slots) :
    va_Run p l e R s m args below meth c H locs cells slots mc ms g rest (Qc (Value.ref b :: As).toArray) free := by
  obtain ⟨⟨hrc, hrs, hfr, hlo, hws, hcw⟩, hcode, hini, hy, hlen, hl, hin, hse⟩ := cw
  have hK : Back l R p e below s args y 3 8 (PreOf R mc ms Pc) (PostOf Qc mc ms free) := va_backW (hh := hh) (bytes := bytes) (maxL := maxL) (ret := ret) hM hp.1 hrc hrs hfr hlo hws hcw (fun a' U hW => word_at hW (Or.inl (by first | rfl | simp [Cond.onTables, Cond.keeps, Cond.steady])) hini)
  obtain ⟨hx, hb, hml, ho, -⟩ := S
  obtain ⟨-, ⟨cellB, hcB, hoB, hclB⟩, hPc⟩ := hp
  intro T hT X
  obtain ⟨v, vm₁, ⟨U', l2, c2, s2⟩, hW₁, X', ⟨g', mk, t, L, e1, e2, hq, h1, hL, h2, h3⟩, st⟩ := vx_callVW X hx (C := C) (hh := hh) (bytes := bytes) (maxL := maxL) (ret := ret) ho hl hin hse hcode hy hK (by rw [hT]; exact hcB) hoB hclB hg (hsize.trans hml.symm) (argsL := As) (rest := rest) (fun sig h => hn.trans (hlen sig h)) hstack hW (by rw [hb]; exact hdg)
    (fun vm₁ hW₁ => ⟨hf.1, hf.2, hPc (T.setVm vm₁) hT hW₁⟩)
  dsimp only [Pt.U, Pt.locs, Pt.cells, Pt.slots] at X' e1 e2 h1 h2 h3 st
  subst h1; subst h2; subst h3
  exact ⟨v, (T.setVm vm₁).calling g' mk (Value.ref b :: As).toArray, t, U', L, hT, X', hL, e1, e2, hq, st⟩
section
variable {y : MethodName} {bytes cc : ByteArray} {maxL nL mc ms n index : Nat} {ret : Option FieldType} {ws : List Cond} {rm : Room} {Pc : Array Value → State → Prop} {Qc : Array Value → State → Outcome → State → Prop} {XC : String → State → State → Prop} {free : Addr → Prop} {Ts : List Cond} {own C : String} {b : Addr} {As rest : List Value} {g : JFrame}
theorem vx_runVX {hh : List (Nat × Nat × Nat × Nat)} (S : CallFix p m c cc nL s args Ts own) (hM : vx_Met l y ws rm Pc Qc XC mc ms free) (cw : vx_CVW R s args own C index y bytes maxL ret hh ws rm mc ms n) (hp : PreV s H C b Pc As)
    (hg : g.method = m) (hn : As.length = n) (hsize : g.locals.size = nL) (hstack : g.stack = As.reverse ++ .ref b :: rest) (hW : 2 * g.monitorRoom + (rest.map fun v => v.category).sum ≤ 8) (hdg : decode cc g.pc = .ok (.invokevirtual index, 3)) (hf : cells + mc ≤ R.cells ∧ slots + ms ≤ R.slots) :
    vx_Run p l e R s m args below meth c H locs cells slots mc ms g rest (Qc (Value.ref b :: As).toArray) XC free := by
  obtain ⟨⟨hrc, hrs, hfr, hlo, hws, hcw⟩, hcode, hini, hy, hlen, hl, hin, hse⟩ := cw
  have hK : vx_Back l R p e below s args y 3 8 (PreOf R mc ms Pc) (PostOf Qc mc ms free) (vx_Post XC mc ms free) := vx_backW (hh := hh) (bytes := bytes) (maxL := maxL) (ret := ret) hM hp.1 hrc hrs hfr hlo hws hcw (fun a' U hW => word_at hW (Or.inl (by first | rfl | simp [Cond.onTables, Cond.keeps, Cond.steady])) hini)
  obtain ⟨hx, hb, hml, ho, -⟩ := S
  obtain ⟨-, ⟨cellB, hcB, hoB, hclB⟩, hPc⟩ := hp
  intro T hT X
  rcases vx_callVX X hx (C := C) (hh := hh) (bytes := bytes) (maxL := maxL) (ret := ret) ho hl hin hse hcode hy hK (by rw [hT]; exact hcB) hoB hclB hg (hsize.trans hml.symm) (argsL := As) (rest := rest) (fun sig h => hn.trans (hlen sig h)) hstack hW (by rw [hb]; exact hdg)
    (fun vm₁ hW₁ => ⟨hf.1, hf.2, hPc (T.setVm vm₁) hT hW₁⟩) with ⟨v, vm₁, ⟨U', l2, c2, s2⟩, hW₁, X', ⟨g', mk, t, L, e1, e2, hq, h1, hL, h2, h3⟩, st⟩ | ⟨q, vm₁, ⟨U', l2, c2, s2⟩, hW₁, X', ⟨g', mk, t, L, E, ce, e1, e2, hq, hce, hcv, hcl, h1, hL, h2, h3⟩, st⟩
  · dsimp only [Pt.U, Pt.locs, Pt.cells, Pt.slots] at X' e1 e2 h1 h2 h3 st
    subst h1; subst h2; subst h3
    exact Or.inl ⟨v, (T.setVm vm₁).calling g' mk (Value.ref b :: As).toArray, t, U', L, hT, X', hL, e1, e2, hq, st⟩
  · dsimp only [Pt.U, Pt.locs, Pt.cells, Pt.slots] at X' e1 e2 h1 h2 h3 st hcl
    subst h1; subst h2; subst h3
    exact Or.inr ⟨q, (T.setVm vm₁).calling g' mk (Value.ref b :: As).toArray, t, U', L, E, ce, hT, X', hL, e1, e2, hq, hce, hcv, vx_cls hW₁ hcl, st⟩
theorem vx_runSX {hh : List (Nat × Nat × Nat × Nat)} (S : CallFix p m c cc nL s args Ts own) (hM : vx_Met l y ws rm Pc Qc XC mc ms free) (cw : vx_CSW R s args own index y bytes maxL ret hh ws rm mc ms n) (hp : PreS s H Pc As)
    (hg : g.method = m) (hn : As.length = n) (hsize : g.locals.size = nL) (hstack : g.stack = As.reverse ++ rest) (hW : 2 * g.monitorRoom + (rest.map fun v => v.category).sum ≤ 8) (hdg : decode cc g.pc = .ok (.invokestatic index, 3)) (hf : cells + mc ≤ R.cells ∧ slots + ms ≤ R.slots) :
    vx_Run p l e R s m args below meth c H locs cells slots mc ms g rest (Qc As.toArray) XC free := by
  obtain ⟨⟨hrc, hrs, hfr, hlo, hws, hcw⟩, hcode, hini, hy, hlen, hl, hstt⟩ := cw
  have hK : vx_Back l R p e below s args y 3 8 (PreOf R mc ms Pc) (PostOf Qc mc ms free) (vx_Post XC mc ms free) := vx_backW (hh := hh) (bytes := bytes) (maxL := maxL) (ret := ret) hM hp.1 hrc hrs hfr hlo hws hcw (fun a' U hW => word_at hW (Or.inl (by first | rfl | simp [Cond.onTables, Cond.keeps, Cond.steady])) hini)
  obtain ⟨hx, hb, hml, ho, -⟩ := S
  intro T hT X
  rcases vx_callSX X hx (hh := hh) (bytes := bytes) (maxL := maxL) (ret := ret) ho hl hstt hini hcode hy hK hg (hsize.trans hml.symm) (argsL := As) (rest := rest) (fun sig h => hn.trans (hlen sig h)) hstack hW (by rw [hb]; exact hdg)
    (fun vm₁ hW₁ => ⟨hf.1, hf.2, hp.2 (T.setVm vm₁) hT hW₁⟩) with ⟨v, vm₁, ⟨U', l2, c2, s2⟩, hW₁, X', ⟨g', mk, t, L, e1, e2, hq, h1, hL, h2, h3⟩, st⟩ | ⟨q, vm₁, ⟨U', l2, c2, s2⟩, hW₁, X', ⟨g', mk, t, L, E, ce, e1, e2, hq, hce, hcv, hcl, h1, hL, h2, h3⟩, st⟩
  · dsimp only [Pt.U, Pt.locs, Pt.cells, Pt.slots] at X' e1 e2 h1 h2 h3 st
    subst h1; subst h2; subst h3
    exact Or.inl ⟨v, (T.setVm vm₁).calling g' mk As.toArray, t, U', L, hT, X', hL, e1, e2, hq, st⟩
  · dsimp only [Pt.U, Pt.locs, Pt.cells, Pt.slots] at X' e1 e2 h1 h2 h3 st hcl
    subst h1; subst h2; subst h3
    exact Or.inr ⟨q, (T.setVm vm₁).calling g' mk As.toArray, t, U', L, E, ce, hT, X', hL, e1, e2, hq, hce, hcv, vx_cls hW₁ hcl, st⟩
end
end VXH
theorem vx_ofWH {l : Launch} {y : MethodName} {ws ws' : List Cond} {rm : Room} {Pc : Array Value → State → Prop} {Qc : Array Value → State → Outcome → State → Prop} {XC : String → State → State → Prop} {mc ms : Nat} {free : Addr → Prop} {cc : ByteArray} {maxL : Nat} {ret : Option FieldType} {hh : List (Nat × Nat × Nat × Nat)}
    (hy : plainName y.cls = true) (hw : ws = Cond.codeWith y cc maxL ret hh :: ws')
    (body : ∀ p e s m args below meth c s₁, BodyLoose p l y (headSpec ws rm) cc maxL ret e s m args below meth c s₁ → c.maxLocals = maxL → Pc args s →
      W p l e (headSpec ws rm).room s m args below meth c s.heap [] 0 0 (vx_MQ below Qc XC args s mc ms free) (entryFrame m args maxL)) : vx_Met l y ws rm Pc Qc XC mc ms free := by
  refine MetFree.of_bodyS (code := cc) (maxLocals := maxL) (ret := ret) hy ?_ ?_
  · intro args s m h hn
    obtain ⟨m9, meth, c, hn9, h1, h2, h3, h4, -, h5, h6, -⟩ := Cond.codeWith_spec (atoms_spec (ws := ws) h _ (by rw [hw]; exact List.mem_cons_self))
    cases hn.symm.trans hn9
    exact ⟨meth, c, h1, h2, h3, h4, h5, h6⟩
  · intro p e s m args below meth c s₁ B hml hP _
    have hh0 : s₁.heap = s.heap := by rw [B.state]; rfl
    obtain ⟨t, a1, o, b1, b2, b3⟩ := body p e s m args below meth c s₁ B hml hP s₁ hh0 (Stand.of_body B)
    exact ⟨t, o, a1, b1, b2, b3⟩
/-! ===== END ===== -/
/-! ===== BEGIN a constructor that throws (launches without stack traces) ===== -/
section VXIA
variable {p : Program} {l : Launch} {e : Env} {R : Room} {s : State} {m : MethodId} {args : Array Value} {below : List Frame} {meth : Method} {c : Code} {T : State} {locs : List Loc} {cells slots : Nat}
theorem vx_callI (X : Stand p l e R s m args below meth c T locs cells slots) (hexec : p.tables.exec = Jvm.exec) {own : String} {index : Nat} {y : MethodName} {bytes : ByteArray} {maxL : Nat}
    (hown : s.vm.findClass own = some m.cls) (hy1 : y.name = "<init>") (hlink : (Cond.methodLink own index y).before args s = true) (hinst : (Cond.instanceMethod y).before args s = true)
    (hcode : (Cond.code y bytes maxL none).before args s = true) (hy : y.cls ≠ "java/lang/invoke/MethodHandle" ∧ y.cls ≠ "java/lang/invoke/VarHandle")
    {W9 : Nat} {Pre : Pt → Array Value → Prop} {Post : Pt → Array Value → Option Value → Pt → Prop} {PostX : Pt → Array Value → Addr → Pt → Prop} (hK : vx_Back l R p e below s args y 3 W9 Pre Post PostX)
    {g : JFrame} (hg : g.method = m) (hsize : g.locals.size = c.maxLocals) {a : Addr} {argsL rest : List Value} (hlen : ∀ sig, parseMethodDescriptor y.desc = some sig → argsL.length = sig.parameters.length)
    (hstack : g.stack = argsL.reverse ++ .ref a :: rest) (hW : 2 * g.monitorRoom + (rest.map fun v => v.category).sum ≤ W9) (hdg : decode c.code g.pc = .ok (.invokespecial index, 3))
    (hpre : ∀ vm₁, s.WarmedH vm₁ → Pre ⟨T.setVm vm₁, locs, cells, slots⟩ (Value.ref a :: argsL).toArray) :
    (∃ (v : Option Value) (vm₁ : Vm) (B : Pt), s.WarmedH vm₁ ∧ Stand p l e R s m args below meth c B.U B.locs B.cells B.slots ∧ Post ⟨T.setVm vm₁, locs, cells, slots⟩ (Value.ref a :: argsL).toArray v B ∧
      ∀ target, Steps p.tables e below (B.U.setTop { g with pc := g.pc + 3, stack := v.toList ++ rest }) target → Steps p.tables e below (T.setTop g) target) ∨
    (∃ (q : Addr) (vm₁ : Vm) (B : Pt), s.WarmedH vm₁ ∧ Stand p l e R s m args below meth c B.U B.locs B.cells B.slots ∧ PostX ⟨T.setVm vm₁, locs, cells, slots⟩ (Value.ref a :: argsL).toArray q B ∧
      Steps p.tables e below (T.setTop g) ((B.U.setTop { g with stack := rest }).pushFrame (.throwing q))) := by
  subst hg
  have hpl : e.platform.magicAccessors = ({} : Platform).magicAccessors := by rw [X.admits.platform]
  obtain ⟨mk, methM, cM, kP, vm₁, hnamed, hmethM, hcodeM, -, hlocalsM, -, hkP, -, hW₁, hstep₁⟩ := Steps.initColdArgs (e := e) X.here hexec X.warmed hpl hown hy1 hy hlink hinst hcode (f := g) rfl hlen hstack hdg
  have X₁ := X.noted hW₁
  rcases hK g.method meth c ⟨T.setVm vm₁, locs, cells, slots⟩ { g with stack := rest } (.invokespecial index) mk (Value.ref a :: argsL).toArray X₁ rfl hsize hdg hW (X₁.named hnamed) (hpre vm₁ X₁.warmed) with ⟨v, B, X', hpost, hsteps⟩ | ⟨q, B, X', hpost, hsteps⟩
  · exact Or.inl ⟨v, vm₁, B, X₁.warmed, X', hpost, fun target h => hstep₁ _ fun acts => by rw [doInvoke_state]; exact hsteps.trans h⟩
  · exact Or.inr ⟨q, vm₁, B, X₁.warmed, X', hpost, hstep₁ _ fun acts => by rw [doInvoke_state]; exact hsteps⟩
end VXIA
section VXIB
variable {p : Program} {l : Launch} {e : Env} {R : Room} {s : State} {m : MethodId} {args : Array Value} {below : List Frame} {meth : Method} {c : Code} {H : Heap} {locs : List Loc} {cells slots : Nat}
variable {y : MethodName} {bytes cc : ByteArray} {maxL nL mc ms n index : Nat} {ret : Option FieldType} {ws : List Cond} {rm : Room} {Pc : Array Value → State → Prop} {Qc : Array Value → State → Outcome → State → Prop} {XC : String → State → State → Prop} {free : Addr → Prop} {Ts : List Cond} {own C : String} {b : Addr} {As rest : List Value} {g : JFrame}
theorem vx_runI (S : CallFix p m c cc nL s args Ts own) (hM : vx_Met l y ws rm Pc Qc XC mc ms free) (cw : CallB R s args own index y bytes maxL none ws rm mc ms n ∧ y.name = "<init>" ∧ (Cond.instanceMethod y).before args s = true) (hp : PreS s H Pc (.ref b :: As))
    (hg : g.method = m) (hn : As.length = n) (hsize : g.locals.size = nL) (hstack : g.stack = As.reverse ++ .ref b :: rest) (hW : 2 * g.monitorRoom + (rest.map fun v => v.category).sum ≤ 8) (hdg : decode cc g.pc = .ok (.invokespecial index, 3)) (hf : cells + mc ≤ R.cells ∧ slots + ms ≤ R.slots) :
    vx_Run p l e R s m args below meth c H locs cells slots mc ms g rest (Qc (Value.ref b :: As).toArray) XC free := by
  have hK : vx_Back l R p e below s args y 3 8 (PreOf R mc ms Pc) (PostOf Qc mc ms free) (vx_Post XC mc ms free) := vx_callBack cw.1 hM hp.1
  obtain ⟨⟨-, -, -, -, -, -, hcode, -, hy, hlen, hl⟩, hy1, hin⟩ := cw
  obtain ⟨hx, hb, hml, ho, -⟩ := S
  have hPc := hp.2
  intro T hT X
  rcases vx_callI X hx (bytes := bytes) (maxL := maxL) ho hy1 hl hin hcode hy hK hg (hsize.trans hml.symm) (a := b) (argsL := As) (rest := rest) (fun sig h => hn.trans (hlen sig h)) hstack hW (by rw [hb]; exact hdg)
    (fun vm₁ hW₁ => ⟨hf.1, hf.2, hPc (T.setVm vm₁) hT hW₁⟩) with ⟨v, vm₁, ⟨U', l2, c2, s2⟩, hW₁, X', ⟨g', mk, t, L, e1, e2, hq, h1, hL, h2, h3⟩, st⟩ | ⟨q, vm₁, ⟨U', l2, c2, s2⟩, hW₁, X', ⟨g', mk, t, L, E, ce, e1, e2, hq, hce, hcv, hcl, h1, hL, h2, h3⟩, st⟩
  · dsimp only [Pt.U, Pt.locs, Pt.cells, Pt.slots] at X' e1 e2 h1 h2 h3 st
    subst h1; subst h2; subst h3
    exact Or.inl ⟨v, (T.setVm vm₁).calling g' mk (Value.ref b :: As).toArray, t, U', L, hT, X', hL, e1, e2, hq, st⟩
  · dsimp only [Pt.U, Pt.locs, Pt.cells, Pt.slots] at X' e1 e2 h1 h2 h3 st hcl
    subst h1; subst h2; subst h3
    exact Or.inr ⟨q, (T.setVm vm₁).calling g' mk (Value.ref b :: As).toArray, t, U', L, E, ce, hT, X', hL, e1, e2, hq, hce, hcv, vx_cls hW₁ hcl, st⟩
end VXIB
/-! ===== END ===== -/
/-! ===== BEGIN a private constructor of a nest mate that throws ===== -/
section VXIC
variable {p : Program} {l : Launch} {e : Env} {R : Room} {s : State} {m : MethodId} {args : Array Value} {below : List Frame} {meth : Method} {c : Code} {T : State} {locs : List Loc} {cells slots : Nat}
theorem vx_callIN (X : Stand p l e R s m args below meth c T locs cells slots) (hexec : p.tables.exec = Jvm.exec) {own : String} {index : Nat} {host : String} {y : MethodName} {bytes : ByteArray} {maxL : Nat}
    (hown : s.vm.findClass own = some m.cls) (hy1 : y.name = "<init>") (hlink : (Cond.methodLinkNest own index y host).before args s = true) (hinst : (Cond.instanceMethod y).before args s = true)
    (hcode : (Cond.code y bytes maxL none).before args s = true) (hy : y.cls ≠ "java/lang/invoke/MethodHandle" ∧ y.cls ≠ "java/lang/invoke/VarHandle")
    {W9 : Nat} {Pre : Pt → Array Value → Prop} {Post : Pt → Array Value → Option Value → Pt → Prop} {PostX : Pt → Array Value → Addr → Pt → Prop} (hK : vx_Back l R p e below s args y 3 W9 Pre Post PostX)
    {g : JFrame} (hg : g.method = m) (hsize : g.locals.size = c.maxLocals) {a : Addr} {argsL rest : List Value} (hlen : ∀ sig, parseMethodDescriptor y.desc = some sig → argsL.length = sig.parameters.length)
    (hstack : g.stack = argsL.reverse ++ .ref a :: rest) (hW : 2 * g.monitorRoom + (rest.map fun v => v.category).sum ≤ W9) (hdg : decode c.code g.pc = .ok (.invokespecial index, 3))
    (hpre : ∀ vm₁, s.WarmedH vm₁ → Pre ⟨T.setVm vm₁, locs, cells, slots⟩ (Value.ref a :: argsL).toArray) :
    (∃ (v : Option Value) (vm₁ : Vm) (B : Pt), s.WarmedH vm₁ ∧ Stand p l e R s m args below meth c B.U B.locs B.cells B.slots ∧ Post ⟨T.setVm vm₁, locs, cells, slots⟩ (Value.ref a :: argsL).toArray v B ∧
      ∀ target, Steps p.tables e below (B.U.setTop { g with pc := g.pc + 3, stack := v.toList ++ rest }) target → Steps p.tables e below (T.setTop g) target) ∨
    (∃ (q : Addr) (vm₁ : Vm) (B : Pt), s.WarmedH vm₁ ∧ Stand p l e R s m args below meth c B.U B.locs B.cells B.slots ∧ PostX ⟨T.setVm vm₁, locs, cells, slots⟩ (Value.ref a :: argsL).toArray q B ∧
      Steps p.tables e below (T.setTop g) ((B.U.setTop { g with stack := rest }).pushFrame (.throwing q))) := by
  subst hg
  have hpl : e.platform.magicAccessors = ({} : Platform).magicAccessors := by rw [X.admits.platform]
  obtain ⟨mk, methM, cM, kP, vm₁, hnamed, hmethM, hcodeM, -, hlocalsM, -, hkP, -, hW₁, hstep₁⟩ := Steps.initColdArgsNest (e := e) X.here hexec X.warmed hpl hown hy1 hy hlink hinst hcode (f := g) rfl hlen hstack hdg
  have X₁ := X.noted hW₁
  rcases hK g.method meth c ⟨T.setVm vm₁, locs, cells, slots⟩ { g with stack := rest } (.invokespecial index) mk (Value.ref a :: argsL).toArray X₁ rfl hsize hdg hW (X₁.named hnamed) (hpre vm₁ X₁.warmed) with ⟨v, B, X', hpost, hsteps⟩ | ⟨q, B, X', hpost, hsteps⟩
  · exact Or.inl ⟨v, vm₁, B, X₁.warmed, X', hpost, fun target h => hstep₁ _ fun acts => by rw [doInvoke_state]; exact hsteps.trans h⟩
  · exact Or.inr ⟨q, vm₁, B, X₁.warmed, X', hpost, hstep₁ _ fun acts => by rw [doInvoke_state]; exact hsteps⟩
end VXIC
section VXID
variable {p : Program} {l : Launch} {e : Env} {R : Room} {s : State} {m : MethodId} {args : Array Value} {below : List Frame} {meth : Method} {c : Code} {H : Heap} {locs : List Loc} {cells slots : Nat}
theorem vx_runIN {y : MethodName} {bytes cc : ByteArray} {maxL nL mc ms n index : Nat} {ws : List Cond} {rm : Room} {Pc : Array Value → State → Prop} {Qc : Array Value → State → Outcome → State → Prop} {XC : String → State → State → Prop} {free : Addr → Prop} {Ts : List Cond} {own host : String} {b : Addr} {As rest : List Value} {g : JFrame}
    (S : CallFix p m c cc nL s args Ts own) (hM : vx_Met l y ws rm Pc Qc XC mc ms free) (cw : va_CN R s args own index y host bytes maxL none ws rm mc ms n ∧ y.name = "<init>" ∧ (Cond.instanceMethod y).before args s = true) (hp : PreS s H Pc (.ref b :: As))
    (hg : g.method = m) (hn : As.length = n) (hsize : g.locals.size = nL) (hstack : g.stack = As.reverse ++ .ref b :: rest) (hW : 2 * g.monitorRoom + (rest.map fun v => v.category).sum ≤ 8) (hdg : decode cc g.pc = .ok (.invokespecial index, 3)) (hf : cells + mc ≤ R.cells ∧ slots + ms ≤ R.slots) :
    vx_Run p l e R s m args below meth c H locs cells slots mc ms g rest (Qc (Value.ref b :: As).toArray) XC free := by
  obtain ⟨⟨⟨hrc, hrs, hfr, hlo, hws, hcw⟩, hcode, hini, hy, hlen, hl⟩, hx1, hx2⟩ := cw
  have hK : vx_Back l R p e below s args y 3 8 (PreOf R mc ms Pc) (PostOf Qc mc ms free) (vx_Post XC mc ms free) := vx_back (bytes := bytes) (maxL := maxL) (ret := none) hM hp.1 hrc hrs hfr hlo hws hcw (fun a' U hW => word_at hW (Or.inl (by first | rfl | simp [Cond.onTables, Cond.keeps, Cond.steady])) hini)
  obtain ⟨hx, hb, hml, ho, -⟩ := S
  have hPc := hp.2
  intro T hT X
  rcases vx_callIN X hx (bytes := bytes) (maxL := maxL) ho hx1 hl hx2 hcode hy hK hg (hsize.trans hml.symm) (a := b) (argsL := As) (rest := rest) (fun sig h => hn.trans (hlen sig h)) hstack hW (by rw [hb]; exact hdg)
    (fun vm₁ hW₁ => ⟨hf.1, hf.2, hPc (T.setVm vm₁) hT hW₁⟩) with ⟨v, vm₁, ⟨U', l2, c2, s2⟩, hW₁, X', ⟨g', mk, t, L, e1, e2, hq, h1, hL, h2, h3⟩, st⟩ | ⟨q, vm₁, ⟨U', l2, c2, s2⟩, hW₁, X', ⟨g', mk, t, L, E, ce, e1, e2, hq, hce, hcv, hcl, h1, hL, h2, h3⟩, st⟩
  · dsimp only [Pt.U, Pt.locs, Pt.cells, Pt.slots] at X' e1 e2 h1 h2 h3 st
    subst h1; subst h2; subst h3
    exact Or.inl ⟨v, (T.setVm vm₁).calling g' mk (Value.ref b :: As).toArray, t, U', L, hT, X', hL, e1, e2, hq, st⟩
  · dsimp only [Pt.U, Pt.locs, Pt.cells, Pt.slots] at X' e1 e2 h1 h2 h3 st hcl
    subst h1; subst h2; subst h3
    exact Or.inr ⟨q, (T.setVm vm₁).calling g' mk (Value.ref b :: As).toArray, t, U', L, E, ce, hT, X', hL, e1, e2, hq, hce, hcv, vx_cls hW₁ hcl, st⟩
end VXID
/-! ===== END ===== -/
end
section
def RX0 : String := "CaravanRoute$Caravan"
def TX0 : u_T := fun k => match k with
  | 0 => ("CaravanRoute$Caravan", "plan", "LCaravanRoute$Plan;", true)
  | 1 => ("CaravanRoute$Caravan", "kilometre", "I", false)
  | 2 => ("CaravanRoute$Caravan", "day", "I", false)
  | 3 => ("CaravanRoute$Caravan", "stopping", "Z", false)
  | 4 => ("CaravanRoute$Caravan", "leader", "I", false)
  | 5 => ("CaravanRoute$Caravan", "drunk", "I", false)
  | 6 => ("CaravanRoute$Caravan", "water", "[I", true)
  | 7 => ("CaravanRoute$Caravan", "strain", "[I", true)
  | 8 => ("CaravanRoute$Caravan", "lameDays", "[I", true)
  | 9 => ("CaravanRoute$Caravan", "dryDays", "[I", true)
  | 10 => ("CaravanRoute$Caravan", "carried", "[I", true)
  | 11 => ("CaravanRoute$Caravan", "level", "[I", true)
  | 12 => ("CaravanRoute$Caravan", "loadCount", "I", false)
  | 13 => ("CaravanRoute$Caravan", "weight", "[I", true)
  | 14 => ("CaravanRoute$Caravan", "value", "[I", true)
  | 15 => ("CaravanRoute$Caravan", "carrier", "[I", true)
  | _ => ("CaravanRoute$Caravan", "place", "[I", true)
def tyX0 : Nat → FieldType := fun k => match k with
  | 0 => .object "CaravanRoute$Plan"
  | 1 => .int
  | 2 => .int
  | 3 => .boolean
  | 4 => .int
  | 5 => .int
  | 6 => .array .int
  | 7 => .array .int
  | 8 => .array .int
  | 9 => .array .int
  | 10 => .array .int
  | 11 => .array .int
  | 12 => .int
  | 13 => .array .int
  | 14 => .array .int
  | 15 => .array .int
  | _ => .array .int
theorem nmX0 : ∀ a, a < 17 → ∀ b, b < 17 → a ≠ b → (TX0 a).2.1 ≠ (TX0 b).2.1 := by decide +kernel
theorem tyX0_ok : ∀ k, k < 17 → parseFieldDescriptor (TX0 k).2.2.1 = some (tyX0 k) := by decide +kernel
abbrev cX0_init : ByteArray := prog_2_method_1_code
def yX0_init : MethodName := ⟨RX0, "<init>", "(LCaravanRoute$Plan;)V"⟩
abbrev cX0_copyFrom : ByteArray := prog_2_method_2_code
def yX0_copyFrom : MethodName := ⟨RX0, "copyFrom", "(LCaravanRoute$Caravan;)V"⟩
abbrev cX0_setOut : ByteArray := prog_2_method_3_code
def yX0_setOut : MethodName := ⟨RX0, "setOut", "()V"⟩
abbrev cX0_isAtEnd : ByteArray := prog_2_method_4_code
def yX0_isAtEnd : MethodName := ⟨RX0, "isAtEnd", "()Z"⟩
abbrev cX0_canRest : ByteArray := prog_2_method_5_code
def yX0_canRest : MethodName := ⟨RX0, "canRest", "()Z"⟩
abbrev cX0_canTravel : ByteArray := prog_2_method_6_code
def yX0_canTravel : MethodName := ⟨RX0, "canTravel", "()Z"⟩
abbrev cX0_isLiving : ByteArray := prog_2_method_7_code
def yX0_isLiving : MethodName := ⟨RX0, "isLiving", "(I)Z"⟩
abbrev cX0_countLiving : ByteArray := prog_2_method_8_code
def yX0_countLiving : MethodName := ⟨RX0, "countLiving", "()I"⟩
abbrev cX0_leastWatered : ByteArray := prog_2_method_9_code
def yX0_leastWatered : MethodName := ⟨RX0, "leastWatered", "()I"⟩
abbrev cX0_quickest : ByteArray := prog_2_method_10_code
def yX0_quickest : MethodName := ⟨RX0, "quickest", "()I"⟩
abbrev cX0_speedOf : ByteArray := prog_2_method_11_code
def yX0_speedOf : MethodName := ⟨RX0, "speedOf", "(I)I"⟩
abbrev cX0_freeOn : ByteArray := prog_2_method_12_code
def yX0_freeOn : MethodName := ⟨RX0, "freeOn", "(I)I"⟩
abbrev cX0_hasLoad : ByteArray := prog_2_method_13_code
def yX0_hasLoad : MethodName := ⟨RX0, "hasLoad", "(I)Z"⟩
abbrev cX0_whereIs : ByteArray := prog_2_method_14_code
def yX0_whereIs : MethodName := ⟨RX0, "whereIs", "(I)I"⟩
abbrev cX0_bringLoad : ByteArray := prog_2_method_15_code
def yX0_bringLoad : MethodName := ⟨RX0, "bringLoad", "(II)I"⟩
abbrev cX0_hangOn : ByteArray := prog_2_method_16_code
def yX0_hangOn : MethodName := ⟨RX0, "hangOn", "(II)V"⟩
abbrev cX0_layDown : ByteArray := prog_2_method_17_code
def yX0_layDown : MethodName := ⟨RX0, "layDown", "(I)V"⟩
abbrev cX0_needIn : ByteArray := prog_2_method_18_code
def yX0_needIn : MethodName := ⟨RX0, "needIn", "(II)I"⟩
abbrev cX0_distanceNow : ByteArray := prog_2_method_19_code
def yX0_distanceNow : MethodName := ⟨RX0, "distanceNow", "()I"⟩
abbrev cX0_passTravelDay : ByteArray := prog_2_method_20_code
def yX0_passTravelDay : MethodName := ⟨RX0, "passTravelDay", "()I"⟩
abbrev cX0_passRestDay : ByteArray := prog_2_method_21_code
def yX0_passRestDay : MethodName := ⟨RX0, "passRestDay", "()V"⟩
abbrev cX0_tire : ByteArray := prog_2_method_22_code
def yX0_tire : MethodName := ⟨RX0, "tire", "(II)V"⟩
abbrev cX0_useWater : ByteArray := prog_2_method_23_code
def yX0_useWater : MethodName := ⟨RX0, "useWater", "(II)V"⟩
abbrev cX0_dropAllOf : ByteArray := prog_2_method_24_code
def yX0_dropAllOf : MethodName := ⟨RX0, "dropAllOf", "(I)V"⟩
abbrev cX0_endDay : ByteArray := prog_2_method_25_code
def yX0_endDay : MethodName := ⟨RX0, "endDay", "()V"⟩
abbrev cX0_shareOut : ByteArray := prog_2_method_26_code
def yX0_shareOut : MethodName := ⟨RX0, "shareOut", "(I[I)V"⟩
abbrev cX0_nextToDrink : ByteArray := prog_2_method_27_code
def yX0_nextToDrink : MethodName := ⟨RX0, "nextToDrink", "([I)I"⟩
abbrev cX0_takeShares : ByteArray := prog_2_method_28_code
def yX0_takeShares : MethodName := ⟨RX0, "takeShares", "(I[I)I"⟩
def RX1 : String := "CaravanRoute$History"
def TX1 : u_T := fun k => match k with
  | 0 => ("CaravanRoute$History", "rows", "[LCaravanRoute$Caravan;", true)
  | 1 => ("CaravanRoute$History", "next", "I", false)
  | _ => ("CaravanRoute$History", "count", "I", false)
def tyX1 : Nat → FieldType := fun k => match k with
  | 0 => .array (.object "CaravanRoute$Caravan")
  | 1 => .int
  | _ => .int
theorem nmX1 : ∀ a, a < 3 → ∀ b, b < 3 → a ≠ b → (TX1 a).2.1 ≠ (TX1 b).2.1 := by decide +kernel
theorem tyX1_ok : ∀ k, k < 3 → parseFieldDescriptor (TX1 k).2.2.1 = some (tyX1 k) := by decide +kernel
abbrev cX1_init : ByteArray := prog_3_method_1_code
def yX1_init : MethodName := ⟨RX1, "<init>", "(LCaravanRoute$Plan;)V"⟩
abbrev cX1_forget : ByteArray := prog_3_method_2_code
def yX1_forget : MethodName := ⟨RX1, "forget", "()V"⟩
abbrev cX1_remember : ByteArray := prog_3_method_3_code
def yX1_remember : MethodName := ⟨RX1, "remember", "(LCaravanRoute$Caravan;)V"⟩
abbrev cX1_takeBack : ByteArray := prog_3_method_4_code
def yX1_takeBack : MethodName := ⟨RX1, "takeBack", "(LCaravanRoute$Caravan;)V"⟩
def RX2 : String := "CaravanRoute$Input"
def TX2 : u_T := fun k => match k with
  | 0 => ("CaravanRoute$Input", "text", "[B", true)
  | 1 => ("CaravanRoute$Input", "length", "I", false)
  | 2 => ("CaravanRoute$Input", "draft", "LCaravanRoute$Caravan;", true)
  | 3 => ("CaravanRoute$Input", "kind", "I", false)
  | 4 => ("CaravanRoute$Input", "start", "I", false)
  | 5 => ("CaravanRoute$Input", "end", "I", false)
  | 6 => ("CaravanRoute$Input", "number", "I", false)
  | _ => ("CaravanRoute$Input", "taken", "I", false)
def tyX2 : Nat → FieldType := fun k => match k with
  | 0 => .array .byte
  | 1 => .int
  | 2 => .object "CaravanRoute$Caravan"
  | 3 => .int
  | 4 => .int
  | 5 => .int
  | 6 => .int
  | _ => .int
theorem nmX2 : ∀ a, a < 8 → ∀ b, b < 8 → a ≠ b → (TX2 a).2.1 ≠ (TX2 b).2.1 := by decide +kernel
theorem tyX2_ok : ∀ k, k < 8 → parseFieldDescriptor (TX2 k).2.2.1 = some (tyX2 k) := by decide +kernel
abbrev cX2_init : ByteArray := prog_4_method_1_code
def yX2_init : MethodName := ⟨RX2, "<init>", "()V"⟩
abbrev cX2_takeFour : ByteArray := prog_4_method_2_code
def yX2_takeFour : MethodName := ⟨RX2, "takeFour", "(I)V"⟩
abbrev cX2_takeText : ByteArray := prog_4_method_3_code
def yX2_takeText : MethodName := ⟨RX2, "takeText", "(Ljava/lang/String;)V"⟩
abbrev cX2_takeByte : ByteArray := prog_4_method_4_code
def yX2_takeByte : MethodName := ⟨RX2, "takeByte", "(I)V"⟩
abbrev cX2_findError : ByteArray := prog_4_method_5_code
def yX2_findError : MethodName := ⟨RX2, "findError", "()I"⟩
abbrev cX2_readRoute : ByteArray := prog_4_method_6_code
def yX2_readRoute : MethodName := ⟨RX2, "readRoute", "()Z"⟩
abbrev cX2_readCamels : ByteArray := prog_4_method_7_code
def yX2_readCamels : MethodName := ⟨RX2, "readCamels", "()Z"⟩
abbrev cX2_readCamel : ByteArray := prog_4_method_8_code
def yX2_readCamel : MethodName := ⟨RX2, "readCamel", "()Z"⟩
abbrev cX2_readWells : ByteArray := prog_4_method_9_code
def yX2_readWells : MethodName := ⟨RX2, "readWells", "()Z"⟩
abbrev cX2_readWell : ByteArray := prog_4_method_10_code
def yX2_readWell : MethodName := ⟨RX2, "readWell", "()Z"⟩
abbrev cX2_readStorms : ByteArray := prog_4_method_11_code
def yX2_readStorms : MethodName := ⟨RX2, "readStorms", "()Z"⟩
abbrev cX2_readStorm : ByteArray := prog_4_method_12_code
def yX2_readStorm : MethodName := ⟨RX2, "readStorm", "()Z"⟩
abbrev cX2_readLoads : ByteArray := prog_4_method_13_code
def yX2_readLoads : MethodName := ⟨RX2, "readLoads", "()Z"⟩
abbrev cX2_readLoad : ByteArray := prog_4_method_14_code
def yX2_readLoad : MethodName := ⟨RX2, "readLoad", "()Z"⟩
abbrev cX2_takeNumber : ByteArray := prog_4_method_15_code
def yX2_takeNumber : MethodName := ⟨RX2, "takeNumber", "(II)Z"⟩
abbrev cX2_takeSemicolon : ByteArray := prog_4_method_16_code
def yX2_takeSemicolon : MethodName := ⟨RX2, "takeSemicolon", "()Z"⟩
abbrev cX2_isWord : ByteArray := prog_4_method_17_code
def yX2_isWord : MethodName := ⟨RX2, "isWord", "(Ljava/lang/String;)Z"⟩
abbrev cX2_step : ByteArray := prog_4_method_18_code
def yX2_step : MethodName := ⟨RX2, "step", "()V"⟩
abbrev cX2_stepOverWord : ByteArray := prog_4_method_19_code
def yX2_stepOverWord : MethodName := ⟨RX2, "stepOverWord", "()V"⟩
abbrev cX2_stepOverNumber : ByteArray := prog_4_method_20_code
def yX2_stepOverNumber : MethodName := ⟨RX2, "stepOverNumber", "()V"⟩
def RX3 : String := "CaravanRoute$Plan"
def TX3 : u_T := fun k => match k with
  | 0 => ("CaravanRoute$Plan", "length", "I", false)
  | 1 => ("CaravanRoute$Plan", "camelCount", "I", false)
  | 2 => ("CaravanRoute$Plan", "pace", "[I", true)
  | 3 => ("CaravanRoute$Plan", "strength", "[I", true)
  | 4 => ("CaravanRoute$Plan", "tank", "[I", true)
  | 5 => ("CaravanRoute$Plan", "wellCount", "I", false)
  | 6 => ("CaravanRoute$Plan", "wellPlace", "[I", true)
  | 7 => ("CaravanRoute$Plan", "capacity", "[I", true)
  | 8 => ("CaravanRoute$Plan", "refill", "[I", true)
  | 9 => ("CaravanRoute$Plan", "stormCount", "I", false)
  | 10 => ("CaravanRoute$Plan", "stormFirst", "[I", true)
  | 11 => ("CaravanRoute$Plan", "stormLast", "[I", true)
  | _ => ("CaravanRoute$Plan", "stormStrength", "[I", true)
def tyX3 : Nat → FieldType := fun k => match k with
  | 0 => .int
  | 1 => .int
  | 2 => .array .int
  | 3 => .array .int
  | 4 => .array .int
  | 5 => .int
  | 6 => .array .int
  | 7 => .array .int
  | 8 => .array .int
  | 9 => .int
  | 10 => .array .int
  | 11 => .array .int
  | _ => .array .int
theorem nmX3 : ∀ a, a < 13 → ∀ b, b < 13 → a ≠ b → (TX3 a).2.1 ≠ (TX3 b).2.1 := by decide +kernel
theorem tyX3_ok : ∀ k, k < 13 → parseFieldDescriptor (TX3 k).2.2.1 = some (tyX3 k) := by decide +kernel
abbrev cX3_init : ByteArray := prog_5_method_1_code
def yX3_init : MethodName := ⟨RX3, "<init>", "()V"⟩
abbrev cX3_clear : ByteArray := prog_5_method_2_code
def yX3_clear : MethodName := ⟨RX3, "clear", "(I)V"⟩
abbrev cX3_copyFrom : ByteArray := prog_5_method_3_code
def yX3_copyFrom : MethodName := ⟨RX3, "copyFrom", "(LCaravanRoute$Plan;)V"⟩
abbrev cX3_hasCamel : ByteArray := prog_5_method_4_code
def yX3_hasCamel : MethodName := ⟨RX3, "hasCamel", "(I)Z"⟩
abbrev cX3_addCamel : ByteArray := prog_5_method_5_code
def yX3_addCamel : MethodName := ⟨RX3, "addCamel", "(III)V"⟩
abbrev cX3_addWell : ByteArray := prog_5_method_6_code
def yX3_addWell : MethodName := ⟨RX3, "addWell", "(III)V"⟩
abbrev cX3_addStorm : ByteArray := prog_5_method_7_code
def yX3_addStorm : MethodName := ⟨RX3, "addStorm", "(III)V"⟩
abbrev cX3_greatestStorm : ByteArray := prog_5_method_8_code
def yX3_greatestStorm : MethodName := ⟨RX3, "greatestStorm", "(I)I"⟩
abbrev cX3_wellAt : ByteArray := prog_5_method_9_code
def yX3_wellAt : MethodName := ⟨RX3, "wellAt", "(I)I"⟩
abbrev cX3_firstWellBehind : ByteArray := prog_5_method_10_code
def yX3_firstWellBehind : MethodName := ⟨RX3, "firstWellBehind", "(I)I"⟩
def RX4 : String := "CaravanRoute$Writing"
def TX4 : u_T := fun k => match k with
  | 0 => ("CaravanRoute$Writing", "bytes", "[B", true)
  | _ => ("CaravanRoute$Writing", "length", "I", false)
def tyX4 : Nat → FieldType := fun k => match k with
  | 0 => .array .byte
  | _ => .int
theorem nmX4 : ∀ a, a < 2 → ∀ b, b < 2 → a ≠ b → (TX4 a).2.1 ≠ (TX4 b).2.1 := by decide +kernel
theorem tyX4_ok : ∀ k, k < 2 → parseFieldDescriptor (TX4 k).2.2.1 = some (tyX4 k) := by decide +kernel
abbrev cX4_init : ByteArray := prog_6_method_1_code
def yX4_init : MethodName := ⟨RX4, "<init>", "()V"⟩
def RX5 : String := "CaravanRoute"
def TX5 : u_T := fun k => match k with
  | 0 => ("CaravanRoute", "input", "LCaravanRoute$Input;", true)
  | 1 => ("CaravanRoute", "errorFound", "I", false)
  | 2 => ("CaravanRoute", "now", "LCaravanRoute$Caravan;", true)
  | 3 => ("CaravanRoute", "trial", "LCaravanRoute$Caravan;", true)
  | 4 => ("CaravanRoute", "history", "LCaravanRoute$History;", true)
  | 5 => ("CaravanRoute", "snapshots", "[LCaravanRoute$Caravan;", true)
  | 6 => ("CaravanRoute", "isKept", "[Z", true)
  | 7 => ("CaravanRoute", "shares", "[I", true)
  | _ => ("CaravanRoute", "writing", "LCaravanRoute$Writing;", true)
def tyX5 : Nat → FieldType := fun k => match k with
  | 0 => .object "CaravanRoute$Input"
  | 1 => .int
  | 2 => .object "CaravanRoute$Caravan"
  | 3 => .object "CaravanRoute$Caravan"
  | 4 => .object "CaravanRoute$History"
  | 5 => .array (.object "CaravanRoute$Caravan")
  | 6 => .array .boolean
  | 7 => .array .int
  | _ => .object "CaravanRoute$Writing"
theorem nmX5 : ∀ a, a < 9 → ∀ b, b < 9 → a ≠ b → (TX5 a).2.1 ≠ (TX5 b).2.1 := by decide +kernel
theorem tyX5_ok : ∀ k, k < 9 → parseFieldDescriptor (TX5 k).2.2.1 = some (tyX5 k) := by decide +kernel
abbrev cX5_init : ByteArray := prog_1_method_1_code
def yX5_init : MethodName := ⟨RX5, "<init>", "()V"⟩
abbrev cX5_append : ByteArray := prog_1_method_2_code
def yX5_append : MethodName := ⟨RX5, "append", "(IIIII)I"⟩
abbrev cX5_shorten : ByteArray := prog_1_method_3_code
def yX5_shorten : MethodName := ⟨RX5, "shorten", "(I)I"⟩
abbrev cX5_load : ByteArray := prog_1_method_4_code
def yX5_load : MethodName := ⟨RX5, "load", "()I"⟩
abbrev cX5_hasError : ByteArray := prog_1_method_5_code
def yX5_hasError : MethodName := ⟨RX5, "hasError", "()Z"⟩
abbrev cX5_errorOffset : ByteArray := prog_1_method_6_code
def yX5_errorOffset : MethodName := ⟨RX5, "errorOffset", "()I"⟩
abbrev cX5_length : ByteArray := prog_1_method_7_code
def yX5_length : MethodName := ⟨RX5, "length", "()I"⟩
abbrev cX5_kilometre : ByteArray := prog_1_method_8_code
def yX5_kilometre : MethodName := ⟨RX5, "kilometre", "()I"⟩
abbrev cX5_hasArrived : ByteArray := prog_1_method_9_code
def yX5_hasArrived : MethodName := ⟨RX5, "hasArrived", "()Z"⟩
abbrev cX5_day : ByteArray := prog_1_method_10_code
def yX5_day : MethodName := ⟨RX5, "day", "()I"⟩
abbrev cX5_stormOn : ByteArray := prog_1_method_11_code
def yX5_stormOn : MethodName := ⟨RX5, "stormOn", "(I)I"⟩
abbrev cX5_isStopping : ByteArray := prog_1_method_12_code
def yX5_isStopping : MethodName := ⟨RX5, "isStopping", "()Z"⟩
abbrev cX5_wellCount : ByteArray := prog_1_method_13_code
def yX5_wellCount : MethodName := ⟨RX5, "wellCount", "()I"⟩
abbrev cX5_wellKilometre : ByteArray := prog_1_method_14_code
def yX5_wellKilometre : MethodName := ⟨RX5, "wellKilometre", "(I)I"⟩
abbrev cX5_wellLevel : ByteArray := prog_1_method_15_code
def yX5_wellLevel : MethodName := ⟨RX5, "wellLevel", "(I)I"⟩
abbrev cX5_wellCapacity : ByteArray := prog_1_method_16_code
def yX5_wellCapacity : MethodName := ⟨RX5, "wellCapacity", "(I)I"⟩
abbrev cX5_requireWell : ByteArray := prog_1_method_17_code
def yX5_requireWell : MethodName := ⟨RX5, "requireWell", "(I)V"⟩
abbrev cX5_wellHere : ByteArray := prog_1_method_18_code
def yX5_wellHere : MethodName := ⟨RX5, "wellHere", "()I"⟩
abbrev cX5_nextWell : ByteArray := prog_1_method_19_code
def yX5_nextWell : MethodName := ⟨RX5, "nextWell", "()I"⟩
abbrev cX5_drunk : ByteArray := prog_1_method_20_code
def yX5_drunk : MethodName := ⟨RX5, "drunk", "()I"⟩
abbrev cX5_camelCount : ByteArray := prog_1_method_21_code
def yX5_camelCount : MethodName := ⟨RX5, "camelCount", "()I"⟩
abbrev cX5_livingCamels : ByteArray := prog_1_method_22_code
def yX5_livingCamels : MethodName := ⟨RX5, "livingCamels", "()I"⟩
abbrev cX5_leader : ByteArray := prog_1_method_23_code
def yX5_leader : MethodName := ⟨RX5, "leader", "()I"⟩
abbrev cX5_requireCamel : ByteArray := prog_1_method_24_code
def yX5_requireCamel : MethodName := ⟨RX5, "requireCamel", "(I)V"⟩
abbrev cX5_isDead : ByteArray := prog_1_method_25_code
def yX5_isDead : MethodName := ⟨RX5, "isDead", "(I)Z"⟩
abbrev cX5_pace : ByteArray := prog_1_method_26_code
def yX5_pace : MethodName := ⟨RX5, "pace", "(I)I"⟩
abbrev cX5_speed : ByteArray := prog_1_method_27_code
def yX5_speed : MethodName := ⟨RX5, "speed", "(I)I"⟩
abbrev cX5_water : ByteArray := prog_1_method_28_code
def yX5_water : MethodName := ⟨RX5, "water", "(I)I"⟩
abbrev cX5_tank : ByteArray := prog_1_method_29_code
def yX5_tank : MethodName := ⟨RX5, "tank", "(I)I"⟩
abbrev cX5_strain : ByteArray := prog_1_method_30_code
def yX5_strain : MethodName := ⟨RX5, "strain", "(I)I"⟩
abbrev cX5_lameDays : ByteArray := prog_1_method_31_code
def yX5_lameDays : MethodName := ⟨RX5, "lameDays", "(I)I"⟩
abbrev cX5_dryDays : ByteArray := prog_1_method_32_code
def yX5_dryDays : MethodName := ⟨RX5, "dryDays", "(I)I"⟩
abbrev cX5_carried : ByteArray := prog_1_method_33_code
def yX5_carried : MethodName := ⟨RX5, "carried", "(I)I"⟩
abbrev cX5_freeWeight : ByteArray := prog_1_method_34_code
def yX5_freeWeight : MethodName := ⟨RX5, "freeWeight", "(I)I"⟩
abbrev cX5_thirstiest : ByteArray := prog_1_method_35_code
def yX5_thirstiest : MethodName := ⟨RX5, "thirstiest", "()I"⟩
abbrev cX5_fastest : ByteArray := prog_1_method_36_code
def yX5_fastest : MethodName := ⟨RX5, "fastest", "()I"⟩
abbrev cX5_loadCount : ByteArray := prog_1_method_37_code
def yX5_loadCount : MethodName := ⟨RX5, "loadCount", "()I"⟩
abbrev cX5_requireLoad : ByteArray := prog_1_method_38_code
def yX5_requireLoad : MethodName := ⟨RX5, "requireLoad", "(I)V"⟩
abbrev cX5_weightOf : ByteArray := prog_1_method_39_code
def yX5_weightOf : MethodName := ⟨RX5, "weightOf", "(I)I"⟩
abbrev cX5_valueOf : ByteArray := prog_1_method_40_code
def yX5_valueOf : MethodName := ⟨RX5, "valueOf", "(I)I"⟩
abbrev cX5_isCarried : ByteArray := prog_1_method_41_code
def yX5_isCarried : MethodName := ⟨RX5, "isCarried", "(I)Z"⟩
abbrev cX5_carrierOf : ByteArray := prog_1_method_42_code
def yX5_carrierOf : MethodName := ⟨RX5, "carrierOf", "(I)I"⟩
abbrev cX5_placeOf : ByteArray := prog_1_method_43_code
def yX5_placeOf : MethodName := ⟨RX5, "placeOf", "(I)I"⟩
abbrev cX5_carriedValue : ByteArray := prog_1_method_44_code
def yX5_carriedValue : MethodName := ⟨RX5, "carriedValue", "()I"⟩
abbrev cX5_meanWater : ByteArray := prog_1_method_45_code
def yX5_meanWater : MethodName := ⟨RX5, "meanWater", "()D"⟩
abbrev cX5_progress : ByteArray := prog_1_method_46_code
def yX5_progress : MethodName := ⟨RX5, "progress", "()F"⟩
abbrev cX5_distanceToday : ByteArray := prog_1_method_47_code
def yX5_distanceToday : MethodName := ⟨RX5, "distanceToday", "()I"⟩
abbrev cX5_needToday : ByteArray := prog_1_method_48_code
def yX5_needToday : MethodName := ⟨RX5, "needToday", "(I)I"⟩
abbrev cX5_livingAfter : ByteArray := prog_1_method_49_code
def yX5_livingAfter : MethodName := ⟨RX5, "livingAfter", "(I)I"⟩
abbrev cX5_daysToArrival : ByteArray := prog_1_method_50_code
def yX5_daysToArrival : MethodName := ⟨RX5, "daysToArrival", "()I"⟩
abbrev cX5_wouldDrink : ByteArray := prog_1_method_51_code
def yX5_wouldDrink : MethodName := ⟨RX5, "wouldDrink", "(I)I"⟩
abbrev cX5_travel : ByteArray := prog_1_method_52_code
def yX5_travel : MethodName := ⟨RX5, "travel", "()I"⟩
abbrev cX5_rest : ByteArray := prog_1_method_53_code
def yX5_rest : MethodName := ⟨RX5, "rest", "()I"⟩
abbrev cX5_drink : ByteArray := prog_1_method_54_code
def yX5_drink : MethodName := ⟨RX5, "drink", "()I"⟩
abbrev cX5_setLeader : ByteArray := prog_1_method_55_code
def yX5_setLeader : MethodName := ⟨RX5, "setLeader", "(I)I"⟩
abbrev cX5_setStopping : ByteArray := prog_1_method_56_code
def yX5_setStopping : MethodName := ⟨RX5, "setStopping", "(Z)Z"⟩
abbrev cX5_putOn : ByteArray := prog_1_method_57_code
def yX5_putOn : MethodName := ⟨RX5, "putOn", "(II)I"⟩
abbrev cX5_takeOff : ByteArray := prog_1_method_58_code
def yX5_takeOff : MethodName := ⟨RX5, "takeOff", "(I)I"⟩
abbrev cX5_addLoad : ByteArray := prog_1_method_59_code
def yX5_addLoad : MethodName := ⟨RX5, "addLoad", "(II)I"⟩
abbrev cX5_undo : ByteArray := prog_1_method_60_code
def yX5_undo : MethodName := ⟨RX5, "undo", "()I"⟩
abbrev cX5_requireSlot : ByteArray := prog_1_method_61_code
def yX5_requireSlot : MethodName := ⟨RX5, "requireSlot", "(I)V"⟩
abbrev cX5_saveSnapshot : ByteArray := prog_1_method_62_code
def yX5_saveSnapshot : MethodName := ⟨RX5, "saveSnapshot", "(I)I"⟩
abbrev cX5_restoreSnapshot : ByteArray := prog_1_method_63_code
def yX5_restoreSnapshot : MethodName := ⟨RX5, "restoreSnapshot", "(I)I"⟩
abbrev cX5_writtenByte : ByteArray := prog_1_method_65_code
def yX5_writtenByte : MethodName := ⟨RX5, "writtenByte", "(I)I"⟩
def RX6 : String := "CaravanRouteModel"
def TX6 : u_T := fun k => match k with
  | _ => ("", "", "", false)
def tyX6 : Nat → FieldType := fun k => match k with
  | _ => .int
theorem nmX6 : ∀ a, a < 0 → ∀ b, b < 0 → a ≠ b → (TX6 a).2.1 ≠ (TX6 b).2.1 := by decide +kernel
theorem tyX6_ok : ∀ k, k < 0 → parseFieldDescriptor (TX6 k).2.2.1 = some (tyX6 k) := by decide +kernel
def RJ5 : String := "java/lang/AbstractStringBuilder"
def TJ5 : u_T := fun k => match k with
  | _ => ("", "", "", false)
def tyJ5 : Nat → FieldType := fun k => match k with
  | _ => .int
theorem nmJ5 : ∀ a, a < 0 → ∀ b, b < 0 → a ≠ b → (TJ5 a).2.1 ≠ (TJ5 b).2.1 := by decide +kernel
theorem tyJ5_ok : ∀ k, k < 0 → parseFieldDescriptor (TJ5 k).2.2.1 = some (tyJ5 k) := by decide +kernel
abbrev cJ5_init_d00df : ByteArray := prog_10_method_2_code
def yJ5_init_d00df : MethodName := ⟨RJ5, "<init>", "(I)V"⟩
abbrev cJ5_init_a7421 : ByteArray := prog_10_method_3_code
def yJ5_init_a7421 : MethodName := ⟨RJ5, "<init>", "(Ljava/lang/String;)V"⟩
abbrev cJ5_length_8abf5 : ByteArray := prog_10_method_6_code
def yJ5_length_8abf5 : MethodName := ⟨RJ5, "length", "()I"⟩
abbrev cJ5_ensureCapacityInternal_d00df : ByteArray := prog_10_method_9_code
def yJ5_ensureCapacityInternal_d00df : MethodName := ⟨RJ5, "ensureCapacityInternal", "(I)V"⟩
abbrev cJ5_newCapacity_0f7a4 : ByteArray := prog_10_method_10_code
def yJ5_newCapacity_0f7a4 : MethodName := ⟨RJ5, "newCapacity", "(I)I"⟩
abbrev cJ5_inflate_da8c8 : ByteArray := prog_10_method_11_code
def yJ5_inflate_da8c8 : MethodName := ⟨RJ5, "inflate", "()V"⟩
abbrev cJ5_append_cf1ce : ByteArray := prog_10_method_22_code
def yJ5_append_cf1ce : MethodName := ⟨RJ5, "append", "(Ljava/lang/String;)Ljava/lang/AbstractStringBuilder;"⟩
abbrev cJ5_appendNull_278bc : ByteArray := prog_10_method_26_code
def yJ5_appendNull_278bc : MethodName := ⟨RJ5, "appendNull", "()Ljava/lang/AbstractStringBuilder;"⟩
abbrev cJ5_append_3fe6f : ByteArray := prog_10_method_31_code
def yJ5_append_3fe6f : MethodName := ⟨RJ5, "append", "(C)Ljava/lang/AbstractStringBuilder;"⟩
abbrev cJ5_append_c97b9 : ByteArray := prog_10_method_32_code
def yJ5_append_c97b9 : MethodName := ⟨RJ5, "append", "(I)Ljava/lang/AbstractStringBuilder;"⟩
abbrev cJ5_getValue_6d5f1 : ByteArray := prog_10_method_64_code
def yJ5_getValue_6d5f1 : MethodName := ⟨RJ5, "getValue", "()[B"⟩
abbrev cJ5_isLatin1_aae02 : ByteArray := prog_10_method_68_code
def yJ5_isLatin1_aae02 : MethodName := ⟨RJ5, "isLatin1", "()Z"⟩
abbrev cJ5_inflateIfNeededFor_a7421 : ByteArray := prog_10_method_71_code
def yJ5_inflateIfNeededFor_a7421 : MethodName := ⟨RJ5, "inflateIfNeededFor", "(Ljava/lang/String;)V"⟩
abbrev cJ5_putStringAt_47b60 : ByteArray := prog_10_method_73_code
def yJ5_putStringAt_47b60 : MethodName := ⟨RJ5, "putStringAt", "(ILjava/lang/String;)V"⟩
def RJ6 : String := "java/lang/Integer"
def TJ6 : u_T := fun k => match k with
  | _ => ("", "", "", false)
def tyJ6 : Nat → FieldType := fun k => match k with
  | _ => .int
theorem nmJ6 : ∀ a, a < 0 → ∀ b, b < 0 → a ≠ b → (TJ6 a).2.1 ≠ (TJ6 b).2.1 := by decide +kernel
theorem tyJ6_ok : ∀ k, k < 0 → parseFieldDescriptor (TJ6 k).2.2.1 = some (tyJ6 k) := by decide +kernel
abbrev cJ6_getChars_ba4f3 : ByteArray := prog_19_method_12_code
def yJ6_getChars_ba4f3 : MethodName := ⟨RJ6, "getChars", "(II[B)I"⟩
abbrev cJ6_stringSize_0f7a4 : ByteArray := prog_19_method_13_code
def yJ6_stringSize_0f7a4 : MethodName := ⟨RJ6, "stringSize", "(I)I"⟩
def RJ9 : String := "java/lang/Math"
def TJ9 : u_T := fun k => match k with
  | _ => ("", "", "", false)
def tyJ9 : Nat → FieldType := fun k => match k with
  | _ => .int
theorem nmJ9 : ∀ a, a < 0 → ∀ b, b < 0 → a ≠ b → (TJ9 a).2.1 ≠ (TJ9 b).2.1 := by decide +kernel
theorem tyJ9_ok : ∀ k, k < 0 → parseFieldDescriptor (TJ9 k).2.2.1 = some (tyJ9 k) := by decide +kernel
abbrev cJ9_max_7cf53 : ByteArray := prog_20_method_65_code
def yJ9_max_7cf53 : MethodName := ⟨RJ9, "max", "(II)I"⟩
abbrev cJ9_min_7cf53 : ByteArray := prog_20_method_69_code
def yJ9_min_7cf53 : MethodName := ⟨RJ9, "min", "(II)I"⟩
def RJ0 : String := "java/lang/String"
def TJ0 : u_T := fun k => match k with
  | 0 => ("java/lang/String", "value", "[B", true)
  | 1 => ("java/lang/String", "coder", "B", true)
  | 2 => ("java/lang/String", "hash", "I", false)
  | _ => ("java/lang/String", "hashIsZero", "Z", false)
def tyJ0 : Nat → FieldType := fun k => match k with
  | 0 => .array .byte
  | 1 => .byte
  | 2 => .int
  | _ => .boolean
theorem nmJ0 : ∀ a, a < 4 → ∀ b, b < 4 → a ≠ b → (TJ0 a).2.1 ≠ (TJ0 b).2.1 := by decide +kernel
theorem tyJ0_ok : ∀ k, k < 4 → parseFieldDescriptor (TJ0 k).2.2.1 = some (tyJ0 k) := by decide +kernel
abbrev cJ0_init_81219 : ByteArray := prog_23_method_53_code
def yJ0_init_81219 : MethodName := ⟨RJ0, "<init>", "(Ljava/lang/StringBuilder;)V"⟩
abbrev cJ0_length_8abf5 : ByteArray := prog_23_method_54_code
def yJ0_length_8abf5 : MethodName := ⟨RJ0, "length", "()I"⟩
abbrev cJ0_charAt_5068e : ByteArray := prog_23_method_56_code
def yJ0_charAt_5068e : MethodName := ⟨RJ0, "charAt", "(I)C"⟩
abbrev cJ0_getBytes_840e7 : ByteArray := prog_23_method_147_code
def yJ0_getBytes_840e7 : MethodName := ⟨RJ0, "getBytes", "([BIB)V"⟩
abbrev cJ0_init_db425 : ByteArray := prog_23_method_150_code
def yJ0_init_db425 : MethodName := ⟨RJ0, "<init>", "(Ljava/lang/AbstractStringBuilder;Ljava/lang/Void;)V"⟩
abbrev cJ0_coder_7d493 : ByteArray := prog_23_method_152_code
def yJ0_coder_7d493 : MethodName := ⟨RJ0, "coder", "()B"⟩
abbrev cJ0_isLatin1_aae02 : ByteArray := prog_23_method_154_code
def yJ0_isLatin1_aae02 : MethodName := ⟨RJ0, "isLatin1", "()Z"⟩
abbrev cJ0_checkIndex_df160 : ByteArray := prog_23_method_155_code
def yJ0_checkIndex_df160 : MethodName := ⟨RJ0, "checkIndex", "(II)V"⟩
abbrev cJ0_checkBoundsOffCount_cabcc : ByteArray := prog_23_method_157_code
def yJ0_checkBoundsOffCount_cabcc : MethodName := ⟨RJ0, "checkBoundsOffCount", "(III)I"⟩
abbrev cJ0_checkBoundsBeginEnd_23922 : ByteArray := prog_23_method_158_code
def yJ0_checkBoundsBeginEnd_23922 : MethodName := ⟨RJ0, "checkBoundsBeginEnd", "(III)V"⟩
def RJ4 : String := "java/lang/StringBuilder"
def TJ4 : u_T := fun k => match k with
  | 0 => ("java/lang/AbstractStringBuilder", "value", "[B", false)
  | 1 => ("java/lang/AbstractStringBuilder", "coder", "B", false)
  | 2 => ("java/lang/AbstractStringBuilder", "maybeLatin1", "Z", false)
  | _ => ("java/lang/AbstractStringBuilder", "count", "I", false)
def tyJ4 : Nat → FieldType := fun k => match k with
  | 0 => .array .byte
  | 1 => .byte
  | 2 => .boolean
  | _ => .int
theorem nmJ4 : ∀ a, a < 4 → ∀ b, b < 4 → a ≠ b → (TJ4 a).2.1 ≠ (TJ4 b).2.1 := by decide +kernel
theorem tyJ4_ok : ∀ k, k < 4 → parseFieldDescriptor (TJ4 k).2.2.1 = some (tyJ4 k) := by decide +kernel
abbrev cJ4_init_da8c8 : ByteArray := prog_24_method_1_code
def yJ4_init_da8c8 : MethodName := ⟨RJ4, "<init>", "()V"⟩
abbrev cJ4_init_a7421 : ByteArray := prog_24_method_3_code
def yJ4_init_a7421 : MethodName := ⟨RJ4, "<init>", "(Ljava/lang/String;)V"⟩
abbrev cJ4_append_15ec4 : ByteArray := prog_24_method_7_code
def yJ4_append_15ec4 : MethodName := ⟨RJ4, "append", "(Ljava/lang/String;)Ljava/lang/StringBuilder;"⟩
abbrev cJ4_append_cf468 : ByteArray := prog_24_method_14_code
def yJ4_append_cf468 : MethodName := ⟨RJ4, "append", "(C)Ljava/lang/StringBuilder;"⟩
abbrev cJ4_append_bf812 : ByteArray := prog_24_method_15_code
def yJ4_append_bf812 : MethodName := ⟨RJ4, "append", "(I)Ljava/lang/StringBuilder;"⟩
abbrev cJ4_toString_0e30d : ByteArray := prog_24_method_42_code
def yJ4_toString_0e30d : MethodName := ⟨RJ4, "toString", "()Ljava/lang/String;"⟩
abbrev cJ4_append_cf1ce : ByteArray := prog_24_method_80_code
def yJ4_append_cf1ce : MethodName := ⟨RJ4, "append", "(Ljava/lang/String;)Ljava/lang/AbstractStringBuilder;"⟩
abbrev cJ4_length_8abf5 : ByteArray := prog_24_method_93_code
def yJ4_length_8abf5 : MethodName := ⟨RJ4, "length", "()I"⟩
def RJ1 : String := "java/lang/StringLatin1"
def TJ1 : u_T := fun k => match k with
  | _ => ("", "", "", false)
def tyJ1 : Nat → FieldType := fun k => match k with
  | _ => .int
theorem nmJ1 : ∀ a, a < 0 → ∀ b, b < 0 → a ≠ b → (TJ1 a).2.1 ≠ (TJ1 b).2.1 := by decide +kernel
theorem tyJ1_ok : ∀ k, k < 0 → parseFieldDescriptor (TJ1 k).2.2.1 = some (tyJ1 k) := by decide +kernel
abbrev cJ1_charAt_3b067 : ByteArray := prog_25_method_2_code
def yJ1_charAt_3b067 : MethodName := ⟨RJ1, "charAt", "([BI)C"⟩
abbrev cJ1_canEncode_fc78d : ByteArray := prog_25_method_3_code
def yJ1_canEncode_fc78d : MethodName := ⟨RJ1, "canEncode", "(C)Z"⟩
abbrev cJ1_inflate_0e8fd : ByteArray := prog_25_method_50_code
def yJ1_inflate_0e8fd : MethodName := ⟨RJ1, "inflate", "([BI[BII)V"⟩
def RJ2 : String := "java/lang/StringUTF16"
def TJ2 : u_T := fun k => match k with
  | _ => ("", "", "", false)
def tyJ2 : Nat → FieldType := fun k => match k with
  | _ => .int
theorem nmJ2 : ∀ a, a < 0 → ∀ b, b < 0 → a ≠ b → (TJ2 a).2.1 ≠ (TJ2 b).2.1 := by decide +kernel
theorem tyJ2_ok : ∀ k, k < 0 → parseFieldDescriptor (TJ2 k).2.2.1 = some (tyJ2 k) := by decide +kernel
abbrev cJ2_newBytesFor_77867 : ByteArray := prog_26_method_2_code
def yJ2_newBytesFor_77867 : MethodName := ⟨RJ2, "newBytesFor", "(I)[B"⟩
abbrev cJ2_newBytesLength_0f7a4 : ByteArray := prog_26_method_3_code
def yJ2_newBytesLength_0f7a4 : MethodName := ⟨RJ2, "newBytesLength", "(I)I"⟩
abbrev cJ2_putChar_b72d1 : ByteArray := prog_26_method_4_code
def yJ2_putChar_b72d1 : MethodName := ⟨RJ2, "putChar", "([BII)V"⟩
abbrev cJ2_getChar_3b067 : ByteArray := prog_26_method_5_code
def yJ2_getChar_3b067 : MethodName := ⟨RJ2, "getChar", "([BI)C"⟩
abbrev cJ2_length_9d52b : ByteArray := prog_26_method_6_code
def yJ2_length_9d52b : MethodName := ⟨RJ2, "length", "([B)I"⟩
abbrev cJ2_coderFromArrayLen_85cad : ByteArray := prog_26_method_15_code
def yJ2_coderFromArrayLen_85cad : MethodName := ⟨RJ2, "coderFromArrayLen", "([BI)B"⟩
abbrev cJ2_compress_39247 : ByteArray := prog_26_method_17_code
def yJ2_compress_39247 : MethodName := ⟨RJ2, "compress", "([BII)[B"⟩
abbrev cJ2_compress_5af95 : ByteArray := prog_26_method_22_code
def yJ2_compress_5af95 : MethodName := ⟨RJ2, "compress", "([BI[BII)I"⟩
abbrev cJ2_putCharSB_b72d1 : ByteArray := prog_26_method_71_code
def yJ2_putCharSB_b72d1 : MethodName := ⟨RJ2, "putCharSB", "([BII)V"⟩
abbrev cJ2_getChars_46870 : ByteArray := prog_26_method_77_code
def yJ2_getChars_46870 : MethodName := ⟨RJ2, "getChars", "(III[B)I"⟩
abbrev cJ2_putCharsAt_cd4e5 : ByteArray := prog_26_method_81_code
def yJ2_putCharsAt_cd4e5 : MethodName := ⟨RJ2, "putCharsAt", "([BICCCC)I"⟩
abbrev cJ2_charAt_3b067 : ByteArray := prog_26_method_83_code
def yJ2_charAt_3b067 : MethodName := ⟨RJ2, "charAt", "([BI)C"⟩
abbrev cJ2_inflate_0e8fd : ByteArray := prog_26_method_86_code
def yJ2_inflate_0e8fd : MethodName := ⟨RJ2, "inflate", "([BI[BII)V"⟩
abbrev cJ2_getChars_ba4f3 : ByteArray := prog_26_method_89_code
def yJ2_getChars_ba4f3 : MethodName := ⟨RJ2, "getChars", "(II[B)I"⟩
abbrev cJ2_checkIndex_2214a : ByteArray := prog_26_method_91_code
def yJ2_checkIndex_2214a : MethodName := ⟨RJ2, "checkIndex", "(I[B)V"⟩
abbrev cJ2_checkBoundsBeginEnd_d044e : ByteArray := prog_26_method_93_code
def yJ2_checkBoundsBeginEnd_d044e : MethodName := ⟨RJ2, "checkBoundsBeginEnd", "(II[B)V"⟩
abbrev cJ2_checkBoundsOffCount_d044e : ByteArray := prog_26_method_94_code
def yJ2_checkBoundsOffCount_d044e : MethodName := ⟨RJ2, "checkBoundsOffCount", "(II[B)V"⟩
def RJ10 : String := "java/lang/System"
def TJ10 : u_T := fun k => match k with
  | _ => ("", "", "", false)
def tyJ10 : Nat → FieldType := fun k => match k with
  | _ => .int
theorem nmJ10 : ∀ a, a < 0 → ∀ b, b < 0 → a ≠ b → (TJ10 a).2.1 ≠ (TJ10 b).2.1 := by decide +kernel
theorem tyJ10_ok : ∀ k, k < 0 → parseFieldDescriptor (TJ10 k).2.2.1 = some (tyJ10 k) := by decide +kernel
def RJ7 : String := "java/util/Arrays"
def TJ7 : u_T := fun k => match k with
  | _ => ("", "", "", false)
def tyJ7 : Nat → FieldType := fun k => match k with
  | _ => .int
theorem nmJ7 : ∀ a, a < 0 → ∀ b, b < 0 → a ≠ b → (TJ7 a).2.1 ≠ (TJ7 b).2.1 := by decide +kernel
theorem tyJ7_ok : ∀ k, k < 0 → parseFieldDescriptor (TJ7 k).2.2.1 = some (tyJ7 k) := by decide +kernel
abbrev cJ7_copyOf_9075b : ByteArray := prog_31_method_121_code
def yJ7_copyOf_9075b : MethodName := ⟨RJ7, "copyOf", "([BI)[B"⟩
abbrev cJ7_checkLength_df160 : ByteArray := prog_31_method_131_code
def yJ7_checkLength_df160 : MethodName := ⟨RJ7, "checkLength", "(II)V"⟩
abbrev cJ7_copyOfRange_39247 : ByteArray := prog_31_method_132_code
def yJ7_copyOfRange_39247 : MethodName := ⟨RJ7, "copyOfRange", "([BII)[B"⟩
abbrev cJ7_copyOfRangeByte_39247 : ByteArray := prog_31_method_133_code
def yJ7_copyOfRangeByte_39247 : MethodName := ⟨RJ7, "copyOfRangeByte", "([BII)[B"⟩
def RJ8 : String := "jdk/internal/util/ArraysSupport"
def TJ8 : u_T := fun k => match k with
  | _ => ("", "", "", false)
def tyJ8 : Nat → FieldType := fun k => match k with
  | _ => .int
theorem nmJ8 : ∀ a, a < 0 → ∀ b, b < 0 → a ≠ b → (TJ8 a).2.1 ≠ (TJ8 b).2.1 := by decide +kernel
theorem tyJ8_ok : ∀ k, k < 0 → parseFieldDescriptor (TJ8 k).2.2.1 = some (tyJ8 k) := by decide +kernel
abbrev cJ8_newLength_cabcc : ByteArray := prog_33_method_27_code
def yJ8_newLength_cabcc : MethodName := ⟨RJ8, "newLength", "(III)I"⟩
abbrev cJ8_hugeLength_7cf53 : ByteArray := prog_33_method_28_code
def yJ8_hugeLength_7cf53 : MethodName := ⟨RJ8, "hugeLength", "(II)I"⟩
def RJ3 : String := "jdk/internal/util/Preconditions"
def TJ3 : u_T := fun k => match k with
  | _ => ("", "", "", false)
def tyJ3 : Nat → FieldType := fun k => match k with
  | _ => .int
theorem nmJ3 : ∀ a, a < 0 → ∀ b, b < 0 → a ≠ b → (TJ3 a).2.1 ≠ (TJ3 b).2.1 := by decide +kernel
theorem tyJ3_ok : ∀ k, k < 0 → parseFieldDescriptor (TJ3 k).2.2.1 = some (tyJ3 k) := by decide +kernel
abbrev cJ3_checkIndex_8e157 : ByteArray := prog_34_method_11_code
def yJ3_checkIndex_8e157 : MethodName := ⟨RJ3, "checkIndex", "(IILjava/util/function/BiFunction;)I"⟩
abbrev cJ3_checkFromToIndex_8c36e : ByteArray := prog_34_method_12_code
def yJ3_checkFromToIndex_8c36e : MethodName := ⟨RJ3, "checkFromToIndex", "(IIILjava/util/function/BiFunction;)I"⟩
abbrev cJ3_checkFromIndexSize_8c36e : ByteArray := prog_34_method_13_code
def yJ3_checkFromIndexSize_8c36e : MethodName := ⟨RJ3, "checkFromIndexSize", "(IIILjava/util/function/BiFunction;)I"⟩
def RL : String := "CaravanRouteLaw"
abbrev cL_call : ByteArray := method_2_code
def yL_call : MethodName := ⟨RL, "call", "(LCaravanRoute;IIIIII)I"⟩
abbrev cL_call_ : ByteArray := method_3_code
def yL_call_ : MethodName := ⟨RL, "call", "(LCaravanRoute;III)I"⟩
abbrev cL_call__ : ByteArray := method_4_code
def yL_call__ : MethodName := ⟨RL, "call", "(LCaravanRoute;II)I"⟩
abbrev cL_feeds : ByteArray := method_5_code
def yL_feeds : MethodName := ⟨RL, "feeds", "(LCaravanRoute;Ljava/lang/String;)Z"⟩
abbrev cL_route : ByteArray := method_6_code
def yL_route : MethodName := ⟨RL, "route", "(II)Ljava/lang/String;"⟩
abbrev cL_state : ByteArray := method_7_code
def yL_state : MethodName := ⟨RL, "state", "(LCaravanRoute;)J"⟩
abbrev cL_caravan : ByteArray := method_8_code
def yL_caravan : MethodName := ⟨RL, "caravan", "(LCaravanRoute;)Z"⟩
abbrev cL_distance : ByteArray := method_9_code
def yL_distance : MethodName := ⟨RL, "distance", "(LCaravanRoute;)I"⟩
abbrev cL_day : ByteArray := method_10_code
def yL_day : MethodName := ⟨RL, "day", "(LCaravanRoute;Z)Z"⟩
abbrev cL_works : ByteArray := method_11_code
def yL_works : MethodName := ⟨RL, "works", "(LCaravanRoute;I)Z"⟩
abbrev cL_ahead : ByteArray := method_12_code
def yL_ahead : MethodName := ⟨RL, "ahead", "(LCaravanRoute;I)Z"⟩
abbrev cL_does : ByteArray := method_13_code
def yL_does : MethodName := ⟨RL, "does", "(LCaravanRoute;II)Z"⟩
abbrev cL_law : ByteArray := code
def yL_law : MethodName := ⟨RL, "law", "([I)Z"⟩
abbrev vwCl : List vw_C := [(RX0, TX0, 17), (RX1, TX1, 3), (RX2, TX2, 8), (RX3, TX3, 13), (RX4, TX4, 2), (RX5, TX5, 9), (RJ4, TJ4, 4), (RJ0, TJ0, 4)]
end
section
theorem dX3_init_0 : decode cX3_init 0 = .ok (.aload_n 0, 1) := by decide +kernel
theorem dX3_init_1 : decode cX3_init 1 = .ok (.invokespecial 3, 3) := by decide +kernel
theorem dX3_init_4 : decode cX3_init 4 = .ok (.aload_n 0, 1) := by decide +kernel
theorem dX3_init_5 : decode cX3_init 5 = .ok (.bipush 10, 2) := by decide +kernel
theorem dX3_init_7 : decode cX3_init 7 = .ok (.newarray .int, 2) := by decide +kernel
theorem dX3_init_9 : decode cX3_init 9 = .ok (.putfield 9, 3) := by decide +kernel
theorem dX3_init_12 : decode cX3_init 12 = .ok (.aload_n 0, 1) := by decide +kernel
theorem dX3_init_13 : decode cX3_init 13 = .ok (.bipush 10, 2) := by decide +kernel
theorem dX3_init_15 : decode cX3_init 15 = .ok (.newarray .int, 2) := by decide +kernel
theorem dX3_init_17 : decode cX3_init 17 = .ok (.putfield 15, 3) := by decide +kernel
theorem dX3_init_20 : decode cX3_init 20 = .ok (.aload_n 0, 1) := by decide +kernel
theorem dX3_init_21 : decode cX3_init 21 = .ok (.bipush 10, 2) := by decide +kernel
theorem dX3_init_23 : decode cX3_init 23 = .ok (.newarray .int, 2) := by decide +kernel
theorem dX3_init_25 : decode cX3_init 25 = .ok (.putfield 18, 3) := by decide +kernel
theorem dX3_init_28 : decode cX3_init 28 = .ok (.aload_n 0, 1) := by decide +kernel
theorem dX3_init_29 : decode cX3_init 29 = .ok (.bipush 8, 2) := by decide +kernel
theorem dX3_init_31 : decode cX3_init 31 = .ok (.newarray .int, 2) := by decide +kernel
theorem dX3_init_33 : decode cX3_init 33 = .ok (.putfield 21, 3) := by decide +kernel
theorem dX3_init_36 : decode cX3_init 36 = .ok (.aload_n 0, 1) := by decide +kernel
theorem dX3_init_37 : decode cX3_init 37 = .ok (.bipush 8, 2) := by decide +kernel
theorem dX3_init_39 : decode cX3_init 39 = .ok (.newarray .int, 2) := by decide +kernel
theorem dX3_init_41 : decode cX3_init 41 = .ok (.putfield 24, 3) := by decide +kernel
theorem dX3_init_44 : decode cX3_init 44 = .ok (.aload_n 0, 1) := by decide +kernel
theorem dX3_init_45 : decode cX3_init 45 = .ok (.bipush 8, 2) := by decide +kernel
theorem dX3_init_47 : decode cX3_init 47 = .ok (.newarray .int, 2) := by decide +kernel
theorem dX3_init_49 : decode cX3_init 49 = .ok (.putfield 27, 3) := by decide +kernel
theorem dX3_init_52 : decode cX3_init 52 = .ok (.aload_n 0, 1) := by decide +kernel
theorem dX3_init_53 : decode cX3_init 53 = .ok (.bipush 6, 2) := by decide +kernel
theorem dX3_init_55 : decode cX3_init 55 = .ok (.newarray .int, 2) := by decide +kernel
theorem dX3_init_57 : decode cX3_init 57 = .ok (.putfield 30, 3) := by decide +kernel
theorem dX3_init_60 : decode cX3_init 60 = .ok (.aload_n 0, 1) := by decide +kernel
theorem dX3_init_61 : decode cX3_init 61 = .ok (.bipush 6, 2) := by decide +kernel
theorem dX3_init_63 : decode cX3_init 63 = .ok (.newarray .int, 2) := by decide +kernel
theorem dX3_init_65 : decode cX3_init 65 = .ok (.putfield 33, 3) := by decide +kernel
theorem dX3_init_68 : decode cX3_init 68 = .ok (.aload_n 0, 1) := by decide +kernel
theorem dX3_init_69 : decode cX3_init 69 = .ok (.bipush 6, 2) := by decide +kernel
theorem dX3_init_71 : decode cX3_init 71 = .ok (.newarray .int, 2) := by decide +kernel
theorem dX3_init_73 : decode cX3_init 73 = .ok (.putfield 36, 3) := by decide +kernel
theorem dX3_init_76 : decode cX3_init 76 = .ok (.return_, 1) := by decide +kernel
theorem dX3_clear_0 : decode cX3_clear 0 = .ok (.aload_n 0, 1) := by decide +kernel
theorem dX3_clear_1 : decode cX3_clear 1 = .ok (.iload_n 1, 1) := by decide +kernel
theorem dX3_clear_2 : decode cX3_clear 2 = .ok (.putfield 39, 3) := by decide +kernel
theorem dX3_clear_5 : decode cX3_clear 5 = .ok (.aload_n 0, 1) := by decide +kernel
theorem dX3_clear_6 : decode cX3_clear 6 = .ok (.iconst 0, 1) := by decide +kernel
theorem dX3_clear_7 : decode cX3_clear 7 = .ok (.putfield 43, 3) := by decide +kernel
theorem dX3_clear_10 : decode cX3_clear 10 = .ok (.aload_n 0, 1) := by decide +kernel
theorem dX3_clear_11 : decode cX3_clear 11 = .ok (.iconst 0, 1) := by decide +kernel
theorem dX3_clear_12 : decode cX3_clear 12 = .ok (.putfield 46, 3) := by decide +kernel
theorem dX3_clear_15 : decode cX3_clear 15 = .ok (.aload_n 0, 1) := by decide +kernel
theorem dX3_clear_16 : decode cX3_clear 16 = .ok (.iconst 0, 1) := by decide +kernel
theorem dX3_clear_17 : decode cX3_clear 17 = .ok (.putfield 49, 3) := by decide +kernel
theorem dX3_clear_20 : decode cX3_clear 20 = .ok (.return_, 1) := by decide +kernel
theorem dX3_copyFrom_0 : decode cX3_copyFrom 0 = .ok (.aload_n 0, 1) := by decide +kernel
theorem dX3_copyFrom_1 : decode cX3_copyFrom 1 = .ok (.aload_n 1, 1) := by decide +kernel
theorem dX3_copyFrom_2 : decode cX3_copyFrom 2 = .ok (.getfield 39, 3) := by decide +kernel
theorem dX3_copyFrom_5 : decode cX3_copyFrom 5 = .ok (.putfield 39, 3) := by decide +kernel
theorem dX3_copyFrom_8 : decode cX3_copyFrom 8 = .ok (.aload_n 0, 1) := by decide +kernel
theorem dX3_copyFrom_9 : decode cX3_copyFrom 9 = .ok (.aload_n 1, 1) := by decide +kernel
theorem dX3_copyFrom_10 : decode cX3_copyFrom 10 = .ok (.getfield 43, 3) := by decide +kernel
theorem dX3_copyFrom_13 : decode cX3_copyFrom 13 = .ok (.putfield 43, 3) := by decide +kernel
theorem dX3_copyFrom_16 : decode cX3_copyFrom 16 = .ok (.aload_n 1, 1) := by decide +kernel
theorem dX3_copyFrom_17 : decode cX3_copyFrom 17 = .ok (.getfield 9, 3) := by decide +kernel
theorem dX3_copyFrom_20 : decode cX3_copyFrom 20 = .ok (.iconst 0, 1) := by decide +kernel
theorem dX3_copyFrom_21 : decode cX3_copyFrom 21 = .ok (.aload_n 0, 1) := by decide +kernel
theorem dX3_copyFrom_22 : decode cX3_copyFrom 22 = .ok (.getfield 9, 3) := by decide +kernel
theorem dX3_copyFrom_25 : decode cX3_copyFrom 25 = .ok (.iconst 0, 1) := by decide +kernel
theorem dX3_copyFrom_26 : decode cX3_copyFrom 26 = .ok (.bipush 10, 2) := by decide +kernel
theorem dX3_copyFrom_28 : decode cX3_copyFrom 28 = .ok (.invokestatic 52, 3) := by decide +kernel
theorem dX3_copyFrom_31 : decode cX3_copyFrom 31 = .ok (.aload_n 1, 1) := by decide +kernel
theorem dX3_copyFrom_32 : decode cX3_copyFrom 32 = .ok (.getfield 15, 3) := by decide +kernel
theorem dX3_copyFrom_35 : decode cX3_copyFrom 35 = .ok (.iconst 0, 1) := by decide +kernel
theorem dX3_copyFrom_36 : decode cX3_copyFrom 36 = .ok (.aload_n 0, 1) := by decide +kernel
theorem dX3_copyFrom_37 : decode cX3_copyFrom 37 = .ok (.getfield 15, 3) := by decide +kernel
theorem dX3_copyFrom_40 : decode cX3_copyFrom 40 = .ok (.iconst 0, 1) := by decide +kernel
theorem dX3_copyFrom_41 : decode cX3_copyFrom 41 = .ok (.bipush 10, 2) := by decide +kernel
theorem dX3_copyFrom_43 : decode cX3_copyFrom 43 = .ok (.invokestatic 52, 3) := by decide +kernel
theorem dX3_copyFrom_46 : decode cX3_copyFrom 46 = .ok (.aload_n 1, 1) := by decide +kernel
theorem dX3_copyFrom_47 : decode cX3_copyFrom 47 = .ok (.getfield 18, 3) := by decide +kernel
theorem dX3_copyFrom_50 : decode cX3_copyFrom 50 = .ok (.iconst 0, 1) := by decide +kernel
theorem dX3_copyFrom_51 : decode cX3_copyFrom 51 = .ok (.aload_n 0, 1) := by decide +kernel
theorem dX3_copyFrom_52 : decode cX3_copyFrom 52 = .ok (.getfield 18, 3) := by decide +kernel
theorem dX3_copyFrom_55 : decode cX3_copyFrom 55 = .ok (.iconst 0, 1) := by decide +kernel
theorem dX3_copyFrom_56 : decode cX3_copyFrom 56 = .ok (.bipush 10, 2) := by decide +kernel
theorem dX3_copyFrom_58 : decode cX3_copyFrom 58 = .ok (.invokestatic 52, 3) := by decide +kernel
theorem dX3_copyFrom_61 : decode cX3_copyFrom 61 = .ok (.aload_n 0, 1) := by decide +kernel
theorem dX3_copyFrom_62 : decode cX3_copyFrom 62 = .ok (.aload_n 1, 1) := by decide +kernel
theorem dX3_copyFrom_63 : decode cX3_copyFrom 63 = .ok (.getfield 46, 3) := by decide +kernel
theorem dX3_copyFrom_66 : decode cX3_copyFrom 66 = .ok (.putfield 46, 3) := by decide +kernel
theorem dX3_copyFrom_69 : decode cX3_copyFrom 69 = .ok (.aload_n 1, 1) := by decide +kernel
theorem dX3_copyFrom_70 : decode cX3_copyFrom 70 = .ok (.getfield 21, 3) := by decide +kernel
theorem dX3_copyFrom_73 : decode cX3_copyFrom 73 = .ok (.iconst 0, 1) := by decide +kernel
theorem dX3_copyFrom_74 : decode cX3_copyFrom 74 = .ok (.aload_n 0, 1) := by decide +kernel
theorem dX3_copyFrom_75 : decode cX3_copyFrom 75 = .ok (.getfield 21, 3) := by decide +kernel
theorem dX3_copyFrom_78 : decode cX3_copyFrom 78 = .ok (.iconst 0, 1) := by decide +kernel
theorem dX3_copyFrom_79 : decode cX3_copyFrom 79 = .ok (.bipush 8, 2) := by decide +kernel
theorem dX3_copyFrom_81 : decode cX3_copyFrom 81 = .ok (.invokestatic 52, 3) := by decide +kernel
theorem dX3_copyFrom_84 : decode cX3_copyFrom 84 = .ok (.aload_n 1, 1) := by decide +kernel
theorem dX3_copyFrom_85 : decode cX3_copyFrom 85 = .ok (.getfield 24, 3) := by decide +kernel
theorem dX3_copyFrom_88 : decode cX3_copyFrom 88 = .ok (.iconst 0, 1) := by decide +kernel
theorem dX3_copyFrom_89 : decode cX3_copyFrom 89 = .ok (.aload_n 0, 1) := by decide +kernel
theorem dX3_copyFrom_90 : decode cX3_copyFrom 90 = .ok (.getfield 24, 3) := by decide +kernel
theorem dX3_copyFrom_93 : decode cX3_copyFrom 93 = .ok (.iconst 0, 1) := by decide +kernel
theorem dX3_copyFrom_94 : decode cX3_copyFrom 94 = .ok (.bipush 8, 2) := by decide +kernel
theorem dX3_copyFrom_96 : decode cX3_copyFrom 96 = .ok (.invokestatic 52, 3) := by decide +kernel
theorem dX3_copyFrom_99 : decode cX3_copyFrom 99 = .ok (.aload_n 1, 1) := by decide +kernel
theorem dX3_copyFrom_100 : decode cX3_copyFrom 100 = .ok (.getfield 27, 3) := by decide +kernel
theorem dX3_copyFrom_103 : decode cX3_copyFrom 103 = .ok (.iconst 0, 1) := by decide +kernel
theorem dX3_copyFrom_104 : decode cX3_copyFrom 104 = .ok (.aload_n 0, 1) := by decide +kernel
theorem dX3_copyFrom_105 : decode cX3_copyFrom 105 = .ok (.getfield 27, 3) := by decide +kernel
theorem dX3_copyFrom_108 : decode cX3_copyFrom 108 = .ok (.iconst 0, 1) := by decide +kernel
theorem dX3_copyFrom_109 : decode cX3_copyFrom 109 = .ok (.bipush 8, 2) := by decide +kernel
theorem dX3_copyFrom_111 : decode cX3_copyFrom 111 = .ok (.invokestatic 52, 3) := by decide +kernel
theorem dX3_copyFrom_114 : decode cX3_copyFrom 114 = .ok (.aload_n 0, 1) := by decide +kernel
theorem dX3_copyFrom_115 : decode cX3_copyFrom 115 = .ok (.aload_n 1, 1) := by decide +kernel
theorem dX3_copyFrom_116 : decode cX3_copyFrom 116 = .ok (.getfield 49, 3) := by decide +kernel
theorem dX3_copyFrom_119 : decode cX3_copyFrom 119 = .ok (.putfield 49, 3) := by decide +kernel
theorem dX3_copyFrom_122 : decode cX3_copyFrom 122 = .ok (.aload_n 1, 1) := by decide +kernel
theorem dX3_copyFrom_123 : decode cX3_copyFrom 123 = .ok (.getfield 30, 3) := by decide +kernel
theorem dX3_copyFrom_126 : decode cX3_copyFrom 126 = .ok (.iconst 0, 1) := by decide +kernel
theorem dX3_copyFrom_127 : decode cX3_copyFrom 127 = .ok (.aload_n 0, 1) := by decide +kernel
theorem dX3_copyFrom_128 : decode cX3_copyFrom 128 = .ok (.getfield 30, 3) := by decide +kernel
theorem dX3_copyFrom_131 : decode cX3_copyFrom 131 = .ok (.iconst 0, 1) := by decide +kernel
theorem dX3_copyFrom_132 : decode cX3_copyFrom 132 = .ok (.bipush 6, 2) := by decide +kernel
theorem dX3_copyFrom_134 : decode cX3_copyFrom 134 = .ok (.invokestatic 52, 3) := by decide +kernel
theorem dX3_copyFrom_137 : decode cX3_copyFrom 137 = .ok (.aload_n 1, 1) := by decide +kernel
theorem dX3_copyFrom_138 : decode cX3_copyFrom 138 = .ok (.getfield 33, 3) := by decide +kernel
theorem dX3_copyFrom_141 : decode cX3_copyFrom 141 = .ok (.iconst 0, 1) := by decide +kernel
theorem dX3_copyFrom_142 : decode cX3_copyFrom 142 = .ok (.aload_n 0, 1) := by decide +kernel
theorem dX3_copyFrom_143 : decode cX3_copyFrom 143 = .ok (.getfield 33, 3) := by decide +kernel
theorem dX3_copyFrom_146 : decode cX3_copyFrom 146 = .ok (.iconst 0, 1) := by decide +kernel
theorem dX3_copyFrom_147 : decode cX3_copyFrom 147 = .ok (.bipush 6, 2) := by decide +kernel
theorem dX3_copyFrom_149 : decode cX3_copyFrom 149 = .ok (.invokestatic 52, 3) := by decide +kernel
theorem dX3_copyFrom_152 : decode cX3_copyFrom 152 = .ok (.aload_n 1, 1) := by decide +kernel
theorem dX3_copyFrom_153 : decode cX3_copyFrom 153 = .ok (.getfield 36, 3) := by decide +kernel
theorem dX3_copyFrom_156 : decode cX3_copyFrom 156 = .ok (.iconst 0, 1) := by decide +kernel
theorem dX3_copyFrom_157 : decode cX3_copyFrom 157 = .ok (.aload_n 0, 1) := by decide +kernel
theorem dX3_copyFrom_158 : decode cX3_copyFrom 158 = .ok (.getfield 36, 3) := by decide +kernel
theorem dX3_copyFrom_161 : decode cX3_copyFrom 161 = .ok (.iconst 0, 1) := by decide +kernel
theorem dX3_copyFrom_162 : decode cX3_copyFrom 162 = .ok (.bipush 6, 2) := by decide +kernel
theorem dX3_copyFrom_164 : decode cX3_copyFrom 164 = .ok (.invokestatic 52, 3) := by decide +kernel
theorem dX3_copyFrom_167 : decode cX3_copyFrom 167 = .ok (.return_, 1) := by decide +kernel
theorem dX3_hasCamel_0 : decode cX3_hasCamel 0 = .ok (.iload_n 1, 1) := by decide +kernel
theorem dX3_hasCamel_1 : decode cX3_hasCamel 1 = .ok (.ifCond .lt 15, 3) := by decide +kernel
theorem dX3_hasCamel_4 : decode cX3_hasCamel 4 = .ok (.iload_n 1, 1) := by decide +kernel
theorem dX3_hasCamel_5 : decode cX3_hasCamel 5 = .ok (.aload_n 0, 1) := by decide +kernel
theorem dX3_hasCamel_6 : decode cX3_hasCamel 6 = .ok (.getfield 43, 3) := by decide +kernel
theorem dX3_hasCamel_9 : decode cX3_hasCamel 9 = .ok (.if_icmp .ge 7, 3) := by decide +kernel
theorem dX3_hasCamel_12 : decode cX3_hasCamel 12 = .ok (.iconst 1, 1) := by decide +kernel
theorem dX3_hasCamel_13 : decode cX3_hasCamel 13 = .ok (.goto 4, 3) := by decide +kernel
theorem dX3_hasCamel_16 : decode cX3_hasCamel 16 = .ok (.iconst 0, 1) := by decide +kernel
theorem dX3_hasCamel_17 : decode cX3_hasCamel 17 = .ok (.ireturn, 1) := by decide +kernel
theorem dX3_addCamel_0 : decode cX3_addCamel 0 = .ok (.aload_n 0, 1) := by decide +kernel
theorem dX3_addCamel_1 : decode cX3_addCamel 1 = .ok (.getfield 43, 3) := by decide +kernel
theorem dX3_addCamel_4 : decode cX3_addCamel 4 = .ok (.bipush 10, 2) := by decide +kernel
theorem dX3_addCamel_6 : decode cX3_addCamel 6 = .ok (.if_icmp .ge 43, 3) := by decide +kernel
theorem dX3_addCamel_9 : decode cX3_addCamel 9 = .ok (.aload_n 0, 1) := by decide +kernel
theorem dX3_addCamel_10 : decode cX3_addCamel 10 = .ok (.getfield 9, 3) := by decide +kernel
theorem dX3_addCamel_13 : decode cX3_addCamel 13 = .ok (.aload_n 0, 1) := by decide +kernel
theorem dX3_addCamel_14 : decode cX3_addCamel 14 = .ok (.getfield 43, 3) := by decide +kernel
theorem dX3_addCamel_17 : decode cX3_addCamel 17 = .ok (.iload_n 1, 1) := by decide +kernel
theorem dX3_addCamel_18 : decode cX3_addCamel 18 = .ok (.iastore, 1) := by decide +kernel
theorem dX3_addCamel_19 : decode cX3_addCamel 19 = .ok (.aload_n 0, 1) := by decide +kernel
theorem dX3_addCamel_20 : decode cX3_addCamel 20 = .ok (.getfield 15, 3) := by decide +kernel
theorem dX3_addCamel_23 : decode cX3_addCamel 23 = .ok (.aload_n 0, 1) := by decide +kernel
theorem dX3_addCamel_24 : decode cX3_addCamel 24 = .ok (.getfield 43, 3) := by decide +kernel
theorem dX3_addCamel_27 : decode cX3_addCamel 27 = .ok (.iload_n 2, 1) := by decide +kernel
theorem dX3_addCamel_28 : decode cX3_addCamel 28 = .ok (.iastore, 1) := by decide +kernel
theorem dX3_addCamel_29 : decode cX3_addCamel 29 = .ok (.aload_n 0, 1) := by decide +kernel
theorem dX3_addCamel_30 : decode cX3_addCamel 30 = .ok (.getfield 18, 3) := by decide +kernel
theorem dX3_addCamel_33 : decode cX3_addCamel 33 = .ok (.aload_n 0, 1) := by decide +kernel
theorem dX3_addCamel_34 : decode cX3_addCamel 34 = .ok (.getfield 43, 3) := by decide +kernel
theorem dX3_addCamel_37 : decode cX3_addCamel 37 = .ok (.iload_n 3, 1) := by decide +kernel
theorem dX3_addCamel_38 : decode cX3_addCamel 38 = .ok (.iastore, 1) := by decide +kernel
theorem dX3_addCamel_39 : decode cX3_addCamel 39 = .ok (.aload_n 0, 1) := by decide +kernel
theorem dX3_addCamel_40 : decode cX3_addCamel 40 = .ok (.dup, 1) := by decide +kernel
theorem dX3_addCamel_41 : decode cX3_addCamel 41 = .ok (.getfield 43, 3) := by decide +kernel
theorem dX3_addCamel_44 : decode cX3_addCamel 44 = .ok (.iconst 1, 1) := by decide +kernel
theorem dX3_addCamel_45 : decode cX3_addCamel 45 = .ok (.iadd, 1) := by decide +kernel
theorem dX3_addCamel_46 : decode cX3_addCamel 46 = .ok (.putfield 43, 3) := by decide +kernel
theorem dX3_addCamel_49 : decode cX3_addCamel 49 = .ok (.return_, 1) := by decide +kernel
theorem dX3_addWell_0 : decode cX3_addWell 0 = .ok (.aload_n 0, 1) := by decide +kernel
theorem dX3_addWell_1 : decode cX3_addWell 1 = .ok (.getfield 46, 3) := by decide +kernel
theorem dX3_addWell_4 : decode cX3_addWell 4 = .ok (.bipush 8, 2) := by decide +kernel
theorem dX3_addWell_6 : decode cX3_addWell 6 = .ok (.if_icmp .ge 43, 3) := by decide +kernel
theorem dX3_addWell_9 : decode cX3_addWell 9 = .ok (.aload_n 0, 1) := by decide +kernel
theorem dX3_addWell_10 : decode cX3_addWell 10 = .ok (.getfield 21, 3) := by decide +kernel
theorem dX3_addWell_13 : decode cX3_addWell 13 = .ok (.aload_n 0, 1) := by decide +kernel
theorem dX3_addWell_14 : decode cX3_addWell 14 = .ok (.getfield 46, 3) := by decide +kernel
theorem dX3_addWell_17 : decode cX3_addWell 17 = .ok (.iload_n 1, 1) := by decide +kernel
theorem dX3_addWell_18 : decode cX3_addWell 18 = .ok (.iastore, 1) := by decide +kernel
theorem dX3_addWell_19 : decode cX3_addWell 19 = .ok (.aload_n 0, 1) := by decide +kernel
theorem dX3_addWell_20 : decode cX3_addWell 20 = .ok (.getfield 24, 3) := by decide +kernel
theorem dX3_addWell_23 : decode cX3_addWell 23 = .ok (.aload_n 0, 1) := by decide +kernel
theorem dX3_addWell_24 : decode cX3_addWell 24 = .ok (.getfield 46, 3) := by decide +kernel
theorem dX3_addWell_27 : decode cX3_addWell 27 = .ok (.iload_n 2, 1) := by decide +kernel
theorem dX3_addWell_28 : decode cX3_addWell 28 = .ok (.iastore, 1) := by decide +kernel
theorem dX3_addWell_29 : decode cX3_addWell 29 = .ok (.aload_n 0, 1) := by decide +kernel
theorem dX3_addWell_30 : decode cX3_addWell 30 = .ok (.getfield 27, 3) := by decide +kernel
theorem dX3_addWell_33 : decode cX3_addWell 33 = .ok (.aload_n 0, 1) := by decide +kernel
theorem dX3_addWell_34 : decode cX3_addWell 34 = .ok (.getfield 46, 3) := by decide +kernel
theorem dX3_addWell_37 : decode cX3_addWell 37 = .ok (.iload_n 3, 1) := by decide +kernel
theorem dX3_addWell_38 : decode cX3_addWell 38 = .ok (.iastore, 1) := by decide +kernel
theorem dX3_addWell_39 : decode cX3_addWell 39 = .ok (.aload_n 0, 1) := by decide +kernel
theorem dX3_addWell_40 : decode cX3_addWell 40 = .ok (.dup, 1) := by decide +kernel
theorem dX3_addWell_41 : decode cX3_addWell 41 = .ok (.getfield 46, 3) := by decide +kernel
theorem dX3_addWell_44 : decode cX3_addWell 44 = .ok (.iconst 1, 1) := by decide +kernel
theorem dX3_addWell_45 : decode cX3_addWell 45 = .ok (.iadd, 1) := by decide +kernel
theorem dX3_addWell_46 : decode cX3_addWell 46 = .ok (.putfield 46, 3) := by decide +kernel
theorem dX3_addWell_49 : decode cX3_addWell 49 = .ok (.return_, 1) := by decide +kernel
theorem dX3_addStorm_0 : decode cX3_addStorm 0 = .ok (.aload_n 0, 1) := by decide +kernel
theorem dX3_addStorm_1 : decode cX3_addStorm 1 = .ok (.getfield 49, 3) := by decide +kernel
theorem dX3_addStorm_4 : decode cX3_addStorm 4 = .ok (.bipush 6, 2) := by decide +kernel
theorem dX3_addStorm_6 : decode cX3_addStorm 6 = .ok (.if_icmp .ge 43, 3) := by decide +kernel
theorem dX3_addStorm_9 : decode cX3_addStorm 9 = .ok (.aload_n 0, 1) := by decide +kernel
theorem dX3_addStorm_10 : decode cX3_addStorm 10 = .ok (.getfield 30, 3) := by decide +kernel
theorem dX3_addStorm_13 : decode cX3_addStorm 13 = .ok (.aload_n 0, 1) := by decide +kernel
theorem dX3_addStorm_14 : decode cX3_addStorm 14 = .ok (.getfield 49, 3) := by decide +kernel
theorem dX3_addStorm_17 : decode cX3_addStorm 17 = .ok (.iload_n 1, 1) := by decide +kernel
theorem dX3_addStorm_18 : decode cX3_addStorm 18 = .ok (.iastore, 1) := by decide +kernel
theorem dX3_addStorm_19 : decode cX3_addStorm 19 = .ok (.aload_n 0, 1) := by decide +kernel
theorem dX3_addStorm_20 : decode cX3_addStorm 20 = .ok (.getfield 33, 3) := by decide +kernel
theorem dX3_addStorm_23 : decode cX3_addStorm 23 = .ok (.aload_n 0, 1) := by decide +kernel
theorem dX3_addStorm_24 : decode cX3_addStorm 24 = .ok (.getfield 49, 3) := by decide +kernel
theorem dX3_addStorm_27 : decode cX3_addStorm 27 = .ok (.iload_n 2, 1) := by decide +kernel
theorem dX3_addStorm_28 : decode cX3_addStorm 28 = .ok (.iastore, 1) := by decide +kernel
theorem dX3_addStorm_29 : decode cX3_addStorm 29 = .ok (.aload_n 0, 1) := by decide +kernel
theorem dX3_addStorm_30 : decode cX3_addStorm 30 = .ok (.getfield 36, 3) := by decide +kernel
theorem dX3_addStorm_33 : decode cX3_addStorm 33 = .ok (.aload_n 0, 1) := by decide +kernel
theorem dX3_addStorm_34 : decode cX3_addStorm 34 = .ok (.getfield 49, 3) := by decide +kernel
theorem dX3_addStorm_37 : decode cX3_addStorm 37 = .ok (.iload_n 3, 1) := by decide +kernel
theorem dX3_addStorm_38 : decode cX3_addStorm 38 = .ok (.iastore, 1) := by decide +kernel
theorem dX3_addStorm_39 : decode cX3_addStorm 39 = .ok (.aload_n 0, 1) := by decide +kernel
theorem dX3_addStorm_40 : decode cX3_addStorm 40 = .ok (.dup, 1) := by decide +kernel
theorem dX3_addStorm_41 : decode cX3_addStorm 41 = .ok (.getfield 49, 3) := by decide +kernel
theorem dX3_addStorm_44 : decode cX3_addStorm 44 = .ok (.iconst 1, 1) := by decide +kernel
theorem dX3_addStorm_45 : decode cX3_addStorm 45 = .ok (.iadd, 1) := by decide +kernel
theorem dX3_addStorm_46 : decode cX3_addStorm 46 = .ok (.putfield 49, 3) := by decide +kernel
theorem dX3_addStorm_49 : decode cX3_addStorm 49 = .ok (.return_, 1) := by decide +kernel
theorem dX3_greatestStorm_0 : decode cX3_greatestStorm 0 = .ok (.iconst 0, 1) := by decide +kernel
theorem dX3_greatestStorm_1 : decode cX3_greatestStorm 1 = .ok (.istore_n 2, 1) := by decide +kernel
theorem dX3_greatestStorm_2 : decode cX3_greatestStorm 2 = .ok (.iconst 0, 1) := by decide +kernel
theorem dX3_greatestStorm_3 : decode cX3_greatestStorm 3 = .ok (.istore_n 3, 1) := by decide +kernel
theorem dX3_greatestStorm_4 : decode cX3_greatestStorm 4 = .ok (.iload_n 3, 1) := by decide +kernel
theorem dX3_greatestStorm_5 : decode cX3_greatestStorm 5 = .ok (.aload_n 0, 1) := by decide +kernel
theorem dX3_greatestStorm_6 : decode cX3_greatestStorm 6 = .ok (.getfield 49, 3) := by decide +kernel
theorem dX3_greatestStorm_9 : decode cX3_greatestStorm 9 = .ok (.if_icmp .ge 40, 3) := by decide +kernel
theorem dX3_greatestStorm_12 : decode cX3_greatestStorm 12 = .ok (.aload_n 0, 1) := by decide +kernel
theorem dX3_greatestStorm_13 : decode cX3_greatestStorm 13 = .ok (.getfield 30, 3) := by decide +kernel
theorem dX3_greatestStorm_16 : decode cX3_greatestStorm 16 = .ok (.iload_n 3, 1) := by decide +kernel
theorem dX3_greatestStorm_17 : decode cX3_greatestStorm 17 = .ok (.iaload, 1) := by decide +kernel
theorem dX3_greatestStorm_18 : decode cX3_greatestStorm 18 = .ok (.iload_n 1, 1) := by decide +kernel
theorem dX3_greatestStorm_19 : decode cX3_greatestStorm 19 = .ok (.if_icmp .gt 24, 3) := by decide +kernel
theorem dX3_greatestStorm_22 : decode cX3_greatestStorm 22 = .ok (.iload_n 1, 1) := by decide +kernel
theorem dX3_greatestStorm_23 : decode cX3_greatestStorm 23 = .ok (.aload_n 0, 1) := by decide +kernel
theorem dX3_greatestStorm_24 : decode cX3_greatestStorm 24 = .ok (.getfield 33, 3) := by decide +kernel
theorem dX3_greatestStorm_27 : decode cX3_greatestStorm 27 = .ok (.iload_n 3, 1) := by decide +kernel
theorem dX3_greatestStorm_28 : decode cX3_greatestStorm 28 = .ok (.iaload, 1) := by decide +kernel
theorem dX3_greatestStorm_29 : decode cX3_greatestStorm 29 = .ok (.if_icmp .gt 14, 3) := by decide +kernel
theorem dX3_greatestStorm_32 : decode cX3_greatestStorm 32 = .ok (.iload_n 2, 1) := by decide +kernel
theorem dX3_greatestStorm_33 : decode cX3_greatestStorm 33 = .ok (.aload_n 0, 1) := by decide +kernel
theorem dX3_greatestStorm_34 : decode cX3_greatestStorm 34 = .ok (.getfield 36, 3) := by decide +kernel
theorem dX3_greatestStorm_37 : decode cX3_greatestStorm 37 = .ok (.iload_n 3, 1) := by decide +kernel
theorem dX3_greatestStorm_38 : decode cX3_greatestStorm 38 = .ok (.iaload, 1) := by decide +kernel
theorem dX3_greatestStorm_39 : decode cX3_greatestStorm 39 = .ok (.invokestatic 58, 3) := by decide +kernel
theorem dX3_greatestStorm_42 : decode cX3_greatestStorm 42 = .ok (.istore_n 2, 1) := by decide +kernel
theorem dX3_greatestStorm_43 : decode cX3_greatestStorm 43 = .ok (.iinc 3 1, 3) := by decide +kernel
theorem dX3_greatestStorm_46 : decode cX3_greatestStorm 46 = .ok (.goto (-42), 3) := by decide +kernel
theorem dX3_greatestStorm_49 : decode cX3_greatestStorm 49 = .ok (.iload_n 2, 1) := by decide +kernel
theorem dX3_greatestStorm_50 : decode cX3_greatestStorm 50 = .ok (.ireturn, 1) := by decide +kernel
theorem dX3_wellAt_0 : decode cX3_wellAt 0 = .ok (.iconst 0, 1) := by decide +kernel
theorem dX3_wellAt_1 : decode cX3_wellAt 1 = .ok (.istore_n 2, 1) := by decide +kernel
theorem dX3_wellAt_2 : decode cX3_wellAt 2 = .ok (.iload_n 2, 1) := by decide +kernel
theorem dX3_wellAt_3 : decode cX3_wellAt 3 = .ok (.aload_n 0, 1) := by decide +kernel
theorem dX3_wellAt_4 : decode cX3_wellAt 4 = .ok (.getfield 46, 3) := by decide +kernel
theorem dX3_wellAt_7 : decode cX3_wellAt 7 = .ok (.if_icmp .ge 21, 3) := by decide +kernel
theorem dX3_wellAt_10 : decode cX3_wellAt 10 = .ok (.aload_n 0, 1) := by decide +kernel
theorem dX3_wellAt_11 : decode cX3_wellAt 11 = .ok (.getfield 21, 3) := by decide +kernel
theorem dX3_wellAt_14 : decode cX3_wellAt 14 = .ok (.iload_n 2, 1) := by decide +kernel
theorem dX3_wellAt_15 : decode cX3_wellAt 15 = .ok (.iaload, 1) := by decide +kernel
theorem dX3_wellAt_16 : decode cX3_wellAt 16 = .ok (.iload_n 1, 1) := by decide +kernel
theorem dX3_wellAt_17 : decode cX3_wellAt 17 = .ok (.if_icmp .ne 5, 3) := by decide +kernel
theorem dX3_wellAt_20 : decode cX3_wellAt 20 = .ok (.iload_n 2, 1) := by decide +kernel
theorem dX3_wellAt_21 : decode cX3_wellAt 21 = .ok (.ireturn, 1) := by decide +kernel
theorem dX3_wellAt_22 : decode cX3_wellAt 22 = .ok (.iinc 2 1, 3) := by decide +kernel
theorem dX3_wellAt_25 : decode cX3_wellAt 25 = .ok (.goto (-23), 3) := by decide +kernel
theorem dX3_wellAt_28 : decode cX3_wellAt 28 = .ok (.iconst (-1), 1) := by decide +kernel
theorem dX3_wellAt_29 : decode cX3_wellAt 29 = .ok (.ireturn, 1) := by decide +kernel
theorem dX3_firstWellBehind_0 : decode cX3_firstWellBehind 0 = .ok (.iconst (-1), 1) := by decide +kernel
theorem dX3_firstWellBehind_1 : decode cX3_firstWellBehind 1 = .ok (.istore_n 2, 1) := by decide +kernel
theorem dX3_firstWellBehind_2 : decode cX3_firstWellBehind 2 = .ok (.sipush 1000, 3) := by decide +kernel
theorem dX3_firstWellBehind_5 : decode cX3_firstWellBehind 5 = .ok (.istore_n 3, 1) := by decide +kernel
theorem dX3_firstWellBehind_6 : decode cX3_firstWellBehind 6 = .ok (.iconst 0, 1) := by decide +kernel
theorem dX3_firstWellBehind_7 : decode cX3_firstWellBehind 7 = .ok (.istore 4, 2) := by decide +kernel
theorem dX3_firstWellBehind_9 : decode cX3_firstWellBehind 9 = .ok (.iload 4, 2) := by decide +kernel
theorem dX3_firstWellBehind_11 : decode cX3_firstWellBehind 11 = .ok (.aload_n 0, 1) := by decide +kernel
theorem dX3_firstWellBehind_12 : decode cX3_firstWellBehind 12 = .ok (.getfield 46, 3) := by decide +kernel
theorem dX3_firstWellBehind_15 : decode cX3_firstWellBehind 15 = .ok (.if_icmp .ge 42, 3) := by decide +kernel
theorem dX3_firstWellBehind_18 : decode cX3_firstWellBehind 18 = .ok (.aload_n 0, 1) := by decide +kernel
theorem dX3_firstWellBehind_19 : decode cX3_firstWellBehind 19 = .ok (.getfield 21, 3) := by decide +kernel
theorem dX3_firstWellBehind_22 : decode cX3_firstWellBehind 22 = .ok (.iload 4, 2) := by decide +kernel
theorem dX3_firstWellBehind_24 : decode cX3_firstWellBehind 24 = .ok (.iaload, 1) := by decide +kernel
theorem dX3_firstWellBehind_25 : decode cX3_firstWellBehind 25 = .ok (.iload_n 1, 1) := by decide +kernel
theorem dX3_firstWellBehind_26 : decode cX3_firstWellBehind 26 = .ok (.if_icmp .le 25, 3) := by decide +kernel
theorem dX3_firstWellBehind_29 : decode cX3_firstWellBehind 29 = .ok (.aload_n 0, 1) := by decide +kernel
theorem dX3_firstWellBehind_30 : decode cX3_firstWellBehind 30 = .ok (.getfield 21, 3) := by decide +kernel
theorem dX3_firstWellBehind_33 : decode cX3_firstWellBehind 33 = .ok (.iload 4, 2) := by decide +kernel
theorem dX3_firstWellBehind_35 : decode cX3_firstWellBehind 35 = .ok (.iaload, 1) := by decide +kernel
theorem dX3_firstWellBehind_36 : decode cX3_firstWellBehind 36 = .ok (.iload_n 3, 1) := by decide +kernel
theorem dX3_firstWellBehind_37 : decode cX3_firstWellBehind 37 = .ok (.if_icmp .ge 14, 3) := by decide +kernel
theorem dX3_firstWellBehind_40 : decode cX3_firstWellBehind 40 = .ok (.iload 4, 2) := by decide +kernel
theorem dX3_firstWellBehind_42 : decode cX3_firstWellBehind 42 = .ok (.istore_n 2, 1) := by decide +kernel
theorem dX3_firstWellBehind_43 : decode cX3_firstWellBehind 43 = .ok (.aload_n 0, 1) := by decide +kernel
theorem dX3_firstWellBehind_44 : decode cX3_firstWellBehind 44 = .ok (.getfield 21, 3) := by decide +kernel
theorem dX3_firstWellBehind_47 : decode cX3_firstWellBehind 47 = .ok (.iload 4, 2) := by decide +kernel
theorem dX3_firstWellBehind_49 : decode cX3_firstWellBehind 49 = .ok (.iaload, 1) := by decide +kernel
theorem dX3_firstWellBehind_50 : decode cX3_firstWellBehind 50 = .ok (.istore_n 3, 1) := by decide +kernel
theorem dX3_firstWellBehind_51 : decode cX3_firstWellBehind 51 = .ok (.iinc 4 1, 3) := by decide +kernel
theorem dX3_firstWellBehind_54 : decode cX3_firstWellBehind 54 = .ok (.goto (-45), 3) := by decide +kernel
theorem dX3_firstWellBehind_57 : decode cX3_firstWellBehind 57 = .ok (.iload_n 2, 1) := by decide +kernel
theorem dX3_firstWellBehind_58 : decode cX3_firstWellBehind 58 = .ok (.ireturn, 1) := by decide +kernel
theorem dX0_init_0 : decode cX0_init 0 = .ok (.aload_n 0, 1) := by decide +kernel
theorem dX0_init_1 : decode cX0_init 1 = .ok (.invokespecial 3, 3) := by decide +kernel
theorem dX0_init_4 : decode cX0_init 4 = .ok (.aload_n 0, 1) := by decide +kernel
theorem dX0_init_5 : decode cX0_init 5 = .ok (.bipush 10, 2) := by decide +kernel
theorem dX0_init_7 : decode cX0_init 7 = .ok (.newarray .int, 2) := by decide +kernel
theorem dX0_init_9 : decode cX0_init 9 = .ok (.putfield 9, 3) := by decide +kernel
theorem dX0_init_12 : decode cX0_init 12 = .ok (.aload_n 0, 1) := by decide +kernel
theorem dX0_init_13 : decode cX0_init 13 = .ok (.bipush 10, 2) := by decide +kernel
theorem dX0_init_15 : decode cX0_init 15 = .ok (.newarray .int, 2) := by decide +kernel
theorem dX0_init_17 : decode cX0_init 17 = .ok (.putfield 15, 3) := by decide +kernel
theorem dX0_init_20 : decode cX0_init 20 = .ok (.aload_n 0, 1) := by decide +kernel
theorem dX0_init_21 : decode cX0_init 21 = .ok (.bipush 10, 2) := by decide +kernel
theorem dX0_init_23 : decode cX0_init 23 = .ok (.newarray .int, 2) := by decide +kernel
theorem dX0_init_25 : decode cX0_init 25 = .ok (.putfield 18, 3) := by decide +kernel
theorem dX0_init_28 : decode cX0_init 28 = .ok (.aload_n 0, 1) := by decide +kernel
theorem dX0_init_29 : decode cX0_init 29 = .ok (.bipush 10, 2) := by decide +kernel
theorem dX0_init_31 : decode cX0_init 31 = .ok (.newarray .int, 2) := by decide +kernel
theorem dX0_init_33 : decode cX0_init 33 = .ok (.putfield 21, 3) := by decide +kernel
theorem dX0_init_36 : decode cX0_init 36 = .ok (.aload_n 0, 1) := by decide +kernel
theorem dX0_init_37 : decode cX0_init 37 = .ok (.bipush 10, 2) := by decide +kernel
theorem dX0_init_39 : decode cX0_init 39 = .ok (.newarray .int, 2) := by decide +kernel
theorem dX0_init_41 : decode cX0_init 41 = .ok (.putfield 24, 3) := by decide +kernel
theorem dX0_init_44 : decode cX0_init 44 = .ok (.aload_n 0, 1) := by decide +kernel
theorem dX0_init_45 : decode cX0_init 45 = .ok (.bipush 8, 2) := by decide +kernel
theorem dX0_init_47 : decode cX0_init 47 = .ok (.newarray .int, 2) := by decide +kernel
theorem dX0_init_49 : decode cX0_init 49 = .ok (.putfield 27, 3) := by decide +kernel
theorem dX0_init_52 : decode cX0_init 52 = .ok (.aload_n 0, 1) := by decide +kernel
theorem dX0_init_53 : decode cX0_init 53 = .ok (.bipush 20, 2) := by decide +kernel
theorem dX0_init_55 : decode cX0_init 55 = .ok (.newarray .int, 2) := by decide +kernel
theorem dX0_init_57 : decode cX0_init 57 = .ok (.putfield 30, 3) := by decide +kernel
theorem dX0_init_60 : decode cX0_init 60 = .ok (.aload_n 0, 1) := by decide +kernel
theorem dX0_init_61 : decode cX0_init 61 = .ok (.bipush 20, 2) := by decide +kernel
theorem dX0_init_63 : decode cX0_init 63 = .ok (.newarray .int, 2) := by decide +kernel
theorem dX0_init_65 : decode cX0_init 65 = .ok (.putfield 33, 3) := by decide +kernel
theorem dX0_init_68 : decode cX0_init 68 = .ok (.aload_n 0, 1) := by decide +kernel
theorem dX0_init_69 : decode cX0_init 69 = .ok (.bipush 20, 2) := by decide +kernel
theorem dX0_init_71 : decode cX0_init 71 = .ok (.newarray .int, 2) := by decide +kernel
theorem dX0_init_73 : decode cX0_init 73 = .ok (.putfield 36, 3) := by decide +kernel
theorem dX0_init_76 : decode cX0_init 76 = .ok (.aload_n 0, 1) := by decide +kernel
theorem dX0_init_77 : decode cX0_init 77 = .ok (.bipush 20, 2) := by decide +kernel
theorem dX0_init_79 : decode cX0_init 79 = .ok (.newarray .int, 2) := by decide +kernel
theorem dX0_init_81 : decode cX0_init 81 = .ok (.putfield 39, 3) := by decide +kernel
theorem dX0_init_84 : decode cX0_init 84 = .ok (.aload_n 0, 1) := by decide +kernel
theorem dX0_init_85 : decode cX0_init 85 = .ok (.aload_n 1, 1) := by decide +kernel
theorem dX0_init_86 : decode cX0_init 86 = .ok (.putfield 42, 3) := by decide +kernel
theorem dX0_init_89 : decode cX0_init 89 = .ok (.return_, 1) := by decide +kernel
theorem dX0_copyFrom_0 : decode cX0_copyFrom 0 = .ok (.aload_n 0, 1) := by decide +kernel
theorem dX0_copyFrom_1 : decode cX0_copyFrom 1 = .ok (.aload_n 1, 1) := by decide +kernel
theorem dX0_copyFrom_2 : decode cX0_copyFrom 2 = .ok (.getfield 46, 3) := by decide +kernel
theorem dX0_copyFrom_5 : decode cX0_copyFrom 5 = .ok (.putfield 46, 3) := by decide +kernel
theorem dX0_copyFrom_8 : decode cX0_copyFrom 8 = .ok (.aload_n 0, 1) := by decide +kernel
theorem dX0_copyFrom_9 : decode cX0_copyFrom 9 = .ok (.aload_n 1, 1) := by decide +kernel
theorem dX0_copyFrom_10 : decode cX0_copyFrom 10 = .ok (.getfield 50, 3) := by decide +kernel
theorem dX0_copyFrom_13 : decode cX0_copyFrom 13 = .ok (.putfield 50, 3) := by decide +kernel
theorem dX0_copyFrom_16 : decode cX0_copyFrom 16 = .ok (.aload_n 0, 1) := by decide +kernel
theorem dX0_copyFrom_17 : decode cX0_copyFrom 17 = .ok (.aload_n 1, 1) := by decide +kernel
theorem dX0_copyFrom_18 : decode cX0_copyFrom 18 = .ok (.getfield 53, 3) := by decide +kernel
theorem dX0_copyFrom_21 : decode cX0_copyFrom 21 = .ok (.putfield 53, 3) := by decide +kernel
theorem dX0_copyFrom_24 : decode cX0_copyFrom 24 = .ok (.aload_n 0, 1) := by decide +kernel
theorem dX0_copyFrom_25 : decode cX0_copyFrom 25 = .ok (.aload_n 1, 1) := by decide +kernel
theorem dX0_copyFrom_26 : decode cX0_copyFrom 26 = .ok (.getfield 57, 3) := by decide +kernel
theorem dX0_copyFrom_29 : decode cX0_copyFrom 29 = .ok (.putfield 57, 3) := by decide +kernel
theorem dX0_copyFrom_32 : decode cX0_copyFrom 32 = .ok (.aload_n 0, 1) := by decide +kernel
theorem dX0_copyFrom_33 : decode cX0_copyFrom 33 = .ok (.aload_n 1, 1) := by decide +kernel
theorem dX0_copyFrom_34 : decode cX0_copyFrom 34 = .ok (.getfield 60, 3) := by decide +kernel
theorem dX0_copyFrom_37 : decode cX0_copyFrom 37 = .ok (.putfield 60, 3) := by decide +kernel
theorem dX0_copyFrom_40 : decode cX0_copyFrom 40 = .ok (.aload_n 1, 1) := by decide +kernel
theorem dX0_copyFrom_41 : decode cX0_copyFrom 41 = .ok (.getfield 9, 3) := by decide +kernel
theorem dX0_copyFrom_44 : decode cX0_copyFrom 44 = .ok (.iconst 0, 1) := by decide +kernel
theorem dX0_copyFrom_45 : decode cX0_copyFrom 45 = .ok (.aload_n 0, 1) := by decide +kernel
theorem dX0_copyFrom_46 : decode cX0_copyFrom 46 = .ok (.getfield 9, 3) := by decide +kernel
theorem dX0_copyFrom_49 : decode cX0_copyFrom 49 = .ok (.iconst 0, 1) := by decide +kernel
theorem dX0_copyFrom_50 : decode cX0_copyFrom 50 = .ok (.bipush 10, 2) := by decide +kernel
theorem dX0_copyFrom_52 : decode cX0_copyFrom 52 = .ok (.invokestatic 63, 3) := by decide +kernel
theorem dX0_copyFrom_55 : decode cX0_copyFrom 55 = .ok (.aload_n 1, 1) := by decide +kernel
theorem dX0_copyFrom_56 : decode cX0_copyFrom 56 = .ok (.getfield 15, 3) := by decide +kernel
theorem dX0_copyFrom_59 : decode cX0_copyFrom 59 = .ok (.iconst 0, 1) := by decide +kernel
theorem dX0_copyFrom_60 : decode cX0_copyFrom 60 = .ok (.aload_n 0, 1) := by decide +kernel
theorem dX0_copyFrom_61 : decode cX0_copyFrom 61 = .ok (.getfield 15, 3) := by decide +kernel
theorem dX0_copyFrom_64 : decode cX0_copyFrom 64 = .ok (.iconst 0, 1) := by decide +kernel
theorem dX0_copyFrom_65 : decode cX0_copyFrom 65 = .ok (.bipush 10, 2) := by decide +kernel
theorem dX0_copyFrom_67 : decode cX0_copyFrom 67 = .ok (.invokestatic 63, 3) := by decide +kernel
theorem dX0_copyFrom_70 : decode cX0_copyFrom 70 = .ok (.aload_n 1, 1) := by decide +kernel
theorem dX0_copyFrom_71 : decode cX0_copyFrom 71 = .ok (.getfield 18, 3) := by decide +kernel
theorem dX0_copyFrom_74 : decode cX0_copyFrom 74 = .ok (.iconst 0, 1) := by decide +kernel
theorem dX0_copyFrom_75 : decode cX0_copyFrom 75 = .ok (.aload_n 0, 1) := by decide +kernel
theorem dX0_copyFrom_76 : decode cX0_copyFrom 76 = .ok (.getfield 18, 3) := by decide +kernel
theorem dX0_copyFrom_79 : decode cX0_copyFrom 79 = .ok (.iconst 0, 1) := by decide +kernel
theorem dX0_copyFrom_80 : decode cX0_copyFrom 80 = .ok (.bipush 10, 2) := by decide +kernel
theorem dX0_copyFrom_82 : decode cX0_copyFrom 82 = .ok (.invokestatic 63, 3) := by decide +kernel
theorem dX0_copyFrom_85 : decode cX0_copyFrom 85 = .ok (.aload_n 1, 1) := by decide +kernel
theorem dX0_copyFrom_86 : decode cX0_copyFrom 86 = .ok (.getfield 21, 3) := by decide +kernel
theorem dX0_copyFrom_89 : decode cX0_copyFrom 89 = .ok (.iconst 0, 1) := by decide +kernel
theorem dX0_copyFrom_90 : decode cX0_copyFrom 90 = .ok (.aload_n 0, 1) := by decide +kernel
theorem dX0_copyFrom_91 : decode cX0_copyFrom 91 = .ok (.getfield 21, 3) := by decide +kernel
theorem dX0_copyFrom_94 : decode cX0_copyFrom 94 = .ok (.iconst 0, 1) := by decide +kernel
theorem dX0_copyFrom_95 : decode cX0_copyFrom 95 = .ok (.bipush 10, 2) := by decide +kernel
theorem dX0_copyFrom_97 : decode cX0_copyFrom 97 = .ok (.invokestatic 63, 3) := by decide +kernel
theorem dX0_copyFrom_100 : decode cX0_copyFrom 100 = .ok (.aload_n 1, 1) := by decide +kernel
theorem dX0_copyFrom_101 : decode cX0_copyFrom 101 = .ok (.getfield 24, 3) := by decide +kernel
theorem dX0_copyFrom_104 : decode cX0_copyFrom 104 = .ok (.iconst 0, 1) := by decide +kernel
theorem dX0_copyFrom_105 : decode cX0_copyFrom 105 = .ok (.aload_n 0, 1) := by decide +kernel
theorem dX0_copyFrom_106 : decode cX0_copyFrom 106 = .ok (.getfield 24, 3) := by decide +kernel
theorem dX0_copyFrom_109 : decode cX0_copyFrom 109 = .ok (.iconst 0, 1) := by decide +kernel
theorem dX0_copyFrom_110 : decode cX0_copyFrom 110 = .ok (.bipush 10, 2) := by decide +kernel
theorem dX0_copyFrom_112 : decode cX0_copyFrom 112 = .ok (.invokestatic 63, 3) := by decide +kernel
theorem dX0_copyFrom_115 : decode cX0_copyFrom 115 = .ok (.aload_n 1, 1) := by decide +kernel
theorem dX0_copyFrom_116 : decode cX0_copyFrom 116 = .ok (.getfield 27, 3) := by decide +kernel
theorem dX0_copyFrom_119 : decode cX0_copyFrom 119 = .ok (.iconst 0, 1) := by decide +kernel
theorem dX0_copyFrom_120 : decode cX0_copyFrom 120 = .ok (.aload_n 0, 1) := by decide +kernel
theorem dX0_copyFrom_121 : decode cX0_copyFrom 121 = .ok (.getfield 27, 3) := by decide +kernel
theorem dX0_copyFrom_124 : decode cX0_copyFrom 124 = .ok (.iconst 0, 1) := by decide +kernel
theorem dX0_copyFrom_125 : decode cX0_copyFrom 125 = .ok (.bipush 8, 2) := by decide +kernel
theorem dX0_copyFrom_127 : decode cX0_copyFrom 127 = .ok (.invokestatic 63, 3) := by decide +kernel
theorem dX0_copyFrom_130 : decode cX0_copyFrom 130 = .ok (.aload_n 0, 1) := by decide +kernel
theorem dX0_copyFrom_131 : decode cX0_copyFrom 131 = .ok (.aload_n 1, 1) := by decide +kernel
theorem dX0_copyFrom_132 : decode cX0_copyFrom 132 = .ok (.getfield 69, 3) := by decide +kernel
theorem dX0_copyFrom_135 : decode cX0_copyFrom 135 = .ok (.putfield 69, 3) := by decide +kernel
theorem dX0_copyFrom_138 : decode cX0_copyFrom 138 = .ok (.aload_n 1, 1) := by decide +kernel
theorem dX0_copyFrom_139 : decode cX0_copyFrom 139 = .ok (.getfield 30, 3) := by decide +kernel
theorem dX0_copyFrom_142 : decode cX0_copyFrom 142 = .ok (.iconst 0, 1) := by decide +kernel
theorem dX0_copyFrom_143 : decode cX0_copyFrom 143 = .ok (.aload_n 0, 1) := by decide +kernel
theorem dX0_copyFrom_144 : decode cX0_copyFrom 144 = .ok (.getfield 30, 3) := by decide +kernel
theorem dX0_copyFrom_147 : decode cX0_copyFrom 147 = .ok (.iconst 0, 1) := by decide +kernel
theorem dX0_copyFrom_148 : decode cX0_copyFrom 148 = .ok (.bipush 20, 2) := by decide +kernel
theorem dX0_copyFrom_150 : decode cX0_copyFrom 150 = .ok (.invokestatic 63, 3) := by decide +kernel
theorem dX0_copyFrom_153 : decode cX0_copyFrom 153 = .ok (.aload_n 1, 1) := by decide +kernel
theorem dX0_copyFrom_154 : decode cX0_copyFrom 154 = .ok (.getfield 33, 3) := by decide +kernel
theorem dX0_copyFrom_157 : decode cX0_copyFrom 157 = .ok (.iconst 0, 1) := by decide +kernel
theorem dX0_copyFrom_158 : decode cX0_copyFrom 158 = .ok (.aload_n 0, 1) := by decide +kernel
theorem dX0_copyFrom_159 : decode cX0_copyFrom 159 = .ok (.getfield 33, 3) := by decide +kernel
theorem dX0_copyFrom_162 : decode cX0_copyFrom 162 = .ok (.iconst 0, 1) := by decide +kernel
theorem dX0_copyFrom_163 : decode cX0_copyFrom 163 = .ok (.bipush 20, 2) := by decide +kernel
theorem dX0_copyFrom_165 : decode cX0_copyFrom 165 = .ok (.invokestatic 63, 3) := by decide +kernel
theorem dX0_copyFrom_168 : decode cX0_copyFrom 168 = .ok (.aload_n 1, 1) := by decide +kernel
theorem dX0_copyFrom_169 : decode cX0_copyFrom 169 = .ok (.getfield 36, 3) := by decide +kernel
theorem dX0_copyFrom_172 : decode cX0_copyFrom 172 = .ok (.iconst 0, 1) := by decide +kernel
theorem dX0_copyFrom_173 : decode cX0_copyFrom 173 = .ok (.aload_n 0, 1) := by decide +kernel
theorem dX0_copyFrom_174 : decode cX0_copyFrom 174 = .ok (.getfield 36, 3) := by decide +kernel
theorem dX0_copyFrom_177 : decode cX0_copyFrom 177 = .ok (.iconst 0, 1) := by decide +kernel
theorem dX0_copyFrom_178 : decode cX0_copyFrom 178 = .ok (.bipush 20, 2) := by decide +kernel
theorem dX0_copyFrom_180 : decode cX0_copyFrom 180 = .ok (.invokestatic 63, 3) := by decide +kernel
theorem dX0_copyFrom_183 : decode cX0_copyFrom 183 = .ok (.aload_n 1, 1) := by decide +kernel
theorem dX0_copyFrom_184 : decode cX0_copyFrom 184 = .ok (.getfield 39, 3) := by decide +kernel
theorem dX0_copyFrom_187 : decode cX0_copyFrom 187 = .ok (.iconst 0, 1) := by decide +kernel
theorem dX0_copyFrom_188 : decode cX0_copyFrom 188 = .ok (.aload_n 0, 1) := by decide +kernel
theorem dX0_copyFrom_189 : decode cX0_copyFrom 189 = .ok (.getfield 39, 3) := by decide +kernel
theorem dX0_copyFrom_192 : decode cX0_copyFrom 192 = .ok (.iconst 0, 1) := by decide +kernel
theorem dX0_copyFrom_193 : decode cX0_copyFrom 193 = .ok (.bipush 20, 2) := by decide +kernel
theorem dX0_copyFrom_195 : decode cX0_copyFrom 195 = .ok (.invokestatic 63, 3) := by decide +kernel
theorem dX0_copyFrom_198 : decode cX0_copyFrom 198 = .ok (.return_, 1) := by decide +kernel
theorem dX0_setOut_0 : decode cX0_setOut 0 = .ok (.aload_n 0, 1) := by decide +kernel
theorem dX0_setOut_1 : decode cX0_setOut 1 = .ok (.iconst 0, 1) := by decide +kernel
theorem dX0_setOut_2 : decode cX0_setOut 2 = .ok (.putfield 46, 3) := by decide +kernel
theorem dX0_setOut_5 : decode cX0_setOut 5 = .ok (.aload_n 0, 1) := by decide +kernel
theorem dX0_setOut_6 : decode cX0_setOut 6 = .ok (.iconst 0, 1) := by decide +kernel
theorem dX0_setOut_7 : decode cX0_setOut 7 = .ok (.putfield 50, 3) := by decide +kernel
theorem dX0_setOut_10 : decode cX0_setOut 10 = .ok (.aload_n 0, 1) := by decide +kernel
theorem dX0_setOut_11 : decode cX0_setOut 11 = .ok (.iconst 0, 1) := by decide +kernel
theorem dX0_setOut_12 : decode cX0_setOut 12 = .ok (.putfield 53, 3) := by decide +kernel
theorem dX0_setOut_15 : decode cX0_setOut 15 = .ok (.aload_n 0, 1) := by decide +kernel
theorem dX0_setOut_16 : decode cX0_setOut 16 = .ok (.iconst 0, 1) := by decide +kernel
theorem dX0_setOut_17 : decode cX0_setOut 17 = .ok (.putfield 57, 3) := by decide +kernel
theorem dX0_setOut_20 : decode cX0_setOut 20 = .ok (.aload_n 0, 1) := by decide +kernel
theorem dX0_setOut_21 : decode cX0_setOut 21 = .ok (.iconst 0, 1) := by decide +kernel
theorem dX0_setOut_22 : decode cX0_setOut 22 = .ok (.putfield 60, 3) := by decide +kernel
theorem dX0_setOut_25 : decode cX0_setOut 25 = .ok (.aload_n 0, 1) := by decide +kernel
theorem dX0_setOut_26 : decode cX0_setOut 26 = .ok (.iconst 0, 1) := by decide +kernel
theorem dX0_setOut_27 : decode cX0_setOut 27 = .ok (.putfield 69, 3) := by decide +kernel
theorem dX0_setOut_30 : decode cX0_setOut 30 = .ok (.iconst 0, 1) := by decide +kernel
theorem dX0_setOut_31 : decode cX0_setOut 31 = .ok (.istore_n 1, 1) := by decide +kernel
theorem dX0_setOut_32 : decode cX0_setOut 32 = .ok (.iload_n 1, 1) := by decide +kernel
theorem dX0_setOut_33 : decode cX0_setOut 33 = .ok (.aload_n 0, 1) := by decide +kernel
theorem dX0_setOut_34 : decode cX0_setOut 34 = .ok (.getfield 42, 3) := by decide +kernel
theorem dX0_setOut_37 : decode cX0_setOut 37 = .ok (.getfield 72, 3) := by decide +kernel
theorem dX0_setOut_40 : decode cX0_setOut 40 = .ok (.if_icmp .ge 52, 3) := by decide +kernel
theorem dX0_setOut_43 : decode cX0_setOut 43 = .ok (.aload_n 0, 1) := by decide +kernel
theorem dX0_setOut_44 : decode cX0_setOut 44 = .ok (.getfield 9, 3) := by decide +kernel
theorem dX0_setOut_47 : decode cX0_setOut 47 = .ok (.iload_n 1, 1) := by decide +kernel
theorem dX0_setOut_48 : decode cX0_setOut 48 = .ok (.aload_n 0, 1) := by decide +kernel
theorem dX0_setOut_49 : decode cX0_setOut 49 = .ok (.getfield 42, 3) := by decide +kernel
theorem dX0_setOut_52 : decode cX0_setOut 52 = .ok (.getfield 77, 3) := by decide +kernel
theorem dX0_setOut_55 : decode cX0_setOut 55 = .ok (.iload_n 1, 1) := by decide +kernel
theorem dX0_setOut_56 : decode cX0_setOut 56 = .ok (.iaload, 1) := by decide +kernel
theorem dX0_setOut_57 : decode cX0_setOut 57 = .ok (.iastore, 1) := by decide +kernel
theorem dX0_setOut_58 : decode cX0_setOut 58 = .ok (.aload_n 0, 1) := by decide +kernel
theorem dX0_setOut_59 : decode cX0_setOut 59 = .ok (.getfield 15, 3) := by decide +kernel
theorem dX0_setOut_62 : decode cX0_setOut 62 = .ok (.iload_n 1, 1) := by decide +kernel
theorem dX0_setOut_63 : decode cX0_setOut 63 = .ok (.iconst 0, 1) := by decide +kernel
theorem dX0_setOut_64 : decode cX0_setOut 64 = .ok (.iastore, 1) := by decide +kernel
theorem dX0_setOut_65 : decode cX0_setOut 65 = .ok (.aload_n 0, 1) := by decide +kernel
theorem dX0_setOut_66 : decode cX0_setOut 66 = .ok (.getfield 18, 3) := by decide +kernel
theorem dX0_setOut_69 : decode cX0_setOut 69 = .ok (.iload_n 1, 1) := by decide +kernel
theorem dX0_setOut_70 : decode cX0_setOut 70 = .ok (.iconst 0, 1) := by decide +kernel
theorem dX0_setOut_71 : decode cX0_setOut 71 = .ok (.iastore, 1) := by decide +kernel
theorem dX0_setOut_72 : decode cX0_setOut 72 = .ok (.aload_n 0, 1) := by decide +kernel
theorem dX0_setOut_73 : decode cX0_setOut 73 = .ok (.getfield 21, 3) := by decide +kernel
theorem dX0_setOut_76 : decode cX0_setOut 76 = .ok (.iload_n 1, 1) := by decide +kernel
theorem dX0_setOut_77 : decode cX0_setOut 77 = .ok (.iconst 0, 1) := by decide +kernel
theorem dX0_setOut_78 : decode cX0_setOut 78 = .ok (.iastore, 1) := by decide +kernel
theorem dX0_setOut_79 : decode cX0_setOut 79 = .ok (.aload_n 0, 1) := by decide +kernel
theorem dX0_setOut_80 : decode cX0_setOut 80 = .ok (.getfield 24, 3) := by decide +kernel
theorem dX0_setOut_83 : decode cX0_setOut 83 = .ok (.iload_n 1, 1) := by decide +kernel
theorem dX0_setOut_84 : decode cX0_setOut 84 = .ok (.iconst 0, 1) := by decide +kernel
theorem dX0_setOut_85 : decode cX0_setOut 85 = .ok (.iastore, 1) := by decide +kernel
theorem dX0_setOut_86 : decode cX0_setOut 86 = .ok (.iinc 1 1, 3) := by decide +kernel
theorem dX0_setOut_89 : decode cX0_setOut 89 = .ok (.goto (-57), 3) := by decide +kernel
theorem dX0_setOut_92 : decode cX0_setOut 92 = .ok (.iconst 0, 1) := by decide +kernel
theorem dX0_setOut_93 : decode cX0_setOut 93 = .ok (.istore_n 1, 1) := by decide +kernel
theorem dX0_setOut_94 : decode cX0_setOut 94 = .ok (.iload_n 1, 1) := by decide +kernel
theorem dX0_setOut_95 : decode cX0_setOut 95 = .ok (.aload_n 0, 1) := by decide +kernel
theorem dX0_setOut_96 : decode cX0_setOut 96 = .ok (.getfield 42, 3) := by decide +kernel
theorem dX0_setOut_99 : decode cX0_setOut 99 = .ok (.getfield 80, 3) := by decide +kernel
theorem dX0_setOut_102 : decode cX0_setOut 102 = .ok (.if_icmp .ge 24, 3) := by decide +kernel
theorem dX0_setOut_105 : decode cX0_setOut 105 = .ok (.aload_n 0, 1) := by decide +kernel
theorem dX0_setOut_106 : decode cX0_setOut 106 = .ok (.getfield 27, 3) := by decide +kernel
theorem dX0_setOut_109 : decode cX0_setOut 109 = .ok (.iload_n 1, 1) := by decide +kernel
theorem dX0_setOut_110 : decode cX0_setOut 110 = .ok (.aload_n 0, 1) := by decide +kernel
theorem dX0_setOut_111 : decode cX0_setOut 111 = .ok (.getfield 42, 3) := by decide +kernel
theorem dX0_setOut_114 : decode cX0_setOut 114 = .ok (.getfield 83, 3) := by decide +kernel
theorem dX0_setOut_117 : decode cX0_setOut 117 = .ok (.iload_n 1, 1) := by decide +kernel
theorem dX0_setOut_118 : decode cX0_setOut 118 = .ok (.iaload, 1) := by decide +kernel
theorem dX0_setOut_119 : decode cX0_setOut 119 = .ok (.iastore, 1) := by decide +kernel
theorem dX0_setOut_120 : decode cX0_setOut 120 = .ok (.iinc 1 1, 3) := by decide +kernel
theorem dX0_setOut_123 : decode cX0_setOut 123 = .ok (.goto (-29), 3) := by decide +kernel
theorem dX0_setOut_126 : decode cX0_setOut 126 = .ok (.return_, 1) := by decide +kernel
theorem dX0_isAtEnd_0 : decode cX0_isAtEnd 0 = .ok (.aload_n 0, 1) := by decide +kernel
theorem dX0_isAtEnd_1 : decode cX0_isAtEnd 1 = .ok (.getfield 46, 3) := by decide +kernel
theorem dX0_isAtEnd_4 : decode cX0_isAtEnd 4 = .ok (.aload_n 0, 1) := by decide +kernel
theorem dX0_isAtEnd_5 : decode cX0_isAtEnd 5 = .ok (.getfield 42, 3) := by decide +kernel
theorem dX0_isAtEnd_8 : decode cX0_isAtEnd 8 = .ok (.getfield 86, 3) := by decide +kernel
theorem dX0_isAtEnd_11 : decode cX0_isAtEnd 11 = .ok (.if_icmp .lt 7, 3) := by decide +kernel
theorem dX0_isAtEnd_14 : decode cX0_isAtEnd 14 = .ok (.iconst 1, 1) := by decide +kernel
theorem dX0_isAtEnd_15 : decode cX0_isAtEnd 15 = .ok (.goto 4, 3) := by decide +kernel
theorem dX0_isAtEnd_18 : decode cX0_isAtEnd 18 = .ok (.iconst 0, 1) := by decide +kernel
theorem dX0_isAtEnd_19 : decode cX0_isAtEnd 19 = .ok (.ireturn, 1) := by decide +kernel
theorem dX0_canRest_0 : decode cX0_canRest 0 = .ok (.aload_n 0, 1) := by decide +kernel
theorem dX0_canRest_1 : decode cX0_canRest 1 = .ok (.getfield 50, 3) := by decide +kernel
theorem dX0_canRest_4 : decode cX0_canRest 4 = .ok (.sipush 200, 3) := by decide +kernel
theorem dX0_canRest_7 : decode cX0_canRest 7 = .ok (.if_icmp .ge 14, 3) := by decide +kernel
theorem dX0_canRest_10 : decode cX0_canRest 10 = .ok (.aload_n 0, 1) := by decide +kernel
theorem dX0_canRest_11 : decode cX0_canRest 11 = .ok (.invokevirtual 89, 3) := by decide +kernel
theorem dX0_canRest_14 : decode cX0_canRest 14 = .ok (.ifCond .le 7, 3) := by decide +kernel
theorem dX0_canRest_17 : decode cX0_canRest 17 = .ok (.iconst 1, 1) := by decide +kernel
theorem dX0_canRest_18 : decode cX0_canRest 18 = .ok (.goto 4, 3) := by decide +kernel
theorem dX0_canRest_21 : decode cX0_canRest 21 = .ok (.iconst 0, 1) := by decide +kernel
theorem dX0_canRest_22 : decode cX0_canRest 22 = .ok (.ireturn, 1) := by decide +kernel
theorem dX0_canTravel_0 : decode cX0_canTravel 0 = .ok (.aload_n 0, 1) := by decide +kernel
theorem dX0_canTravel_1 : decode cX0_canTravel 1 = .ok (.invokevirtual 93, 3) := by decide +kernel
theorem dX0_canTravel_4 : decode cX0_canTravel 4 = .ok (.ifCond .ne 14, 3) := by decide +kernel
theorem dX0_canTravel_7 : decode cX0_canTravel 7 = .ok (.aload_n 0, 1) := by decide +kernel
theorem dX0_canTravel_8 : decode cX0_canTravel 8 = .ok (.invokevirtual 97, 3) := by decide +kernel
theorem dX0_canTravel_11 : decode cX0_canTravel 11 = .ok (.ifCond .eq 7, 3) := by decide +kernel
theorem dX0_canTravel_14 : decode cX0_canTravel 14 = .ok (.iconst 1, 1) := by decide +kernel
theorem dX0_canTravel_15 : decode cX0_canTravel 15 = .ok (.goto 4, 3) := by decide +kernel
theorem dX0_canTravel_18 : decode cX0_canTravel 18 = .ok (.iconst 0, 1) := by decide +kernel
theorem dX0_canTravel_19 : decode cX0_canTravel 19 = .ok (.ireturn, 1) := by decide +kernel
theorem dX0_isLiving_0 : decode cX0_isLiving 0 = .ok (.aload_n 0, 1) := by decide +kernel
theorem dX0_isLiving_1 : decode cX0_isLiving 1 = .ok (.getfield 42, 3) := by decide +kernel
theorem dX0_isLiving_4 : decode cX0_isLiving 4 = .ok (.iload_n 1, 1) := by decide +kernel
theorem dX0_isLiving_5 : decode cX0_isLiving 5 = .ok (.invokevirtual 100, 3) := by decide +kernel
theorem dX0_isLiving_8 : decode cX0_isLiving 8 = .ok (.ifCond .eq 17, 3) := by decide +kernel
theorem dX0_isLiving_11 : decode cX0_isLiving 11 = .ok (.aload_n 0, 1) := by decide +kernel
theorem dX0_isLiving_12 : decode cX0_isLiving 12 = .ok (.getfield 21, 3) := by decide +kernel
theorem dX0_isLiving_15 : decode cX0_isLiving 15 = .ok (.iload_n 1, 1) := by decide +kernel
theorem dX0_isLiving_16 : decode cX0_isLiving 16 = .ok (.iaload, 1) := by decide +kernel
theorem dX0_isLiving_17 : decode cX0_isLiving 17 = .ok (.iconst 3, 1) := by decide +kernel
theorem dX0_isLiving_18 : decode cX0_isLiving 18 = .ok (.if_icmp .ge 7, 3) := by decide +kernel
theorem dX0_isLiving_21 : decode cX0_isLiving 21 = .ok (.iconst 1, 1) := by decide +kernel
theorem dX0_isLiving_22 : decode cX0_isLiving 22 = .ok (.goto 4, 3) := by decide +kernel
theorem dX0_isLiving_25 : decode cX0_isLiving 25 = .ok (.iconst 0, 1) := by decide +kernel
theorem dX0_isLiving_26 : decode cX0_isLiving 26 = .ok (.ireturn, 1) := by decide +kernel
theorem dX0_countLiving_0 : decode cX0_countLiving 0 = .ok (.iconst 0, 1) := by decide +kernel
theorem dX0_countLiving_1 : decode cX0_countLiving 1 = .ok (.istore_n 1, 1) := by decide +kernel
theorem dX0_countLiving_2 : decode cX0_countLiving 2 = .ok (.iconst 0, 1) := by decide +kernel
theorem dX0_countLiving_3 : decode cX0_countLiving 3 = .ok (.istore_n 2, 1) := by decide +kernel
theorem dX0_countLiving_4 : decode cX0_countLiving 4 = .ok (.iload_n 2, 1) := by decide +kernel
theorem dX0_countLiving_5 : decode cX0_countLiving 5 = .ok (.aload_n 0, 1) := by decide +kernel
theorem dX0_countLiving_6 : decode cX0_countLiving 6 = .ok (.getfield 42, 3) := by decide +kernel
theorem dX0_countLiving_9 : decode cX0_countLiving 9 = .ok (.getfield 72, 3) := by decide +kernel
theorem dX0_countLiving_12 : decode cX0_countLiving 12 = .ok (.if_icmp .ge 20, 3) := by decide +kernel
theorem dX0_countLiving_15 : decode cX0_countLiving 15 = .ok (.aload_n 0, 1) := by decide +kernel
theorem dX0_countLiving_16 : decode cX0_countLiving 16 = .ok (.iload_n 2, 1) := by decide +kernel
theorem dX0_countLiving_17 : decode cX0_countLiving 17 = .ok (.invokevirtual 104, 3) := by decide +kernel
theorem dX0_countLiving_20 : decode cX0_countLiving 20 = .ok (.ifCond .eq 6, 3) := by decide +kernel
theorem dX0_countLiving_23 : decode cX0_countLiving 23 = .ok (.iinc 1 1, 3) := by decide +kernel
theorem dX0_countLiving_26 : decode cX0_countLiving 26 = .ok (.iinc 2 1, 3) := by decide +kernel
theorem dX0_countLiving_29 : decode cX0_countLiving 29 = .ok (.goto (-25), 3) := by decide +kernel
theorem dX0_countLiving_32 : decode cX0_countLiving 32 = .ok (.iload_n 1, 1) := by decide +kernel
theorem dX0_countLiving_33 : decode cX0_countLiving 33 = .ok (.ireturn, 1) := by decide +kernel
theorem dX0_leastWatered_0 : decode cX0_leastWatered 0 = .ok (.iconst (-1), 1) := by decide +kernel
theorem dX0_leastWatered_1 : decode cX0_leastWatered 1 = .ok (.istore_n 1, 1) := by decide +kernel
theorem dX0_leastWatered_2 : decode cX0_leastWatered 2 = .ok (.iconst 0, 1) := by decide +kernel
theorem dX0_leastWatered_3 : decode cX0_leastWatered 3 = .ok (.istore_n 2, 1) := by decide +kernel
theorem dX0_leastWatered_4 : decode cX0_leastWatered 4 = .ok (.iload_n 2, 1) := by decide +kernel
theorem dX0_leastWatered_5 : decode cX0_leastWatered 5 = .ok (.aload_n 0, 1) := by decide +kernel
theorem dX0_leastWatered_6 : decode cX0_leastWatered 6 = .ok (.getfield 42, 3) := by decide +kernel
theorem dX0_leastWatered_9 : decode cX0_leastWatered 9 = .ok (.getfield 72, 3) := by decide +kernel
theorem dX0_leastWatered_12 : decode cX0_leastWatered 12 = .ok (.if_icmp .ge 39, 3) := by decide +kernel
theorem dX0_leastWatered_15 : decode cX0_leastWatered 15 = .ok (.aload_n 0, 1) := by decide +kernel
theorem dX0_leastWatered_16 : decode cX0_leastWatered 16 = .ok (.iload_n 2, 1) := by decide +kernel
theorem dX0_leastWatered_17 : decode cX0_leastWatered 17 = .ok (.invokevirtual 104, 3) := by decide +kernel
theorem dX0_leastWatered_20 : decode cX0_leastWatered 20 = .ok (.ifCond .eq 25, 3) := by decide +kernel
theorem dX0_leastWatered_23 : decode cX0_leastWatered 23 = .ok (.iload_n 1, 1) := by decide +kernel
theorem dX0_leastWatered_24 : decode cX0_leastWatered 24 = .ok (.iconst (-1), 1) := by decide +kernel
theorem dX0_leastWatered_25 : decode cX0_leastWatered 25 = .ok (.if_icmp .eq 18, 3) := by decide +kernel
theorem dX0_leastWatered_28 : decode cX0_leastWatered 28 = .ok (.aload_n 0, 1) := by decide +kernel
theorem dX0_leastWatered_29 : decode cX0_leastWatered 29 = .ok (.getfield 9, 3) := by decide +kernel
theorem dX0_leastWatered_32 : decode cX0_leastWatered 32 = .ok (.iload_n 2, 1) := by decide +kernel
theorem dX0_leastWatered_33 : decode cX0_leastWatered 33 = .ok (.iaload, 1) := by decide +kernel
theorem dX0_leastWatered_34 : decode cX0_leastWatered 34 = .ok (.aload_n 0, 1) := by decide +kernel
theorem dX0_leastWatered_35 : decode cX0_leastWatered 35 = .ok (.getfield 9, 3) := by decide +kernel
theorem dX0_leastWatered_38 : decode cX0_leastWatered 38 = .ok (.iload_n 1, 1) := by decide +kernel
theorem dX0_leastWatered_39 : decode cX0_leastWatered 39 = .ok (.iaload, 1) := by decide +kernel
theorem dX0_leastWatered_40 : decode cX0_leastWatered 40 = .ok (.if_icmp .ge 5, 3) := by decide +kernel
theorem dX0_leastWatered_43 : decode cX0_leastWatered 43 = .ok (.iload_n 2, 1) := by decide +kernel
theorem dX0_leastWatered_44 : decode cX0_leastWatered 44 = .ok (.istore_n 1, 1) := by decide +kernel
theorem dX0_leastWatered_45 : decode cX0_leastWatered 45 = .ok (.iinc 2 1, 3) := by decide +kernel
theorem dX0_leastWatered_48 : decode cX0_leastWatered 48 = .ok (.goto (-44), 3) := by decide +kernel
theorem dX0_leastWatered_51 : decode cX0_leastWatered 51 = .ok (.iload_n 1, 1) := by decide +kernel
theorem dX0_leastWatered_52 : decode cX0_leastWatered 52 = .ok (.ireturn, 1) := by decide +kernel
theorem dX0_quickest_0 : decode cX0_quickest 0 = .ok (.iconst (-1), 1) := by decide +kernel
theorem dX0_quickest_1 : decode cX0_quickest 1 = .ok (.istore_n 1, 1) := by decide +kernel
theorem dX0_quickest_2 : decode cX0_quickest 2 = .ok (.iconst 0, 1) := by decide +kernel
theorem dX0_quickest_3 : decode cX0_quickest 3 = .ok (.istore_n 2, 1) := by decide +kernel
theorem dX0_quickest_4 : decode cX0_quickest 4 = .ok (.iconst 0, 1) := by decide +kernel
theorem dX0_quickest_5 : decode cX0_quickest 5 = .ok (.istore_n 3, 1) := by decide +kernel
theorem dX0_quickest_6 : decode cX0_quickest 6 = .ok (.iload_n 3, 1) := by decide +kernel
theorem dX0_quickest_7 : decode cX0_quickest 7 = .ok (.aload_n 0, 1) := by decide +kernel
theorem dX0_quickest_8 : decode cX0_quickest 8 = .ok (.getfield 42, 3) := by decide +kernel
theorem dX0_quickest_11 : decode cX0_quickest 11 = .ok (.getfield 72, 3) := by decide +kernel
theorem dX0_quickest_14 : decode cX0_quickest 14 = .ok (.if_icmp .ge 34, 3) := by decide +kernel
theorem dX0_quickest_17 : decode cX0_quickest 17 = .ok (.aload_n 0, 1) := by decide +kernel
theorem dX0_quickest_18 : decode cX0_quickest 18 = .ok (.iload_n 3, 1) := by decide +kernel
theorem dX0_quickest_19 : decode cX0_quickest 19 = .ok (.invokevirtual 104, 3) := by decide +kernel
theorem dX0_quickest_22 : decode cX0_quickest 22 = .ok (.ifCond .eq 20, 3) := by decide +kernel
theorem dX0_quickest_25 : decode cX0_quickest 25 = .ok (.aload_n 0, 1) := by decide +kernel
theorem dX0_quickest_26 : decode cX0_quickest 26 = .ok (.iload_n 3, 1) := by decide +kernel
theorem dX0_quickest_27 : decode cX0_quickest 27 = .ok (.invokevirtual 107, 3) := by decide +kernel
theorem dX0_quickest_30 : decode cX0_quickest 30 = .ok (.iload_n 2, 1) := by decide +kernel
theorem dX0_quickest_31 : decode cX0_quickest 31 = .ok (.if_icmp .le 11, 3) := by decide +kernel
theorem dX0_quickest_34 : decode cX0_quickest 34 = .ok (.iload_n 3, 1) := by decide +kernel
theorem dX0_quickest_35 : decode cX0_quickest 35 = .ok (.istore_n 1, 1) := by decide +kernel
theorem dX0_quickest_36 : decode cX0_quickest 36 = .ok (.aload_n 0, 1) := by decide +kernel
theorem dX0_quickest_37 : decode cX0_quickest 37 = .ok (.iload_n 3, 1) := by decide +kernel
theorem dX0_quickest_38 : decode cX0_quickest 38 = .ok (.invokevirtual 107, 3) := by decide +kernel
theorem dX0_quickest_41 : decode cX0_quickest 41 = .ok (.istore_n 2, 1) := by decide +kernel
theorem dX0_quickest_42 : decode cX0_quickest 42 = .ok (.iinc 3 1, 3) := by decide +kernel
theorem dX0_quickest_45 : decode cX0_quickest 45 = .ok (.goto (-39), 3) := by decide +kernel
theorem dX0_quickest_48 : decode cX0_quickest 48 = .ok (.iload_n 1, 1) := by decide +kernel
theorem dX0_quickest_49 : decode cX0_quickest 49 = .ok (.ireturn, 1) := by decide +kernel
theorem dX0_speedOf_0 : decode cX0_speedOf 0 = .ok (.aload_n 0, 1) := by decide +kernel
theorem dX0_speedOf_1 : decode cX0_speedOf 1 = .ok (.getfield 42, 3) := by decide +kernel
theorem dX0_speedOf_4 : decode cX0_speedOf 4 = .ok (.iload_n 1, 1) := by decide +kernel
theorem dX0_speedOf_5 : decode cX0_speedOf 5 = .ok (.invokevirtual 100, 3) := by decide +kernel
theorem dX0_speedOf_8 : decode cX0_speedOf 8 = .ok (.ifCond .ne 5, 3) := by decide +kernel
theorem dX0_speedOf_11 : decode cX0_speedOf 11 = .ok (.iconst 5, 1) := by decide +kernel
theorem dX0_speedOf_12 : decode cX0_speedOf 12 = .ok (.ireturn, 1) := by decide +kernel
theorem dX0_speedOf_13 : decode cX0_speedOf 13 = .ok (.aload_n 0, 1) := by decide +kernel
theorem dX0_speedOf_14 : decode cX0_speedOf 14 = .ok (.getfield 18, 3) := by decide +kernel
theorem dX0_speedOf_17 : decode cX0_speedOf 17 = .ok (.iload_n 1, 1) := by decide +kernel
theorem dX0_speedOf_18 : decode cX0_speedOf 18 = .ok (.iaload, 1) := by decide +kernel
theorem dX0_speedOf_19 : decode cX0_speedOf 19 = .ok (.ifCond .le 17, 3) := by decide +kernel
theorem dX0_speedOf_22 : decode cX0_speedOf 22 = .ok (.aload_n 0, 1) := by decide +kernel
theorem dX0_speedOf_23 : decode cX0_speedOf 23 = .ok (.getfield 42, 3) := by decide +kernel
theorem dX0_speedOf_26 : decode cX0_speedOf 26 = .ok (.getfield 111, 3) := by decide +kernel
theorem dX0_speedOf_29 : decode cX0_speedOf 29 = .ok (.iload_n 1, 1) := by decide +kernel
theorem dX0_speedOf_30 : decode cX0_speedOf 30 = .ok (.iaload, 1) := by decide +kernel
theorem dX0_speedOf_31 : decode cX0_speedOf 31 = .ok (.iconst 2, 1) := by decide +kernel
theorem dX0_speedOf_32 : decode cX0_speedOf 32 = .ok (.idiv, 1) := by decide +kernel
theorem dX0_speedOf_33 : decode cX0_speedOf 33 = .ok (.goto 12, 3) := by decide +kernel
theorem dX0_speedOf_36 : decode cX0_speedOf 36 = .ok (.aload_n 0, 1) := by decide +kernel
theorem dX0_speedOf_37 : decode cX0_speedOf 37 = .ok (.getfield 42, 3) := by decide +kernel
theorem dX0_speedOf_40 : decode cX0_speedOf 40 = .ok (.getfield 111, 3) := by decide +kernel
theorem dX0_speedOf_43 : decode cX0_speedOf 43 = .ok (.iload_n 1, 1) := by decide +kernel
theorem dX0_speedOf_44 : decode cX0_speedOf 44 = .ok (.iaload, 1) := by decide +kernel
theorem dX0_speedOf_45 : decode cX0_speedOf 45 = .ok (.istore_n 2, 1) := by decide +kernel
theorem dX0_speedOf_46 : decode cX0_speedOf 46 = .ok (.iconst 5, 1) := by decide +kernel
theorem dX0_speedOf_47 : decode cX0_speedOf 47 = .ok (.iload_n 2, 1) := by decide +kernel
theorem dX0_speedOf_48 : decode cX0_speedOf 48 = .ok (.aload_n 0, 1) := by decide +kernel
theorem dX0_speedOf_49 : decode cX0_speedOf 49 = .ok (.getfield 24, 3) := by decide +kernel
theorem dX0_speedOf_52 : decode cX0_speedOf 52 = .ok (.iload_n 1, 1) := by decide +kernel
theorem dX0_speedOf_53 : decode cX0_speedOf 53 = .ok (.iaload, 1) := by decide +kernel
theorem dX0_speedOf_54 : decode cX0_speedOf 54 = .ok (.bipush 10, 2) := by decide +kernel
theorem dX0_speedOf_56 : decode cX0_speedOf 56 = .ok (.idiv, 1) := by decide +kernel
theorem dX0_speedOf_57 : decode cX0_speedOf 57 = .ok (.isub, 1) := by decide +kernel
theorem dX0_speedOf_58 : decode cX0_speedOf 58 = .ok (.invokestatic 114, 3) := by decide +kernel
theorem dX0_speedOf_61 : decode cX0_speedOf 61 = .ok (.ireturn, 1) := by decide +kernel
theorem dX0_freeOn_0 : decode cX0_freeOn 0 = .ok (.aload_n 0, 1) := by decide +kernel
theorem dX0_freeOn_1 : decode cX0_freeOn 1 = .ok (.getfield 42, 3) := by decide +kernel
theorem dX0_freeOn_4 : decode cX0_freeOn 4 = .ok (.iload_n 1, 1) := by decide +kernel
theorem dX0_freeOn_5 : decode cX0_freeOn 5 = .ok (.invokevirtual 100, 3) := by decide +kernel
theorem dX0_freeOn_8 : decode cX0_freeOn 8 = .ok (.ifCond .ne 5, 3) := by decide +kernel
theorem dX0_freeOn_11 : decode cX0_freeOn 11 = .ok (.iconst 0, 1) := by decide +kernel
theorem dX0_freeOn_12 : decode cX0_freeOn 12 = .ok (.ireturn, 1) := by decide +kernel
theorem dX0_freeOn_13 : decode cX0_freeOn 13 = .ok (.aload_n 0, 1) := by decide +kernel
theorem dX0_freeOn_14 : decode cX0_freeOn 14 = .ok (.getfield 42, 3) := by decide +kernel
theorem dX0_freeOn_17 : decode cX0_freeOn 17 = .ok (.getfield 120, 3) := by decide +kernel
theorem dX0_freeOn_20 : decode cX0_freeOn 20 = .ok (.iload_n 1, 1) := by decide +kernel
theorem dX0_freeOn_21 : decode cX0_freeOn 21 = .ok (.iaload, 1) := by decide +kernel
theorem dX0_freeOn_22 : decode cX0_freeOn 22 = .ok (.bipush 20, 2) := by decide +kernel
theorem dX0_freeOn_24 : decode cX0_freeOn 24 = .ok (.imul, 1) := by decide +kernel
theorem dX0_freeOn_25 : decode cX0_freeOn 25 = .ok (.aload_n 0, 1) := by decide +kernel
theorem dX0_freeOn_26 : decode cX0_freeOn 26 = .ok (.getfield 24, 3) := by decide +kernel
theorem dX0_freeOn_29 : decode cX0_freeOn 29 = .ok (.iload_n 1, 1) := by decide +kernel
theorem dX0_freeOn_30 : decode cX0_freeOn 30 = .ok (.iaload, 1) := by decide +kernel
theorem dX0_freeOn_31 : decode cX0_freeOn 31 = .ok (.isub, 1) := by decide +kernel
theorem dX0_freeOn_32 : decode cX0_freeOn 32 = .ok (.ireturn, 1) := by decide +kernel
theorem dX0_hasLoad_0 : decode cX0_hasLoad 0 = .ok (.iload_n 1, 1) := by decide +kernel
theorem dX0_hasLoad_1 : decode cX0_hasLoad 1 = .ok (.ifCond .lt 15, 3) := by decide +kernel
theorem dX0_hasLoad_4 : decode cX0_hasLoad 4 = .ok (.iload_n 1, 1) := by decide +kernel
theorem dX0_hasLoad_5 : decode cX0_hasLoad 5 = .ok (.aload_n 0, 1) := by decide +kernel
theorem dX0_hasLoad_6 : decode cX0_hasLoad 6 = .ok (.getfield 69, 3) := by decide +kernel
theorem dX0_hasLoad_9 : decode cX0_hasLoad 9 = .ok (.if_icmp .ge 7, 3) := by decide +kernel
theorem dX0_hasLoad_12 : decode cX0_hasLoad 12 = .ok (.iconst 1, 1) := by decide +kernel
theorem dX0_hasLoad_13 : decode cX0_hasLoad 13 = .ok (.goto 4, 3) := by decide +kernel
theorem dX0_hasLoad_16 : decode cX0_hasLoad 16 = .ok (.iconst 0, 1) := by decide +kernel
theorem dX0_hasLoad_17 : decode cX0_hasLoad 17 = .ok (.ireturn, 1) := by decide +kernel
theorem dX0_whereIs_0 : decode cX0_whereIs 0 = .ok (.aload_n 0, 1) := by decide +kernel
theorem dX0_whereIs_1 : decode cX0_whereIs 1 = .ok (.iload_n 1, 1) := by decide +kernel
theorem dX0_whereIs_2 : decode cX0_whereIs 2 = .ok (.invokevirtual 123, 3) := by decide +kernel
theorem dX0_whereIs_5 : decode cX0_whereIs 5 = .ok (.ifCond .ne 5, 3) := by decide +kernel
theorem dX0_whereIs_8 : decode cX0_whereIs 8 = .ok (.iconst (-1), 1) := by decide +kernel
theorem dX0_whereIs_9 : decode cX0_whereIs 9 = .ok (.ireturn, 1) := by decide +kernel
theorem dX0_whereIs_10 : decode cX0_whereIs 10 = .ok (.aload_n 0, 1) := by decide +kernel
theorem dX0_whereIs_11 : decode cX0_whereIs 11 = .ok (.getfield 36, 3) := by decide +kernel
theorem dX0_whereIs_14 : decode cX0_whereIs 14 = .ok (.iload_n 1, 1) := by decide +kernel
theorem dX0_whereIs_15 : decode cX0_whereIs 15 = .ok (.iaload, 1) := by decide +kernel
theorem dX0_whereIs_16 : decode cX0_whereIs 16 = .ok (.iconst (-1), 1) := by decide +kernel
theorem dX0_whereIs_17 : decode cX0_whereIs 17 = .ok (.if_icmp .ne 12, 3) := by decide +kernel
theorem dX0_whereIs_20 : decode cX0_whereIs 20 = .ok (.aload_n 0, 1) := by decide +kernel
theorem dX0_whereIs_21 : decode cX0_whereIs 21 = .ok (.getfield 39, 3) := by decide +kernel
theorem dX0_whereIs_24 : decode cX0_whereIs 24 = .ok (.iload_n 1, 1) := by decide +kernel
theorem dX0_whereIs_25 : decode cX0_whereIs 25 = .ok (.iaload, 1) := by decide +kernel
theorem dX0_whereIs_26 : decode cX0_whereIs 26 = .ok (.goto 7, 3) := by decide +kernel
theorem dX0_whereIs_29 : decode cX0_whereIs 29 = .ok (.aload_n 0, 1) := by decide +kernel
theorem dX0_whereIs_30 : decode cX0_whereIs 30 = .ok (.getfield 46, 3) := by decide +kernel
theorem dX0_whereIs_33 : decode cX0_whereIs 33 = .ok (.ireturn, 1) := by decide +kernel
theorem dX0_bringLoad_0 : decode cX0_bringLoad 0 = .ok (.aload_n 0, 1) := by decide +kernel
theorem dX0_bringLoad_1 : decode cX0_bringLoad 1 = .ok (.getfield 69, 3) := by decide +kernel
theorem dX0_bringLoad_4 : decode cX0_bringLoad 4 = .ok (.bipush 20, 2) := by decide +kernel
theorem dX0_bringLoad_6 : decode cX0_bringLoad 6 = .ok (.if_icmp .lt 5, 3) := by decide +kernel
theorem dX0_bringLoad_9 : decode cX0_bringLoad 9 = .ok (.iconst (-1), 1) := by decide +kernel
theorem dX0_bringLoad_10 : decode cX0_bringLoad 10 = .ok (.ireturn, 1) := by decide +kernel
theorem dX0_bringLoad_11 : decode cX0_bringLoad 11 = .ok (.aload_n 0, 1) := by decide +kernel
theorem dX0_bringLoad_12 : decode cX0_bringLoad 12 = .ok (.getfield 69, 3) := by decide +kernel
theorem dX0_bringLoad_15 : decode cX0_bringLoad 15 = .ok (.istore_n 3, 1) := by decide +kernel
theorem dX0_bringLoad_16 : decode cX0_bringLoad 16 = .ok (.aload_n 0, 1) := by decide +kernel
theorem dX0_bringLoad_17 : decode cX0_bringLoad 17 = .ok (.getfield 30, 3) := by decide +kernel
theorem dX0_bringLoad_20 : decode cX0_bringLoad 20 = .ok (.iload_n 3, 1) := by decide +kernel
theorem dX0_bringLoad_21 : decode cX0_bringLoad 21 = .ok (.iload_n 1, 1) := by decide +kernel
theorem dX0_bringLoad_22 : decode cX0_bringLoad 22 = .ok (.iastore, 1) := by decide +kernel
theorem dX0_bringLoad_23 : decode cX0_bringLoad 23 = .ok (.aload_n 0, 1) := by decide +kernel
theorem dX0_bringLoad_24 : decode cX0_bringLoad 24 = .ok (.getfield 33, 3) := by decide +kernel
theorem dX0_bringLoad_27 : decode cX0_bringLoad 27 = .ok (.iload_n 3, 1) := by decide +kernel
theorem dX0_bringLoad_28 : decode cX0_bringLoad 28 = .ok (.iload_n 2, 1) := by decide +kernel
theorem dX0_bringLoad_29 : decode cX0_bringLoad 29 = .ok (.iastore, 1) := by decide +kernel
theorem dX0_bringLoad_30 : decode cX0_bringLoad 30 = .ok (.aload_n 0, 1) := by decide +kernel
theorem dX0_bringLoad_31 : decode cX0_bringLoad 31 = .ok (.getfield 36, 3) := by decide +kernel
theorem dX0_bringLoad_34 : decode cX0_bringLoad 34 = .ok (.iload_n 3, 1) := by decide +kernel
theorem dX0_bringLoad_35 : decode cX0_bringLoad 35 = .ok (.iconst (-1), 1) := by decide +kernel
theorem dX0_bringLoad_36 : decode cX0_bringLoad 36 = .ok (.iastore, 1) := by decide +kernel
theorem dX0_bringLoad_37 : decode cX0_bringLoad 37 = .ok (.aload_n 0, 1) := by decide +kernel
theorem dX0_bringLoad_38 : decode cX0_bringLoad 38 = .ok (.getfield 39, 3) := by decide +kernel
theorem dX0_bringLoad_41 : decode cX0_bringLoad 41 = .ok (.iload_n 3, 1) := by decide +kernel
theorem dX0_bringLoad_42 : decode cX0_bringLoad 42 = .ok (.aload_n 0, 1) := by decide +kernel
theorem dX0_bringLoad_43 : decode cX0_bringLoad 43 = .ok (.getfield 46, 3) := by decide +kernel
theorem dX0_bringLoad_46 : decode cX0_bringLoad 46 = .ok (.iastore, 1) := by decide +kernel
theorem dX0_bringLoad_47 : decode cX0_bringLoad 47 = .ok (.aload_n 0, 1) := by decide +kernel
theorem dX0_bringLoad_48 : decode cX0_bringLoad 48 = .ok (.dup, 1) := by decide +kernel
theorem dX0_bringLoad_49 : decode cX0_bringLoad 49 = .ok (.getfield 69, 3) := by decide +kernel
theorem dX0_bringLoad_52 : decode cX0_bringLoad 52 = .ok (.iconst 1, 1) := by decide +kernel
theorem dX0_bringLoad_53 : decode cX0_bringLoad 53 = .ok (.iadd, 1) := by decide +kernel
theorem dX0_bringLoad_54 : decode cX0_bringLoad 54 = .ok (.putfield 69, 3) := by decide +kernel
theorem dX0_bringLoad_57 : decode cX0_bringLoad 57 = .ok (.iload_n 3, 1) := by decide +kernel
theorem dX0_bringLoad_58 : decode cX0_bringLoad 58 = .ok (.ireturn, 1) := by decide +kernel
theorem dX0_hangOn_0 : decode cX0_hangOn 0 = .ok (.aload_n 0, 1) := by decide +kernel
theorem dX0_hangOn_1 : decode cX0_hangOn 1 = .ok (.iload_n 1, 1) := by decide +kernel
theorem dX0_hangOn_2 : decode cX0_hangOn 2 = .ok (.invokevirtual 123, 3) := by decide +kernel
theorem dX0_hangOn_5 : decode cX0_hangOn 5 = .ok (.ifCond .eq 36, 3) := by decide +kernel
theorem dX0_hangOn_8 : decode cX0_hangOn 8 = .ok (.aload_n 0, 1) := by decide +kernel
theorem dX0_hangOn_9 : decode cX0_hangOn 9 = .ok (.getfield 42, 3) := by decide +kernel
theorem dX0_hangOn_12 : decode cX0_hangOn 12 = .ok (.iload_n 2, 1) := by decide +kernel
theorem dX0_hangOn_13 : decode cX0_hangOn 13 = .ok (.invokevirtual 100, 3) := by decide +kernel
theorem dX0_hangOn_16 : decode cX0_hangOn 16 = .ok (.ifCond .eq 25, 3) := by decide +kernel
theorem dX0_hangOn_19 : decode cX0_hangOn 19 = .ok (.aload_n 0, 1) := by decide +kernel
theorem dX0_hangOn_20 : decode cX0_hangOn 20 = .ok (.getfield 36, 3) := by decide +kernel
theorem dX0_hangOn_23 : decode cX0_hangOn 23 = .ok (.iload_n 1, 1) := by decide +kernel
theorem dX0_hangOn_24 : decode cX0_hangOn 24 = .ok (.iload_n 2, 1) := by decide +kernel
theorem dX0_hangOn_25 : decode cX0_hangOn 25 = .ok (.iastore, 1) := by decide +kernel
theorem dX0_hangOn_26 : decode cX0_hangOn 26 = .ok (.aload_n 0, 1) := by decide +kernel
theorem dX0_hangOn_27 : decode cX0_hangOn 27 = .ok (.getfield 24, 3) := by decide +kernel
theorem dX0_hangOn_30 : decode cX0_hangOn 30 = .ok (.iload_n 2, 1) := by decide +kernel
theorem dX0_hangOn_31 : decode cX0_hangOn 31 = .ok (.dup2, 1) := by decide +kernel
theorem dX0_hangOn_32 : decode cX0_hangOn 32 = .ok (.iaload, 1) := by decide +kernel
theorem dX0_hangOn_33 : decode cX0_hangOn 33 = .ok (.aload_n 0, 1) := by decide +kernel
theorem dX0_hangOn_34 : decode cX0_hangOn 34 = .ok (.getfield 30, 3) := by decide +kernel
theorem dX0_hangOn_37 : decode cX0_hangOn 37 = .ok (.iload_n 1, 1) := by decide +kernel
theorem dX0_hangOn_38 : decode cX0_hangOn 38 = .ok (.iaload, 1) := by decide +kernel
theorem dX0_hangOn_39 : decode cX0_hangOn 39 = .ok (.iadd, 1) := by decide +kernel
theorem dX0_hangOn_40 : decode cX0_hangOn 40 = .ok (.iastore, 1) := by decide +kernel
theorem dX0_hangOn_41 : decode cX0_hangOn 41 = .ok (.return_, 1) := by decide +kernel
theorem dX0_layDown_0 : decode cX0_layDown 0 = .ok (.aload_n 0, 1) := by decide +kernel
theorem dX0_layDown_1 : decode cX0_layDown 1 = .ok (.iload_n 1, 1) := by decide +kernel
theorem dX0_layDown_2 : decode cX0_layDown 2 = .ok (.invokevirtual 123, 3) := by decide +kernel
theorem dX0_layDown_5 : decode cX0_layDown 5 = .ok (.ifCond .eq 53, 3) := by decide +kernel
theorem dX0_layDown_8 : decode cX0_layDown 8 = .ok (.aload_n 0, 1) := by decide +kernel
theorem dX0_layDown_9 : decode cX0_layDown 9 = .ok (.getfield 36, 3) := by decide +kernel
theorem dX0_layDown_12 : decode cX0_layDown 12 = .ok (.iload_n 1, 1) := by decide +kernel
theorem dX0_layDown_13 : decode cX0_layDown 13 = .ok (.iaload, 1) := by decide +kernel
theorem dX0_layDown_14 : decode cX0_layDown 14 = .ok (.istore_n 2, 1) := by decide +kernel
theorem dX0_layDown_15 : decode cX0_layDown 15 = .ok (.aload_n 0, 1) := by decide +kernel
theorem dX0_layDown_16 : decode cX0_layDown 16 = .ok (.getfield 42, 3) := by decide +kernel
theorem dX0_layDown_19 : decode cX0_layDown 19 = .ok (.iload_n 2, 1) := by decide +kernel
theorem dX0_layDown_20 : decode cX0_layDown 20 = .ok (.invokevirtual 100, 3) := by decide +kernel
theorem dX0_layDown_23 : decode cX0_layDown 23 = .ok (.ifCond .eq 18, 3) := by decide +kernel
theorem dX0_layDown_26 : decode cX0_layDown 26 = .ok (.aload_n 0, 1) := by decide +kernel
theorem dX0_layDown_27 : decode cX0_layDown 27 = .ok (.getfield 24, 3) := by decide +kernel
theorem dX0_layDown_30 : decode cX0_layDown 30 = .ok (.iload_n 2, 1) := by decide +kernel
theorem dX0_layDown_31 : decode cX0_layDown 31 = .ok (.dup2, 1) := by decide +kernel
theorem dX0_layDown_32 : decode cX0_layDown 32 = .ok (.iaload, 1) := by decide +kernel
theorem dX0_layDown_33 : decode cX0_layDown 33 = .ok (.aload_n 0, 1) := by decide +kernel
theorem dX0_layDown_34 : decode cX0_layDown 34 = .ok (.getfield 30, 3) := by decide +kernel
theorem dX0_layDown_37 : decode cX0_layDown 37 = .ok (.iload_n 1, 1) := by decide +kernel
theorem dX0_layDown_38 : decode cX0_layDown 38 = .ok (.iaload, 1) := by decide +kernel
theorem dX0_layDown_39 : decode cX0_layDown 39 = .ok (.isub, 1) := by decide +kernel
theorem dX0_layDown_40 : decode cX0_layDown 40 = .ok (.iastore, 1) := by decide +kernel
theorem dX0_layDown_41 : decode cX0_layDown 41 = .ok (.aload_n 0, 1) := by decide +kernel
theorem dX0_layDown_42 : decode cX0_layDown 42 = .ok (.getfield 36, 3) := by decide +kernel
theorem dX0_layDown_45 : decode cX0_layDown 45 = .ok (.iload_n 1, 1) := by decide +kernel
theorem dX0_layDown_46 : decode cX0_layDown 46 = .ok (.iconst (-1), 1) := by decide +kernel
theorem dX0_layDown_47 : decode cX0_layDown 47 = .ok (.iastore, 1) := by decide +kernel
theorem dX0_layDown_48 : decode cX0_layDown 48 = .ok (.aload_n 0, 1) := by decide +kernel
theorem dX0_layDown_49 : decode cX0_layDown 49 = .ok (.getfield 39, 3) := by decide +kernel
theorem dX0_layDown_52 : decode cX0_layDown 52 = .ok (.iload_n 1, 1) := by decide +kernel
theorem dX0_layDown_53 : decode cX0_layDown 53 = .ok (.aload_n 0, 1) := by decide +kernel
theorem dX0_layDown_54 : decode cX0_layDown 54 = .ok (.getfield 46, 3) := by decide +kernel
theorem dX0_layDown_57 : decode cX0_layDown 57 = .ok (.iastore, 1) := by decide +kernel
theorem dX0_layDown_58 : decode cX0_layDown 58 = .ok (.return_, 1) := by decide +kernel
theorem dX0_needIn_0 : decode cX0_needIn 0 = .ok (.aload_n 0, 1) := by decide +kernel
theorem dX0_needIn_1 : decode cX0_needIn 1 = .ok (.getfield 42, 3) := by decide +kernel
theorem dX0_needIn_4 : decode cX0_needIn 4 = .ok (.iload_n 1, 1) := by decide +kernel
theorem dX0_needIn_5 : decode cX0_needIn 5 = .ok (.invokevirtual 100, 3) := by decide +kernel
theorem dX0_needIn_8 : decode cX0_needIn 8 = .ok (.ifCond .ne 5, 3) := by decide +kernel
theorem dX0_needIn_11 : decode cX0_needIn 11 = .ok (.iconst 0, 1) := by decide +kernel
theorem dX0_needIn_12 : decode cX0_needIn 12 = .ok (.ireturn, 1) := by decide +kernel
theorem dX0_needIn_13 : decode cX0_needIn 13 = .ok (.iconst 5, 1) := by decide +kernel
theorem dX0_needIn_14 : decode cX0_needIn 14 = .ok (.aload_n 0, 1) := by decide +kernel
theorem dX0_needIn_15 : decode cX0_needIn 15 = .ok (.getfield 24, 3) := by decide +kernel
theorem dX0_needIn_18 : decode cX0_needIn 18 = .ok (.iload_n 1, 1) := by decide +kernel
theorem dX0_needIn_19 : decode cX0_needIn 19 = .ok (.iaload, 1) := by decide +kernel
theorem dX0_needIn_20 : decode cX0_needIn 20 = .ok (.bipush 25, 2) := by decide +kernel
theorem dX0_needIn_22 : decode cX0_needIn 22 = .ok (.idiv, 1) := by decide +kernel
theorem dX0_needIn_23 : decode cX0_needIn 23 = .ok (.iadd, 1) := by decide +kernel
theorem dX0_needIn_24 : decode cX0_needIn 24 = .ok (.iload_n 2, 1) := by decide +kernel
theorem dX0_needIn_25 : decode cX0_needIn 25 = .ok (.iadd, 1) := by decide +kernel
theorem dX0_needIn_26 : decode cX0_needIn 26 = .ok (.ireturn, 1) := by decide +kernel
theorem dX0_distanceNow_0 : decode cX0_distanceNow 0 = .ok (.aload_n 0, 1) := by decide +kernel
theorem dX0_distanceNow_1 : decode cX0_distanceNow 1 = .ok (.invokevirtual 89, 3) := by decide +kernel
theorem dX0_distanceNow_4 : decode cX0_distanceNow 4 = .ok (.ifCond .ne 5, 3) := by decide +kernel
theorem dX0_distanceNow_7 : decode cX0_distanceNow 7 = .ok (.iconst 0, 1) := by decide +kernel
theorem dX0_distanceNow_8 : decode cX0_distanceNow 8 = .ok (.ireturn, 1) := by decide +kernel
theorem dX0_distanceNow_9 : decode cX0_distanceNow 9 = .ok (.aload_n 0, 1) := by decide +kernel
theorem dX0_distanceNow_10 : decode cX0_distanceNow 10 = .ok (.aload_n 0, 1) := by decide +kernel
theorem dX0_distanceNow_11 : decode cX0_distanceNow 11 = .ok (.getfield 57, 3) := by decide +kernel
theorem dX0_distanceNow_14 : decode cX0_distanceNow 14 = .ok (.invokevirtual 107, 3) := by decide +kernel
theorem dX0_distanceNow_17 : decode cX0_distanceNow 17 = .ok (.bipush 10, 2) := by decide +kernel
theorem dX0_distanceNow_19 : decode cX0_distanceNow 19 = .ok (.aload_n 0, 1) := by decide +kernel
theorem dX0_distanceNow_20 : decode cX0_distanceNow 20 = .ok (.getfield 42, 3) := by decide +kernel
theorem dX0_distanceNow_23 : decode cX0_distanceNow 23 = .ok (.aload_n 0, 1) := by decide +kernel
theorem dX0_distanceNow_24 : decode cX0_distanceNow 24 = .ok (.getfield 50, 3) := by decide +kernel
theorem dX0_distanceNow_27 : decode cX0_distanceNow 27 = .ok (.invokevirtual 126, 3) := by decide +kernel
theorem dX0_distanceNow_30 : decode cX0_distanceNow 30 = .ok (.isub, 1) := by decide +kernel
theorem dX0_distanceNow_31 : decode cX0_distanceNow 31 = .ok (.imul, 1) := by decide +kernel
theorem dX0_distanceNow_32 : decode cX0_distanceNow 32 = .ok (.bipush 10, 2) := by decide +kernel
theorem dX0_distanceNow_34 : decode cX0_distanceNow 34 = .ok (.idiv, 1) := by decide +kernel
theorem dX0_distanceNow_35 : decode cX0_distanceNow 35 = .ok (.istore_n 1, 1) := by decide +kernel
theorem dX0_distanceNow_36 : decode cX0_distanceNow 36 = .ok (.iload_n 1, 1) := by decide +kernel
theorem dX0_distanceNow_37 : decode cX0_distanceNow 37 = .ok (.aload_n 0, 1) := by decide +kernel
theorem dX0_distanceNow_38 : decode cX0_distanceNow 38 = .ok (.getfield 42, 3) := by decide +kernel
theorem dX0_distanceNow_41 : decode cX0_distanceNow 41 = .ok (.getfield 86, 3) := by decide +kernel
theorem dX0_distanceNow_44 : decode cX0_distanceNow 44 = .ok (.aload_n 0, 1) := by decide +kernel
theorem dX0_distanceNow_45 : decode cX0_distanceNow 45 = .ok (.getfield 46, 3) := by decide +kernel
theorem dX0_distanceNow_48 : decode cX0_distanceNow 48 = .ok (.isub, 1) := by decide +kernel
theorem dX0_distanceNow_49 : decode cX0_distanceNow 49 = .ok (.invokestatic 129, 3) := by decide +kernel
theorem dX0_distanceNow_52 : decode cX0_distanceNow 52 = .ok (.istore_n 1, 1) := by decide +kernel
theorem dX0_distanceNow_53 : decode cX0_distanceNow 53 = .ok (.aload_n 0, 1) := by decide +kernel
theorem dX0_distanceNow_54 : decode cX0_distanceNow 54 = .ok (.getfield 42, 3) := by decide +kernel
theorem dX0_distanceNow_57 : decode cX0_distanceNow 57 = .ok (.aload_n 0, 1) := by decide +kernel
theorem dX0_distanceNow_58 : decode cX0_distanceNow 58 = .ok (.getfield 46, 3) := by decide +kernel
theorem dX0_distanceNow_61 : decode cX0_distanceNow 61 = .ok (.invokevirtual 132, 3) := by decide +kernel
theorem dX0_distanceNow_64 : decode cX0_distanceNow 64 = .ok (.istore_n 2, 1) := by decide +kernel
theorem dX0_distanceNow_65 : decode cX0_distanceNow 65 = .ok (.aload_n 0, 1) := by decide +kernel
theorem dX0_distanceNow_66 : decode cX0_distanceNow 66 = .ok (.getfield 53, 3) := by decide +kernel
theorem dX0_distanceNow_69 : decode cX0_distanceNow 69 = .ok (.ifCond .eq 27, 3) := by decide +kernel
theorem dX0_distanceNow_72 : decode cX0_distanceNow 72 = .ok (.iload_n 2, 1) := by decide +kernel
theorem dX0_distanceNow_73 : decode cX0_distanceNow 73 = .ok (.iconst (-1), 1) := by decide +kernel
theorem dX0_distanceNow_74 : decode cX0_distanceNow 74 = .ok (.if_icmp .eq 22, 3) := by decide +kernel
theorem dX0_distanceNow_77 : decode cX0_distanceNow 77 = .ok (.iload_n 1, 1) := by decide +kernel
theorem dX0_distanceNow_78 : decode cX0_distanceNow 78 = .ok (.aload_n 0, 1) := by decide +kernel
theorem dX0_distanceNow_79 : decode cX0_distanceNow 79 = .ok (.getfield 42, 3) := by decide +kernel
theorem dX0_distanceNow_82 : decode cX0_distanceNow 82 = .ok (.getfield 135, 3) := by decide +kernel
theorem dX0_distanceNow_85 : decode cX0_distanceNow 85 = .ok (.iload_n 2, 1) := by decide +kernel
theorem dX0_distanceNow_86 : decode cX0_distanceNow 86 = .ok (.iaload, 1) := by decide +kernel
theorem dX0_distanceNow_87 : decode cX0_distanceNow 87 = .ok (.aload_n 0, 1) := by decide +kernel
theorem dX0_distanceNow_88 : decode cX0_distanceNow 88 = .ok (.getfield 46, 3) := by decide +kernel
theorem dX0_distanceNow_91 : decode cX0_distanceNow 91 = .ok (.isub, 1) := by decide +kernel
theorem dX0_distanceNow_92 : decode cX0_distanceNow 92 = .ok (.invokestatic 129, 3) := by decide +kernel
theorem dX0_distanceNow_95 : decode cX0_distanceNow 95 = .ok (.istore_n 1, 1) := by decide +kernel
theorem dX0_distanceNow_96 : decode cX0_distanceNow 96 = .ok (.iload_n 1, 1) := by decide +kernel
theorem dX0_distanceNow_97 : decode cX0_distanceNow 97 = .ok (.ireturn, 1) := by decide +kernel
theorem dX0_passTravelDay_0 : decode cX0_passTravelDay 0 = .ok (.aload_n 0, 1) := by decide +kernel
theorem dX0_passTravelDay_1 : decode cX0_passTravelDay 1 = .ok (.aload_n 0, 1) := by decide +kernel
theorem dX0_passTravelDay_2 : decode cX0_passTravelDay 2 = .ok (.getfield 57, 3) := by decide +kernel
theorem dX0_passTravelDay_5 : decode cX0_passTravelDay 5 = .ok (.invokevirtual 107, 3) := by decide +kernel
theorem dX0_passTravelDay_8 : decode cX0_passTravelDay 8 = .ok (.istore_n 1, 1) := by decide +kernel
theorem dX0_passTravelDay_9 : decode cX0_passTravelDay 9 = .ok (.aload_n 0, 1) := by decide +kernel
theorem dX0_passTravelDay_10 : decode cX0_passTravelDay 10 = .ok (.getfield 42, 3) := by decide +kernel
theorem dX0_passTravelDay_13 : decode cX0_passTravelDay 13 = .ok (.aload_n 0, 1) := by decide +kernel
theorem dX0_passTravelDay_14 : decode cX0_passTravelDay 14 = .ok (.getfield 50, 3) := by decide +kernel
theorem dX0_passTravelDay_17 : decode cX0_passTravelDay 17 = .ok (.invokevirtual 126, 3) := by decide +kernel
theorem dX0_passTravelDay_20 : decode cX0_passTravelDay 20 = .ok (.istore_n 2, 1) := by decide +kernel
theorem dX0_passTravelDay_21 : decode cX0_passTravelDay 21 = .ok (.aload_n 0, 1) := by decide +kernel
theorem dX0_passTravelDay_22 : decode cX0_passTravelDay 22 = .ok (.invokevirtual 138, 3) := by decide +kernel
theorem dX0_passTravelDay_25 : decode cX0_passTravelDay 25 = .ok (.istore_n 3, 1) := by decide +kernel
theorem dX0_passTravelDay_26 : decode cX0_passTravelDay 26 = .ok (.aload_n 0, 1) := by decide +kernel
theorem dX0_passTravelDay_27 : decode cX0_passTravelDay 27 = .ok (.dup, 1) := by decide +kernel
theorem dX0_passTravelDay_28 : decode cX0_passTravelDay 28 = .ok (.getfield 46, 3) := by decide +kernel
theorem dX0_passTravelDay_31 : decode cX0_passTravelDay 31 = .ok (.iload_n 3, 1) := by decide +kernel
theorem dX0_passTravelDay_32 : decode cX0_passTravelDay 32 = .ok (.iadd, 1) := by decide +kernel
theorem dX0_passTravelDay_33 : decode cX0_passTravelDay 33 = .ok (.putfield 46, 3) := by decide +kernel
theorem dX0_passTravelDay_36 : decode cX0_passTravelDay 36 = .ok (.iconst 0, 1) := by decide +kernel
theorem dX0_passTravelDay_37 : decode cX0_passTravelDay 37 = .ok (.istore 4, 2) := by decide +kernel
theorem dX0_passTravelDay_39 : decode cX0_passTravelDay 39 = .ok (.iload 4, 2) := by decide +kernel
theorem dX0_passTravelDay_41 : decode cX0_passTravelDay 41 = .ok (.aload_n 0, 1) := by decide +kernel
theorem dX0_passTravelDay_42 : decode cX0_passTravelDay 42 = .ok (.getfield 42, 3) := by decide +kernel
theorem dX0_passTravelDay_45 : decode cX0_passTravelDay 45 = .ok (.getfield 72, 3) := by decide +kernel
theorem dX0_passTravelDay_48 : decode cX0_passTravelDay 48 = .ok (.if_icmp .ge 45, 3) := by decide +kernel
theorem dX0_passTravelDay_51 : decode cX0_passTravelDay 51 = .ok (.aload_n 0, 1) := by decide +kernel
theorem dX0_passTravelDay_52 : decode cX0_passTravelDay 52 = .ok (.iload 4, 2) := by decide +kernel
theorem dX0_passTravelDay_54 : decode cX0_passTravelDay 54 = .ok (.invokevirtual 104, 3) := by decide +kernel
theorem dX0_passTravelDay_57 : decode cX0_passTravelDay 57 = .ok (.ifCond .eq 30, 3) := by decide +kernel
theorem dX0_passTravelDay_60 : decode cX0_passTravelDay 60 = .ok (.aload_n 0, 1) := by decide +kernel
theorem dX0_passTravelDay_61 : decode cX0_passTravelDay 61 = .ok (.iload 4, 2) := by decide +kernel
theorem dX0_passTravelDay_63 : decode cX0_passTravelDay 63 = .ok (.iload_n 1, 1) := by decide +kernel
theorem dX0_passTravelDay_64 : decode cX0_passTravelDay 64 = .ok (.aload_n 0, 1) := by decide +kernel
theorem dX0_passTravelDay_65 : decode cX0_passTravelDay 65 = .ok (.iload 4, 2) := by decide +kernel
theorem dX0_passTravelDay_67 : decode cX0_passTravelDay 67 = .ok (.invokevirtual 107, 3) := by decide +kernel
theorem dX0_passTravelDay_70 : decode cX0_passTravelDay 70 = .ok (.isub, 1) := by decide +kernel
theorem dX0_passTravelDay_71 : decode cX0_passTravelDay 71 = .ok (.invokevirtual 141, 3) := by decide +kernel
theorem dX0_passTravelDay_74 : decode cX0_passTravelDay 74 = .ok (.aload_n 0, 1) := by decide +kernel
theorem dX0_passTravelDay_75 : decode cX0_passTravelDay 75 = .ok (.iload 4, 2) := by decide +kernel
theorem dX0_passTravelDay_77 : decode cX0_passTravelDay 77 = .ok (.aload_n 0, 1) := by decide +kernel
theorem dX0_passTravelDay_78 : decode cX0_passTravelDay 78 = .ok (.iload 4, 2) := by decide +kernel
theorem dX0_passTravelDay_80 : decode cX0_passTravelDay 80 = .ok (.iload_n 2, 1) := by decide +kernel
theorem dX0_passTravelDay_81 : decode cX0_passTravelDay 81 = .ok (.invokevirtual 145, 3) := by decide +kernel
theorem dX0_passTravelDay_84 : decode cX0_passTravelDay 84 = .ok (.invokevirtual 148, 3) := by decide +kernel
theorem dX0_passTravelDay_87 : decode cX0_passTravelDay 87 = .ok (.iinc 4 1, 3) := by decide +kernel
theorem dX0_passTravelDay_90 : decode cX0_passTravelDay 90 = .ok (.goto (-51), 3) := by decide +kernel
theorem dX0_passTravelDay_93 : decode cX0_passTravelDay 93 = .ok (.aload_n 0, 1) := by decide +kernel
theorem dX0_passTravelDay_94 : decode cX0_passTravelDay 94 = .ok (.invokevirtual 151, 3) := by decide +kernel
theorem dX0_passTravelDay_97 : decode cX0_passTravelDay 97 = .ok (.iload_n 3, 1) := by decide +kernel
theorem dX0_passTravelDay_98 : decode cX0_passTravelDay 98 = .ok (.ireturn, 1) := by decide +kernel
theorem dX0_passRestDay_0 : decode cX0_passRestDay 0 = .ok (.aload_n 0, 1) := by decide +kernel
theorem dX0_passRestDay_1 : decode cX0_passRestDay 1 = .ok (.getfield 42, 3) := by decide +kernel
theorem dX0_passRestDay_4 : decode cX0_passRestDay 4 = .ok (.aload_n 0, 1) := by decide +kernel
theorem dX0_passRestDay_5 : decode cX0_passRestDay 5 = .ok (.getfield 50, 3) := by decide +kernel
theorem dX0_passRestDay_8 : decode cX0_passRestDay 8 = .ok (.invokevirtual 126, 3) := by decide +kernel
theorem dX0_passRestDay_11 : decode cX0_passRestDay 11 = .ok (.istore_n 1, 1) := by decide +kernel
theorem dX0_passRestDay_12 : decode cX0_passRestDay 12 = .ok (.iconst 0, 1) := by decide +kernel
theorem dX0_passRestDay_13 : decode cX0_passRestDay 13 = .ok (.istore_n 2, 1) := by decide +kernel
theorem dX0_passRestDay_14 : decode cX0_passRestDay 14 = .ok (.iload_n 2, 1) := by decide +kernel
theorem dX0_passRestDay_15 : decode cX0_passRestDay 15 = .ok (.aload_n 0, 1) := by decide +kernel
theorem dX0_passRestDay_16 : decode cX0_passRestDay 16 = .ok (.getfield 42, 3) := by decide +kernel
theorem dX0_passRestDay_19 : decode cX0_passRestDay 19 = .ok (.getfield 72, 3) := by decide +kernel
theorem dX0_passRestDay_22 : decode cX0_passRestDay 22 = .ok (.if_icmp .ge 38, 3) := by decide +kernel
theorem dX0_passRestDay_25 : decode cX0_passRestDay 25 = .ok (.aload_n 0, 1) := by decide +kernel
theorem dX0_passRestDay_26 : decode cX0_passRestDay 26 = .ok (.iload_n 2, 1) := by decide +kernel
theorem dX0_passRestDay_27 : decode cX0_passRestDay 27 = .ok (.invokevirtual 104, 3) := by decide +kernel
theorem dX0_passRestDay_30 : decode cX0_passRestDay 30 = .ok (.ifCond .eq 24, 3) := by decide +kernel
theorem dX0_passRestDay_33 : decode cX0_passRestDay 33 = .ok (.aload_n 0, 1) := by decide +kernel
theorem dX0_passRestDay_34 : decode cX0_passRestDay 34 = .ok (.iload_n 2, 1) := by decide +kernel
theorem dX0_passRestDay_35 : decode cX0_passRestDay 35 = .ok (.iconst 0, 1) := by decide +kernel
theorem dX0_passRestDay_36 : decode cX0_passRestDay 36 = .ok (.invokevirtual 141, 3) := by decide +kernel
theorem dX0_passRestDay_39 : decode cX0_passRestDay 39 = .ok (.aload_n 0, 1) := by decide +kernel
theorem dX0_passRestDay_40 : decode cX0_passRestDay 40 = .ok (.iload_n 2, 1) := by decide +kernel
theorem dX0_passRestDay_41 : decode cX0_passRestDay 41 = .ok (.aload_n 0, 1) := by decide +kernel
theorem dX0_passRestDay_42 : decode cX0_passRestDay 42 = .ok (.iload_n 2, 1) := by decide +kernel
theorem dX0_passRestDay_43 : decode cX0_passRestDay 43 = .ok (.iload_n 1, 1) := by decide +kernel
theorem dX0_passRestDay_44 : decode cX0_passRestDay 44 = .ok (.invokevirtual 145, 3) := by decide +kernel
theorem dX0_passRestDay_47 : decode cX0_passRestDay 47 = .ok (.iconst 1, 1) := by decide +kernel
theorem dX0_passRestDay_48 : decode cX0_passRestDay 48 = .ok (.iadd, 1) := by decide +kernel
theorem dX0_passRestDay_49 : decode cX0_passRestDay 49 = .ok (.iconst 2, 1) := by decide +kernel
theorem dX0_passRestDay_50 : decode cX0_passRestDay 50 = .ok (.idiv, 1) := by decide +kernel
theorem dX0_passRestDay_51 : decode cX0_passRestDay 51 = .ok (.invokevirtual 148, 3) := by decide +kernel
theorem dX0_passRestDay_54 : decode cX0_passRestDay 54 = .ok (.iinc 2 1, 3) := by decide +kernel
theorem dX0_passRestDay_57 : decode cX0_passRestDay 57 = .ok (.goto (-43), 3) := by decide +kernel
theorem dX0_passRestDay_60 : decode cX0_passRestDay 60 = .ok (.aload_n 0, 1) := by decide +kernel
theorem dX0_passRestDay_61 : decode cX0_passRestDay 61 = .ok (.invokevirtual 151, 3) := by decide +kernel
theorem dX0_passRestDay_64 : decode cX0_passRestDay 64 = .ok (.return_, 1) := by decide +kernel
theorem dX0_tire_0 : decode cX0_tire 0 = .ok (.iload_n 2, 1) := by decide +kernel
theorem dX0_tire_1 : decode cX0_tire 1 = .ok (.ifCond .le 16, 3) := by decide +kernel
theorem dX0_tire_4 : decode cX0_tire 4 = .ok (.aload_n 0, 1) := by decide +kernel
theorem dX0_tire_5 : decode cX0_tire 5 = .ok (.getfield 15, 3) := by decide +kernel
theorem dX0_tire_8 : decode cX0_tire 8 = .ok (.iload_n 1, 1) := by decide +kernel
theorem dX0_tire_9 : decode cX0_tire 9 = .ok (.dup2, 1) := by decide +kernel
theorem dX0_tire_10 : decode cX0_tire 10 = .ok (.iaload, 1) := by decide +kernel
theorem dX0_tire_11 : decode cX0_tire 11 = .ok (.iload_n 2, 1) := by decide +kernel
theorem dX0_tire_12 : decode cX0_tire 12 = .ok (.iadd, 1) := by decide +kernel
theorem dX0_tire_13 : decode cX0_tire 13 = .ok (.iastore, 1) := by decide +kernel
theorem dX0_tire_14 : decode cX0_tire 14 = .ok (.goto 22, 3) := by decide +kernel
theorem dX0_tire_17 : decode cX0_tire 17 = .ok (.aload_n 0, 1) := by decide +kernel
theorem dX0_tire_18 : decode cX0_tire 18 = .ok (.getfield 15, 3) := by decide +kernel
theorem dX0_tire_21 : decode cX0_tire 21 = .ok (.iload_n 1, 1) := by decide +kernel
theorem dX0_tire_22 : decode cX0_tire 22 = .ok (.iconst 0, 1) := by decide +kernel
theorem dX0_tire_23 : decode cX0_tire 23 = .ok (.aload_n 0, 1) := by decide +kernel
theorem dX0_tire_24 : decode cX0_tire 24 = .ok (.getfield 15, 3) := by decide +kernel
theorem dX0_tire_27 : decode cX0_tire 27 = .ok (.iload_n 1, 1) := by decide +kernel
theorem dX0_tire_28 : decode cX0_tire 28 = .ok (.iaload, 1) := by decide +kernel
theorem dX0_tire_29 : decode cX0_tire 29 = .ok (.bipush 10, 2) := by decide +kernel
theorem dX0_tire_31 : decode cX0_tire 31 = .ok (.isub, 1) := by decide +kernel
theorem dX0_tire_32 : decode cX0_tire 32 = .ok (.invokestatic 114, 3) := by decide +kernel
theorem dX0_tire_35 : decode cX0_tire 35 = .ok (.iastore, 1) := by decide +kernel
theorem dX0_tire_36 : decode cX0_tire 36 = .ok (.aload_n 0, 1) := by decide +kernel
theorem dX0_tire_37 : decode cX0_tire 37 = .ok (.getfield 15, 3) := by decide +kernel
theorem dX0_tire_40 : decode cX0_tire 40 = .ok (.iload_n 1, 1) := by decide +kernel
theorem dX0_tire_41 : decode cX0_tire 41 = .ok (.iaload, 1) := by decide +kernel
theorem dX0_tire_42 : decode cX0_tire 42 = .ok (.bipush 60, 2) := by decide +kernel
theorem dX0_tire_44 : decode cX0_tire 44 = .ok (.if_icmp .le 23, 3) := by decide +kernel
theorem dX0_tire_47 : decode cX0_tire 47 = .ok (.aload_n 0, 1) := by decide +kernel
theorem dX0_tire_48 : decode cX0_tire 48 = .ok (.getfield 18, 3) := by decide +kernel
theorem dX0_tire_51 : decode cX0_tire 51 = .ok (.iload_n 1, 1) := by decide +kernel
theorem dX0_tire_52 : decode cX0_tire 52 = .ok (.dup2, 1) := by decide +kernel
theorem dX0_tire_53 : decode cX0_tire 53 = .ok (.iaload, 1) := by decide +kernel
theorem dX0_tire_54 : decode cX0_tire 54 = .ok (.iconst 3, 1) := by decide +kernel
theorem dX0_tire_55 : decode cX0_tire 55 = .ok (.iadd, 1) := by decide +kernel
theorem dX0_tire_56 : decode cX0_tire 56 = .ok (.iastore, 1) := by decide +kernel
theorem dX0_tire_57 : decode cX0_tire 57 = .ok (.aload_n 0, 1) := by decide +kernel
theorem dX0_tire_58 : decode cX0_tire 58 = .ok (.getfield 15, 3) := by decide +kernel
theorem dX0_tire_61 : decode cX0_tire 61 = .ok (.iload_n 1, 1) := by decide +kernel
theorem dX0_tire_62 : decode cX0_tire 62 = .ok (.iconst 0, 1) := by decide +kernel
theorem dX0_tire_63 : decode cX0_tire 63 = .ok (.iastore, 1) := by decide +kernel
theorem dX0_tire_64 : decode cX0_tire 64 = .ok (.goto 22, 3) := by decide +kernel
theorem dX0_tire_67 : decode cX0_tire 67 = .ok (.aload_n 0, 1) := by decide +kernel
theorem dX0_tire_68 : decode cX0_tire 68 = .ok (.getfield 18, 3) := by decide +kernel
theorem dX0_tire_71 : decode cX0_tire 71 = .ok (.iload_n 1, 1) := by decide +kernel
theorem dX0_tire_72 : decode cX0_tire 72 = .ok (.iaload, 1) := by decide +kernel
theorem dX0_tire_73 : decode cX0_tire 73 = .ok (.ifCond .le 13, 3) := by decide +kernel
theorem dX0_tire_76 : decode cX0_tire 76 = .ok (.aload_n 0, 1) := by decide +kernel
theorem dX0_tire_77 : decode cX0_tire 77 = .ok (.getfield 18, 3) := by decide +kernel
theorem dX0_tire_80 : decode cX0_tire 80 = .ok (.iload_n 1, 1) := by decide +kernel
theorem dX0_tire_81 : decode cX0_tire 81 = .ok (.dup2, 1) := by decide +kernel
theorem dX0_tire_82 : decode cX0_tire 82 = .ok (.iaload, 1) := by decide +kernel
theorem dX0_tire_83 : decode cX0_tire 83 = .ok (.iconst 1, 1) := by decide +kernel
theorem dX0_tire_84 : decode cX0_tire 84 = .ok (.isub, 1) := by decide +kernel
theorem dX0_tire_85 : decode cX0_tire 85 = .ok (.iastore, 1) := by decide +kernel
theorem dX0_tire_86 : decode cX0_tire 86 = .ok (.return_, 1) := by decide +kernel
theorem dX0_useWater_0 : decode cX0_useWater 0 = .ok (.aload_n 0, 1) := by decide +kernel
theorem dX0_useWater_1 : decode cX0_useWater 1 = .ok (.getfield 9, 3) := by decide +kernel
theorem dX0_useWater_4 : decode cX0_useWater 4 = .ok (.iload_n 1, 1) := by decide +kernel
theorem dX0_useWater_5 : decode cX0_useWater 5 = .ok (.iaload, 1) := by decide +kernel
theorem dX0_useWater_6 : decode cX0_useWater 6 = .ok (.iload_n 2, 1) := by decide +kernel
theorem dX0_useWater_7 : decode cX0_useWater 7 = .ok (.if_icmp .lt 21, 3) := by decide +kernel
theorem dX0_useWater_10 : decode cX0_useWater 10 = .ok (.aload_n 0, 1) := by decide +kernel
theorem dX0_useWater_11 : decode cX0_useWater 11 = .ok (.getfield 9, 3) := by decide +kernel
theorem dX0_useWater_14 : decode cX0_useWater 14 = .ok (.iload_n 1, 1) := by decide +kernel
theorem dX0_useWater_15 : decode cX0_useWater 15 = .ok (.dup2, 1) := by decide +kernel
theorem dX0_useWater_16 : decode cX0_useWater 16 = .ok (.iaload, 1) := by decide +kernel
theorem dX0_useWater_17 : decode cX0_useWater 17 = .ok (.iload_n 2, 1) := by decide +kernel
theorem dX0_useWater_18 : decode cX0_useWater 18 = .ok (.isub, 1) := by decide +kernel
theorem dX0_useWater_19 : decode cX0_useWater 19 = .ok (.iastore, 1) := by decide +kernel
theorem dX0_useWater_20 : decode cX0_useWater 20 = .ok (.aload_n 0, 1) := by decide +kernel
theorem dX0_useWater_21 : decode cX0_useWater 21 = .ok (.getfield 21, 3) := by decide +kernel
theorem dX0_useWater_24 : decode cX0_useWater 24 = .ok (.iload_n 1, 1) := by decide +kernel
theorem dX0_useWater_25 : decode cX0_useWater 25 = .ok (.iconst 0, 1) := by decide +kernel
theorem dX0_useWater_26 : decode cX0_useWater 26 = .ok (.iastore, 1) := by decide +kernel
theorem dX0_useWater_27 : decode cX0_useWater 27 = .ok (.return_, 1) := by decide +kernel
theorem dX0_useWater_28 : decode cX0_useWater 28 = .ok (.aload_n 0, 1) := by decide +kernel
theorem dX0_useWater_29 : decode cX0_useWater 29 = .ok (.getfield 9, 3) := by decide +kernel
theorem dX0_useWater_32 : decode cX0_useWater 32 = .ok (.iload_n 1, 1) := by decide +kernel
theorem dX0_useWater_33 : decode cX0_useWater 33 = .ok (.iconst 0, 1) := by decide +kernel
theorem dX0_useWater_34 : decode cX0_useWater 34 = .ok (.iastore, 1) := by decide +kernel
theorem dX0_useWater_35 : decode cX0_useWater 35 = .ok (.aload_n 0, 1) := by decide +kernel
theorem dX0_useWater_36 : decode cX0_useWater 36 = .ok (.getfield 21, 3) := by decide +kernel
theorem dX0_useWater_39 : decode cX0_useWater 39 = .ok (.iload_n 1, 1) := by decide +kernel
theorem dX0_useWater_40 : decode cX0_useWater 40 = .ok (.dup2, 1) := by decide +kernel
theorem dX0_useWater_41 : decode cX0_useWater 41 = .ok (.iaload, 1) := by decide +kernel
theorem dX0_useWater_42 : decode cX0_useWater 42 = .ok (.iconst 1, 1) := by decide +kernel
theorem dX0_useWater_43 : decode cX0_useWater 43 = .ok (.iadd, 1) := by decide +kernel
theorem dX0_useWater_44 : decode cX0_useWater 44 = .ok (.iastore, 1) := by decide +kernel
theorem dX0_useWater_45 : decode cX0_useWater 45 = .ok (.aload_n 0, 1) := by decide +kernel
theorem dX0_useWater_46 : decode cX0_useWater 46 = .ok (.iload_n 1, 1) := by decide +kernel
theorem dX0_useWater_47 : decode cX0_useWater 47 = .ok (.invokevirtual 104, 3) := by decide +kernel
theorem dX0_useWater_50 : decode cX0_useWater 50 = .ok (.ifCond .ne 8, 3) := by decide +kernel
theorem dX0_useWater_53 : decode cX0_useWater 53 = .ok (.aload_n 0, 1) := by decide +kernel
theorem dX0_useWater_54 : decode cX0_useWater 54 = .ok (.iload_n 1, 1) := by decide +kernel
theorem dX0_useWater_55 : decode cX0_useWater 55 = .ok (.invokevirtual 154, 3) := by decide +kernel
theorem dX0_useWater_58 : decode cX0_useWater 58 = .ok (.return_, 1) := by decide +kernel
theorem dX0_dropAllOf_0 : decode cX0_dropAllOf 0 = .ok (.iconst 0, 1) := by decide +kernel
theorem dX0_dropAllOf_1 : decode cX0_dropAllOf 1 = .ok (.istore_n 2, 1) := by decide +kernel
theorem dX0_dropAllOf_2 : decode cX0_dropAllOf 2 = .ok (.iload_n 2, 1) := by decide +kernel
theorem dX0_dropAllOf_3 : decode cX0_dropAllOf 3 = .ok (.aload_n 0, 1) := by decide +kernel
theorem dX0_dropAllOf_4 : decode cX0_dropAllOf 4 = .ok (.getfield 69, 3) := by decide +kernel
theorem dX0_dropAllOf_7 : decode cX0_dropAllOf 7 = .ok (.if_icmp .ge 24, 3) := by decide +kernel
theorem dX0_dropAllOf_10 : decode cX0_dropAllOf 10 = .ok (.aload_n 0, 1) := by decide +kernel
theorem dX0_dropAllOf_11 : decode cX0_dropAllOf 11 = .ok (.getfield 36, 3) := by decide +kernel
theorem dX0_dropAllOf_14 : decode cX0_dropAllOf 14 = .ok (.iload_n 2, 1) := by decide +kernel
theorem dX0_dropAllOf_15 : decode cX0_dropAllOf 15 = .ok (.iaload, 1) := by decide +kernel
theorem dX0_dropAllOf_16 : decode cX0_dropAllOf 16 = .ok (.iload_n 1, 1) := by decide +kernel
theorem dX0_dropAllOf_17 : decode cX0_dropAllOf 17 = .ok (.if_icmp .ne 8, 3) := by decide +kernel
theorem dX0_dropAllOf_20 : decode cX0_dropAllOf 20 = .ok (.aload_n 0, 1) := by decide +kernel
theorem dX0_dropAllOf_21 : decode cX0_dropAllOf 21 = .ok (.iload_n 2, 1) := by decide +kernel
theorem dX0_dropAllOf_22 : decode cX0_dropAllOf 22 = .ok (.invokevirtual 158, 3) := by decide +kernel
theorem dX0_dropAllOf_25 : decode cX0_dropAllOf 25 = .ok (.iinc 2 1, 3) := by decide +kernel
theorem dX0_dropAllOf_28 : decode cX0_dropAllOf 28 = .ok (.goto (-26), 3) := by decide +kernel
theorem dX0_dropAllOf_31 : decode cX0_dropAllOf 31 = .ok (.return_, 1) := by decide +kernel
theorem dX0_endDay_0 : decode cX0_endDay 0 = .ok (.aload_n 0, 1) := by decide +kernel
theorem dX0_endDay_1 : decode cX0_endDay 1 = .ok (.aload_n 0, 1) := by decide +kernel
theorem dX0_endDay_2 : decode cX0_endDay 2 = .ok (.getfield 57, 3) := by decide +kernel
theorem dX0_endDay_5 : decode cX0_endDay 5 = .ok (.invokevirtual 104, 3) := by decide +kernel
theorem dX0_endDay_8 : decode cX0_endDay 8 = .ok (.ifCond .ne 25, 3) := by decide +kernel
theorem dX0_endDay_11 : decode cX0_endDay 11 = .ok (.aload_n 0, 1) := by decide +kernel
theorem dX0_endDay_12 : decode cX0_endDay 12 = .ok (.invokevirtual 161, 3) := by decide +kernel
theorem dX0_endDay_15 : decode cX0_endDay 15 = .ok (.istore_n 1, 1) := by decide +kernel
theorem dX0_endDay_16 : decode cX0_endDay 16 = .ok (.aload_n 0, 1) := by decide +kernel
theorem dX0_endDay_17 : decode cX0_endDay 17 = .ok (.iload_n 1, 1) := by decide +kernel
theorem dX0_endDay_18 : decode cX0_endDay 18 = .ok (.iconst (-1), 1) := by decide +kernel
theorem dX0_endDay_19 : decode cX0_endDay 19 = .ok (.if_icmp .ne 10, 3) := by decide +kernel
theorem dX0_endDay_22 : decode cX0_endDay 22 = .ok (.aload_n 0, 1) := by decide +kernel
theorem dX0_endDay_23 : decode cX0_endDay 23 = .ok (.getfield 57, 3) := by decide +kernel
theorem dX0_endDay_26 : decode cX0_endDay 26 = .ok (.goto 4, 3) := by decide +kernel
theorem dX0_endDay_29 : decode cX0_endDay 29 = .ok (.iload_n 1, 1) := by decide +kernel
theorem dX0_endDay_30 : decode cX0_endDay 30 = .ok (.putfield 57, 3) := by decide +kernel
theorem dX0_endDay_33 : decode cX0_endDay 33 = .ok (.iconst 0, 1) := by decide +kernel
theorem dX0_endDay_34 : decode cX0_endDay 34 = .ok (.istore_n 1, 1) := by decide +kernel
theorem dX0_endDay_35 : decode cX0_endDay 35 = .ok (.iload_n 1, 1) := by decide +kernel
theorem dX0_endDay_36 : decode cX0_endDay 36 = .ok (.aload_n 0, 1) := by decide +kernel
theorem dX0_endDay_37 : decode cX0_endDay 37 = .ok (.getfield 42, 3) := by decide +kernel
theorem dX0_endDay_40 : decode cX0_endDay 40 = .ok (.getfield 80, 3) := by decide +kernel
theorem dX0_endDay_43 : decode cX0_endDay 43 = .ok (.if_icmp .ge 43, 3) := by decide +kernel
theorem dX0_endDay_46 : decode cX0_endDay 46 = .ok (.aload_n 0, 1) := by decide +kernel
theorem dX0_endDay_47 : decode cX0_endDay 47 = .ok (.getfield 27, 3) := by decide +kernel
theorem dX0_endDay_50 : decode cX0_endDay 50 = .ok (.iload_n 1, 1) := by decide +kernel
theorem dX0_endDay_51 : decode cX0_endDay 51 = .ok (.aload_n 0, 1) := by decide +kernel
theorem dX0_endDay_52 : decode cX0_endDay 52 = .ok (.getfield 42, 3) := by decide +kernel
theorem dX0_endDay_55 : decode cX0_endDay 55 = .ok (.getfield 83, 3) := by decide +kernel
theorem dX0_endDay_58 : decode cX0_endDay 58 = .ok (.iload_n 1, 1) := by decide +kernel
theorem dX0_endDay_59 : decode cX0_endDay 59 = .ok (.iaload, 1) := by decide +kernel
theorem dX0_endDay_60 : decode cX0_endDay 60 = .ok (.aload_n 0, 1) := by decide +kernel
theorem dX0_endDay_61 : decode cX0_endDay 61 = .ok (.getfield 27, 3) := by decide +kernel
theorem dX0_endDay_64 : decode cX0_endDay 64 = .ok (.iload_n 1, 1) := by decide +kernel
theorem dX0_endDay_65 : decode cX0_endDay 65 = .ok (.iaload, 1) := by decide +kernel
theorem dX0_endDay_66 : decode cX0_endDay 66 = .ok (.aload_n 0, 1) := by decide +kernel
theorem dX0_endDay_67 : decode cX0_endDay 67 = .ok (.getfield 42, 3) := by decide +kernel
theorem dX0_endDay_70 : decode cX0_endDay 70 = .ok (.getfield 164, 3) := by decide +kernel
theorem dX0_endDay_73 : decode cX0_endDay 73 = .ok (.iload_n 1, 1) := by decide +kernel
theorem dX0_endDay_74 : decode cX0_endDay 74 = .ok (.iaload, 1) := by decide +kernel
theorem dX0_endDay_75 : decode cX0_endDay 75 = .ok (.iadd, 1) := by decide +kernel
theorem dX0_endDay_76 : decode cX0_endDay 76 = .ok (.invokestatic 129, 3) := by decide +kernel
theorem dX0_endDay_79 : decode cX0_endDay 79 = .ok (.iastore, 1) := by decide +kernel
theorem dX0_endDay_80 : decode cX0_endDay 80 = .ok (.iinc 1 1, 3) := by decide +kernel
theorem dX0_endDay_83 : decode cX0_endDay 83 = .ok (.goto (-48), 3) := by decide +kernel
theorem dX0_endDay_86 : decode cX0_endDay 86 = .ok (.aload_n 0, 1) := by decide +kernel
theorem dX0_endDay_87 : decode cX0_endDay 87 = .ok (.dup, 1) := by decide +kernel
theorem dX0_endDay_88 : decode cX0_endDay 88 = .ok (.getfield 50, 3) := by decide +kernel
theorem dX0_endDay_91 : decode cX0_endDay 91 = .ok (.iconst 1, 1) := by decide +kernel
theorem dX0_endDay_92 : decode cX0_endDay 92 = .ok (.iadd, 1) := by decide +kernel
theorem dX0_endDay_93 : decode cX0_endDay 93 = .ok (.putfield 50, 3) := by decide +kernel
theorem dX0_endDay_96 : decode cX0_endDay 96 = .ok (.return_, 1) := by decide +kernel
theorem dX0_shareOut_0 : decode cX0_shareOut 0 = .ok (.iconst 0, 1) := by decide +kernel
theorem dX0_shareOut_1 : decode cX0_shareOut 1 = .ok (.istore_n 3, 1) := by decide +kernel
theorem dX0_shareOut_2 : decode cX0_shareOut 2 = .ok (.iload_n 3, 1) := by decide +kernel
theorem dX0_shareOut_3 : decode cX0_shareOut 3 = .ok (.aload_n 0, 1) := by decide +kernel
theorem dX0_shareOut_4 : decode cX0_shareOut 4 = .ok (.getfield 42, 3) := by decide +kernel
theorem dX0_shareOut_7 : decode cX0_shareOut 7 = .ok (.getfield 72, 3) := by decide +kernel
theorem dX0_shareOut_10 : decode cX0_shareOut 10 = .ok (.if_icmp .ge 13, 3) := by decide +kernel
theorem dX0_shareOut_13 : decode cX0_shareOut 13 = .ok (.aload_n 2, 1) := by decide +kernel
theorem dX0_shareOut_14 : decode cX0_shareOut 14 = .ok (.iload_n 3, 1) := by decide +kernel
theorem dX0_shareOut_15 : decode cX0_shareOut 15 = .ok (.iconst (-1), 1) := by decide +kernel
theorem dX0_shareOut_16 : decode cX0_shareOut 16 = .ok (.iastore, 1) := by decide +kernel
end
section
theorem dX0_shareOut_17 : decode cX0_shareOut 17 = .ok (.iinc 3 1, 3) := by decide +kernel
theorem dX0_shareOut_20 : decode cX0_shareOut 20 = .ok (.goto (-18), 3) := by decide +kernel
theorem dX0_shareOut_23 : decode cX0_shareOut 23 = .ok (.aload_n 0, 1) := by decide +kernel
theorem dX0_shareOut_24 : decode cX0_shareOut 24 = .ok (.getfield 27, 3) := by decide +kernel
theorem dX0_shareOut_27 : decode cX0_shareOut 27 = .ok (.iload_n 1, 1) := by decide +kernel
theorem dX0_shareOut_28 : decode cX0_shareOut 28 = .ok (.iaload, 1) := by decide +kernel
theorem dX0_shareOut_29 : decode cX0_shareOut 29 = .ok (.istore_n 3, 1) := by decide +kernel
theorem dX0_shareOut_30 : decode cX0_shareOut 30 = .ok (.iconst 0, 1) := by decide +kernel
theorem dX0_shareOut_31 : decode cX0_shareOut 31 = .ok (.istore 4, 2) := by decide +kernel
theorem dX0_shareOut_33 : decode cX0_shareOut 33 = .ok (.iload 4, 2) := by decide +kernel
theorem dX0_shareOut_35 : decode cX0_shareOut 35 = .ok (.aload_n 0, 1) := by decide +kernel
theorem dX0_shareOut_36 : decode cX0_shareOut 36 = .ok (.getfield 42, 3) := by decide +kernel
theorem dX0_shareOut_39 : decode cX0_shareOut 39 = .ok (.getfield 72, 3) := by decide +kernel
theorem dX0_shareOut_42 : decode cX0_shareOut 42 = .ok (.if_icmp .ge 56, 3) := by decide +kernel
theorem dX0_shareOut_45 : decode cX0_shareOut 45 = .ok (.aload_n 0, 1) := by decide +kernel
theorem dX0_shareOut_46 : decode cX0_shareOut 46 = .ok (.aload_n 2, 1) := by decide +kernel
theorem dX0_shareOut_47 : decode cX0_shareOut 47 = .ok (.invokevirtual 167, 3) := by decide +kernel
theorem dX0_shareOut_50 : decode cX0_shareOut 50 = .ok (.istore 5, 2) := by decide +kernel
theorem dX0_shareOut_52 : decode cX0_shareOut 52 = .ok (.iload 5, 2) := by decide +kernel
theorem dX0_shareOut_54 : decode cX0_shareOut 54 = .ok (.iconst (-1), 1) := by decide +kernel
theorem dX0_shareOut_55 : decode cX0_shareOut 55 = .ok (.if_icmp .ne 4, 3) := by decide +kernel
theorem dX0_shareOut_58 : decode cX0_shareOut 58 = .ok (.return_, 1) := by decide +kernel
theorem dX0_shareOut_59 : decode cX0_shareOut 59 = .ok (.aload_n 2, 1) := by decide +kernel
theorem dX0_shareOut_60 : decode cX0_shareOut 60 = .ok (.iload 5, 2) := by decide +kernel
theorem dX0_shareOut_62 : decode cX0_shareOut 62 = .ok (.iload_n 3, 1) := by decide +kernel
theorem dX0_shareOut_63 : decode cX0_shareOut 63 = .ok (.aload_n 0, 1) := by decide +kernel
theorem dX0_shareOut_64 : decode cX0_shareOut 64 = .ok (.getfield 42, 3) := by decide +kernel
theorem dX0_shareOut_67 : decode cX0_shareOut 67 = .ok (.getfield 77, 3) := by decide +kernel
theorem dX0_shareOut_70 : decode cX0_shareOut 70 = .ok (.iload 5, 2) := by decide +kernel
theorem dX0_shareOut_72 : decode cX0_shareOut 72 = .ok (.iaload, 1) := by decide +kernel
theorem dX0_shareOut_73 : decode cX0_shareOut 73 = .ok (.aload_n 0, 1) := by decide +kernel
theorem dX0_shareOut_74 : decode cX0_shareOut 74 = .ok (.getfield 9, 3) := by decide +kernel
theorem dX0_shareOut_77 : decode cX0_shareOut 77 = .ok (.iload 5, 2) := by decide +kernel
theorem dX0_shareOut_79 : decode cX0_shareOut 79 = .ok (.iaload, 1) := by decide +kernel
theorem dX0_shareOut_80 : decode cX0_shareOut 80 = .ok (.isub, 1) := by decide +kernel
theorem dX0_shareOut_81 : decode cX0_shareOut 81 = .ok (.invokestatic 129, 3) := by decide +kernel
theorem dX0_shareOut_84 : decode cX0_shareOut 84 = .ok (.iastore, 1) := by decide +kernel
theorem dX0_shareOut_85 : decode cX0_shareOut 85 = .ok (.iload_n 3, 1) := by decide +kernel
theorem dX0_shareOut_86 : decode cX0_shareOut 86 = .ok (.aload_n 2, 1) := by decide +kernel
theorem dX0_shareOut_87 : decode cX0_shareOut 87 = .ok (.iload 5, 2) := by decide +kernel
theorem dX0_shareOut_89 : decode cX0_shareOut 89 = .ok (.iaload, 1) := by decide +kernel
theorem dX0_shareOut_90 : decode cX0_shareOut 90 = .ok (.isub, 1) := by decide +kernel
theorem dX0_shareOut_91 : decode cX0_shareOut 91 = .ok (.istore_n 3, 1) := by decide +kernel
theorem dX0_shareOut_92 : decode cX0_shareOut 92 = .ok (.iinc 4 1, 3) := by decide +kernel
theorem dX0_shareOut_95 : decode cX0_shareOut 95 = .ok (.goto (-62), 3) := by decide +kernel
theorem dX0_shareOut_98 : decode cX0_shareOut 98 = .ok (.return_, 1) := by decide +kernel
theorem dX0_nextToDrink_0 : decode cX0_nextToDrink 0 = .ok (.iconst (-1), 1) := by decide +kernel
theorem dX0_nextToDrink_1 : decode cX0_nextToDrink 1 = .ok (.istore_n 2, 1) := by decide +kernel
theorem dX0_nextToDrink_2 : decode cX0_nextToDrink 2 = .ok (.iconst 0, 1) := by decide +kernel
theorem dX0_nextToDrink_3 : decode cX0_nextToDrink 3 = .ok (.istore_n 3, 1) := by decide +kernel
theorem dX0_nextToDrink_4 : decode cX0_nextToDrink 4 = .ok (.iload_n 3, 1) := by decide +kernel
theorem dX0_nextToDrink_5 : decode cX0_nextToDrink 5 = .ok (.aload_n 0, 1) := by decide +kernel
theorem dX0_nextToDrink_6 : decode cX0_nextToDrink 6 = .ok (.getfield 42, 3) := by decide +kernel
theorem dX0_nextToDrink_9 : decode cX0_nextToDrink 9 = .ok (.getfield 72, 3) := by decide +kernel
theorem dX0_nextToDrink_12 : decode cX0_nextToDrink 12 = .ok (.if_icmp .ge 58, 3) := by decide +kernel
theorem dX0_nextToDrink_15 : decode cX0_nextToDrink 15 = .ok (.aload_n 0, 1) := by decide +kernel
theorem dX0_nextToDrink_16 : decode cX0_nextToDrink 16 = .ok (.iload_n 3, 1) := by decide +kernel
theorem dX0_nextToDrink_17 : decode cX0_nextToDrink 17 = .ok (.invokevirtual 104, 3) := by decide +kernel
theorem dX0_nextToDrink_20 : decode cX0_nextToDrink 20 = .ok (.ifCond .eq 14, 3) := by decide +kernel
theorem dX0_nextToDrink_23 : decode cX0_nextToDrink 23 = .ok (.aload_n 1, 1) := by decide +kernel
theorem dX0_nextToDrink_24 : decode cX0_nextToDrink 24 = .ok (.iload_n 3, 1) := by decide +kernel
theorem dX0_nextToDrink_25 : decode cX0_nextToDrink 25 = .ok (.iaload, 1) := by decide +kernel
theorem dX0_nextToDrink_26 : decode cX0_nextToDrink 26 = .ok (.iconst (-1), 1) := by decide +kernel
theorem dX0_nextToDrink_27 : decode cX0_nextToDrink 27 = .ok (.if_icmp .ne 7, 3) := by decide +kernel
theorem dX0_nextToDrink_30 : decode cX0_nextToDrink 30 = .ok (.iconst 1, 1) := by decide +kernel
theorem dX0_nextToDrink_31 : decode cX0_nextToDrink 31 = .ok (.goto 4, 3) := by decide +kernel
theorem dX0_nextToDrink_34 : decode cX0_nextToDrink 34 = .ok (.iconst 0, 1) := by decide +kernel
theorem dX0_nextToDrink_35 : decode cX0_nextToDrink 35 = .ok (.istore 4, 2) := by decide +kernel
theorem dX0_nextToDrink_37 : decode cX0_nextToDrink 37 = .ok (.iload 4, 2) := by decide +kernel
theorem dX0_nextToDrink_39 : decode cX0_nextToDrink 39 = .ok (.ifCond .eq 25, 3) := by decide +kernel
theorem dX0_nextToDrink_42 : decode cX0_nextToDrink 42 = .ok (.iload_n 2, 1) := by decide +kernel
theorem dX0_nextToDrink_43 : decode cX0_nextToDrink 43 = .ok (.iconst (-1), 1) := by decide +kernel
theorem dX0_nextToDrink_44 : decode cX0_nextToDrink 44 = .ok (.if_icmp .eq 18, 3) := by decide +kernel
theorem dX0_nextToDrink_47 : decode cX0_nextToDrink 47 = .ok (.aload_n 0, 1) := by decide +kernel
theorem dX0_nextToDrink_48 : decode cX0_nextToDrink 48 = .ok (.getfield 9, 3) := by decide +kernel
theorem dX0_nextToDrink_51 : decode cX0_nextToDrink 51 = .ok (.iload_n 3, 1) := by decide +kernel
theorem dX0_nextToDrink_52 : decode cX0_nextToDrink 52 = .ok (.iaload, 1) := by decide +kernel
theorem dX0_nextToDrink_53 : decode cX0_nextToDrink 53 = .ok (.aload_n 0, 1) := by decide +kernel
theorem dX0_nextToDrink_54 : decode cX0_nextToDrink 54 = .ok (.getfield 9, 3) := by decide +kernel
theorem dX0_nextToDrink_57 : decode cX0_nextToDrink 57 = .ok (.iload_n 2, 1) := by decide +kernel
theorem dX0_nextToDrink_58 : decode cX0_nextToDrink 58 = .ok (.iaload, 1) := by decide +kernel
theorem dX0_nextToDrink_59 : decode cX0_nextToDrink 59 = .ok (.if_icmp .ge 5, 3) := by decide +kernel
theorem dX0_nextToDrink_62 : decode cX0_nextToDrink 62 = .ok (.iload_n 3, 1) := by decide +kernel
theorem dX0_nextToDrink_63 : decode cX0_nextToDrink 63 = .ok (.istore_n 2, 1) := by decide +kernel
theorem dX0_nextToDrink_64 : decode cX0_nextToDrink 64 = .ok (.iinc 3 1, 3) := by decide +kernel
theorem dX0_nextToDrink_67 : decode cX0_nextToDrink 67 = .ok (.goto (-63), 3) := by decide +kernel
theorem dX0_nextToDrink_70 : decode cX0_nextToDrink 70 = .ok (.iload_n 2, 1) := by decide +kernel
theorem dX0_nextToDrink_71 : decode cX0_nextToDrink 71 = .ok (.ireturn, 1) := by decide +kernel
theorem dX0_takeShares_0 : decode cX0_takeShares 0 = .ok (.iconst 0, 1) := by decide +kernel
theorem dX0_takeShares_1 : decode cX0_takeShares 1 = .ok (.istore_n 3, 1) := by decide +kernel
theorem dX0_takeShares_2 : decode cX0_takeShares 2 = .ok (.iconst 0, 1) := by decide +kernel
theorem dX0_takeShares_3 : decode cX0_takeShares 3 = .ok (.istore 4, 2) := by decide +kernel
theorem dX0_takeShares_5 : decode cX0_takeShares 5 = .ok (.iload 4, 2) := by decide +kernel
theorem dX0_takeShares_7 : decode cX0_takeShares 7 = .ok (.aload_n 0, 1) := by decide +kernel
theorem dX0_takeShares_8 : decode cX0_takeShares 8 = .ok (.getfield 42, 3) := by decide +kernel
theorem dX0_takeShares_11 : decode cX0_takeShares 11 = .ok (.getfield 72, 3) := by decide +kernel
theorem dX0_takeShares_14 : decode cX0_takeShares 14 = .ok (.if_icmp .ge 38, 3) := by decide +kernel
theorem dX0_takeShares_17 : decode cX0_takeShares 17 = .ok (.aload_n 2, 1) := by decide +kernel
theorem dX0_takeShares_18 : decode cX0_takeShares 18 = .ok (.iload 4, 2) := by decide +kernel
theorem dX0_takeShares_20 : decode cX0_takeShares 20 = .ok (.iaload, 1) := by decide +kernel
theorem dX0_takeShares_21 : decode cX0_takeShares 21 = .ok (.iconst (-1), 1) := by decide +kernel
theorem dX0_takeShares_22 : decode cX0_takeShares 22 = .ok (.if_icmp .eq 24, 3) := by decide +kernel
theorem dX0_takeShares_25 : decode cX0_takeShares 25 = .ok (.aload_n 0, 1) := by decide +kernel
theorem dX0_takeShares_26 : decode cX0_takeShares 26 = .ok (.getfield 9, 3) := by decide +kernel
theorem dX0_takeShares_29 : decode cX0_takeShares 29 = .ok (.iload 4, 2) := by decide +kernel
theorem dX0_takeShares_31 : decode cX0_takeShares 31 = .ok (.dup2, 1) := by decide +kernel
theorem dX0_takeShares_32 : decode cX0_takeShares 32 = .ok (.iaload, 1) := by decide +kernel
theorem dX0_takeShares_33 : decode cX0_takeShares 33 = .ok (.aload_n 2, 1) := by decide +kernel
theorem dX0_takeShares_34 : decode cX0_takeShares 34 = .ok (.iload 4, 2) := by decide +kernel
theorem dX0_takeShares_36 : decode cX0_takeShares 36 = .ok (.iaload, 1) := by decide +kernel
theorem dX0_takeShares_37 : decode cX0_takeShares 37 = .ok (.iadd, 1) := by decide +kernel
theorem dX0_takeShares_38 : decode cX0_takeShares 38 = .ok (.iastore, 1) := by decide +kernel
theorem dX0_takeShares_39 : decode cX0_takeShares 39 = .ok (.iload_n 3, 1) := by decide +kernel
theorem dX0_takeShares_40 : decode cX0_takeShares 40 = .ok (.aload_n 2, 1) := by decide +kernel
theorem dX0_takeShares_41 : decode cX0_takeShares 41 = .ok (.iload 4, 2) := by decide +kernel
theorem dX0_takeShares_43 : decode cX0_takeShares 43 = .ok (.iaload, 1) := by decide +kernel
theorem dX0_takeShares_44 : decode cX0_takeShares 44 = .ok (.iadd, 1) := by decide +kernel
theorem dX0_takeShares_45 : decode cX0_takeShares 45 = .ok (.istore_n 3, 1) := by decide +kernel
theorem dX0_takeShares_46 : decode cX0_takeShares 46 = .ok (.iinc 4 1, 3) := by decide +kernel
theorem dX0_takeShares_49 : decode cX0_takeShares 49 = .ok (.goto (-44), 3) := by decide +kernel
theorem dX0_takeShares_52 : decode cX0_takeShares 52 = .ok (.aload_n 0, 1) := by decide +kernel
theorem dX0_takeShares_53 : decode cX0_takeShares 53 = .ok (.getfield 27, 3) := by decide +kernel
theorem dX0_takeShares_56 : decode cX0_takeShares 56 = .ok (.iload_n 1, 1) := by decide +kernel
theorem dX0_takeShares_57 : decode cX0_takeShares 57 = .ok (.dup2, 1) := by decide +kernel
theorem dX0_takeShares_58 : decode cX0_takeShares 58 = .ok (.iaload, 1) := by decide +kernel
theorem dX0_takeShares_59 : decode cX0_takeShares 59 = .ok (.iload_n 3, 1) := by decide +kernel
theorem dX0_takeShares_60 : decode cX0_takeShares 60 = .ok (.isub, 1) := by decide +kernel
theorem dX0_takeShares_61 : decode cX0_takeShares 61 = .ok (.iastore, 1) := by decide +kernel
theorem dX0_takeShares_62 : decode cX0_takeShares 62 = .ok (.aload_n 0, 1) := by decide +kernel
theorem dX0_takeShares_63 : decode cX0_takeShares 63 = .ok (.dup, 1) := by decide +kernel
theorem dX0_takeShares_64 : decode cX0_takeShares 64 = .ok (.getfield 60, 3) := by decide +kernel
theorem dX0_takeShares_67 : decode cX0_takeShares 67 = .ok (.iload_n 3, 1) := by decide +kernel
theorem dX0_takeShares_68 : decode cX0_takeShares 68 = .ok (.iadd, 1) := by decide +kernel
theorem dX0_takeShares_69 : decode cX0_takeShares 69 = .ok (.putfield 60, 3) := by decide +kernel
theorem dX0_takeShares_72 : decode cX0_takeShares 72 = .ok (.iload_n 3, 1) := by decide +kernel
theorem dX0_takeShares_73 : decode cX0_takeShares 73 = .ok (.ireturn, 1) := by decide +kernel
theorem dX1_init_0 : decode cX1_init 0 = .ok (.aload_n 0, 1) := by decide +kernel
theorem dX1_init_1 : decode cX1_init 1 = .ok (.invokespecial 3, 3) := by decide +kernel
theorem dX1_init_4 : decode cX1_init 4 = .ok (.aload_n 0, 1) := by decide +kernel
theorem dX1_init_5 : decode cX1_init 5 = .ok (.bipush 8, 2) := by decide +kernel
theorem dX1_init_7 : decode cX1_init 7 = .ok (.anewarray 9, 3) := by decide +kernel
theorem dX1_init_10 : decode cX1_init 10 = .ok (.putfield 11, 3) := by decide +kernel
theorem dX1_init_13 : decode cX1_init 13 = .ok (.iconst 0, 1) := by decide +kernel
theorem dX1_init_14 : decode cX1_init 14 = .ok (.istore_n 2, 1) := by decide +kernel
theorem dX1_init_15 : decode cX1_init 15 = .ok (.iload_n 2, 1) := by decide +kernel
theorem dX1_init_16 : decode cX1_init 16 = .ok (.bipush 8, 2) := by decide +kernel
theorem dX1_init_18 : decode cX1_init 18 = .ok (.if_icmp .ge 23, 3) := by decide +kernel
theorem dX1_init_21 : decode cX1_init 21 = .ok (.aload_n 0, 1) := by decide +kernel
theorem dX1_init_22 : decode cX1_init 22 = .ok (.getfield 11, 3) := by decide +kernel
theorem dX1_init_25 : decode cX1_init 25 = .ok (.iload_n 2, 1) := by decide +kernel
theorem dX1_init_26 : decode cX1_init 26 = .ok (.new 9, 3) := by decide +kernel
theorem dX1_init_29 : decode cX1_init 29 = .ok (.dup, 1) := by decide +kernel
theorem dX1_init_30 : decode cX1_init 30 = .ok (.aload_n 1, 1) := by decide +kernel
theorem dX1_init_31 : decode cX1_init 31 = .ok (.invokespecial 17, 3) := by decide +kernel
theorem dX1_init_34 : decode cX1_init 34 = .ok (.aastore, 1) := by decide +kernel
theorem dX1_init_35 : decode cX1_init 35 = .ok (.iinc 2 1, 3) := by decide +kernel
theorem dX1_init_38 : decode cX1_init 38 = .ok (.goto (-23), 3) := by decide +kernel
theorem dX1_init_41 : decode cX1_init 41 = .ok (.return_, 1) := by decide +kernel
theorem dX1_forget_0 : decode cX1_forget 0 = .ok (.aload_n 0, 1) := by decide +kernel
theorem dX1_forget_1 : decode cX1_forget 1 = .ok (.iconst 0, 1) := by decide +kernel
theorem dX1_forget_2 : decode cX1_forget 2 = .ok (.putfield 20, 3) := by decide +kernel
theorem dX1_forget_5 : decode cX1_forget 5 = .ok (.return_, 1) := by decide +kernel
theorem dX1_remember_0 : decode cX1_remember 0 = .ok (.aload_n 0, 1) := by decide +kernel
theorem dX1_remember_1 : decode cX1_remember 1 = .ok (.getfield 11, 3) := by decide +kernel
theorem dX1_remember_4 : decode cX1_remember 4 = .ok (.aload_n 0, 1) := by decide +kernel
theorem dX1_remember_5 : decode cX1_remember 5 = .ok (.getfield 24, 3) := by decide +kernel
theorem dX1_remember_8 : decode cX1_remember 8 = .ok (.aaload, 1) := by decide +kernel
theorem dX1_remember_9 : decode cX1_remember 9 = .ok (.aload_n 1, 1) := by decide +kernel
theorem dX1_remember_10 : decode cX1_remember 10 = .ok (.invokevirtual 27, 3) := by decide +kernel
theorem dX1_remember_13 : decode cX1_remember 13 = .ok (.aload_n 0, 1) := by decide +kernel
theorem dX1_remember_14 : decode cX1_remember 14 = .ok (.aload_n 0, 1) := by decide +kernel
theorem dX1_remember_15 : decode cX1_remember 15 = .ok (.getfield 24, 3) := by decide +kernel
theorem dX1_remember_18 : decode cX1_remember 18 = .ok (.iconst 1, 1) := by decide +kernel
theorem dX1_remember_19 : decode cX1_remember 19 = .ok (.iadd, 1) := by decide +kernel
theorem dX1_remember_20 : decode cX1_remember 20 = .ok (.bipush 8, 2) := by decide +kernel
theorem dX1_remember_22 : decode cX1_remember 22 = .ok (.if_icmp .ge 12, 3) := by decide +kernel
theorem dX1_remember_25 : decode cX1_remember 25 = .ok (.aload_n 0, 1) := by decide +kernel
theorem dX1_remember_26 : decode cX1_remember 26 = .ok (.getfield 24, 3) := by decide +kernel
theorem dX1_remember_29 : decode cX1_remember 29 = .ok (.iconst 1, 1) := by decide +kernel
theorem dX1_remember_30 : decode cX1_remember 30 = .ok (.iadd, 1) := by decide +kernel
theorem dX1_remember_31 : decode cX1_remember 31 = .ok (.goto 4, 3) := by decide +kernel
theorem dX1_remember_34 : decode cX1_remember 34 = .ok (.iconst 0, 1) := by decide +kernel
theorem dX1_remember_35 : decode cX1_remember 35 = .ok (.putfield 24, 3) := by decide +kernel
theorem dX1_remember_38 : decode cX1_remember 38 = .ok (.aload_n 0, 1) := by decide +kernel
theorem dX1_remember_39 : decode cX1_remember 39 = .ok (.bipush 8, 2) := by decide +kernel
theorem dX1_remember_41 : decode cX1_remember 41 = .ok (.aload_n 0, 1) := by decide +kernel
theorem dX1_remember_42 : decode cX1_remember 42 = .ok (.getfield 20, 3) := by decide +kernel
theorem dX1_remember_45 : decode cX1_remember 45 = .ok (.iconst 1, 1) := by decide +kernel
theorem dX1_remember_46 : decode cX1_remember 46 = .ok (.iadd, 1) := by decide +kernel
theorem dX1_remember_47 : decode cX1_remember 47 = .ok (.invokestatic 31, 3) := by decide +kernel
theorem dX1_remember_50 : decode cX1_remember 50 = .ok (.putfield 20, 3) := by decide +kernel
theorem dX1_remember_53 : decode cX1_remember 53 = .ok (.return_, 1) := by decide +kernel
theorem dX1_takeBack_0 : decode cX1_takeBack 0 = .ok (.aload_n 0, 1) := by decide +kernel
theorem dX1_takeBack_1 : decode cX1_takeBack 1 = .ok (.getfield 20, 3) := by decide +kernel
theorem dX1_takeBack_4 : decode cX1_takeBack 4 = .ok (.ifCond .le 48, 3) := by decide +kernel
theorem dX1_takeBack_7 : decode cX1_takeBack 7 = .ok (.aload_n 0, 1) := by decide +kernel
theorem dX1_takeBack_8 : decode cX1_takeBack 8 = .ok (.aload_n 0, 1) := by decide +kernel
theorem dX1_takeBack_9 : decode cX1_takeBack 9 = .ok (.getfield 24, 3) := by decide +kernel
theorem dX1_takeBack_12 : decode cX1_takeBack 12 = .ok (.ifCond .le 12, 3) := by decide +kernel
theorem dX1_takeBack_15 : decode cX1_takeBack 15 = .ok (.aload_n 0, 1) := by decide +kernel
theorem dX1_takeBack_16 : decode cX1_takeBack 16 = .ok (.getfield 24, 3) := by decide +kernel
theorem dX1_takeBack_19 : decode cX1_takeBack 19 = .ok (.iconst 1, 1) := by decide +kernel
theorem dX1_takeBack_20 : decode cX1_takeBack 20 = .ok (.isub, 1) := by decide +kernel
theorem dX1_takeBack_21 : decode cX1_takeBack 21 = .ok (.goto 5, 3) := by decide +kernel
theorem dX1_takeBack_24 : decode cX1_takeBack 24 = .ok (.bipush 7, 2) := by decide +kernel
theorem dX1_takeBack_26 : decode cX1_takeBack 26 = .ok (.putfield 24, 3) := by decide +kernel
theorem dX1_takeBack_29 : decode cX1_takeBack 29 = .ok (.aload_n 0, 1) := by decide +kernel
theorem dX1_takeBack_30 : decode cX1_takeBack 30 = .ok (.dup, 1) := by decide +kernel
theorem dX1_takeBack_31 : decode cX1_takeBack 31 = .ok (.getfield 20, 3) := by decide +kernel
theorem dX1_takeBack_34 : decode cX1_takeBack 34 = .ok (.iconst 1, 1) := by decide +kernel
theorem dX1_takeBack_35 : decode cX1_takeBack 35 = .ok (.isub, 1) := by decide +kernel
theorem dX1_takeBack_36 : decode cX1_takeBack 36 = .ok (.putfield 20, 3) := by decide +kernel
theorem dX1_takeBack_39 : decode cX1_takeBack 39 = .ok (.aload_n 1, 1) := by decide +kernel
theorem dX1_takeBack_40 : decode cX1_takeBack 40 = .ok (.aload_n 0, 1) := by decide +kernel
theorem dX1_takeBack_41 : decode cX1_takeBack 41 = .ok (.getfield 11, 3) := by decide +kernel
theorem dX1_takeBack_44 : decode cX1_takeBack 44 = .ok (.aload_n 0, 1) := by decide +kernel
theorem dX1_takeBack_45 : decode cX1_takeBack 45 = .ok (.getfield 24, 3) := by decide +kernel
theorem dX1_takeBack_48 : decode cX1_takeBack 48 = .ok (.aaload, 1) := by decide +kernel
theorem dX1_takeBack_49 : decode cX1_takeBack 49 = .ok (.invokevirtual 27, 3) := by decide +kernel
theorem dX1_takeBack_52 : decode cX1_takeBack 52 = .ok (.return_, 1) := by decide +kernel
theorem dX2_init_0 : decode cX2_init 0 = .ok (.aload_n 0, 1) := by decide +kernel
theorem dX2_init_1 : decode cX2_init 1 = .ok (.invokespecial 3, 3) := by decide +kernel
theorem dX2_init_4 : decode cX2_init 4 = .ok (.aload_n 0, 1) := by decide +kernel
theorem dX2_init_5 : decode cX2_init 5 = .ok (.sipush 700, 3) := by decide +kernel
theorem dX2_init_8 : decode cX2_init 8 = .ok (.newarray .byte, 2) := by decide +kernel
theorem dX2_init_10 : decode cX2_init 10 = .ok (.putfield 9, 3) := by decide +kernel
theorem dX2_init_13 : decode cX2_init 13 = .ok (.aload_n 0, 1) := by decide +kernel
theorem dX2_init_14 : decode cX2_init 14 = .ok (.new 15, 3) := by decide +kernel
theorem dX2_init_17 : decode cX2_init 17 = .ok (.dup, 1) := by decide +kernel
theorem dX2_init_18 : decode cX2_init 18 = .ok (.new 17, 3) := by decide +kernel
theorem dX2_init_21 : decode cX2_init 21 = .ok (.dup, 1) := by decide +kernel
theorem dX2_init_22 : decode cX2_init 22 = .ok (.invokespecial 19, 3) := by decide +kernel
theorem dX2_init_25 : decode cX2_init 25 = .ok (.invokespecial 20, 3) := by decide +kernel
theorem dX2_init_28 : decode cX2_init 28 = .ok (.putfield 23, 3) := by decide +kernel
theorem dX2_init_31 : decode cX2_init 31 = .ok (.return_, 1) := by decide +kernel
theorem dX2_takeFour_0 : decode cX2_takeFour 0 = .ok (.bipush 24, 2) := by decide +kernel
theorem dX2_takeFour_2 : decode cX2_takeFour 2 = .ok (.istore_n 2, 1) := by decide +kernel
theorem dX2_takeFour_3 : decode cX2_takeFour 3 = .ok (.iload_n 2, 1) := by decide +kernel
theorem dX2_takeFour_4 : decode cX2_takeFour 4 = .ok (.ifCond .lt 16, 3) := by decide +kernel
theorem dX2_takeFour_7 : decode cX2_takeFour 7 = .ok (.aload_n 0, 1) := by decide +kernel
theorem dX2_takeFour_8 : decode cX2_takeFour 8 = .ok (.iload_n 1, 1) := by decide +kernel
theorem dX2_takeFour_9 : decode cX2_takeFour 9 = .ok (.iload_n 2, 1) := by decide +kernel
theorem dX2_takeFour_10 : decode cX2_takeFour 10 = .ok (.iushr, 1) := by decide +kernel
theorem dX2_takeFour_11 : decode cX2_takeFour 11 = .ok (.invokevirtual 27, 3) := by decide +kernel
theorem dX2_takeFour_14 : decode cX2_takeFour 14 = .ok (.iinc 2 (-8), 3) := by decide +kernel
theorem dX2_takeFour_17 : decode cX2_takeFour 17 = .ok (.goto (-14), 3) := by decide +kernel
theorem dX2_takeFour_20 : decode cX2_takeFour 20 = .ok (.return_, 1) := by decide +kernel
theorem dX2_takeText_0 : decode cX2_takeText 0 = .ok (.iconst 0, 1) := by decide +kernel
theorem dX2_takeText_1 : decode cX2_takeText 1 = .ok (.istore_n 2, 1) := by decide +kernel
theorem dX2_takeText_2 : decode cX2_takeText 2 = .ok (.iload_n 2, 1) := by decide +kernel
theorem dX2_takeText_3 : decode cX2_takeText 3 = .ok (.aload_n 1, 1) := by decide +kernel
theorem dX2_takeText_4 : decode cX2_takeText 4 = .ok (.invokevirtual 31, 3) := by decide +kernel
theorem dX2_takeText_7 : decode cX2_takeText 7 = .ok (.if_icmp .ge 18, 3) := by decide +kernel
theorem dX2_takeText_10 : decode cX2_takeText 10 = .ok (.aload_n 0, 1) := by decide +kernel
theorem dX2_takeText_11 : decode cX2_takeText 11 = .ok (.aload_n 1, 1) := by decide +kernel
theorem dX2_takeText_12 : decode cX2_takeText 12 = .ok (.iload_n 2, 1) := by decide +kernel
theorem dX2_takeText_13 : decode cX2_takeText 13 = .ok (.invokevirtual 37, 3) := by decide +kernel
theorem dX2_takeText_16 : decode cX2_takeText 16 = .ok (.invokevirtual 27, 3) := by decide +kernel
theorem dX2_takeText_19 : decode cX2_takeText 19 = .ok (.iinc 2 1, 3) := by decide +kernel
theorem dX2_takeText_22 : decode cX2_takeText 22 = .ok (.goto (-20), 3) := by decide +kernel
theorem dX2_takeText_25 : decode cX2_takeText 25 = .ok (.return_, 1) := by decide +kernel
theorem dX2_takeByte_0 : decode cX2_takeByte 0 = .ok (.aload_n 0, 1) := by decide +kernel
theorem dX2_takeByte_1 : decode cX2_takeByte 1 = .ok (.getfield 41, 3) := by decide +kernel
theorem dX2_takeByte_4 : decode cX2_takeByte 4 = .ok (.sipush 700, 3) := by decide +kernel
theorem dX2_takeByte_7 : decode cX2_takeByte 7 = .ok (.if_icmp .ge 24, 3) := by decide +kernel
theorem dX2_takeByte_10 : decode cX2_takeByte 10 = .ok (.aload_n 0, 1) := by decide +kernel
theorem dX2_takeByte_11 : decode cX2_takeByte 11 = .ok (.getfield 9, 3) := by decide +kernel
theorem dX2_takeByte_14 : decode cX2_takeByte 14 = .ok (.aload_n 0, 1) := by decide +kernel
theorem dX2_takeByte_15 : decode cX2_takeByte 15 = .ok (.getfield 41, 3) := by decide +kernel
theorem dX2_takeByte_18 : decode cX2_takeByte 18 = .ok (.iload_n 1, 1) := by decide +kernel
theorem dX2_takeByte_19 : decode cX2_takeByte 19 = .ok (.i2b, 1) := by decide +kernel
theorem dX2_takeByte_20 : decode cX2_takeByte 20 = .ok (.bastore, 1) := by decide +kernel
theorem dX2_takeByte_21 : decode cX2_takeByte 21 = .ok (.aload_n 0, 1) := by decide +kernel
theorem dX2_takeByte_22 : decode cX2_takeByte 22 = .ok (.dup, 1) := by decide +kernel
theorem dX2_takeByte_23 : decode cX2_takeByte 23 = .ok (.getfield 41, 3) := by decide +kernel
theorem dX2_takeByte_26 : decode cX2_takeByte 26 = .ok (.iconst 1, 1) := by decide +kernel
theorem dX2_takeByte_27 : decode cX2_takeByte 27 = .ok (.iadd, 1) := by decide +kernel
theorem dX2_takeByte_28 : decode cX2_takeByte 28 = .ok (.putfield 41, 3) := by decide +kernel
theorem dX2_takeByte_31 : decode cX2_takeByte 31 = .ok (.return_, 1) := by decide +kernel
theorem dX2_findError_0 : decode cX2_findError 0 = .ok (.aload_n 0, 1) := by decide +kernel
theorem dX2_findError_1 : decode cX2_findError 1 = .ok (.iconst 0, 1) := by decide +kernel
theorem dX2_findError_2 : decode cX2_findError 2 = .ok (.putfield 44, 3) := by decide +kernel
theorem dX2_findError_5 : decode cX2_findError 5 = .ok (.aload_n 0, 1) := by decide +kernel
theorem dX2_findError_6 : decode cX2_findError 6 = .ok (.invokevirtual 47, 3) := by decide +kernel
theorem dX2_findError_9 : decode cX2_findError 9 = .ok (.aload_n 0, 1) := by decide +kernel
theorem dX2_findError_10 : decode cX2_findError 10 = .ok (.invokevirtual 50, 3) := by decide +kernel
theorem dX2_findError_13 : decode cX2_findError 13 = .ok (.ifCond .eq 28, 3) := by decide +kernel
theorem dX2_findError_16 : decode cX2_findError 16 = .ok (.aload_n 0, 1) := by decide +kernel
theorem dX2_findError_17 : decode cX2_findError 17 = .ok (.invokevirtual 54, 3) := by decide +kernel
theorem dX2_findError_20 : decode cX2_findError 20 = .ok (.ifCond .eq 21, 3) := by decide +kernel
theorem dX2_findError_23 : decode cX2_findError 23 = .ok (.aload_n 0, 1) := by decide +kernel
theorem dX2_findError_24 : decode cX2_findError 24 = .ok (.invokevirtual 57, 3) := by decide +kernel
theorem dX2_findError_27 : decode cX2_findError 27 = .ok (.ifCond .eq 14, 3) := by decide +kernel
theorem dX2_findError_30 : decode cX2_findError 30 = .ok (.aload_n 0, 1) := by decide +kernel
theorem dX2_findError_31 : decode cX2_findError 31 = .ok (.invokevirtual 60, 3) := by decide +kernel
theorem dX2_findError_34 : decode cX2_findError 34 = .ok (.ifCond .eq 7, 3) := by decide +kernel
theorem dX2_findError_37 : decode cX2_findError 37 = .ok (.iconst 1, 1) := by decide +kernel
theorem dX2_findError_38 : decode cX2_findError 38 = .ok (.goto 4, 3) := by decide +kernel
theorem dX2_findError_41 : decode cX2_findError 41 = .ok (.iconst 0, 1) := by decide +kernel
theorem dX2_findError_42 : decode cX2_findError 42 = .ok (.istore_n 1, 1) := by decide +kernel
theorem dX2_findError_43 : decode cX2_findError 43 = .ok (.iload_n 1, 1) := by decide +kernel
theorem dX2_findError_44 : decode cX2_findError 44 = .ok (.ifCond .eq 30, 3) := by decide +kernel
theorem dX2_findError_47 : decode cX2_findError 47 = .ok (.aload_n 0, 1) := by decide +kernel
theorem dX2_findError_48 : decode cX2_findError 48 = .ok (.getfield 23, 3) := by decide +kernel
theorem dX2_findError_51 : decode cX2_findError 51 = .ok (.invokevirtual 63, 3) := by decide +kernel
theorem dX2_findError_54 : decode cX2_findError 54 = .ok (.aload_n 0, 1) := by decide +kernel
theorem dX2_findError_55 : decode cX2_findError 55 = .ok (.invokevirtual 66, 3) := by decide +kernel
theorem dX2_findError_58 : decode cX2_findError 58 = .ok (.ifCond .eq 14, 3) := by decide +kernel
theorem dX2_findError_61 : decode cX2_findError 61 = .ok (.aload_n 0, 1) := by decide +kernel
theorem dX2_findError_62 : decode cX2_findError 62 = .ok (.getfield 69, 3) := by decide +kernel
theorem dX2_findError_65 : decode cX2_findError 65 = .ok (.ifCond .ne 7, 3) := by decide +kernel
theorem dX2_findError_68 : decode cX2_findError 68 = .ok (.iconst 1, 1) := by decide +kernel
theorem dX2_findError_69 : decode cX2_findError 69 = .ok (.goto 4, 3) := by decide +kernel
theorem dX2_findError_72 : decode cX2_findError 72 = .ok (.iconst 0, 1) := by decide +kernel
theorem dX2_findError_73 : decode cX2_findError 73 = .ok (.istore_n 1, 1) := by decide +kernel
theorem dX2_findError_74 : decode cX2_findError 74 = .ok (.aload_n 0, 1) := by decide +kernel
theorem dX2_findError_75 : decode cX2_findError 75 = .ok (.iconst 0, 1) := by decide +kernel
theorem dX2_findError_76 : decode cX2_findError 76 = .ok (.putfield 41, 3) := by decide +kernel
theorem dX2_findError_79 : decode cX2_findError 79 = .ok (.iload_n 1, 1) := by decide +kernel
theorem dX2_findError_80 : decode cX2_findError 80 = .ok (.ifCond .eq 7, 3) := by decide +kernel
theorem dX2_findError_83 : decode cX2_findError 83 = .ok (.iconst (-1), 1) := by decide +kernel
theorem dX2_findError_84 : decode cX2_findError 84 = .ok (.goto 7, 3) := by decide +kernel
theorem dX2_findError_87 : decode cX2_findError 87 = .ok (.aload_n 0, 1) := by decide +kernel
theorem dX2_findError_88 : decode cX2_findError 88 = .ok (.getfield 72, 3) := by decide +kernel
theorem dX2_findError_91 : decode cX2_findError 91 = .ok (.ireturn, 1) := by decide +kernel
theorem dX2_readRoute_0 : decode cX2_readRoute 0 = .ok (.aload_n 0, 1) := by decide +kernel
theorem dX2_readRoute_1 : decode cX2_readRoute 1 = .ok (.ldc 75, 2) := by decide +kernel
theorem dX2_readRoute_3 : decode cX2_readRoute 3 = .ok (.invokevirtual 77, 3) := by decide +kernel
theorem dX2_readRoute_6 : decode cX2_readRoute 6 = .ok (.ifCond .ne 5, 3) := by decide +kernel
theorem dX2_readRoute_9 : decode cX2_readRoute 9 = .ok (.iconst 0, 1) := by decide +kernel
theorem dX2_readRoute_10 : decode cX2_readRoute 10 = .ok (.ireturn, 1) := by decide +kernel
theorem dX2_readRoute_11 : decode cX2_readRoute 11 = .ok (.aload_n 0, 1) := by decide +kernel
theorem dX2_readRoute_12 : decode cX2_readRoute 12 = .ok (.invokevirtual 47, 3) := by decide +kernel
theorem dX2_readRoute_15 : decode cX2_readRoute 15 = .ok (.aload_n 0, 1) := by decide +kernel
theorem dX2_readRoute_16 : decode cX2_readRoute 16 = .ok (.bipush 10, 2) := by decide +kernel
theorem dX2_readRoute_18 : decode cX2_readRoute 18 = .ok (.sipush 999, 3) := by decide +kernel
theorem dX2_readRoute_21 : decode cX2_readRoute 21 = .ok (.invokevirtual 81, 3) := by decide +kernel
theorem dX2_readRoute_24 : decode cX2_readRoute 24 = .ok (.ifCond .ne 5, 3) := by decide +kernel
theorem dX2_readRoute_27 : decode cX2_readRoute 27 = .ok (.iconst 0, 1) := by decide +kernel
theorem dX2_readRoute_28 : decode cX2_readRoute 28 = .ok (.ireturn, 1) := by decide +kernel
theorem dX2_readRoute_29 : decode cX2_readRoute 29 = .ok (.aload_n 0, 1) := by decide +kernel
theorem dX2_readRoute_30 : decode cX2_readRoute 30 = .ok (.getfield 23, 3) := by decide +kernel
theorem dX2_readRoute_33 : decode cX2_readRoute 33 = .ok (.getfield 85, 3) := by decide +kernel
theorem dX2_readRoute_36 : decode cX2_readRoute 36 = .ok (.aload_n 0, 1) := by decide +kernel
theorem dX2_readRoute_37 : decode cX2_readRoute 37 = .ok (.getfield 89, 3) := by decide +kernel
theorem dX2_readRoute_40 : decode cX2_readRoute 40 = .ok (.invokevirtual 92, 3) := by decide +kernel
theorem dX2_readRoute_43 : decode cX2_readRoute 43 = .ok (.aload_n 0, 1) := by decide +kernel
theorem dX2_readRoute_44 : decode cX2_readRoute 44 = .ok (.invokevirtual 95, 3) := by decide +kernel
theorem dX2_readRoute_47 : decode cX2_readRoute 47 = .ok (.ireturn, 1) := by decide +kernel
theorem dX2_readCamels_0 : decode cX2_readCamels 0 = .ok (.aload_n 0, 1) := by decide +kernel
theorem dX2_readCamels_1 : decode cX2_readCamels 1 = .ok (.ldc 98, 2) := by decide +kernel
theorem dX2_readCamels_3 : decode cX2_readCamels 3 = .ok (.invokevirtual 77, 3) := by decide +kernel
theorem dX2_readCamels_6 : decode cX2_readCamels 6 = .ok (.istore_n 1, 1) := by decide +kernel
theorem dX2_readCamels_7 : decode cX2_readCamels 7 = .ok (.iconst 0, 1) := by decide +kernel
theorem dX2_readCamels_8 : decode cX2_readCamels 8 = .ok (.istore_n 2, 1) := by decide +kernel
theorem dX2_readCamels_9 : decode cX2_readCamels 9 = .ok (.iload_n 2, 1) := by decide +kernel
theorem dX2_readCamels_10 : decode cX2_readCamels 10 = .ok (.bipush 10, 2) := by decide +kernel
theorem dX2_readCamels_12 : decode cX2_readCamels 12 = .ok (.if_icmp .ge 27, 3) := by decide +kernel
theorem dX2_readCamels_15 : decode cX2_readCamels 15 = .ok (.iload_n 1, 1) := by decide +kernel
theorem dX2_readCamels_16 : decode cX2_readCamels 16 = .ok (.ifCond .eq 23, 3) := by decide +kernel
theorem dX2_readCamels_19 : decode cX2_readCamels 19 = .ok (.aload_n 0, 1) := by decide +kernel
theorem dX2_readCamels_20 : decode cX2_readCamels 20 = .ok (.ldc 98, 2) := by decide +kernel
theorem dX2_readCamels_22 : decode cX2_readCamels 22 = .ok (.invokevirtual 77, 3) := by decide +kernel
theorem dX2_readCamels_25 : decode cX2_readCamels 25 = .ok (.ifCond .eq 14, 3) := by decide +kernel
theorem dX2_readCamels_28 : decode cX2_readCamels 28 = .ok (.aload_n 0, 1) := by decide +kernel
theorem dX2_readCamels_29 : decode cX2_readCamels 29 = .ok (.invokevirtual 100, 3) := by decide +kernel
theorem dX2_readCamels_32 : decode cX2_readCamels 32 = .ok (.istore_n 1, 1) := by decide +kernel
theorem dX2_readCamels_33 : decode cX2_readCamels 33 = .ok (.iinc 2 1, 3) := by decide +kernel
theorem dX2_readCamels_36 : decode cX2_readCamels 36 = .ok (.goto (-27), 3) := by decide +kernel
theorem dX2_readCamels_39 : decode cX2_readCamels 39 = .ok (.iload_n 1, 1) := by decide +kernel
theorem dX2_readCamels_40 : decode cX2_readCamels 40 = .ok (.ireturn, 1) := by decide +kernel
theorem dX2_readCamel_0 : decode cX2_readCamel 0 = .ok (.aload_n 0, 1) := by decide +kernel
theorem dX2_readCamel_1 : decode cX2_readCamel 1 = .ok (.invokevirtual 47, 3) := by decide +kernel
theorem dX2_readCamel_4 : decode cX2_readCamel 4 = .ok (.aload_n 0, 1) := by decide +kernel
theorem dX2_readCamel_5 : decode cX2_readCamel 5 = .ok (.bipush 10, 2) := by decide +kernel
theorem dX2_readCamel_7 : decode cX2_readCamel 7 = .ok (.bipush 60, 2) := by decide +kernel
theorem dX2_readCamel_9 : decode cX2_readCamel 9 = .ok (.invokevirtual 81, 3) := by decide +kernel
theorem dX2_readCamel_12 : decode cX2_readCamel 12 = .ok (.ifCond .ne 5, 3) := by decide +kernel
theorem dX2_readCamel_15 : decode cX2_readCamel 15 = .ok (.iconst 0, 1) := by decide +kernel
theorem dX2_readCamel_16 : decode cX2_readCamel 16 = .ok (.ireturn, 1) := by decide +kernel
theorem dX2_readCamel_17 : decode cX2_readCamel 17 = .ok (.aload_n 0, 1) := by decide +kernel
theorem dX2_readCamel_18 : decode cX2_readCamel 18 = .ok (.getfield 89, 3) := by decide +kernel
theorem dX2_readCamel_21 : decode cX2_readCamel 21 = .ok (.istore_n 1, 1) := by decide +kernel
theorem dX2_readCamel_22 : decode cX2_readCamel 22 = .ok (.aload_n 0, 1) := by decide +kernel
theorem dX2_readCamel_23 : decode cX2_readCamel 23 = .ok (.iconst 1, 1) := by decide +kernel
theorem dX2_readCamel_24 : decode cX2_readCamel 24 = .ok (.bipush 9, 2) := by decide +kernel
theorem dX2_readCamel_26 : decode cX2_readCamel 26 = .ok (.invokevirtual 81, 3) := by decide +kernel
theorem dX2_readCamel_29 : decode cX2_readCamel 29 = .ok (.ifCond .ne 5, 3) := by decide +kernel
theorem dX2_readCamel_32 : decode cX2_readCamel 32 = .ok (.iconst 0, 1) := by decide +kernel
theorem dX2_readCamel_33 : decode cX2_readCamel 33 = .ok (.ireturn, 1) := by decide +kernel
theorem dX2_readCamel_34 : decode cX2_readCamel 34 = .ok (.aload_n 0, 1) := by decide +kernel
theorem dX2_readCamel_35 : decode cX2_readCamel 35 = .ok (.getfield 89, 3) := by decide +kernel
theorem dX2_readCamel_38 : decode cX2_readCamel 38 = .ok (.istore_n 2, 1) := by decide +kernel
theorem dX2_readCamel_39 : decode cX2_readCamel 39 = .ok (.aload_n 0, 1) := by decide +kernel
theorem dX2_readCamel_40 : decode cX2_readCamel 40 = .ok (.bipush 10, 2) := by decide +kernel
theorem dX2_readCamel_42 : decode cX2_readCamel 42 = .ok (.bipush 90, 2) := by decide +kernel
theorem dX2_readCamel_44 : decode cX2_readCamel 44 = .ok (.invokevirtual 81, 3) := by decide +kernel
theorem dX2_readCamel_47 : decode cX2_readCamel 47 = .ok (.ifCond .ne 5, 3) := by decide +kernel
theorem dX2_readCamel_50 : decode cX2_readCamel 50 = .ok (.iconst 0, 1) := by decide +kernel
theorem dX2_readCamel_51 : decode cX2_readCamel 51 = .ok (.ireturn, 1) := by decide +kernel
theorem dX2_readCamel_52 : decode cX2_readCamel 52 = .ok (.aload_n 0, 1) := by decide +kernel
theorem dX2_readCamel_53 : decode cX2_readCamel 53 = .ok (.getfield 23, 3) := by decide +kernel
theorem dX2_readCamel_56 : decode cX2_readCamel 56 = .ok (.getfield 85, 3) := by decide +kernel
theorem dX2_readCamel_59 : decode cX2_readCamel 59 = .ok (.iload_n 1, 1) := by decide +kernel
theorem dX2_readCamel_60 : decode cX2_readCamel 60 = .ok (.iload_n 2, 1) := by decide +kernel
theorem dX2_readCamel_61 : decode cX2_readCamel 61 = .ok (.aload_n 0, 1) := by decide +kernel
theorem dX2_readCamel_62 : decode cX2_readCamel 62 = .ok (.getfield 89, 3) := by decide +kernel
theorem dX2_readCamel_65 : decode cX2_readCamel 65 = .ok (.invokevirtual 103, 3) := by decide +kernel
theorem dX2_readCamel_68 : decode cX2_readCamel 68 = .ok (.aload_n 0, 1) := by decide +kernel
theorem dX2_readCamel_69 : decode cX2_readCamel 69 = .ok (.invokevirtual 95, 3) := by decide +kernel
theorem dX2_readCamel_72 : decode cX2_readCamel 72 = .ok (.ireturn, 1) := by decide +kernel
theorem dX2_readWells_0 : decode cX2_readWells 0 = .ok (.iconst 1, 1) := by decide +kernel
theorem dX2_readWells_1 : decode cX2_readWells 1 = .ok (.istore_n 1, 1) := by decide +kernel
theorem dX2_readWells_2 : decode cX2_readWells 2 = .ok (.iconst 0, 1) := by decide +kernel
theorem dX2_readWells_3 : decode cX2_readWells 3 = .ok (.istore_n 2, 1) := by decide +kernel
theorem dX2_readWells_4 : decode cX2_readWells 4 = .ok (.iload_n 2, 1) := by decide +kernel
theorem dX2_readWells_5 : decode cX2_readWells 5 = .ok (.bipush 8, 2) := by decide +kernel
theorem dX2_readWells_7 : decode cX2_readWells 7 = .ok (.if_icmp .ge 27, 3) := by decide +kernel
theorem dX2_readWells_10 : decode cX2_readWells 10 = .ok (.iload_n 1, 1) := by decide +kernel
theorem dX2_readWells_11 : decode cX2_readWells 11 = .ok (.ifCond .eq 23, 3) := by decide +kernel
theorem dX2_readWells_14 : decode cX2_readWells 14 = .ok (.aload_n 0, 1) := by decide +kernel
theorem dX2_readWells_15 : decode cX2_readWells 15 = .ok (.ldc 107, 2) := by decide +kernel
theorem dX2_readWells_17 : decode cX2_readWells 17 = .ok (.invokevirtual 77, 3) := by decide +kernel
theorem dX2_readWells_20 : decode cX2_readWells 20 = .ok (.ifCond .eq 14, 3) := by decide +kernel
theorem dX2_readWells_23 : decode cX2_readWells 23 = .ok (.aload_n 0, 1) := by decide +kernel
theorem dX2_readWells_24 : decode cX2_readWells 24 = .ok (.invokevirtual 109, 3) := by decide +kernel
theorem dX2_readWells_27 : decode cX2_readWells 27 = .ok (.istore_n 1, 1) := by decide +kernel
theorem dX2_readWells_28 : decode cX2_readWells 28 = .ok (.iinc 2 1, 3) := by decide +kernel
theorem dX2_readWells_31 : decode cX2_readWells 31 = .ok (.goto (-27), 3) := by decide +kernel
theorem dX2_readWells_34 : decode cX2_readWells 34 = .ok (.iload_n 1, 1) := by decide +kernel
theorem dX2_readWells_35 : decode cX2_readWells 35 = .ok (.ireturn, 1) := by decide +kernel
theorem dX2_readWell_0 : decode cX2_readWell 0 = .ok (.aload_n 0, 1) := by decide +kernel
theorem dX2_readWell_1 : decode cX2_readWell 1 = .ok (.invokevirtual 47, 3) := by decide +kernel
theorem dX2_readWell_4 : decode cX2_readWell 4 = .ok (.aload_n 0, 1) := by decide +kernel
theorem dX2_readWell_5 : decode cX2_readWell 5 = .ok (.getfield 69, 3) := by decide +kernel
theorem dX2_readWell_8 : decode cX2_readWell 8 = .ok (.iconst 2, 1) := by decide +kernel
theorem dX2_readWell_9 : decode cX2_readWell 9 = .ok (.if_icmp .ne 23, 3) := by decide +kernel
theorem dX2_readWell_12 : decode cX2_readWell 12 = .ok (.aload_n 0, 1) := by decide +kernel
theorem dX2_readWell_13 : decode cX2_readWell 13 = .ok (.getfield 23, 3) := by decide +kernel
theorem dX2_readWell_16 : decode cX2_readWell 16 = .ok (.getfield 85, 3) := by decide +kernel
theorem dX2_readWell_19 : decode cX2_readWell 19 = .ok (.aload_n 0, 1) := by decide +kernel
theorem dX2_readWell_20 : decode cX2_readWell 20 = .ok (.getfield 112, 3) := by decide +kernel
theorem dX2_readWell_23 : decode cX2_readWell 23 = .ok (.invokevirtual 115, 3) := by decide +kernel
theorem dX2_readWell_26 : decode cX2_readWell 26 = .ok (.iconst (-1), 1) := by decide +kernel
theorem dX2_readWell_27 : decode cX2_readWell 27 = .ok (.if_icmp .eq 5, 3) := by decide +kernel
theorem dX2_readWell_30 : decode cX2_readWell 30 = .ok (.iconst 0, 1) := by decide +kernel
theorem dX2_readWell_31 : decode cX2_readWell 31 = .ok (.ireturn, 1) := by decide +kernel
theorem dX2_readWell_32 : decode cX2_readWell 32 = .ok (.aload_n 0, 1) := by decide +kernel
theorem dX2_readWell_33 : decode cX2_readWell 33 = .ok (.iconst 0, 1) := by decide +kernel
theorem dX2_readWell_34 : decode cX2_readWell 34 = .ok (.aload_n 0, 1) := by decide +kernel
theorem dX2_readWell_35 : decode cX2_readWell 35 = .ok (.getfield 23, 3) := by decide +kernel
theorem dX2_readWell_38 : decode cX2_readWell 38 = .ok (.getfield 85, 3) := by decide +kernel
theorem dX2_readWell_41 : decode cX2_readWell 41 = .ok (.getfield 119, 3) := by decide +kernel
theorem dX2_readWell_44 : decode cX2_readWell 44 = .ok (.invokevirtual 81, 3) := by decide +kernel
theorem dX2_readWell_47 : decode cX2_readWell 47 = .ok (.ifCond .ne 5, 3) := by decide +kernel
theorem dX2_readWell_50 : decode cX2_readWell 50 = .ok (.iconst 0, 1) := by decide +kernel
theorem dX2_readWell_51 : decode cX2_readWell 51 = .ok (.ireturn, 1) := by decide +kernel
theorem dX2_readWell_52 : decode cX2_readWell 52 = .ok (.aload_n 0, 1) := by decide +kernel
theorem dX2_readWell_53 : decode cX2_readWell 53 = .ok (.getfield 89, 3) := by decide +kernel
theorem dX2_readWell_56 : decode cX2_readWell 56 = .ok (.istore_n 1, 1) := by decide +kernel
theorem dX2_readWell_57 : decode cX2_readWell 57 = .ok (.aload_n 0, 1) := by decide +kernel
theorem dX2_readWell_58 : decode cX2_readWell 58 = .ok (.iconst 1, 1) := by decide +kernel
theorem dX2_readWell_59 : decode cX2_readWell 59 = .ok (.sipush 999, 3) := by decide +kernel
theorem dX2_readWell_62 : decode cX2_readWell 62 = .ok (.invokevirtual 81, 3) := by decide +kernel
theorem dX2_readWell_65 : decode cX2_readWell 65 = .ok (.ifCond .ne 5, 3) := by decide +kernel
theorem dX2_readWell_68 : decode cX2_readWell 68 = .ok (.iconst 0, 1) := by decide +kernel
theorem dX2_readWell_69 : decode cX2_readWell 69 = .ok (.ireturn, 1) := by decide +kernel
theorem dX2_readWell_70 : decode cX2_readWell 70 = .ok (.aload_n 0, 1) := by decide +kernel
theorem dX2_readWell_71 : decode cX2_readWell 71 = .ok (.getfield 89, 3) := by decide +kernel
theorem dX2_readWell_74 : decode cX2_readWell 74 = .ok (.istore_n 2, 1) := by decide +kernel
theorem dX2_readWell_75 : decode cX2_readWell 75 = .ok (.aload_n 0, 1) := by decide +kernel
theorem dX2_readWell_76 : decode cX2_readWell 76 = .ok (.iconst 0, 1) := by decide +kernel
theorem dX2_readWell_77 : decode cX2_readWell 77 = .ok (.bipush 99, 2) := by decide +kernel
theorem dX2_readWell_79 : decode cX2_readWell 79 = .ok (.invokevirtual 81, 3) := by decide +kernel
theorem dX2_readWell_82 : decode cX2_readWell 82 = .ok (.ifCond .ne 5, 3) := by decide +kernel
theorem dX2_readWell_85 : decode cX2_readWell 85 = .ok (.iconst 0, 1) := by decide +kernel
theorem dX2_readWell_86 : decode cX2_readWell 86 = .ok (.ireturn, 1) := by decide +kernel
theorem dX2_readWell_87 : decode cX2_readWell 87 = .ok (.aload_n 0, 1) := by decide +kernel
theorem dX2_readWell_88 : decode cX2_readWell 88 = .ok (.getfield 23, 3) := by decide +kernel
theorem dX2_readWell_91 : decode cX2_readWell 91 = .ok (.getfield 85, 3) := by decide +kernel
theorem dX2_readWell_94 : decode cX2_readWell 94 = .ok (.iload_n 1, 1) := by decide +kernel
theorem dX2_readWell_95 : decode cX2_readWell 95 = .ok (.iload_n 2, 1) := by decide +kernel
theorem dX2_readWell_96 : decode cX2_readWell 96 = .ok (.aload_n 0, 1) := by decide +kernel
theorem dX2_readWell_97 : decode cX2_readWell 97 = .ok (.getfield 89, 3) := by decide +kernel
theorem dX2_readWell_100 : decode cX2_readWell 100 = .ok (.invokevirtual 120, 3) := by decide +kernel
theorem dX2_readWell_103 : decode cX2_readWell 103 = .ok (.aload_n 0, 1) := by decide +kernel
theorem dX2_readWell_104 : decode cX2_readWell 104 = .ok (.invokevirtual 95, 3) := by decide +kernel
theorem dX2_readWell_107 : decode cX2_readWell 107 = .ok (.ireturn, 1) := by decide +kernel
theorem dX2_readStorms_0 : decode cX2_readStorms 0 = .ok (.iconst 1, 1) := by decide +kernel
theorem dX2_readStorms_1 : decode cX2_readStorms 1 = .ok (.istore_n 1, 1) := by decide +kernel
theorem dX2_readStorms_2 : decode cX2_readStorms 2 = .ok (.iconst 0, 1) := by decide +kernel
theorem dX2_readStorms_3 : decode cX2_readStorms 3 = .ok (.istore_n 2, 1) := by decide +kernel
theorem dX2_readStorms_4 : decode cX2_readStorms 4 = .ok (.iload_n 2, 1) := by decide +kernel
theorem dX2_readStorms_5 : decode cX2_readStorms 5 = .ok (.bipush 6, 2) := by decide +kernel
theorem dX2_readStorms_7 : decode cX2_readStorms 7 = .ok (.if_icmp .ge 27, 3) := by decide +kernel
theorem dX2_readStorms_10 : decode cX2_readStorms 10 = .ok (.iload_n 1, 1) := by decide +kernel
theorem dX2_readStorms_11 : decode cX2_readStorms 11 = .ok (.ifCond .eq 23, 3) := by decide +kernel
theorem dX2_readStorms_14 : decode cX2_readStorms 14 = .ok (.aload_n 0, 1) := by decide +kernel
theorem dX2_readStorms_15 : decode cX2_readStorms 15 = .ok (.ldc 123, 2) := by decide +kernel
theorem dX2_readStorms_17 : decode cX2_readStorms 17 = .ok (.invokevirtual 77, 3) := by decide +kernel
theorem dX2_readStorms_20 : decode cX2_readStorms 20 = .ok (.ifCond .eq 14, 3) := by decide +kernel
theorem dX2_readStorms_23 : decode cX2_readStorms 23 = .ok (.aload_n 0, 1) := by decide +kernel
theorem dX2_readStorms_24 : decode cX2_readStorms 24 = .ok (.invokevirtual 125, 3) := by decide +kernel
theorem dX2_readStorms_27 : decode cX2_readStorms 27 = .ok (.istore_n 1, 1) := by decide +kernel
theorem dX2_readStorms_28 : decode cX2_readStorms 28 = .ok (.iinc 2 1, 3) := by decide +kernel
theorem dX2_readStorms_31 : decode cX2_readStorms 31 = .ok (.goto (-27), 3) := by decide +kernel
theorem dX2_readStorms_34 : decode cX2_readStorms 34 = .ok (.iload_n 1, 1) := by decide +kernel
theorem dX2_readStorms_35 : decode cX2_readStorms 35 = .ok (.ireturn, 1) := by decide +kernel
theorem dX2_readStorm_0 : decode cX2_readStorm 0 = .ok (.aload_n 0, 1) := by decide +kernel
theorem dX2_readStorm_1 : decode cX2_readStorm 1 = .ok (.invokevirtual 47, 3) := by decide +kernel
theorem dX2_readStorm_4 : decode cX2_readStorm 4 = .ok (.aload_n 0, 1) := by decide +kernel
theorem dX2_readStorm_5 : decode cX2_readStorm 5 = .ok (.iconst 0, 1) := by decide +kernel
theorem dX2_readStorm_6 : decode cX2_readStorm 6 = .ok (.sipush 200, 3) := by decide +kernel
theorem dX2_readStorm_9 : decode cX2_readStorm 9 = .ok (.invokevirtual 81, 3) := by decide +kernel
theorem dX2_readStorm_12 : decode cX2_readStorm 12 = .ok (.ifCond .ne 5, 3) := by decide +kernel
theorem dX2_readStorm_15 : decode cX2_readStorm 15 = .ok (.iconst 0, 1) := by decide +kernel
theorem dX2_readStorm_16 : decode cX2_readStorm 16 = .ok (.ireturn, 1) := by decide +kernel
theorem dX2_readStorm_17 : decode cX2_readStorm 17 = .ok (.aload_n 0, 1) := by decide +kernel
theorem dX2_readStorm_18 : decode cX2_readStorm 18 = .ok (.getfield 89, 3) := by decide +kernel
theorem dX2_readStorm_21 : decode cX2_readStorm 21 = .ok (.istore_n 1, 1) := by decide +kernel
theorem dX2_readStorm_22 : decode cX2_readStorm 22 = .ok (.aload_n 0, 1) := by decide +kernel
theorem dX2_readStorm_23 : decode cX2_readStorm 23 = .ok (.iload_n 1, 1) := by decide +kernel
theorem dX2_readStorm_24 : decode cX2_readStorm 24 = .ok (.sipush 200, 3) := by decide +kernel
theorem dX2_readStorm_27 : decode cX2_readStorm 27 = .ok (.invokevirtual 81, 3) := by decide +kernel
theorem dX2_readStorm_30 : decode cX2_readStorm 30 = .ok (.ifCond .ne 5, 3) := by decide +kernel
theorem dX2_readStorm_33 : decode cX2_readStorm 33 = .ok (.iconst 0, 1) := by decide +kernel
theorem dX2_readStorm_34 : decode cX2_readStorm 34 = .ok (.ireturn, 1) := by decide +kernel
theorem dX2_readStorm_35 : decode cX2_readStorm 35 = .ok (.aload_n 0, 1) := by decide +kernel
theorem dX2_readStorm_36 : decode cX2_readStorm 36 = .ok (.getfield 89, 3) := by decide +kernel
theorem dX2_readStorm_39 : decode cX2_readStorm 39 = .ok (.istore_n 2, 1) := by decide +kernel
theorem dX2_readStorm_40 : decode cX2_readStorm 40 = .ok (.aload_n 0, 1) := by decide +kernel
theorem dX2_readStorm_41 : decode cX2_readStorm 41 = .ok (.iconst 1, 1) := by decide +kernel
theorem dX2_readStorm_42 : decode cX2_readStorm 42 = .ok (.bipush 9, 2) := by decide +kernel
theorem dX2_readStorm_44 : decode cX2_readStorm 44 = .ok (.invokevirtual 81, 3) := by decide +kernel
theorem dX2_readStorm_47 : decode cX2_readStorm 47 = .ok (.ifCond .ne 5, 3) := by decide +kernel
theorem dX2_readStorm_50 : decode cX2_readStorm 50 = .ok (.iconst 0, 1) := by decide +kernel
theorem dX2_readStorm_51 : decode cX2_readStorm 51 = .ok (.ireturn, 1) := by decide +kernel
theorem dX2_readStorm_52 : decode cX2_readStorm 52 = .ok (.aload_n 0, 1) := by decide +kernel
theorem dX2_readStorm_53 : decode cX2_readStorm 53 = .ok (.getfield 23, 3) := by decide +kernel
theorem dX2_readStorm_56 : decode cX2_readStorm 56 = .ok (.getfield 85, 3) := by decide +kernel
theorem dX2_readStorm_59 : decode cX2_readStorm 59 = .ok (.iload_n 1, 1) := by decide +kernel
theorem dX2_readStorm_60 : decode cX2_readStorm 60 = .ok (.iload_n 2, 1) := by decide +kernel
theorem dX2_readStorm_61 : decode cX2_readStorm 61 = .ok (.aload_n 0, 1) := by decide +kernel
theorem dX2_readStorm_62 : decode cX2_readStorm 62 = .ok (.getfield 89, 3) := by decide +kernel
theorem dX2_readStorm_65 : decode cX2_readStorm 65 = .ok (.invokevirtual 128, 3) := by decide +kernel
theorem dX2_readStorm_68 : decode cX2_readStorm 68 = .ok (.aload_n 0, 1) := by decide +kernel
theorem dX2_readStorm_69 : decode cX2_readStorm 69 = .ok (.invokevirtual 95, 3) := by decide +kernel
theorem dX2_readStorm_72 : decode cX2_readStorm 72 = .ok (.ireturn, 1) := by decide +kernel
theorem dX2_readLoads_0 : decode cX2_readLoads 0 = .ok (.iconst 1, 1) := by decide +kernel
theorem dX2_readLoads_1 : decode cX2_readLoads 1 = .ok (.istore_n 1, 1) := by decide +kernel
theorem dX2_readLoads_2 : decode cX2_readLoads 2 = .ok (.iconst 0, 1) := by decide +kernel
theorem dX2_readLoads_3 : decode cX2_readLoads 3 = .ok (.istore_n 2, 1) := by decide +kernel
theorem dX2_readLoads_4 : decode cX2_readLoads 4 = .ok (.iload_n 2, 1) := by decide +kernel
theorem dX2_readLoads_5 : decode cX2_readLoads 5 = .ok (.bipush 20, 2) := by decide +kernel
theorem dX2_readLoads_7 : decode cX2_readLoads 7 = .ok (.if_icmp .ge 27, 3) := by decide +kernel
theorem dX2_readLoads_10 : decode cX2_readLoads 10 = .ok (.iload_n 1, 1) := by decide +kernel
theorem dX2_readLoads_11 : decode cX2_readLoads 11 = .ok (.ifCond .eq 23, 3) := by decide +kernel
theorem dX2_readLoads_14 : decode cX2_readLoads 14 = .ok (.aload_n 0, 1) := by decide +kernel
theorem dX2_readLoads_15 : decode cX2_readLoads 15 = .ok (.ldc 131, 2) := by decide +kernel
theorem dX2_readLoads_17 : decode cX2_readLoads 17 = .ok (.invokevirtual 77, 3) := by decide +kernel
theorem dX2_readLoads_20 : decode cX2_readLoads 20 = .ok (.ifCond .eq 14, 3) := by decide +kernel
theorem dX2_readLoads_23 : decode cX2_readLoads 23 = .ok (.aload_n 0, 1) := by decide +kernel
theorem dX2_readLoads_24 : decode cX2_readLoads 24 = .ok (.invokevirtual 133, 3) := by decide +kernel
theorem dX2_readLoads_27 : decode cX2_readLoads 27 = .ok (.istore_n 1, 1) := by decide +kernel
theorem dX2_readLoads_28 : decode cX2_readLoads 28 = .ok (.iinc 2 1, 3) := by decide +kernel
theorem dX2_readLoads_31 : decode cX2_readLoads 31 = .ok (.goto (-27), 3) := by decide +kernel
theorem dX2_readLoads_34 : decode cX2_readLoads 34 = .ok (.iload_n 1, 1) := by decide +kernel
theorem dX2_readLoads_35 : decode cX2_readLoads 35 = .ok (.ireturn, 1) := by decide +kernel
theorem dX2_readLoad_0 : decode cX2_readLoad 0 = .ok (.aload_n 0, 1) := by decide +kernel
theorem dX2_readLoad_1 : decode cX2_readLoad 1 = .ok (.invokevirtual 47, 3) := by decide +kernel
theorem dX2_readLoad_4 : decode cX2_readLoad 4 = .ok (.aload_n 0, 1) := by decide +kernel
theorem dX2_readLoad_5 : decode cX2_readLoad 5 = .ok (.iconst 1, 1) := by decide +kernel
theorem dX2_readLoad_6 : decode cX2_readLoad 6 = .ok (.bipush 99, 2) := by decide +kernel
theorem dX2_readLoad_8 : decode cX2_readLoad 8 = .ok (.invokevirtual 81, 3) := by decide +kernel
theorem dX2_readLoad_11 : decode cX2_readLoad 11 = .ok (.ifCond .ne 5, 3) := by decide +kernel
theorem dX2_readLoad_14 : decode cX2_readLoad 14 = .ok (.iconst 0, 1) := by decide +kernel
theorem dX2_readLoad_15 : decode cX2_readLoad 15 = .ok (.ireturn, 1) := by decide +kernel
theorem dX2_readLoad_16 : decode cX2_readLoad 16 = .ok (.aload_n 0, 1) := by decide +kernel
theorem dX2_readLoad_17 : decode cX2_readLoad 17 = .ok (.getfield 89, 3) := by decide +kernel
theorem dX2_readLoad_20 : decode cX2_readLoad 20 = .ok (.istore_n 1, 1) := by decide +kernel
theorem dX2_readLoad_21 : decode cX2_readLoad 21 = .ok (.aload_n 0, 1) := by decide +kernel
theorem dX2_readLoad_22 : decode cX2_readLoad 22 = .ok (.iconst 1, 1) := by decide +kernel
theorem dX2_readLoad_23 : decode cX2_readLoad 23 = .ok (.bipush 99, 2) := by decide +kernel
theorem dX2_readLoad_25 : decode cX2_readLoad 25 = .ok (.invokevirtual 81, 3) := by decide +kernel
theorem dX2_readLoad_28 : decode cX2_readLoad 28 = .ok (.ifCond .ne 5, 3) := by decide +kernel
theorem dX2_readLoad_31 : decode cX2_readLoad 31 = .ok (.iconst 0, 1) := by decide +kernel
theorem dX2_readLoad_32 : decode cX2_readLoad 32 = .ok (.ireturn, 1) := by decide +kernel
theorem dX2_readLoad_33 : decode cX2_readLoad 33 = .ok (.aload_n 0, 1) := by decide +kernel
theorem dX2_readLoad_34 : decode cX2_readLoad 34 = .ok (.getfield 23, 3) := by decide +kernel
theorem dX2_readLoad_37 : decode cX2_readLoad 37 = .ok (.iload_n 1, 1) := by decide +kernel
theorem dX2_readLoad_38 : decode cX2_readLoad 38 = .ok (.aload_n 0, 1) := by decide +kernel
theorem dX2_readLoad_39 : decode cX2_readLoad 39 = .ok (.getfield 89, 3) := by decide +kernel
theorem dX2_readLoad_42 : decode cX2_readLoad 42 = .ok (.invokevirtual 136, 3) := by decide +kernel
theorem dX2_readLoad_45 : decode cX2_readLoad 45 = .ok (.istore_n 2, 1) := by decide +kernel
theorem dX2_readLoad_46 : decode cX2_readLoad 46 = .ok (.aload_n 0, 1) := by decide +kernel
theorem dX2_readLoad_47 : decode cX2_readLoad 47 = .ok (.ldc 140, 2) := by decide +kernel
theorem dX2_readLoad_49 : decode cX2_readLoad 49 = .ok (.invokevirtual 77, 3) := by decide +kernel
theorem dX2_readLoad_52 : decode cX2_readLoad 52 = .ok (.ifCond .eq 48, 3) := by decide +kernel
theorem dX2_readLoad_55 : decode cX2_readLoad 55 = .ok (.aload_n 0, 1) := by decide +kernel
theorem dX2_readLoad_56 : decode cX2_readLoad 56 = .ok (.invokevirtual 47, 3) := by decide +kernel
theorem dX2_readLoad_59 : decode cX2_readLoad 59 = .ok (.aload_n 0, 1) := by decide +kernel
theorem dX2_readLoad_60 : decode cX2_readLoad 60 = .ok (.getfield 69, 3) := by decide +kernel
theorem dX2_readLoad_63 : decode cX2_readLoad 63 = .ok (.iconst 2, 1) := by decide +kernel
theorem dX2_readLoad_64 : decode cX2_readLoad 64 = .ok (.if_icmp .ne 18, 3) := by decide +kernel
theorem dX2_readLoad_67 : decode cX2_readLoad 67 = .ok (.aload_n 0, 1) := by decide +kernel
theorem dX2_readLoad_68 : decode cX2_readLoad 68 = .ok (.getfield 23, 3) := by decide +kernel
theorem dX2_readLoad_71 : decode cX2_readLoad 71 = .ok (.aload_n 0, 1) := by decide +kernel
theorem dX2_readLoad_72 : decode cX2_readLoad 72 = .ok (.getfield 112, 3) := by decide +kernel
theorem dX2_readLoad_75 : decode cX2_readLoad 75 = .ok (.invokevirtual 142, 3) := by decide +kernel
theorem dX2_readLoad_78 : decode cX2_readLoad 78 = .ok (.iload_n 1, 1) := by decide +kernel
theorem dX2_readLoad_79 : decode cX2_readLoad 79 = .ok (.if_icmp .ge 5, 3) := by decide +kernel
theorem dX2_readLoad_82 : decode cX2_readLoad 82 = .ok (.iconst 0, 1) := by decide +kernel
theorem dX2_readLoad_83 : decode cX2_readLoad 83 = .ok (.ireturn, 1) := by decide +kernel
theorem dX2_readLoad_84 : decode cX2_readLoad 84 = .ok (.aload_n 0, 1) := by decide +kernel
theorem dX2_readLoad_85 : decode cX2_readLoad 85 = .ok (.getfield 23, 3) := by decide +kernel
theorem dX2_readLoad_88 : decode cX2_readLoad 88 = .ok (.iload_n 2, 1) := by decide +kernel
theorem dX2_readLoad_89 : decode cX2_readLoad 89 = .ok (.aload_n 0, 1) := by decide +kernel
theorem dX2_readLoad_90 : decode cX2_readLoad 90 = .ok (.getfield 112, 3) := by decide +kernel
theorem dX2_readLoad_93 : decode cX2_readLoad 93 = .ok (.invokevirtual 145, 3) := by decide +kernel
theorem dX2_readLoad_96 : decode cX2_readLoad 96 = .ok (.aload_n 0, 1) := by decide +kernel
theorem dX2_readLoad_97 : decode cX2_readLoad 97 = .ok (.invokevirtual 47, 3) := by decide +kernel
theorem dX2_readLoad_100 : decode cX2_readLoad 100 = .ok (.aload_n 0, 1) := by decide +kernel
theorem dX2_readLoad_101 : decode cX2_readLoad 101 = .ok (.invokevirtual 95, 3) := by decide +kernel
theorem dX2_readLoad_104 : decode cX2_readLoad 104 = .ok (.ireturn, 1) := by decide +kernel
theorem dX2_takeNumber_0 : decode cX2_takeNumber 0 = .ok (.aload_n 0, 1) := by decide +kernel
theorem dX2_takeNumber_1 : decode cX2_takeNumber 1 = .ok (.getfield 69, 3) := by decide +kernel
theorem dX2_takeNumber_4 : decode cX2_takeNumber 4 = .ok (.iconst 2, 1) := by decide +kernel
theorem dX2_takeNumber_5 : decode cX2_takeNumber 5 = .ok (.if_icmp .ne 19, 3) := by decide +kernel
theorem dX2_takeNumber_8 : decode cX2_takeNumber 8 = .ok (.aload_n 0, 1) := by decide +kernel
theorem dX2_takeNumber_9 : decode cX2_takeNumber 9 = .ok (.getfield 112, 3) := by decide +kernel
theorem dX2_takeNumber_12 : decode cX2_takeNumber 12 = .ok (.iload_n 1, 1) := by decide +kernel
theorem dX2_takeNumber_13 : decode cX2_takeNumber 13 = .ok (.if_icmp .lt 11, 3) := by decide +kernel
theorem dX2_takeNumber_16 : decode cX2_takeNumber 16 = .ok (.aload_n 0, 1) := by decide +kernel
theorem dX2_takeNumber_17 : decode cX2_takeNumber 17 = .ok (.getfield 112, 3) := by decide +kernel
theorem dX2_takeNumber_20 : decode cX2_takeNumber 20 = .ok (.iload_n 2, 1) := by decide +kernel
theorem dX2_takeNumber_21 : decode cX2_takeNumber 21 = .ok (.if_icmp .le 5, 3) := by decide +kernel
theorem dX2_takeNumber_24 : decode cX2_takeNumber 24 = .ok (.iconst 0, 1) := by decide +kernel
theorem dX2_takeNumber_25 : decode cX2_takeNumber 25 = .ok (.ireturn, 1) := by decide +kernel
theorem dX2_takeNumber_26 : decode cX2_takeNumber 26 = .ok (.aload_n 0, 1) := by decide +kernel
theorem dX2_takeNumber_27 : decode cX2_takeNumber 27 = .ok (.aload_n 0, 1) := by decide +kernel
theorem dX2_takeNumber_28 : decode cX2_takeNumber 28 = .ok (.getfield 112, 3) := by decide +kernel
theorem dX2_takeNumber_31 : decode cX2_takeNumber 31 = .ok (.putfield 89, 3) := by decide +kernel
theorem dX2_takeNumber_34 : decode cX2_takeNumber 34 = .ok (.aload_n 0, 1) := by decide +kernel
theorem dX2_takeNumber_35 : decode cX2_takeNumber 35 = .ok (.invokevirtual 47, 3) := by decide +kernel
theorem dX2_takeNumber_38 : decode cX2_takeNumber 38 = .ok (.iconst 1, 1) := by decide +kernel
theorem dX2_takeNumber_39 : decode cX2_takeNumber 39 = .ok (.ireturn, 1) := by decide +kernel
theorem dX2_takeSemicolon_0 : decode cX2_takeSemicolon 0 = .ok (.aload_n 0, 1) := by decide +kernel
theorem dX2_takeSemicolon_1 : decode cX2_takeSemicolon 1 = .ok (.getfield 69, 3) := by decide +kernel
theorem dX2_takeSemicolon_4 : decode cX2_takeSemicolon 4 = .ok (.iconst 3, 1) := by decide +kernel
theorem dX2_takeSemicolon_5 : decode cX2_takeSemicolon 5 = .ok (.if_icmp .eq 5, 3) := by decide +kernel
theorem dX2_takeSemicolon_8 : decode cX2_takeSemicolon 8 = .ok (.iconst 0, 1) := by decide +kernel
theorem dX2_takeSemicolon_9 : decode cX2_takeSemicolon 9 = .ok (.ireturn, 1) := by decide +kernel
theorem dX2_takeSemicolon_10 : decode cX2_takeSemicolon 10 = .ok (.aload_n 0, 1) := by decide +kernel
theorem dX2_takeSemicolon_11 : decode cX2_takeSemicolon 11 = .ok (.invokevirtual 47, 3) := by decide +kernel
theorem dX2_takeSemicolon_14 : decode cX2_takeSemicolon 14 = .ok (.iconst 1, 1) := by decide +kernel
theorem dX2_takeSemicolon_15 : decode cX2_takeSemicolon 15 = .ok (.ireturn, 1) := by decide +kernel
theorem dX2_isWord_0 : decode cX2_isWord 0 = .ok (.aload_n 0, 1) := by decide +kernel
theorem dX2_isWord_1 : decode cX2_isWord 1 = .ok (.getfield 69, 3) := by decide +kernel
theorem dX2_isWord_4 : decode cX2_isWord 4 = .ok (.iconst 1, 1) := by decide +kernel
theorem dX2_isWord_5 : decode cX2_isWord 5 = .ok (.if_icmp .ne 19, 3) := by decide +kernel
theorem dX2_isWord_8 : decode cX2_isWord 8 = .ok (.aload_n 0, 1) := by decide +kernel
theorem dX2_isWord_9 : decode cX2_isWord 9 = .ok (.getfield 44, 3) := by decide +kernel
theorem dX2_isWord_12 : decode cX2_isWord 12 = .ok (.aload_n 0, 1) := by decide +kernel
theorem dX2_isWord_13 : decode cX2_isWord 13 = .ok (.getfield 72, 3) := by decide +kernel
theorem dX2_isWord_16 : decode cX2_isWord 16 = .ok (.isub, 1) := by decide +kernel
theorem dX2_isWord_17 : decode cX2_isWord 17 = .ok (.aload_n 1, 1) := by decide +kernel
theorem dX2_isWord_18 : decode cX2_isWord 18 = .ok (.invokevirtual 31, 3) := by decide +kernel
theorem dX2_isWord_21 : decode cX2_isWord 21 = .ok (.if_icmp .eq 5, 3) := by decide +kernel
theorem dX2_isWord_24 : decode cX2_isWord 24 = .ok (.iconst 0, 1) := by decide +kernel
theorem dX2_isWord_25 : decode cX2_isWord 25 = .ok (.ireturn, 1) := by decide +kernel
theorem dX2_isWord_26 : decode cX2_isWord 26 = .ok (.iconst 0, 1) := by decide +kernel
theorem dX2_isWord_27 : decode cX2_isWord 27 = .ok (.istore_n 2, 1) := by decide +kernel
theorem dX2_isWord_28 : decode cX2_isWord 28 = .ok (.iload_n 2, 1) := by decide +kernel
theorem dX2_isWord_29 : decode cX2_isWord 29 = .ok (.aload_n 1, 1) := by decide +kernel
theorem dX2_isWord_30 : decode cX2_isWord 30 = .ok (.invokevirtual 31, 3) := by decide +kernel
theorem dX2_isWord_33 : decode cX2_isWord 33 = .ok (.if_icmp .ge 30, 3) := by decide +kernel
theorem dX2_isWord_36 : decode cX2_isWord 36 = .ok (.aload_n 0, 1) := by decide +kernel
theorem dX2_isWord_37 : decode cX2_isWord 37 = .ok (.getfield 9, 3) := by decide +kernel
theorem dX2_isWord_40 : decode cX2_isWord 40 = .ok (.aload_n 0, 1) := by decide +kernel
theorem dX2_isWord_41 : decode cX2_isWord 41 = .ok (.getfield 72, 3) := by decide +kernel
theorem dX2_isWord_44 : decode cX2_isWord 44 = .ok (.iload_n 2, 1) := by decide +kernel
theorem dX2_isWord_45 : decode cX2_isWord 45 = .ok (.iadd, 1) := by decide +kernel
theorem dX2_isWord_46 : decode cX2_isWord 46 = .ok (.baload, 1) := by decide +kernel
theorem dX2_isWord_47 : decode cX2_isWord 47 = .ok (.aload_n 1, 1) := by decide +kernel
theorem dX2_isWord_48 : decode cX2_isWord 48 = .ok (.iload_n 2, 1) := by decide +kernel
theorem dX2_isWord_49 : decode cX2_isWord 49 = .ok (.invokevirtual 37, 3) := by decide +kernel
theorem dX2_isWord_52 : decode cX2_isWord 52 = .ok (.if_icmp .eq 5, 3) := by decide +kernel
theorem dX2_isWord_55 : decode cX2_isWord 55 = .ok (.iconst 0, 1) := by decide +kernel
theorem dX2_isWord_56 : decode cX2_isWord 56 = .ok (.ireturn, 1) := by decide +kernel
theorem dX2_isWord_57 : decode cX2_isWord 57 = .ok (.iinc 2 1, 3) := by decide +kernel
theorem dX2_isWord_60 : decode cX2_isWord 60 = .ok (.goto (-32), 3) := by decide +kernel
theorem dX2_isWord_63 : decode cX2_isWord 63 = .ok (.iconst 1, 1) := by decide +kernel
theorem dX2_isWord_64 : decode cX2_isWord 64 = .ok (.ireturn, 1) := by decide +kernel
theorem dX2_step_0 : decode cX2_step 0 = .ok (.aload_n 0, 1) := by decide +kernel
theorem dX2_step_1 : decode cX2_step 1 = .ok (.aload_n 0, 1) := by decide +kernel
theorem dX2_step_2 : decode cX2_step 2 = .ok (.getfield 44, 3) := by decide +kernel
theorem dX2_step_5 : decode cX2_step 5 = .ok (.putfield 72, 3) := by decide +kernel
theorem dX2_step_8 : decode cX2_step 8 = .ok (.aload_n 0, 1) := by decide +kernel
theorem dX2_step_9 : decode cX2_step 9 = .ok (.getfield 72, 3) := by decide +kernel
theorem dX2_step_12 : decode cX2_step 12 = .ok (.aload_n 0, 1) := by decide +kernel
theorem dX2_step_13 : decode cX2_step 13 = .ok (.getfield 41, 3) := by decide +kernel
theorem dX2_step_16 : decode cX2_step 16 = .ok (.if_icmp .ge 44, 3) := by decide +kernel
theorem dX2_step_19 : decode cX2_step 19 = .ok (.aload_n 0, 1) := by decide +kernel
theorem dX2_step_20 : decode cX2_step 20 = .ok (.getfield 9, 3) := by decide +kernel
theorem dX2_step_23 : decode cX2_step 23 = .ok (.aload_n 0, 1) := by decide +kernel
theorem dX2_step_24 : decode cX2_step 24 = .ok (.getfield 72, 3) := by decide +kernel
theorem dX2_step_27 : decode cX2_step 27 = .ok (.baload, 1) := by decide +kernel
theorem dX2_step_28 : decode cX2_step 28 = .ok (.bipush 32, 2) := by decide +kernel
theorem dX2_step_30 : decode cX2_step 30 = .ok (.if_icmp .eq 17, 3) := by decide +kernel
theorem dX2_step_33 : decode cX2_step 33 = .ok (.aload_n 0, 1) := by decide +kernel
theorem dX2_step_34 : decode cX2_step 34 = .ok (.getfield 9, 3) := by decide +kernel
theorem dX2_step_37 : decode cX2_step 37 = .ok (.aload_n 0, 1) := by decide +kernel
theorem dX2_step_38 : decode cX2_step 38 = .ok (.getfield 72, 3) := by decide +kernel
theorem dX2_step_41 : decode cX2_step 41 = .ok (.baload, 1) := by decide +kernel
theorem dX2_step_42 : decode cX2_step 42 = .ok (.bipush 10, 2) := by decide +kernel
theorem dX2_step_44 : decode cX2_step 44 = .ok (.if_icmp .ne 16, 3) := by decide +kernel
theorem dX2_step_47 : decode cX2_step 47 = .ok (.aload_n 0, 1) := by decide +kernel
theorem dX2_step_48 : decode cX2_step 48 = .ok (.dup, 1) := by decide +kernel
theorem dX2_step_49 : decode cX2_step 49 = .ok (.getfield 72, 3) := by decide +kernel
theorem dX2_step_52 : decode cX2_step 52 = .ok (.iconst 1, 1) := by decide +kernel
theorem dX2_step_53 : decode cX2_step 53 = .ok (.iadd, 1) := by decide +kernel
theorem dX2_step_54 : decode cX2_step 54 = .ok (.putfield 72, 3) := by decide +kernel
theorem dX2_step_57 : decode cX2_step 57 = .ok (.goto (-49), 3) := by decide +kernel
theorem dX2_step_60 : decode cX2_step 60 = .ok (.aload_n 0, 1) := by decide +kernel
theorem dX2_step_61 : decode cX2_step 61 = .ok (.aload_n 0, 1) := by decide +kernel
theorem dX2_step_62 : decode cX2_step 62 = .ok (.getfield 72, 3) := by decide +kernel
theorem dX2_step_65 : decode cX2_step 65 = .ok (.putfield 44, 3) := by decide +kernel
theorem dX2_step_68 : decode cX2_step 68 = .ok (.aload_n 0, 1) := by decide +kernel
theorem dX2_step_69 : decode cX2_step 69 = .ok (.getfield 72, 3) := by decide +kernel
theorem dX2_step_72 : decode cX2_step 72 = .ok (.aload_n 0, 1) := by decide +kernel
theorem dX2_step_73 : decode cX2_step 73 = .ok (.getfield 41, 3) := by decide +kernel
theorem dX2_step_76 : decode cX2_step 76 = .ok (.if_icmp .lt 11, 3) := by decide +kernel
theorem dX2_step_79 : decode cX2_step 79 = .ok (.aload_n 0, 1) := by decide +kernel
theorem dX2_step_80 : decode cX2_step 80 = .ok (.iconst 0, 1) := by decide +kernel
theorem dX2_step_81 : decode cX2_step 81 = .ok (.putfield 69, 3) := by decide +kernel
theorem dX2_step_84 : decode cX2_step 84 = .ok (.goto 106, 3) := by decide +kernel
theorem dX2_step_87 : decode cX2_step 87 = .ok (.aload_n 0, 1) := by decide +kernel
theorem dX2_step_88 : decode cX2_step 88 = .ok (.getfield 9, 3) := by decide +kernel
theorem dX2_step_91 : decode cX2_step 91 = .ok (.aload_n 0, 1) := by decide +kernel
theorem dX2_step_92 : decode cX2_step 92 = .ok (.getfield 72, 3) := by decide +kernel
theorem dX2_step_95 : decode cX2_step 95 = .ok (.baload, 1) := by decide +kernel
theorem dX2_step_96 : decode cX2_step 96 = .ok (.bipush 97, 2) := by decide +kernel
theorem dX2_step_98 : decode cX2_step 98 = .ok (.if_icmp .lt 24, 3) := by decide +kernel
theorem dX2_step_101 : decode cX2_step 101 = .ok (.aload_n 0, 1) := by decide +kernel
theorem dX2_step_102 : decode cX2_step 102 = .ok (.getfield 9, 3) := by decide +kernel
theorem dX2_step_105 : decode cX2_step 105 = .ok (.aload_n 0, 1) := by decide +kernel
theorem dX2_step_106 : decode cX2_step 106 = .ok (.getfield 72, 3) := by decide +kernel
theorem dX2_step_109 : decode cX2_step 109 = .ok (.baload, 1) := by decide +kernel
theorem dX2_step_110 : decode cX2_step 110 = .ok (.bipush 122, 2) := by decide +kernel
theorem dX2_step_112 : decode cX2_step 112 = .ok (.if_icmp .gt 10, 3) := by decide +kernel
theorem dX2_step_115 : decode cX2_step 115 = .ok (.aload_n 0, 1) := by decide +kernel
theorem dX2_step_116 : decode cX2_step 116 = .ok (.invokevirtual 149, 3) := by decide +kernel
theorem dX2_step_119 : decode cX2_step 119 = .ok (.goto 71, 3) := by decide +kernel
theorem dX2_step_122 : decode cX2_step 122 = .ok (.aload_n 0, 1) := by decide +kernel
theorem dX2_step_123 : decode cX2_step 123 = .ok (.getfield 9, 3) := by decide +kernel
theorem dX2_step_126 : decode cX2_step 126 = .ok (.aload_n 0, 1) := by decide +kernel
theorem dX2_step_127 : decode cX2_step 127 = .ok (.getfield 72, 3) := by decide +kernel
theorem dX2_step_130 : decode cX2_step 130 = .ok (.baload, 1) := by decide +kernel
theorem dX2_step_131 : decode cX2_step 131 = .ok (.bipush 48, 2) := by decide +kernel
theorem dX2_step_133 : decode cX2_step 133 = .ok (.if_icmp .lt 24, 3) := by decide +kernel
theorem dX2_step_136 : decode cX2_step 136 = .ok (.aload_n 0, 1) := by decide +kernel
theorem dX2_step_137 : decode cX2_step 137 = .ok (.getfield 9, 3) := by decide +kernel
theorem dX2_step_140 : decode cX2_step 140 = .ok (.aload_n 0, 1) := by decide +kernel
theorem dX2_step_141 : decode cX2_step 141 = .ok (.getfield 72, 3) := by decide +kernel
theorem dX2_step_144 : decode cX2_step 144 = .ok (.baload, 1) := by decide +kernel
theorem dX2_step_145 : decode cX2_step 145 = .ok (.bipush 57, 2) := by decide +kernel
theorem dX2_step_147 : decode cX2_step 147 = .ok (.if_icmp .gt 10, 3) := by decide +kernel
theorem dX2_step_150 : decode cX2_step 150 = .ok (.aload_n 0, 1) := by decide +kernel
theorem dX2_step_151 : decode cX2_step 151 = .ok (.invokevirtual 152, 3) := by decide +kernel
theorem dX2_step_154 : decode cX2_step 154 = .ok (.goto 36, 3) := by decide +kernel
theorem dX2_step_157 : decode cX2_step 157 = .ok (.aload_n 0, 1) := by decide +kernel
theorem dX2_step_158 : decode cX2_step 158 = .ok (.aload_n 0, 1) := by decide +kernel
theorem dX2_step_159 : decode cX2_step 159 = .ok (.getfield 9, 3) := by decide +kernel
theorem dX2_step_162 : decode cX2_step 162 = .ok (.aload_n 0, 1) := by decide +kernel
theorem dX2_step_163 : decode cX2_step 163 = .ok (.getfield 72, 3) := by decide +kernel
theorem dX2_step_166 : decode cX2_step 166 = .ok (.baload, 1) := by decide +kernel
theorem dX2_step_167 : decode cX2_step 167 = .ok (.bipush 59, 2) := by decide +kernel
theorem dX2_step_169 : decode cX2_step 169 = .ok (.if_icmp .ne 7, 3) := by decide +kernel
theorem dX2_step_172 : decode cX2_step 172 = .ok (.iconst 3, 1) := by decide +kernel
theorem dX2_step_173 : decode cX2_step 173 = .ok (.goto 4, 3) := by decide +kernel
theorem dX2_step_176 : decode cX2_step 176 = .ok (.iconst 4, 1) := by decide +kernel
theorem dX2_step_177 : decode cX2_step 177 = .ok (.putfield 69, 3) := by decide +kernel
theorem dX2_step_180 : decode cX2_step 180 = .ok (.aload_n 0, 1) := by decide +kernel
theorem dX2_step_181 : decode cX2_step 181 = .ok (.dup, 1) := by decide +kernel
theorem dX2_step_182 : decode cX2_step 182 = .ok (.getfield 44, 3) := by decide +kernel
theorem dX2_step_185 : decode cX2_step 185 = .ok (.iconst 1, 1) := by decide +kernel
theorem dX2_step_186 : decode cX2_step 186 = .ok (.iadd, 1) := by decide +kernel
theorem dX2_step_187 : decode cX2_step 187 = .ok (.putfield 44, 3) := by decide +kernel
theorem dX2_step_190 : decode cX2_step 190 = .ok (.return_, 1) := by decide +kernel
theorem dX2_stepOverWord_0 : decode cX2_stepOverWord 0 = .ok (.aload_n 0, 1) := by decide +kernel
theorem dX2_stepOverWord_1 : decode cX2_stepOverWord 1 = .ok (.getfield 44, 3) := by decide +kernel
theorem dX2_stepOverWord_4 : decode cX2_stepOverWord 4 = .ok (.aload_n 0, 1) := by decide +kernel
theorem dX2_stepOverWord_5 : decode cX2_stepOverWord 5 = .ok (.getfield 41, 3) := by decide +kernel
theorem dX2_stepOverWord_8 : decode cX2_stepOverWord 8 = .ok (.if_icmp .ge 44, 3) := by decide +kernel
theorem dX2_stepOverWord_11 : decode cX2_stepOverWord 11 = .ok (.aload_n 0, 1) := by decide +kernel
theorem dX2_stepOverWord_12 : decode cX2_stepOverWord 12 = .ok (.getfield 9, 3) := by decide +kernel
theorem dX2_stepOverWord_15 : decode cX2_stepOverWord 15 = .ok (.aload_n 0, 1) := by decide +kernel
theorem dX2_stepOverWord_16 : decode cX2_stepOverWord 16 = .ok (.getfield 44, 3) := by decide +kernel
theorem dX2_stepOverWord_19 : decode cX2_stepOverWord 19 = .ok (.baload, 1) := by decide +kernel
theorem dX2_stepOverWord_20 : decode cX2_stepOverWord 20 = .ok (.bipush 97, 2) := by decide +kernel
theorem dX2_stepOverWord_22 : decode cX2_stepOverWord 22 = .ok (.if_icmp .lt 30, 3) := by decide +kernel
theorem dX2_stepOverWord_25 : decode cX2_stepOverWord 25 = .ok (.aload_n 0, 1) := by decide +kernel
theorem dX2_stepOverWord_26 : decode cX2_stepOverWord 26 = .ok (.getfield 9, 3) := by decide +kernel
theorem dX2_stepOverWord_29 : decode cX2_stepOverWord 29 = .ok (.aload_n 0, 1) := by decide +kernel
theorem dX2_stepOverWord_30 : decode cX2_stepOverWord 30 = .ok (.getfield 44, 3) := by decide +kernel
theorem dX2_stepOverWord_33 : decode cX2_stepOverWord 33 = .ok (.baload, 1) := by decide +kernel
theorem dX2_stepOverWord_34 : decode cX2_stepOverWord 34 = .ok (.bipush 122, 2) := by decide +kernel
theorem dX2_stepOverWord_36 : decode cX2_stepOverWord 36 = .ok (.if_icmp .gt 16, 3) := by decide +kernel
theorem dX2_stepOverWord_39 : decode cX2_stepOverWord 39 = .ok (.aload_n 0, 1) := by decide +kernel
theorem dX2_stepOverWord_40 : decode cX2_stepOverWord 40 = .ok (.dup, 1) := by decide +kernel
theorem dX2_stepOverWord_41 : decode cX2_stepOverWord 41 = .ok (.getfield 44, 3) := by decide +kernel
theorem dX2_stepOverWord_44 : decode cX2_stepOverWord 44 = .ok (.iconst 1, 1) := by decide +kernel
theorem dX2_stepOverWord_45 : decode cX2_stepOverWord 45 = .ok (.iadd, 1) := by decide +kernel
theorem dX2_stepOverWord_46 : decode cX2_stepOverWord 46 = .ok (.putfield 44, 3) := by decide +kernel
theorem dX2_stepOverWord_49 : decode cX2_stepOverWord 49 = .ok (.goto (-49), 3) := by decide +kernel
theorem dX2_stepOverWord_52 : decode cX2_stepOverWord 52 = .ok (.aload_n 0, 1) := by decide +kernel
theorem dX2_stepOverWord_53 : decode cX2_stepOverWord 53 = .ok (.iconst 1, 1) := by decide +kernel
theorem dX2_stepOverWord_54 : decode cX2_stepOverWord 54 = .ok (.putfield 69, 3) := by decide +kernel
theorem dX2_stepOverWord_57 : decode cX2_stepOverWord 57 = .ok (.return_, 1) := by decide +kernel
theorem dX2_stepOverNumber_0 : decode cX2_stepOverNumber 0 = .ok (.iconst 0, 1) := by decide +kernel
theorem dX2_stepOverNumber_1 : decode cX2_stepOverNumber 1 = .ok (.istore_n 1, 1) := by decide +kernel
theorem dX2_stepOverNumber_2 : decode cX2_stepOverNumber 2 = .ok (.aload_n 0, 1) := by decide +kernel
theorem dX2_stepOverNumber_3 : decode cX2_stepOverNumber 3 = .ok (.getfield 44, 3) := by decide +kernel
theorem dX2_stepOverNumber_6 : decode cX2_stepOverNumber 6 = .ok (.aload_n 0, 1) := by decide +kernel
theorem dX2_stepOverNumber_7 : decode cX2_stepOverNumber 7 = .ok (.getfield 41, 3) := by decide +kernel
theorem dX2_stepOverNumber_10 : decode cX2_stepOverNumber 10 = .ok (.if_icmp .ge 79, 3) := by decide +kernel
theorem dX2_stepOverNumber_13 : decode cX2_stepOverNumber 13 = .ok (.aload_n 0, 1) := by decide +kernel
theorem dX2_stepOverNumber_14 : decode cX2_stepOverNumber 14 = .ok (.getfield 9, 3) := by decide +kernel
theorem dX2_stepOverNumber_17 : decode cX2_stepOverNumber 17 = .ok (.aload_n 0, 1) := by decide +kernel
theorem dX2_stepOverNumber_18 : decode cX2_stepOverNumber 18 = .ok (.getfield 44, 3) := by decide +kernel
theorem dX2_stepOverNumber_21 : decode cX2_stepOverNumber 21 = .ok (.baload, 1) := by decide +kernel
theorem dX2_stepOverNumber_22 : decode cX2_stepOverNumber 22 = .ok (.bipush 48, 2) := by decide +kernel
theorem dX2_stepOverNumber_24 : decode cX2_stepOverNumber 24 = .ok (.if_icmp .lt 65, 3) := by decide +kernel
theorem dX2_stepOverNumber_27 : decode cX2_stepOverNumber 27 = .ok (.aload_n 0, 1) := by decide +kernel
theorem dX2_stepOverNumber_28 : decode cX2_stepOverNumber 28 = .ok (.getfield 9, 3) := by decide +kernel
theorem dX2_stepOverNumber_31 : decode cX2_stepOverNumber 31 = .ok (.aload_n 0, 1) := by decide +kernel
theorem dX2_stepOverNumber_32 : decode cX2_stepOverNumber 32 = .ok (.getfield 44, 3) := by decide +kernel
theorem dX2_stepOverNumber_35 : decode cX2_stepOverNumber 35 = .ok (.baload, 1) := by decide +kernel
theorem dX2_stepOverNumber_36 : decode cX2_stepOverNumber 36 = .ok (.bipush 57, 2) := by decide +kernel
theorem dX2_stepOverNumber_38 : decode cX2_stepOverNumber 38 = .ok (.if_icmp .gt 51, 3) := by decide +kernel
theorem dX2_stepOverNumber_41 : decode cX2_stepOverNumber 41 = .ok (.aload_n 0, 1) := by decide +kernel
theorem dX2_stepOverNumber_42 : decode cX2_stepOverNumber 42 = .ok (.getfield 44, 3) := by decide +kernel
theorem dX2_stepOverNumber_45 : decode cX2_stepOverNumber 45 = .ok (.aload_n 0, 1) := by decide +kernel
theorem dX2_stepOverNumber_46 : decode cX2_stepOverNumber 46 = .ok (.getfield 72, 3) := by decide +kernel
theorem dX2_stepOverNumber_49 : decode cX2_stepOverNumber 49 = .ok (.isub, 1) := by decide +kernel
theorem dX2_stepOverNumber_50 : decode cX2_stepOverNumber 50 = .ok (.iconst 3, 1) := by decide +kernel
theorem dX2_stepOverNumber_51 : decode cX2_stepOverNumber 51 = .ok (.if_icmp .ge 23, 3) := by decide +kernel
theorem dX2_stepOverNumber_54 : decode cX2_stepOverNumber 54 = .ok (.iload_n 1, 1) := by decide +kernel
theorem dX2_stepOverNumber_55 : decode cX2_stepOverNumber 55 = .ok (.bipush 10, 2) := by decide +kernel
theorem dX2_stepOverNumber_57 : decode cX2_stepOverNumber 57 = .ok (.imul, 1) := by decide +kernel
theorem dX2_stepOverNumber_58 : decode cX2_stepOverNumber 58 = .ok (.aload_n 0, 1) := by decide +kernel
theorem dX2_stepOverNumber_59 : decode cX2_stepOverNumber 59 = .ok (.getfield 9, 3) := by decide +kernel
theorem dX2_stepOverNumber_62 : decode cX2_stepOverNumber 62 = .ok (.aload_n 0, 1) := by decide +kernel
theorem dX2_stepOverNumber_63 : decode cX2_stepOverNumber 63 = .ok (.getfield 44, 3) := by decide +kernel
theorem dX2_stepOverNumber_66 : decode cX2_stepOverNumber 66 = .ok (.baload, 1) := by decide +kernel
theorem dX2_stepOverNumber_67 : decode cX2_stepOverNumber 67 = .ok (.bipush 48, 2) := by decide +kernel
theorem dX2_stepOverNumber_69 : decode cX2_stepOverNumber 69 = .ok (.isub, 1) := by decide +kernel
theorem dX2_stepOverNumber_70 : decode cX2_stepOverNumber 70 = .ok (.iadd, 1) := by decide +kernel
theorem dX2_stepOverNumber_71 : decode cX2_stepOverNumber 71 = .ok (.goto 4, 3) := by decide +kernel
theorem dX2_stepOverNumber_74 : decode cX2_stepOverNumber 74 = .ok (.iload_n 1, 1) := by decide +kernel
theorem dX2_stepOverNumber_75 : decode cX2_stepOverNumber 75 = .ok (.istore_n 1, 1) := by decide +kernel
theorem dX2_stepOverNumber_76 : decode cX2_stepOverNumber 76 = .ok (.aload_n 0, 1) := by decide +kernel
theorem dX2_stepOverNumber_77 : decode cX2_stepOverNumber 77 = .ok (.dup, 1) := by decide +kernel
theorem dX2_stepOverNumber_78 : decode cX2_stepOverNumber 78 = .ok (.getfield 44, 3) := by decide +kernel
theorem dX2_stepOverNumber_81 : decode cX2_stepOverNumber 81 = .ok (.iconst 1, 1) := by decide +kernel
theorem dX2_stepOverNumber_82 : decode cX2_stepOverNumber 82 = .ok (.iadd, 1) := by decide +kernel
theorem dX2_stepOverNumber_83 : decode cX2_stepOverNumber 83 = .ok (.putfield 44, 3) := by decide +kernel
theorem dX2_stepOverNumber_86 : decode cX2_stepOverNumber 86 = .ok (.goto (-84), 3) := by decide +kernel
theorem dX2_stepOverNumber_89 : decode cX2_stepOverNumber 89 = .ok (.aload_n 0, 1) := by decide +kernel
theorem dX2_stepOverNumber_90 : decode cX2_stepOverNumber 90 = .ok (.aload_n 0, 1) := by decide +kernel
theorem dX2_stepOverNumber_91 : decode cX2_stepOverNumber 91 = .ok (.getfield 44, 3) := by decide +kernel
theorem dX2_stepOverNumber_94 : decode cX2_stepOverNumber 94 = .ok (.aload_n 0, 1) := by decide +kernel
theorem dX2_stepOverNumber_95 : decode cX2_stepOverNumber 95 = .ok (.getfield 72, 3) := by decide +kernel
theorem dX2_stepOverNumber_98 : decode cX2_stepOverNumber 98 = .ok (.isub, 1) := by decide +kernel
theorem dX2_stepOverNumber_99 : decode cX2_stepOverNumber 99 = .ok (.iconst 3, 1) := by decide +kernel
theorem dX2_stepOverNumber_100 : decode cX2_stepOverNumber 100 = .ok (.if_icmp .gt 7, 3) := by decide +kernel
theorem dX2_stepOverNumber_103 : decode cX2_stepOverNumber 103 = .ok (.iconst 2, 1) := by decide +kernel
theorem dX2_stepOverNumber_104 : decode cX2_stepOverNumber 104 = .ok (.goto 4, 3) := by decide +kernel
theorem dX2_stepOverNumber_107 : decode cX2_stepOverNumber 107 = .ok (.iconst 4, 1) := by decide +kernel
theorem dX2_stepOverNumber_108 : decode cX2_stepOverNumber 108 = .ok (.putfield 69, 3) := by decide +kernel
theorem dX2_stepOverNumber_111 : decode cX2_stepOverNumber 111 = .ok (.aload_n 0, 1) := by decide +kernel
theorem dX2_stepOverNumber_112 : decode cX2_stepOverNumber 112 = .ok (.iload_n 1, 1) := by decide +kernel
theorem dX2_stepOverNumber_113 : decode cX2_stepOverNumber 113 = .ok (.putfield 112, 3) := by decide +kernel
theorem dX2_stepOverNumber_116 : decode cX2_stepOverNumber 116 = .ok (.return_, 1) := by decide +kernel
theorem dX4_init_0 : decode cX4_init 0 = .ok (.aload_n 0, 1) := by decide +kernel
theorem dX4_init_1 : decode cX4_init 1 = .ok (.invokespecial 3, 3) := by decide +kernel
theorem dX4_init_4 : decode cX4_init 4 = .ok (.aload_n 0, 1) := by decide +kernel
theorem dX4_init_5 : decode cX4_init 5 = .ok (.sipush 140, 3) := by decide +kernel
theorem dX4_init_8 : decode cX4_init 8 = .ok (.newarray .byte, 2) := by decide +kernel
theorem dX4_init_10 : decode cX4_init 10 = .ok (.putfield 9, 3) := by decide +kernel
theorem dX4_init_13 : decode cX4_init 13 = .ok (.return_, 1) := by decide +kernel
theorem dX5_init_0 : decode cX5_init 0 = .ok (.aload_n 0, 1) := by decide +kernel
theorem dX5_init_1 : decode cX5_init 1 = .ok (.invokespecial 3, 3) := by decide +kernel
theorem dX5_init_4 : decode cX5_init 4 = .ok (.aload_n 0, 1) := by decide +kernel
theorem dX5_init_5 : decode cX5_init 5 = .ok (.new 9, 3) := by decide +kernel
theorem dX5_init_8 : decode cX5_init 8 = .ok (.dup, 1) := by decide +kernel
theorem dX5_init_9 : decode cX5_init 9 = .ok (.invokespecial 11, 3) := by decide +kernel
theorem dX5_init_12 : decode cX5_init 12 = .ok (.putfield 12, 3) := by decide +kernel
theorem dX5_init_15 : decode cX5_init 15 = .ok (.aload_n 0, 1) := by decide +kernel
theorem dX5_init_16 : decode cX5_init 16 = .ok (.getfield 12, 3) := by decide +kernel
theorem dX5_init_19 : decode cX5_init 19 = .ok (.ldc 16, 2) := by decide +kernel
theorem dX5_init_21 : decode cX5_init 21 = .ok (.invokevirtual 18, 3) := by decide +kernel
theorem dX5_init_24 : decode cX5_init 24 = .ok (.aload_n 0, 1) := by decide +kernel
theorem dX5_init_25 : decode cX5_init 25 = .ok (.aload_n 0, 1) := by decide +kernel
theorem dX5_init_26 : decode cX5_init 26 = .ok (.getfield 12, 3) := by decide +kernel
theorem dX5_init_29 : decode cX5_init 29 = .ok (.invokevirtual 22, 3) := by decide +kernel
theorem dX5_init_32 : decode cX5_init 32 = .ok (.putfield 26, 3) := by decide +kernel
theorem dX5_init_35 : decode cX5_init 35 = .ok (.new 30, 3) := by decide +kernel
theorem dX5_init_38 : decode cX5_init 38 = .ok (.dup, 1) := by decide +kernel
theorem dX5_init_39 : decode cX5_init 39 = .ok (.invokespecial 32, 3) := by decide +kernel
theorem dX5_init_42 : decode cX5_init 42 = .ok (.astore_n 1, 1) := by decide +kernel
theorem dX5_init_43 : decode cX5_init 43 = .ok (.aload_n 1, 1) := by decide +kernel
theorem dX5_init_44 : decode cX5_init 44 = .ok (.aload_n 0, 1) := by decide +kernel
theorem dX5_init_45 : decode cX5_init 45 = .ok (.getfield 12, 3) := by decide +kernel
theorem dX5_init_48 : decode cX5_init 48 = .ok (.getfield 33, 3) := by decide +kernel
theorem dX5_init_51 : decode cX5_init 51 = .ok (.getfield 37, 3) := by decide +kernel
theorem dX5_init_54 : decode cX5_init 54 = .ok (.invokevirtual 43, 3) := by decide +kernel
theorem dX5_init_57 : decode cX5_init 57 = .ok (.aload_n 0, 1) := by decide +kernel
theorem dX5_init_58 : decode cX5_init 58 = .ok (.new 38, 3) := by decide +kernel
theorem dX5_init_61 : decode cX5_init 61 = .ok (.dup, 1) := by decide +kernel
theorem dX5_init_62 : decode cX5_init 62 = .ok (.aload_n 1, 1) := by decide +kernel
theorem dX5_init_63 : decode cX5_init 63 = .ok (.invokespecial 47, 3) := by decide +kernel
theorem dX5_init_66 : decode cX5_init 66 = .ok (.putfield 49, 3) := by decide +kernel
theorem dX5_init_69 : decode cX5_init 69 = .ok (.aload_n 0, 1) := by decide +kernel
theorem dX5_init_70 : decode cX5_init 70 = .ok (.getfield 49, 3) := by decide +kernel
theorem dX5_init_73 : decode cX5_init 73 = .ok (.aload_n 0, 1) := by decide +kernel
theorem dX5_init_74 : decode cX5_init 74 = .ok (.getfield 12, 3) := by decide +kernel
theorem dX5_init_77 : decode cX5_init 77 = .ok (.getfield 33, 3) := by decide +kernel
theorem dX5_init_80 : decode cX5_init 80 = .ok (.invokevirtual 52, 3) := by decide +kernel
theorem dX5_init_83 : decode cX5_init 83 = .ok (.aload_n 0, 1) := by decide +kernel
theorem dX5_init_84 : decode cX5_init 84 = .ok (.new 38, 3) := by decide +kernel
theorem dX5_init_87 : decode cX5_init 87 = .ok (.dup, 1) := by decide +kernel
theorem dX5_init_88 : decode cX5_init 88 = .ok (.aload_n 1, 1) := by decide +kernel
theorem dX5_init_89 : decode cX5_init 89 = .ok (.invokespecial 47, 3) := by decide +kernel
theorem dX5_init_92 : decode cX5_init 92 = .ok (.putfield 55, 3) := by decide +kernel
theorem dX5_init_95 : decode cX5_init 95 = .ok (.aload_n 0, 1) := by decide +kernel
theorem dX5_init_96 : decode cX5_init 96 = .ok (.new 58, 3) := by decide +kernel
theorem dX5_init_99 : decode cX5_init 99 = .ok (.dup, 1) := by decide +kernel
theorem dX5_init_100 : decode cX5_init 100 = .ok (.aload_n 1, 1) := by decide +kernel
theorem dX5_init_101 : decode cX5_init 101 = .ok (.invokespecial 60, 3) := by decide +kernel
theorem dX5_init_104 : decode cX5_init 104 = .ok (.putfield 61, 3) := by decide +kernel
theorem dX5_init_107 : decode cX5_init 107 = .ok (.aload_n 0, 1) := by decide +kernel
theorem dX5_init_108 : decode cX5_init 108 = .ok (.iconst 2, 1) := by decide +kernel
theorem dX5_init_109 : decode cX5_init 109 = .ok (.anewarray 38, 3) := by decide +kernel
theorem dX5_init_112 : decode cX5_init 112 = .ok (.putfield 65, 3) := by decide +kernel
theorem dX5_init_115 : decode cX5_init 115 = .ok (.iconst 0, 1) := by decide +kernel
theorem dX5_init_116 : decode cX5_init 116 = .ok (.istore_n 2, 1) := by decide +kernel
theorem dX5_init_117 : decode cX5_init 117 = .ok (.iload_n 2, 1) := by decide +kernel
theorem dX5_init_118 : decode cX5_init 118 = .ok (.iconst 2, 1) := by decide +kernel
theorem dX5_init_119 : decode cX5_init 119 = .ok (.if_icmp .ge 23, 3) := by decide +kernel
theorem dX5_init_122 : decode cX5_init 122 = .ok (.aload_n 0, 1) := by decide +kernel
theorem dX5_init_123 : decode cX5_init 123 = .ok (.getfield 65, 3) := by decide +kernel
theorem dX5_init_126 : decode cX5_init 126 = .ok (.iload_n 2, 1) := by decide +kernel
theorem dX5_init_127 : decode cX5_init 127 = .ok (.new 38, 3) := by decide +kernel
theorem dX5_init_130 : decode cX5_init 130 = .ok (.dup, 1) := by decide +kernel
theorem dX5_init_131 : decode cX5_init 131 = .ok (.aload_n 1, 1) := by decide +kernel
theorem dX5_init_132 : decode cX5_init 132 = .ok (.invokespecial 47, 3) := by decide +kernel
theorem dX5_init_135 : decode cX5_init 135 = .ok (.aastore, 1) := by decide +kernel
theorem dX5_init_136 : decode cX5_init 136 = .ok (.iinc 2 1, 3) := by decide +kernel
theorem dX5_init_139 : decode cX5_init 139 = .ok (.goto (-22), 3) := by decide +kernel
theorem dX5_init_142 : decode cX5_init 142 = .ok (.aload_n 0, 1) := by decide +kernel
theorem dX5_init_143 : decode cX5_init 143 = .ok (.iconst 2, 1) := by decide +kernel
theorem dX5_init_144 : decode cX5_init 144 = .ok (.newarray .boolean, 2) := by decide +kernel
theorem dX5_init_146 : decode cX5_init 146 = .ok (.putfield 69, 3) := by decide +kernel
theorem dX5_init_149 : decode cX5_init 149 = .ok (.aload_n 0, 1) := by decide +kernel
theorem dX5_init_150 : decode cX5_init 150 = .ok (.bipush 10, 2) := by decide +kernel
theorem dX5_init_152 : decode cX5_init 152 = .ok (.newarray .int, 2) := by decide +kernel
theorem dX5_init_154 : decode cX5_init 154 = .ok (.putfield 73, 3) := by decide +kernel
theorem dX5_init_157 : decode cX5_init 157 = .ok (.aload_n 0, 1) := by decide +kernel
theorem dX5_init_158 : decode cX5_init 158 = .ok (.new 77, 3) := by decide +kernel
theorem dX5_init_161 : decode cX5_init 161 = .ok (.dup, 1) := by decide +kernel
theorem dX5_init_162 : decode cX5_init 162 = .ok (.invokespecial 79, 3) := by decide +kernel
theorem dX5_init_165 : decode cX5_init 165 = .ok (.putfield 80, 3) := by decide +kernel
theorem dX5_init_168 : decode cX5_init 168 = .ok (.return_, 1) := by decide +kernel
theorem dX5_append_0 : decode cX5_append 0 = .ok (.aload_n 0, 1) := by decide +kernel
theorem dX5_append_1 : decode cX5_append 1 = .ok (.getfield 12, 3) := by decide +kernel
theorem dX5_append_4 : decode cX5_append 4 = .ok (.getfield 84, 3) := by decide +kernel
theorem dX5_append_7 : decode cX5_append 7 = .ok (.bipush 20, 2) := by decide +kernel
theorem dX5_append_9 : decode cX5_append 9 = .ok (.iadd, 1) := by decide +kernel
theorem dX5_append_10 : decode cX5_append 10 = .ok (.sipush 700, 3) := by decide +kernel
theorem dX5_append_13 : decode cX5_append 13 = .ok (.if_icmp .le 13, 3) := by decide +kernel
theorem dX5_append_16 : decode cX5_append 16 = .ok (.new 87, 3) := by decide +kernel
theorem dX5_append_19 : decode cX5_append 19 = .ok (.dup, 1) := by decide +kernel
theorem dX5_append_20 : decode cX5_append 20 = .ok (.ldc 89, 2) := by decide +kernel
theorem dX5_append_22 : decode cX5_append 22 = .ok (.invokespecial 91, 3) := by decide +kernel
theorem dX5_append_25 : decode cX5_append 25 = .ok (.athrow, 1) := by decide +kernel
theorem dX5_append_26 : decode cX5_append 26 = .ok (.aload_n 0, 1) := by decide +kernel
theorem dX5_append_27 : decode cX5_append 27 = .ok (.getfield 12, 3) := by decide +kernel
theorem dX5_append_30 : decode cX5_append 30 = .ok (.iload_n 1, 1) := by decide +kernel
theorem dX5_append_31 : decode cX5_append 31 = .ok (.invokevirtual 93, 3) := by decide +kernel
theorem dX5_append_34 : decode cX5_append 34 = .ok (.aload_n 0, 1) := by decide +kernel
theorem dX5_append_35 : decode cX5_append 35 = .ok (.getfield 12, 3) := by decide +kernel
theorem dX5_append_38 : decode cX5_append 38 = .ok (.iload_n 2, 1) := by decide +kernel
theorem dX5_append_39 : decode cX5_append 39 = .ok (.invokevirtual 93, 3) := by decide +kernel
theorem dX5_append_42 : decode cX5_append 42 = .ok (.aload_n 0, 1) := by decide +kernel
theorem dX5_append_43 : decode cX5_append 43 = .ok (.getfield 12, 3) := by decide +kernel
theorem dX5_append_46 : decode cX5_append 46 = .ok (.iload_n 3, 1) := by decide +kernel
theorem dX5_append_47 : decode cX5_append 47 = .ok (.invokevirtual 93, 3) := by decide +kernel
theorem dX5_append_50 : decode cX5_append 50 = .ok (.aload_n 0, 1) := by decide +kernel
theorem dX5_append_51 : decode cX5_append 51 = .ok (.getfield 12, 3) := by decide +kernel
theorem dX5_append_54 : decode cX5_append 54 = .ok (.iload 4, 2) := by decide +kernel
theorem dX5_append_56 : decode cX5_append 56 = .ok (.invokevirtual 93, 3) := by decide +kernel
theorem dX5_append_59 : decode cX5_append 59 = .ok (.aload_n 0, 1) := by decide +kernel
theorem dX5_append_60 : decode cX5_append 60 = .ok (.getfield 12, 3) := by decide +kernel
theorem dX5_append_63 : decode cX5_append 63 = .ok (.iload 5, 2) := by decide +kernel
theorem dX5_append_65 : decode cX5_append 65 = .ok (.invokevirtual 93, 3) := by decide +kernel
theorem dX5_append_68 : decode cX5_append 68 = .ok (.aload_n 0, 1) := by decide +kernel
theorem dX5_append_69 : decode cX5_append 69 = .ok (.getfield 12, 3) := by decide +kernel
theorem dX5_append_72 : decode cX5_append 72 = .ok (.getfield 84, 3) := by decide +kernel
theorem dX5_append_75 : decode cX5_append 75 = .ok (.ireturn, 1) := by decide +kernel
theorem dX5_shorten_0 : decode cX5_shorten 0 = .ok (.iload_n 1, 1) := by decide +kernel
theorem dX5_shorten_1 : decode cX5_shorten 1 = .ok (.ifCond .lt 14, 3) := by decide +kernel
theorem dX5_shorten_4 : decode cX5_shorten 4 = .ok (.iload_n 1, 1) := by decide +kernel
theorem dX5_shorten_5 : decode cX5_shorten 5 = .ok (.aload_n 0, 1) := by decide +kernel
theorem dX5_shorten_6 : decode cX5_shorten 6 = .ok (.getfield 12, 3) := by decide +kernel
theorem dX5_shorten_9 : decode cX5_shorten 9 = .ok (.getfield 84, 3) := by decide +kernel
theorem dX5_shorten_12 : decode cX5_shorten 12 = .ok (.if_icmp .le 13, 3) := by decide +kernel
theorem dX5_shorten_15 : decode cX5_shorten 15 = .ok (.new 97, 3) := by decide +kernel
theorem dX5_shorten_18 : decode cX5_shorten 18 = .ok (.dup, 1) := by decide +kernel
theorem dX5_shorten_19 : decode cX5_shorten 19 = .ok (.ldc 99, 2) := by decide +kernel
theorem dX5_shorten_21 : decode cX5_shorten 21 = .ok (.invokespecial 101, 3) := by decide +kernel
theorem dX5_shorten_24 : decode cX5_shorten 24 = .ok (.athrow, 1) := by decide +kernel
theorem dX5_shorten_25 : decode cX5_shorten 25 = .ok (.aload_n 0, 1) := by decide +kernel
theorem dX5_shorten_26 : decode cX5_shorten 26 = .ok (.getfield 12, 3) := by decide +kernel
theorem dX5_shorten_29 : decode cX5_shorten 29 = .ok (.iload_n 1, 1) := by decide +kernel
theorem dX5_shorten_30 : decode cX5_shorten 30 = .ok (.putfield 84, 3) := by decide +kernel
theorem dX5_shorten_33 : decode cX5_shorten 33 = .ok (.iload_n 1, 1) := by decide +kernel
theorem dX5_shorten_34 : decode cX5_shorten 34 = .ok (.ireturn, 1) := by decide +kernel
theorem dX5_load_0 : decode cX5_load 0 = .ok (.aload_n 0, 1) := by decide +kernel
theorem dX5_load_1 : decode cX5_load 1 = .ok (.aload_n 0, 1) := by decide +kernel
theorem dX5_load_2 : decode cX5_load 2 = .ok (.getfield 12, 3) := by decide +kernel
theorem dX5_load_5 : decode cX5_load 5 = .ok (.invokevirtual 22, 3) := by decide +kernel
theorem dX5_load_8 : decode cX5_load 8 = .ok (.putfield 26, 3) := by decide +kernel
theorem dX5_load_11 : decode cX5_load 11 = .ok (.aload_n 0, 1) := by decide +kernel
theorem dX5_load_12 : decode cX5_load 12 = .ok (.getfield 26, 3) := by decide +kernel
theorem dX5_load_15 : decode cX5_load 15 = .ok (.iconst (-1), 1) := by decide +kernel
theorem dX5_load_16 : decode cX5_load 16 = .ok (.if_icmp .eq 13, 3) := by decide +kernel
theorem dX5_load_19 : decode cX5_load 19 = .ok (.new 97, 3) := by decide +kernel
theorem dX5_load_22 : decode cX5_load 22 = .ok (.dup, 1) := by decide +kernel
theorem dX5_load_23 : decode cX5_load 23 = .ok (.ldc 102, 2) := by decide +kernel
theorem dX5_load_25 : decode cX5_load 25 = .ok (.invokespecial 101, 3) := by decide +kernel
theorem dX5_load_28 : decode cX5_load 28 = .ok (.athrow, 1) := by decide +kernel
theorem dX5_load_29 : decode cX5_load 29 = .ok (.aload_n 0, 1) := by decide +kernel
theorem dX5_load_30 : decode cX5_load 30 = .ok (.getfield 49, 3) := by decide +kernel
theorem dX5_load_33 : decode cX5_load 33 = .ok (.getfield 37, 3) := by decide +kernel
theorem dX5_load_36 : decode cX5_load 36 = .ok (.aload_n 0, 1) := by decide +kernel
theorem dX5_load_37 : decode cX5_load 37 = .ok (.getfield 12, 3) := by decide +kernel
theorem dX5_load_40 : decode cX5_load 40 = .ok (.getfield 33, 3) := by decide +kernel
theorem dX5_load_43 : decode cX5_load 43 = .ok (.getfield 37, 3) := by decide +kernel
theorem dX5_load_46 : decode cX5_load 46 = .ok (.invokevirtual 43, 3) := by decide +kernel
theorem dX5_load_49 : decode cX5_load 49 = .ok (.aload_n 0, 1) := by decide +kernel
theorem dX5_load_50 : decode cX5_load 50 = .ok (.getfield 49, 3) := by decide +kernel
theorem dX5_load_53 : decode cX5_load 53 = .ok (.aload_n 0, 1) := by decide +kernel
theorem dX5_load_54 : decode cX5_load 54 = .ok (.getfield 12, 3) := by decide +kernel
theorem dX5_load_57 : decode cX5_load 57 = .ok (.getfield 33, 3) := by decide +kernel
theorem dX5_load_60 : decode cX5_load 60 = .ok (.invokevirtual 52, 3) := by decide +kernel
theorem dX5_load_63 : decode cX5_load 63 = .ok (.aload_n 0, 1) := by decide +kernel
theorem dX5_load_64 : decode cX5_load 64 = .ok (.getfield 61, 3) := by decide +kernel
theorem dX5_load_67 : decode cX5_load 67 = .ok (.invokevirtual 104, 3) := by decide +kernel
theorem dX5_load_70 : decode cX5_load 70 = .ok (.iconst 0, 1) := by decide +kernel
theorem dX5_load_71 : decode cX5_load 71 = .ok (.istore_n 1, 1) := by decide +kernel
theorem dX5_load_72 : decode cX5_load 72 = .ok (.iload_n 1, 1) := by decide +kernel
theorem dX5_load_73 : decode cX5_load 73 = .ok (.iconst 2, 1) := by decide +kernel
theorem dX5_load_74 : decode cX5_load 74 = .ok (.if_icmp .ge 16, 3) := by decide +kernel
theorem dX5_load_77 : decode cX5_load 77 = .ok (.aload_n 0, 1) := by decide +kernel
theorem dX5_load_78 : decode cX5_load 78 = .ok (.getfield 69, 3) := by decide +kernel
theorem dX5_load_81 : decode cX5_load 81 = .ok (.iload_n 1, 1) := by decide +kernel
theorem dX5_load_82 : decode cX5_load 82 = .ok (.iconst 0, 1) := by decide +kernel
theorem dX5_load_83 : decode cX5_load 83 = .ok (.bastore, 1) := by decide +kernel
theorem dX5_load_84 : decode cX5_load 84 = .ok (.iinc 1 1, 3) := by decide +kernel
theorem dX5_load_87 : decode cX5_load 87 = .ok (.goto (-15), 3) := by decide +kernel
theorem dX5_load_90 : decode cX5_load 90 = .ok (.aload_n 0, 1) := by decide +kernel
theorem dX5_load_91 : decode cX5_load 91 = .ok (.getfield 49, 3) := by decide +kernel
theorem dX5_load_94 : decode cX5_load 94 = .ok (.getfield 37, 3) := by decide +kernel
theorem dX5_load_97 : decode cX5_load 97 = .ok (.getfield 107, 3) := by decide +kernel
theorem dX5_load_100 : decode cX5_load 100 = .ok (.ireturn, 1) := by decide +kernel
theorem dX5_hasError_0 : decode cX5_hasError 0 = .ok (.aload_n 0, 1) := by decide +kernel
theorem dX5_hasError_1 : decode cX5_hasError 1 = .ok (.getfield 26, 3) := by decide +kernel
theorem dX5_hasError_4 : decode cX5_hasError 4 = .ok (.iconst (-1), 1) := by decide +kernel
theorem dX5_hasError_5 : decode cX5_hasError 5 = .ok (.if_icmp .eq 7, 3) := by decide +kernel
theorem dX5_hasError_8 : decode cX5_hasError 8 = .ok (.iconst 1, 1) := by decide +kernel
theorem dX5_hasError_9 : decode cX5_hasError 9 = .ok (.goto 4, 3) := by decide +kernel
theorem dX5_hasError_12 : decode cX5_hasError 12 = .ok (.iconst 0, 1) := by decide +kernel
theorem dX5_hasError_13 : decode cX5_hasError 13 = .ok (.ireturn, 1) := by decide +kernel
theorem dX5_errorOffset_0 : decode cX5_errorOffset 0 = .ok (.aload_n 0, 1) := by decide +kernel
theorem dX5_errorOffset_1 : decode cX5_errorOffset 1 = .ok (.getfield 26, 3) := by decide +kernel
theorem dX5_errorOffset_4 : decode cX5_errorOffset 4 = .ok (.iconst (-1), 1) := by decide +kernel
theorem dX5_errorOffset_5 : decode cX5_errorOffset 5 = .ok (.if_icmp .ne 13, 3) := by decide +kernel
theorem dX5_errorOffset_8 : decode cX5_errorOffset 8 = .ok (.new 110, 3) := by decide +kernel
theorem dX5_errorOffset_11 : decode cX5_errorOffset 11 = .ok (.dup, 1) := by decide +kernel
theorem dX5_errorOffset_12 : decode cX5_errorOffset 12 = .ok (.ldc 112, 2) := by decide +kernel
theorem dX5_errorOffset_14 : decode cX5_errorOffset 14 = .ok (.invokespecial 114, 3) := by decide +kernel
theorem dX5_errorOffset_17 : decode cX5_errorOffset 17 = .ok (.athrow, 1) := by decide +kernel
theorem dX5_errorOffset_18 : decode cX5_errorOffset 18 = .ok (.aload_n 0, 1) := by decide +kernel
theorem dX5_errorOffset_19 : decode cX5_errorOffset 19 = .ok (.getfield 26, 3) := by decide +kernel
theorem dX5_errorOffset_22 : decode cX5_errorOffset 22 = .ok (.ireturn, 1) := by decide +kernel
theorem dX5_length_0 : decode cX5_length 0 = .ok (.aload_n 0, 1) := by decide +kernel
theorem dX5_length_1 : decode cX5_length 1 = .ok (.getfield 49, 3) := by decide +kernel
theorem dX5_length_4 : decode cX5_length 4 = .ok (.getfield 37, 3) := by decide +kernel
theorem dX5_length_7 : decode cX5_length 7 = .ok (.getfield 115, 3) := by decide +kernel
theorem dX5_length_10 : decode cX5_length 10 = .ok (.ireturn, 1) := by decide +kernel
theorem dX5_kilometre_0 : decode cX5_kilometre 0 = .ok (.aload_n 0, 1) := by decide +kernel
theorem dX5_kilometre_1 : decode cX5_kilometre 1 = .ok (.getfield 49, 3) := by decide +kernel
theorem dX5_kilometre_4 : decode cX5_kilometre 4 = .ok (.getfield 116, 3) := by decide +kernel
theorem dX5_kilometre_7 : decode cX5_kilometre 7 = .ok (.ireturn, 1) := by decide +kernel
theorem dX5_hasArrived_0 : decode cX5_hasArrived 0 = .ok (.aload_n 0, 1) := by decide +kernel
theorem dX5_hasArrived_1 : decode cX5_hasArrived 1 = .ok (.getfield 49, 3) := by decide +kernel
theorem dX5_hasArrived_4 : decode cX5_hasArrived 4 = .ok (.invokevirtual 119, 3) := by decide +kernel
theorem dX5_hasArrived_7 : decode cX5_hasArrived 7 = .ok (.ireturn, 1) := by decide +kernel
theorem dX5_day_0 : decode cX5_day 0 = .ok (.aload_n 0, 1) := by decide +kernel
theorem dX5_day_1 : decode cX5_day 1 = .ok (.getfield 49, 3) := by decide +kernel
theorem dX5_day_4 : decode cX5_day 4 = .ok (.getfield 123, 3) := by decide +kernel
theorem dX5_day_7 : decode cX5_day 7 = .ok (.ireturn, 1) := by decide +kernel
theorem dX5_stormOn_0 : decode cX5_stormOn 0 = .ok (.iload_n 1, 1) := by decide +kernel
theorem dX5_stormOn_1 : decode cX5_stormOn 1 = .ok (.ifCond .lt 10, 3) := by decide +kernel
theorem dX5_stormOn_4 : decode cX5_stormOn 4 = .ok (.iload_n 1, 1) := by decide +kernel
theorem dX5_stormOn_5 : decode cX5_stormOn 5 = .ok (.sipush 999, 3) := by decide +kernel
theorem dX5_stormOn_8 : decode cX5_stormOn 8 = .ok (.if_icmp .le 13, 3) := by decide +kernel
theorem dX5_stormOn_11 : decode cX5_stormOn 11 = .ok (.new 97, 3) := by decide +kernel
theorem dX5_stormOn_14 : decode cX5_stormOn 14 = .ok (.dup, 1) := by decide +kernel
theorem dX5_stormOn_15 : decode cX5_stormOn 15 = .ok (.ldc 126, 2) := by decide +kernel
theorem dX5_stormOn_17 : decode cX5_stormOn 17 = .ok (.invokespecial 101, 3) := by decide +kernel
theorem dX5_stormOn_20 : decode cX5_stormOn 20 = .ok (.athrow, 1) := by decide +kernel
theorem dX5_stormOn_21 : decode cX5_stormOn 21 = .ok (.aload_n 0, 1) := by decide +kernel
theorem dX5_stormOn_22 : decode cX5_stormOn 22 = .ok (.getfield 49, 3) := by decide +kernel
theorem dX5_stormOn_25 : decode cX5_stormOn 25 = .ok (.getfield 37, 3) := by decide +kernel
theorem dX5_stormOn_28 : decode cX5_stormOn 28 = .ok (.iload_n 1, 1) := by decide +kernel
theorem dX5_stormOn_29 : decode cX5_stormOn 29 = .ok (.invokevirtual 128, 3) := by decide +kernel
theorem dX5_stormOn_32 : decode cX5_stormOn 32 = .ok (.ireturn, 1) := by decide +kernel
theorem dX5_isStopping_0 : decode cX5_isStopping 0 = .ok (.aload_n 0, 1) := by decide +kernel
theorem dX5_isStopping_1 : decode cX5_isStopping 1 = .ok (.getfield 49, 3) := by decide +kernel
theorem dX5_isStopping_4 : decode cX5_isStopping 4 = .ok (.getfield 132, 3) := by decide +kernel
theorem dX5_isStopping_7 : decode cX5_isStopping 7 = .ok (.ireturn, 1) := by decide +kernel
theorem dX5_wellCount_0 : decode cX5_wellCount 0 = .ok (.aload_n 0, 1) := by decide +kernel
theorem dX5_wellCount_1 : decode cX5_wellCount 1 = .ok (.getfield 49, 3) := by decide +kernel
theorem dX5_wellCount_4 : decode cX5_wellCount 4 = .ok (.getfield 37, 3) := by decide +kernel
theorem dX5_wellCount_7 : decode cX5_wellCount 7 = .ok (.getfield 136, 3) := by decide +kernel
theorem dX5_wellCount_10 : decode cX5_wellCount 10 = .ok (.ireturn, 1) := by decide +kernel
theorem dX5_wellKilometre_0 : decode cX5_wellKilometre 0 = .ok (.aload_n 0, 1) := by decide +kernel
theorem dX5_wellKilometre_1 : decode cX5_wellKilometre 1 = .ok (.iload_n 1, 1) := by decide +kernel
theorem dX5_wellKilometre_2 : decode cX5_wellKilometre 2 = .ok (.invokevirtual 139, 3) := by decide +kernel
theorem dX5_wellKilometre_5 : decode cX5_wellKilometre 5 = .ok (.aload_n 0, 1) := by decide +kernel
theorem dX5_wellKilometre_6 : decode cX5_wellKilometre 6 = .ok (.getfield 49, 3) := by decide +kernel
theorem dX5_wellKilometre_9 : decode cX5_wellKilometre 9 = .ok (.getfield 37, 3) := by decide +kernel
theorem dX5_wellKilometre_12 : decode cX5_wellKilometre 12 = .ok (.getfield 142, 3) := by decide +kernel
theorem dX5_wellKilometre_15 : decode cX5_wellKilometre 15 = .ok (.iload_n 1, 1) := by decide +kernel
theorem dX5_wellKilometre_16 : decode cX5_wellKilometre 16 = .ok (.iaload, 1) := by decide +kernel
theorem dX5_wellKilometre_17 : decode cX5_wellKilometre 17 = .ok (.ireturn, 1) := by decide +kernel
theorem dX5_wellLevel_0 : decode cX5_wellLevel 0 = .ok (.aload_n 0, 1) := by decide +kernel
theorem dX5_wellLevel_1 : decode cX5_wellLevel 1 = .ok (.iload_n 1, 1) := by decide +kernel
theorem dX5_wellLevel_2 : decode cX5_wellLevel 2 = .ok (.invokevirtual 139, 3) := by decide +kernel
theorem dX5_wellLevel_5 : decode cX5_wellLevel 5 = .ok (.aload_n 0, 1) := by decide +kernel
theorem dX5_wellLevel_6 : decode cX5_wellLevel 6 = .ok (.getfield 49, 3) := by decide +kernel
theorem dX5_wellLevel_9 : decode cX5_wellLevel 9 = .ok (.getfield 145, 3) := by decide +kernel
theorem dX5_wellLevel_12 : decode cX5_wellLevel 12 = .ok (.iload_n 1, 1) := by decide +kernel
theorem dX5_wellLevel_13 : decode cX5_wellLevel 13 = .ok (.iaload, 1) := by decide +kernel
theorem dX5_wellLevel_14 : decode cX5_wellLevel 14 = .ok (.ireturn, 1) := by decide +kernel
theorem dX5_wellCapacity_0 : decode cX5_wellCapacity 0 = .ok (.aload_n 0, 1) := by decide +kernel
theorem dX5_wellCapacity_1 : decode cX5_wellCapacity 1 = .ok (.iload_n 1, 1) := by decide +kernel
theorem dX5_wellCapacity_2 : decode cX5_wellCapacity 2 = .ok (.invokevirtual 139, 3) := by decide +kernel
theorem dX5_wellCapacity_5 : decode cX5_wellCapacity 5 = .ok (.aload_n 0, 1) := by decide +kernel
theorem dX5_wellCapacity_6 : decode cX5_wellCapacity 6 = .ok (.getfield 49, 3) := by decide +kernel
theorem dX5_wellCapacity_9 : decode cX5_wellCapacity 9 = .ok (.getfield 37, 3) := by decide +kernel
theorem dX5_wellCapacity_12 : decode cX5_wellCapacity 12 = .ok (.getfield 148, 3) := by decide +kernel
theorem dX5_wellCapacity_15 : decode cX5_wellCapacity 15 = .ok (.iload_n 1, 1) := by decide +kernel
theorem dX5_wellCapacity_16 : decode cX5_wellCapacity 16 = .ok (.iaload, 1) := by decide +kernel
theorem dX5_wellCapacity_17 : decode cX5_wellCapacity 17 = .ok (.ireturn, 1) := by decide +kernel
theorem dX5_requireWell_0 : decode cX5_requireWell 0 = .ok (.iload_n 1, 1) := by decide +kernel
theorem dX5_requireWell_1 : decode cX5_requireWell 1 = .ok (.ifCond .lt 17, 3) := by decide +kernel
theorem dX5_requireWell_4 : decode cX5_requireWell 4 = .ok (.iload_n 1, 1) := by decide +kernel
theorem dX5_requireWell_5 : decode cX5_requireWell 5 = .ok (.aload_n 0, 1) := by decide +kernel
theorem dX5_requireWell_6 : decode cX5_requireWell 6 = .ok (.getfield 49, 3) := by decide +kernel
theorem dX5_requireWell_9 : decode cX5_requireWell 9 = .ok (.getfield 37, 3) := by decide +kernel
theorem dX5_requireWell_12 : decode cX5_requireWell 12 = .ok (.getfield 136, 3) := by decide +kernel
theorem dX5_requireWell_15 : decode cX5_requireWell 15 = .ok (.if_icmp .lt 13, 3) := by decide +kernel
theorem dX5_requireWell_18 : decode cX5_requireWell 18 = .ok (.new 151, 3) := by decide +kernel
theorem dX5_requireWell_21 : decode cX5_requireWell 21 = .ok (.dup, 1) := by decide +kernel
theorem dX5_requireWell_22 : decode cX5_requireWell 22 = .ok (.ldc 153, 2) := by decide +kernel
theorem dX5_requireWell_24 : decode cX5_requireWell 24 = .ok (.invokespecial 155, 3) := by decide +kernel
theorem dX5_requireWell_27 : decode cX5_requireWell 27 = .ok (.athrow, 1) := by decide +kernel
theorem dX5_requireWell_28 : decode cX5_requireWell 28 = .ok (.return_, 1) := by decide +kernel
theorem dX5_wellHere_0 : decode cX5_wellHere 0 = .ok (.aload_n 0, 1) := by decide +kernel
theorem dX5_wellHere_1 : decode cX5_wellHere 1 = .ok (.getfield 49, 3) := by decide +kernel
theorem dX5_wellHere_4 : decode cX5_wellHere 4 = .ok (.getfield 37, 3) := by decide +kernel
theorem dX5_wellHere_7 : decode cX5_wellHere 7 = .ok (.aload_n 0, 1) := by decide +kernel
theorem dX5_wellHere_8 : decode cX5_wellHere 8 = .ok (.getfield 49, 3) := by decide +kernel
theorem dX5_wellHere_11 : decode cX5_wellHere 11 = .ok (.getfield 116, 3) := by decide +kernel
theorem dX5_wellHere_14 : decode cX5_wellHere 14 = .ok (.invokevirtual 156, 3) := by decide +kernel
theorem dX5_wellHere_17 : decode cX5_wellHere 17 = .ok (.istore_n 1, 1) := by decide +kernel
theorem dX5_wellHere_18 : decode cX5_wellHere 18 = .ok (.iload_n 1, 1) := by decide +kernel
theorem dX5_wellHere_19 : decode cX5_wellHere 19 = .ok (.iconst (-1), 1) := by decide +kernel
theorem dX5_wellHere_20 : decode cX5_wellHere 20 = .ok (.if_icmp .ne 13, 3) := by decide +kernel
theorem dX5_wellHere_23 : decode cX5_wellHere 23 = .ok (.new 110, 3) := by decide +kernel
theorem dX5_wellHere_26 : decode cX5_wellHere 26 = .ok (.dup, 1) := by decide +kernel
theorem dX5_wellHere_27 : decode cX5_wellHere 27 = .ok (.ldc 159, 2) := by decide +kernel
theorem dX5_wellHere_29 : decode cX5_wellHere 29 = .ok (.invokespecial 114, 3) := by decide +kernel
theorem dX5_wellHere_32 : decode cX5_wellHere 32 = .ok (.athrow, 1) := by decide +kernel
theorem dX5_wellHere_33 : decode cX5_wellHere 33 = .ok (.iload_n 1, 1) := by decide +kernel
theorem dX5_wellHere_34 : decode cX5_wellHere 34 = .ok (.ireturn, 1) := by decide +kernel
theorem dX5_nextWell_0 : decode cX5_nextWell 0 = .ok (.aload_n 0, 1) := by decide +kernel
end
section
theorem dX5_nextWell_1 : decode cX5_nextWell 1 = .ok (.getfield 49, 3) := by decide +kernel
theorem dX5_nextWell_4 : decode cX5_nextWell 4 = .ok (.getfield 37, 3) := by decide +kernel
theorem dX5_nextWell_7 : decode cX5_nextWell 7 = .ok (.aload_n 0, 1) := by decide +kernel
theorem dX5_nextWell_8 : decode cX5_nextWell 8 = .ok (.getfield 49, 3) := by decide +kernel
theorem dX5_nextWell_11 : decode cX5_nextWell 11 = .ok (.getfield 116, 3) := by decide +kernel
theorem dX5_nextWell_14 : decode cX5_nextWell 14 = .ok (.invokevirtual 161, 3) := by decide +kernel
theorem dX5_nextWell_17 : decode cX5_nextWell 17 = .ok (.istore_n 1, 1) := by decide +kernel
theorem dX5_nextWell_18 : decode cX5_nextWell 18 = .ok (.iload_n 1, 1) := by decide +kernel
theorem dX5_nextWell_19 : decode cX5_nextWell 19 = .ok (.iconst (-1), 1) := by decide +kernel
theorem dX5_nextWell_20 : decode cX5_nextWell 20 = .ok (.if_icmp .ne 13, 3) := by decide +kernel
theorem dX5_nextWell_23 : decode cX5_nextWell 23 = .ok (.new 110, 3) := by decide +kernel
theorem dX5_nextWell_26 : decode cX5_nextWell 26 = .ok (.dup, 1) := by decide +kernel
theorem dX5_nextWell_27 : decode cX5_nextWell 27 = .ok (.ldc 164, 2) := by decide +kernel
theorem dX5_nextWell_29 : decode cX5_nextWell 29 = .ok (.invokespecial 114, 3) := by decide +kernel
theorem dX5_nextWell_32 : decode cX5_nextWell 32 = .ok (.athrow, 1) := by decide +kernel
theorem dX5_nextWell_33 : decode cX5_nextWell 33 = .ok (.iload_n 1, 1) := by decide +kernel
theorem dX5_nextWell_34 : decode cX5_nextWell 34 = .ok (.ireturn, 1) := by decide +kernel
theorem dX5_drunk_0 : decode cX5_drunk 0 = .ok (.aload_n 0, 1) := by decide +kernel
theorem dX5_drunk_1 : decode cX5_drunk 1 = .ok (.getfield 49, 3) := by decide +kernel
theorem dX5_drunk_4 : decode cX5_drunk 4 = .ok (.getfield 166, 3) := by decide +kernel
theorem dX5_drunk_7 : decode cX5_drunk 7 = .ok (.ireturn, 1) := by decide +kernel
theorem dX5_camelCount_0 : decode cX5_camelCount 0 = .ok (.aload_n 0, 1) := by decide +kernel
theorem dX5_camelCount_1 : decode cX5_camelCount 1 = .ok (.getfield 49, 3) := by decide +kernel
theorem dX5_camelCount_4 : decode cX5_camelCount 4 = .ok (.getfield 37, 3) := by decide +kernel
theorem dX5_camelCount_7 : decode cX5_camelCount 7 = .ok (.getfield 107, 3) := by decide +kernel
theorem dX5_camelCount_10 : decode cX5_camelCount 10 = .ok (.ireturn, 1) := by decide +kernel
theorem dX5_livingCamels_0 : decode cX5_livingCamels 0 = .ok (.aload_n 0, 1) := by decide +kernel
theorem dX5_livingCamels_1 : decode cX5_livingCamels 1 = .ok (.getfield 49, 3) := by decide +kernel
theorem dX5_livingCamels_4 : decode cX5_livingCamels 4 = .ok (.invokevirtual 169, 3) := by decide +kernel
theorem dX5_livingCamels_7 : decode cX5_livingCamels 7 = .ok (.ireturn, 1) := by decide +kernel
theorem dX5_leader_0 : decode cX5_leader 0 = .ok (.aload_n 0, 1) := by decide +kernel
theorem dX5_leader_1 : decode cX5_leader 1 = .ok (.getfield 49, 3) := by decide +kernel
theorem dX5_leader_4 : decode cX5_leader 4 = .ok (.getfield 172, 3) := by decide +kernel
theorem dX5_leader_7 : decode cX5_leader 7 = .ok (.ireturn, 1) := by decide +kernel
theorem dX5_requireCamel_0 : decode cX5_requireCamel 0 = .ok (.aload_n 0, 1) := by decide +kernel
theorem dX5_requireCamel_1 : decode cX5_requireCamel 1 = .ok (.getfield 49, 3) := by decide +kernel
theorem dX5_requireCamel_4 : decode cX5_requireCamel 4 = .ok (.getfield 37, 3) := by decide +kernel
theorem dX5_requireCamel_7 : decode cX5_requireCamel 7 = .ok (.iload_n 1, 1) := by decide +kernel
theorem dX5_requireCamel_8 : decode cX5_requireCamel 8 = .ok (.invokevirtual 175, 3) := by decide +kernel
theorem dX5_requireCamel_11 : decode cX5_requireCamel 11 = .ok (.ifCond .ne 13, 3) := by decide +kernel
theorem dX5_requireCamel_14 : decode cX5_requireCamel 14 = .ok (.new 151, 3) := by decide +kernel
theorem dX5_requireCamel_17 : decode cX5_requireCamel 17 = .ok (.dup, 1) := by decide +kernel
theorem dX5_requireCamel_18 : decode cX5_requireCamel 18 = .ok (.ldc 179, 2) := by decide +kernel
theorem dX5_requireCamel_20 : decode cX5_requireCamel 20 = .ok (.invokespecial 155, 3) := by decide +kernel
theorem dX5_requireCamel_23 : decode cX5_requireCamel 23 = .ok (.athrow, 1) := by decide +kernel
theorem dX5_requireCamel_24 : decode cX5_requireCamel 24 = .ok (.return_, 1) := by decide +kernel
theorem dX5_isDead_0 : decode cX5_isDead 0 = .ok (.aload_n 0, 1) := by decide +kernel
theorem dX5_isDead_1 : decode cX5_isDead 1 = .ok (.iload_n 1, 1) := by decide +kernel
theorem dX5_isDead_2 : decode cX5_isDead 2 = .ok (.invokevirtual 181, 3) := by decide +kernel
theorem dX5_isDead_5 : decode cX5_isDead 5 = .ok (.aload_n 0, 1) := by decide +kernel
theorem dX5_isDead_6 : decode cX5_isDead 6 = .ok (.getfield 49, 3) := by decide +kernel
theorem dX5_isDead_9 : decode cX5_isDead 9 = .ok (.iload_n 1, 1) := by decide +kernel
theorem dX5_isDead_10 : decode cX5_isDead 10 = .ok (.invokevirtual 184, 3) := by decide +kernel
theorem dX5_isDead_13 : decode cX5_isDead 13 = .ok (.ifCond .ne 7, 3) := by decide +kernel
theorem dX5_isDead_16 : decode cX5_isDead 16 = .ok (.iconst 1, 1) := by decide +kernel
theorem dX5_isDead_17 : decode cX5_isDead 17 = .ok (.goto 4, 3) := by decide +kernel
theorem dX5_isDead_20 : decode cX5_isDead 20 = .ok (.iconst 0, 1) := by decide +kernel
theorem dX5_isDead_21 : decode cX5_isDead 21 = .ok (.ireturn, 1) := by decide +kernel
theorem dX5_pace_0 : decode cX5_pace 0 = .ok (.aload_n 0, 1) := by decide +kernel
theorem dX5_pace_1 : decode cX5_pace 1 = .ok (.iload_n 1, 1) := by decide +kernel
theorem dX5_pace_2 : decode cX5_pace 2 = .ok (.invokevirtual 181, 3) := by decide +kernel
theorem dX5_pace_5 : decode cX5_pace 5 = .ok (.aload_n 0, 1) := by decide +kernel
theorem dX5_pace_6 : decode cX5_pace 6 = .ok (.getfield 49, 3) := by decide +kernel
theorem dX5_pace_9 : decode cX5_pace 9 = .ok (.getfield 37, 3) := by decide +kernel
theorem dX5_pace_12 : decode cX5_pace 12 = .ok (.getfield 187, 3) := by decide +kernel
theorem dX5_pace_15 : decode cX5_pace 15 = .ok (.iload_n 1, 1) := by decide +kernel
theorem dX5_pace_16 : decode cX5_pace 16 = .ok (.iaload, 1) := by decide +kernel
theorem dX5_pace_17 : decode cX5_pace 17 = .ok (.ireturn, 1) := by decide +kernel
theorem dX5_speed_0 : decode cX5_speed 0 = .ok (.aload_n 0, 1) := by decide +kernel
theorem dX5_speed_1 : decode cX5_speed 1 = .ok (.iload_n 1, 1) := by decide +kernel
theorem dX5_speed_2 : decode cX5_speed 2 = .ok (.invokevirtual 181, 3) := by decide +kernel
theorem dX5_speed_5 : decode cX5_speed 5 = .ok (.aload_n 0, 1) := by decide +kernel
theorem dX5_speed_6 : decode cX5_speed 6 = .ok (.getfield 49, 3) := by decide +kernel
theorem dX5_speed_9 : decode cX5_speed 9 = .ok (.iload_n 1, 1) := by decide +kernel
theorem dX5_speed_10 : decode cX5_speed 10 = .ok (.invokevirtual 190, 3) := by decide +kernel
theorem dX5_speed_13 : decode cX5_speed 13 = .ok (.ireturn, 1) := by decide +kernel
theorem dX5_water_0 : decode cX5_water 0 = .ok (.aload_n 0, 1) := by decide +kernel
theorem dX5_water_1 : decode cX5_water 1 = .ok (.iload_n 1, 1) := by decide +kernel
theorem dX5_water_2 : decode cX5_water 2 = .ok (.invokevirtual 181, 3) := by decide +kernel
theorem dX5_water_5 : decode cX5_water 5 = .ok (.aload_n 0, 1) := by decide +kernel
theorem dX5_water_6 : decode cX5_water 6 = .ok (.getfield 49, 3) := by decide +kernel
theorem dX5_water_9 : decode cX5_water 9 = .ok (.getfield 193, 3) := by decide +kernel
theorem dX5_water_12 : decode cX5_water 12 = .ok (.iload_n 1, 1) := by decide +kernel
theorem dX5_water_13 : decode cX5_water 13 = .ok (.iaload, 1) := by decide +kernel
theorem dX5_water_14 : decode cX5_water 14 = .ok (.ireturn, 1) := by decide +kernel
theorem dX5_tank_0 : decode cX5_tank 0 = .ok (.aload_n 0, 1) := by decide +kernel
theorem dX5_tank_1 : decode cX5_tank 1 = .ok (.iload_n 1, 1) := by decide +kernel
theorem dX5_tank_2 : decode cX5_tank 2 = .ok (.invokevirtual 181, 3) := by decide +kernel
theorem dX5_tank_5 : decode cX5_tank 5 = .ok (.aload_n 0, 1) := by decide +kernel
theorem dX5_tank_6 : decode cX5_tank 6 = .ok (.getfield 49, 3) := by decide +kernel
theorem dX5_tank_9 : decode cX5_tank 9 = .ok (.getfield 37, 3) := by decide +kernel
theorem dX5_tank_12 : decode cX5_tank 12 = .ok (.getfield 196, 3) := by decide +kernel
theorem dX5_tank_15 : decode cX5_tank 15 = .ok (.iload_n 1, 1) := by decide +kernel
theorem dX5_tank_16 : decode cX5_tank 16 = .ok (.iaload, 1) := by decide +kernel
theorem dX5_tank_17 : decode cX5_tank 17 = .ok (.ireturn, 1) := by decide +kernel
theorem dX5_strain_0 : decode cX5_strain 0 = .ok (.aload_n 0, 1) := by decide +kernel
theorem dX5_strain_1 : decode cX5_strain 1 = .ok (.iload_n 1, 1) := by decide +kernel
theorem dX5_strain_2 : decode cX5_strain 2 = .ok (.invokevirtual 181, 3) := by decide +kernel
theorem dX5_strain_5 : decode cX5_strain 5 = .ok (.aload_n 0, 1) := by decide +kernel
theorem dX5_strain_6 : decode cX5_strain 6 = .ok (.getfield 49, 3) := by decide +kernel
theorem dX5_strain_9 : decode cX5_strain 9 = .ok (.getfield 199, 3) := by decide +kernel
theorem dX5_strain_12 : decode cX5_strain 12 = .ok (.iload_n 1, 1) := by decide +kernel
theorem dX5_strain_13 : decode cX5_strain 13 = .ok (.iaload, 1) := by decide +kernel
theorem dX5_strain_14 : decode cX5_strain 14 = .ok (.ireturn, 1) := by decide +kernel
theorem dX5_lameDays_0 : decode cX5_lameDays 0 = .ok (.aload_n 0, 1) := by decide +kernel
theorem dX5_lameDays_1 : decode cX5_lameDays 1 = .ok (.iload_n 1, 1) := by decide +kernel
theorem dX5_lameDays_2 : decode cX5_lameDays 2 = .ok (.invokevirtual 181, 3) := by decide +kernel
theorem dX5_lameDays_5 : decode cX5_lameDays 5 = .ok (.aload_n 0, 1) := by decide +kernel
theorem dX5_lameDays_6 : decode cX5_lameDays 6 = .ok (.getfield 49, 3) := by decide +kernel
theorem dX5_lameDays_9 : decode cX5_lameDays 9 = .ok (.getfield 202, 3) := by decide +kernel
theorem dX5_lameDays_12 : decode cX5_lameDays 12 = .ok (.iload_n 1, 1) := by decide +kernel
theorem dX5_lameDays_13 : decode cX5_lameDays 13 = .ok (.iaload, 1) := by decide +kernel
theorem dX5_lameDays_14 : decode cX5_lameDays 14 = .ok (.ireturn, 1) := by decide +kernel
theorem dX5_dryDays_0 : decode cX5_dryDays 0 = .ok (.aload_n 0, 1) := by decide +kernel
theorem dX5_dryDays_1 : decode cX5_dryDays 1 = .ok (.iload_n 1, 1) := by decide +kernel
theorem dX5_dryDays_2 : decode cX5_dryDays 2 = .ok (.invokevirtual 181, 3) := by decide +kernel
theorem dX5_dryDays_5 : decode cX5_dryDays 5 = .ok (.aload_n 0, 1) := by decide +kernel
theorem dX5_dryDays_6 : decode cX5_dryDays 6 = .ok (.getfield 49, 3) := by decide +kernel
theorem dX5_dryDays_9 : decode cX5_dryDays 9 = .ok (.getfield 205, 3) := by decide +kernel
theorem dX5_dryDays_12 : decode cX5_dryDays 12 = .ok (.iload_n 1, 1) := by decide +kernel
theorem dX5_dryDays_13 : decode cX5_dryDays 13 = .ok (.iaload, 1) := by decide +kernel
theorem dX5_dryDays_14 : decode cX5_dryDays 14 = .ok (.ireturn, 1) := by decide +kernel
theorem dX5_carried_0 : decode cX5_carried 0 = .ok (.aload_n 0, 1) := by decide +kernel
theorem dX5_carried_1 : decode cX5_carried 1 = .ok (.iload_n 1, 1) := by decide +kernel
theorem dX5_carried_2 : decode cX5_carried 2 = .ok (.invokevirtual 181, 3) := by decide +kernel
theorem dX5_carried_5 : decode cX5_carried 5 = .ok (.aload_n 0, 1) := by decide +kernel
theorem dX5_carried_6 : decode cX5_carried 6 = .ok (.getfield 49, 3) := by decide +kernel
theorem dX5_carried_9 : decode cX5_carried 9 = .ok (.getfield 208, 3) := by decide +kernel
theorem dX5_carried_12 : decode cX5_carried 12 = .ok (.iload_n 1, 1) := by decide +kernel
theorem dX5_carried_13 : decode cX5_carried 13 = .ok (.iaload, 1) := by decide +kernel
theorem dX5_carried_14 : decode cX5_carried 14 = .ok (.ireturn, 1) := by decide +kernel
theorem dX5_freeWeight_0 : decode cX5_freeWeight 0 = .ok (.aload_n 0, 1) := by decide +kernel
theorem dX5_freeWeight_1 : decode cX5_freeWeight 1 = .ok (.iload_n 1, 1) := by decide +kernel
theorem dX5_freeWeight_2 : decode cX5_freeWeight 2 = .ok (.invokevirtual 181, 3) := by decide +kernel
theorem dX5_freeWeight_5 : decode cX5_freeWeight 5 = .ok (.aload_n 0, 1) := by decide +kernel
theorem dX5_freeWeight_6 : decode cX5_freeWeight 6 = .ok (.getfield 49, 3) := by decide +kernel
theorem dX5_freeWeight_9 : decode cX5_freeWeight 9 = .ok (.iload_n 1, 1) := by decide +kernel
theorem dX5_freeWeight_10 : decode cX5_freeWeight 10 = .ok (.invokevirtual 211, 3) := by decide +kernel
theorem dX5_freeWeight_13 : decode cX5_freeWeight 13 = .ok (.ireturn, 1) := by decide +kernel
theorem dX5_thirstiest_0 : decode cX5_thirstiest 0 = .ok (.aload_n 0, 1) := by decide +kernel
theorem dX5_thirstiest_1 : decode cX5_thirstiest 1 = .ok (.getfield 49, 3) := by decide +kernel
theorem dX5_thirstiest_4 : decode cX5_thirstiest 4 = .ok (.invokevirtual 214, 3) := by decide +kernel
theorem dX5_thirstiest_7 : decode cX5_thirstiest 7 = .ok (.istore_n 1, 1) := by decide +kernel
theorem dX5_thirstiest_8 : decode cX5_thirstiest 8 = .ok (.iload_n 1, 1) := by decide +kernel
theorem dX5_thirstiest_9 : decode cX5_thirstiest 9 = .ok (.iconst (-1), 1) := by decide +kernel
theorem dX5_thirstiest_10 : decode cX5_thirstiest 10 = .ok (.if_icmp .ne 13, 3) := by decide +kernel
theorem dX5_thirstiest_13 : decode cX5_thirstiest 13 = .ok (.new 110, 3) := by decide +kernel
theorem dX5_thirstiest_16 : decode cX5_thirstiest 16 = .ok (.dup, 1) := by decide +kernel
theorem dX5_thirstiest_17 : decode cX5_thirstiest 17 = .ok (.ldc 217, 2) := by decide +kernel
theorem dX5_thirstiest_19 : decode cX5_thirstiest 19 = .ok (.invokespecial 114, 3) := by decide +kernel
theorem dX5_thirstiest_22 : decode cX5_thirstiest 22 = .ok (.athrow, 1) := by decide +kernel
theorem dX5_thirstiest_23 : decode cX5_thirstiest 23 = .ok (.iload_n 1, 1) := by decide +kernel
theorem dX5_thirstiest_24 : decode cX5_thirstiest 24 = .ok (.ireturn, 1) := by decide +kernel
theorem dX5_fastest_0 : decode cX5_fastest 0 = .ok (.aload_n 0, 1) := by decide +kernel
theorem dX5_fastest_1 : decode cX5_fastest 1 = .ok (.getfield 49, 3) := by decide +kernel
theorem dX5_fastest_4 : decode cX5_fastest 4 = .ok (.invokevirtual 219, 3) := by decide +kernel
theorem dX5_fastest_7 : decode cX5_fastest 7 = .ok (.istore_n 1, 1) := by decide +kernel
theorem dX5_fastest_8 : decode cX5_fastest 8 = .ok (.iload_n 1, 1) := by decide +kernel
theorem dX5_fastest_9 : decode cX5_fastest 9 = .ok (.iconst (-1), 1) := by decide +kernel
theorem dX5_fastest_10 : decode cX5_fastest 10 = .ok (.if_icmp .ne 13, 3) := by decide +kernel
theorem dX5_fastest_13 : decode cX5_fastest 13 = .ok (.new 110, 3) := by decide +kernel
theorem dX5_fastest_16 : decode cX5_fastest 16 = .ok (.dup, 1) := by decide +kernel
theorem dX5_fastest_17 : decode cX5_fastest 17 = .ok (.ldc 217, 2) := by decide +kernel
theorem dX5_fastest_19 : decode cX5_fastest 19 = .ok (.invokespecial 114, 3) := by decide +kernel
theorem dX5_fastest_22 : decode cX5_fastest 22 = .ok (.athrow, 1) := by decide +kernel
theorem dX5_fastest_23 : decode cX5_fastest 23 = .ok (.iload_n 1, 1) := by decide +kernel
theorem dX5_fastest_24 : decode cX5_fastest 24 = .ok (.ireturn, 1) := by decide +kernel
theorem dX5_loadCount_0 : decode cX5_loadCount 0 = .ok (.aload_n 0, 1) := by decide +kernel
theorem dX5_loadCount_1 : decode cX5_loadCount 1 = .ok (.getfield 49, 3) := by decide +kernel
theorem dX5_loadCount_4 : decode cX5_loadCount 4 = .ok (.getfield 222, 3) := by decide +kernel
theorem dX5_loadCount_7 : decode cX5_loadCount 7 = .ok (.ireturn, 1) := by decide +kernel
theorem dX5_requireLoad_0 : decode cX5_requireLoad 0 = .ok (.aload_n 0, 1) := by decide +kernel
theorem dX5_requireLoad_1 : decode cX5_requireLoad 1 = .ok (.getfield 49, 3) := by decide +kernel
theorem dX5_requireLoad_4 : decode cX5_requireLoad 4 = .ok (.iload_n 1, 1) := by decide +kernel
theorem dX5_requireLoad_5 : decode cX5_requireLoad 5 = .ok (.invokevirtual 225, 3) := by decide +kernel
theorem dX5_requireLoad_8 : decode cX5_requireLoad 8 = .ok (.ifCond .ne 13, 3) := by decide +kernel
theorem dX5_requireLoad_11 : decode cX5_requireLoad 11 = .ok (.new 151, 3) := by decide +kernel
theorem dX5_requireLoad_14 : decode cX5_requireLoad 14 = .ok (.dup, 1) := by decide +kernel
theorem dX5_requireLoad_15 : decode cX5_requireLoad 15 = .ok (.ldc 228, 2) := by decide +kernel
theorem dX5_requireLoad_17 : decode cX5_requireLoad 17 = .ok (.invokespecial 155, 3) := by decide +kernel
theorem dX5_requireLoad_20 : decode cX5_requireLoad 20 = .ok (.athrow, 1) := by decide +kernel
theorem dX5_requireLoad_21 : decode cX5_requireLoad 21 = .ok (.return_, 1) := by decide +kernel
theorem dX5_weightOf_0 : decode cX5_weightOf 0 = .ok (.aload_n 0, 1) := by decide +kernel
theorem dX5_weightOf_1 : decode cX5_weightOf 1 = .ok (.iload_n 1, 1) := by decide +kernel
theorem dX5_weightOf_2 : decode cX5_weightOf 2 = .ok (.invokevirtual 230, 3) := by decide +kernel
theorem dX5_weightOf_5 : decode cX5_weightOf 5 = .ok (.aload_n 0, 1) := by decide +kernel
theorem dX5_weightOf_6 : decode cX5_weightOf 6 = .ok (.getfield 49, 3) := by decide +kernel
theorem dX5_weightOf_9 : decode cX5_weightOf 9 = .ok (.getfield 233, 3) := by decide +kernel
theorem dX5_weightOf_12 : decode cX5_weightOf 12 = .ok (.iload_n 1, 1) := by decide +kernel
theorem dX5_weightOf_13 : decode cX5_weightOf 13 = .ok (.iaload, 1) := by decide +kernel
theorem dX5_weightOf_14 : decode cX5_weightOf 14 = .ok (.ireturn, 1) := by decide +kernel
theorem dX5_valueOf_0 : decode cX5_valueOf 0 = .ok (.aload_n 0, 1) := by decide +kernel
theorem dX5_valueOf_1 : decode cX5_valueOf 1 = .ok (.iload_n 1, 1) := by decide +kernel
theorem dX5_valueOf_2 : decode cX5_valueOf 2 = .ok (.invokevirtual 230, 3) := by decide +kernel
theorem dX5_valueOf_5 : decode cX5_valueOf 5 = .ok (.aload_n 0, 1) := by decide +kernel
theorem dX5_valueOf_6 : decode cX5_valueOf 6 = .ok (.getfield 49, 3) := by decide +kernel
theorem dX5_valueOf_9 : decode cX5_valueOf 9 = .ok (.getfield 236, 3) := by decide +kernel
theorem dX5_valueOf_12 : decode cX5_valueOf 12 = .ok (.iload_n 1, 1) := by decide +kernel
theorem dX5_valueOf_13 : decode cX5_valueOf 13 = .ok (.iaload, 1) := by decide +kernel
theorem dX5_valueOf_14 : decode cX5_valueOf 14 = .ok (.ireturn, 1) := by decide +kernel
theorem dX5_isCarried_0 : decode cX5_isCarried 0 = .ok (.aload_n 0, 1) := by decide +kernel
theorem dX5_isCarried_1 : decode cX5_isCarried 1 = .ok (.iload_n 1, 1) := by decide +kernel
theorem dX5_isCarried_2 : decode cX5_isCarried 2 = .ok (.invokevirtual 230, 3) := by decide +kernel
theorem dX5_isCarried_5 : decode cX5_isCarried 5 = .ok (.aload_n 0, 1) := by decide +kernel
theorem dX5_isCarried_6 : decode cX5_isCarried 6 = .ok (.getfield 49, 3) := by decide +kernel
theorem dX5_isCarried_9 : decode cX5_isCarried 9 = .ok (.getfield 239, 3) := by decide +kernel
theorem dX5_isCarried_12 : decode cX5_isCarried 12 = .ok (.iload_n 1, 1) := by decide +kernel
theorem dX5_isCarried_13 : decode cX5_isCarried 13 = .ok (.iaload, 1) := by decide +kernel
theorem dX5_isCarried_14 : decode cX5_isCarried 14 = .ok (.iconst (-1), 1) := by decide +kernel
theorem dX5_isCarried_15 : decode cX5_isCarried 15 = .ok (.if_icmp .eq 7, 3) := by decide +kernel
theorem dX5_isCarried_18 : decode cX5_isCarried 18 = .ok (.iconst 1, 1) := by decide +kernel
theorem dX5_isCarried_19 : decode cX5_isCarried 19 = .ok (.goto 4, 3) := by decide +kernel
theorem dX5_isCarried_22 : decode cX5_isCarried 22 = .ok (.iconst 0, 1) := by decide +kernel
theorem dX5_isCarried_23 : decode cX5_isCarried 23 = .ok (.ireturn, 1) := by decide +kernel
theorem dX5_carrierOf_0 : decode cX5_carrierOf 0 = .ok (.aload_n 0, 1) := by decide +kernel
theorem dX5_carrierOf_1 : decode cX5_carrierOf 1 = .ok (.iload_n 1, 1) := by decide +kernel
theorem dX5_carrierOf_2 : decode cX5_carrierOf 2 = .ok (.invokevirtual 230, 3) := by decide +kernel
theorem dX5_carrierOf_5 : decode cX5_carrierOf 5 = .ok (.aload_n 0, 1) := by decide +kernel
theorem dX5_carrierOf_6 : decode cX5_carrierOf 6 = .ok (.getfield 49, 3) := by decide +kernel
theorem dX5_carrierOf_9 : decode cX5_carrierOf 9 = .ok (.getfield 239, 3) := by decide +kernel
theorem dX5_carrierOf_12 : decode cX5_carrierOf 12 = .ok (.iload_n 1, 1) := by decide +kernel
theorem dX5_carrierOf_13 : decode cX5_carrierOf 13 = .ok (.iaload, 1) := by decide +kernel
theorem dX5_carrierOf_14 : decode cX5_carrierOf 14 = .ok (.iconst (-1), 1) := by decide +kernel
theorem dX5_carrierOf_15 : decode cX5_carrierOf 15 = .ok (.if_icmp .ne 13, 3) := by decide +kernel
theorem dX5_carrierOf_18 : decode cX5_carrierOf 18 = .ok (.new 110, 3) := by decide +kernel
theorem dX5_carrierOf_21 : decode cX5_carrierOf 21 = .ok (.dup, 1) := by decide +kernel
theorem dX5_carrierOf_22 : decode cX5_carrierOf 22 = .ok (.ldc 242, 2) := by decide +kernel
theorem dX5_carrierOf_24 : decode cX5_carrierOf 24 = .ok (.invokespecial 114, 3) := by decide +kernel
theorem dX5_carrierOf_27 : decode cX5_carrierOf 27 = .ok (.athrow, 1) := by decide +kernel
theorem dX5_carrierOf_28 : decode cX5_carrierOf 28 = .ok (.aload_n 0, 1) := by decide +kernel
theorem dX5_carrierOf_29 : decode cX5_carrierOf 29 = .ok (.getfield 49, 3) := by decide +kernel
theorem dX5_carrierOf_32 : decode cX5_carrierOf 32 = .ok (.getfield 239, 3) := by decide +kernel
theorem dX5_carrierOf_35 : decode cX5_carrierOf 35 = .ok (.iload_n 1, 1) := by decide +kernel
theorem dX5_carrierOf_36 : decode cX5_carrierOf 36 = .ok (.iaload, 1) := by decide +kernel
theorem dX5_carrierOf_37 : decode cX5_carrierOf 37 = .ok (.ireturn, 1) := by decide +kernel
theorem dX5_placeOf_0 : decode cX5_placeOf 0 = .ok (.aload_n 0, 1) := by decide +kernel
theorem dX5_placeOf_1 : decode cX5_placeOf 1 = .ok (.iload_n 1, 1) := by decide +kernel
theorem dX5_placeOf_2 : decode cX5_placeOf 2 = .ok (.invokevirtual 230, 3) := by decide +kernel
theorem dX5_placeOf_5 : decode cX5_placeOf 5 = .ok (.aload_n 0, 1) := by decide +kernel
theorem dX5_placeOf_6 : decode cX5_placeOf 6 = .ok (.getfield 49, 3) := by decide +kernel
theorem dX5_placeOf_9 : decode cX5_placeOf 9 = .ok (.iload_n 1, 1) := by decide +kernel
theorem dX5_placeOf_10 : decode cX5_placeOf 10 = .ok (.invokevirtual 244, 3) := by decide +kernel
theorem dX5_placeOf_13 : decode cX5_placeOf 13 = .ok (.ireturn, 1) := by decide +kernel
theorem dX5_carriedValue_0 : decode cX5_carriedValue 0 = .ok (.iconst 0, 1) := by decide +kernel
theorem dX5_carriedValue_1 : decode cX5_carriedValue 1 = .ok (.istore_n 1, 1) := by decide +kernel
theorem dX5_carriedValue_2 : decode cX5_carriedValue 2 = .ok (.iconst 0, 1) := by decide +kernel
theorem dX5_carriedValue_3 : decode cX5_carriedValue 3 = .ok (.istore_n 2, 1) := by decide +kernel
theorem dX5_carriedValue_4 : decode cX5_carriedValue 4 = .ok (.iload_n 2, 1) := by decide +kernel
theorem dX5_carriedValue_5 : decode cX5_carriedValue 5 = .ok (.aload_n 0, 1) := by decide +kernel
theorem dX5_carriedValue_6 : decode cX5_carriedValue 6 = .ok (.getfield 49, 3) := by decide +kernel
theorem dX5_carriedValue_9 : decode cX5_carriedValue 9 = .ok (.getfield 222, 3) := by decide +kernel
theorem dX5_carriedValue_12 : decode cX5_carriedValue 12 = .ok (.if_icmp .ge 34, 3) := by decide +kernel
theorem dX5_carriedValue_15 : decode cX5_carriedValue 15 = .ok (.aload_n 0, 1) := by decide +kernel
theorem dX5_carriedValue_16 : decode cX5_carriedValue 16 = .ok (.getfield 49, 3) := by decide +kernel
theorem dX5_carriedValue_19 : decode cX5_carriedValue 19 = .ok (.getfield 239, 3) := by decide +kernel
theorem dX5_carriedValue_22 : decode cX5_carriedValue 22 = .ok (.iload_n 2, 1) := by decide +kernel
theorem dX5_carriedValue_23 : decode cX5_carriedValue 23 = .ok (.iaload, 1) := by decide +kernel
theorem dX5_carriedValue_24 : decode cX5_carriedValue 24 = .ok (.iconst (-1), 1) := by decide +kernel
theorem dX5_carriedValue_25 : decode cX5_carriedValue 25 = .ok (.if_icmp .eq 15, 3) := by decide +kernel
theorem dX5_carriedValue_28 : decode cX5_carriedValue 28 = .ok (.iload_n 1, 1) := by decide +kernel
theorem dX5_carriedValue_29 : decode cX5_carriedValue 29 = .ok (.aload_n 0, 1) := by decide +kernel
theorem dX5_carriedValue_30 : decode cX5_carriedValue 30 = .ok (.getfield 49, 3) := by decide +kernel
theorem dX5_carriedValue_33 : decode cX5_carriedValue 33 = .ok (.getfield 236, 3) := by decide +kernel
theorem dX5_carriedValue_36 : decode cX5_carriedValue 36 = .ok (.iload_n 2, 1) := by decide +kernel
theorem dX5_carriedValue_37 : decode cX5_carriedValue 37 = .ok (.iaload, 1) := by decide +kernel
theorem dX5_carriedValue_38 : decode cX5_carriedValue 38 = .ok (.iadd, 1) := by decide +kernel
theorem dX5_carriedValue_39 : decode cX5_carriedValue 39 = .ok (.istore_n 1, 1) := by decide +kernel
theorem dX5_carriedValue_40 : decode cX5_carriedValue 40 = .ok (.iinc 2 1, 3) := by decide +kernel
theorem dX5_carriedValue_43 : decode cX5_carriedValue 43 = .ok (.goto (-39), 3) := by decide +kernel
theorem dX5_carriedValue_46 : decode cX5_carriedValue 46 = .ok (.iload_n 1, 1) := by decide +kernel
theorem dX5_carriedValue_47 : decode cX5_carriedValue 47 = .ok (.ireturn, 1) := by decide +kernel
theorem dX5_meanWater_0 : decode cX5_meanWater 0 = .ok (.aload_n 0, 1) := by decide +kernel
theorem dX5_meanWater_1 : decode cX5_meanWater 1 = .ok (.getfield 49, 3) := by decide +kernel
theorem dX5_meanWater_4 : decode cX5_meanWater 4 = .ok (.invokevirtual 169, 3) := by decide +kernel
theorem dX5_meanWater_7 : decode cX5_meanWater 7 = .ok (.istore_n 1, 1) := by decide +kernel
theorem dX5_meanWater_8 : decode cX5_meanWater 8 = .ok (.iload_n 1, 1) := by decide +kernel
theorem dX5_meanWater_9 : decode cX5_meanWater 9 = .ok (.ifCond .ne 5, 3) := by decide +kernel
theorem dX5_meanWater_12 : decode cX5_meanWater 12 = .ok (.dconst 0, 1) := by decide +kernel
theorem dX5_meanWater_13 : decode cX5_meanWater 13 = .ok (.dreturn, 1) := by decide +kernel
theorem dX5_meanWater_14 : decode cX5_meanWater 14 = .ok (.iconst 0, 1) := by decide +kernel
theorem dX5_meanWater_15 : decode cX5_meanWater 15 = .ok (.istore_n 2, 1) := by decide +kernel
theorem dX5_meanWater_16 : decode cX5_meanWater 16 = .ok (.iconst 0, 1) := by decide +kernel
theorem dX5_meanWater_17 : decode cX5_meanWater 17 = .ok (.istore_n 3, 1) := by decide +kernel
theorem dX5_meanWater_18 : decode cX5_meanWater 18 = .ok (.iload_n 3, 1) := by decide +kernel
theorem dX5_meanWater_19 : decode cX5_meanWater 19 = .ok (.aload_n 0, 1) := by decide +kernel
theorem dX5_meanWater_20 : decode cX5_meanWater 20 = .ok (.getfield 49, 3) := by decide +kernel
theorem dX5_meanWater_23 : decode cX5_meanWater 23 = .ok (.getfield 37, 3) := by decide +kernel
theorem dX5_meanWater_26 : decode cX5_meanWater 26 = .ok (.getfield 107, 3) := by decide +kernel
theorem dX5_meanWater_29 : decode cX5_meanWater 29 = .ok (.if_icmp .ge 32, 3) := by decide +kernel
theorem dX5_meanWater_32 : decode cX5_meanWater 32 = .ok (.aload_n 0, 1) := by decide +kernel
theorem dX5_meanWater_33 : decode cX5_meanWater 33 = .ok (.getfield 49, 3) := by decide +kernel
theorem dX5_meanWater_36 : decode cX5_meanWater 36 = .ok (.iload_n 3, 1) := by decide +kernel
theorem dX5_meanWater_37 : decode cX5_meanWater 37 = .ok (.invokevirtual 184, 3) := by decide +kernel
theorem dX5_meanWater_40 : decode cX5_meanWater 40 = .ok (.ifCond .eq 15, 3) := by decide +kernel
theorem dX5_meanWater_43 : decode cX5_meanWater 43 = .ok (.iload_n 2, 1) := by decide +kernel
theorem dX5_meanWater_44 : decode cX5_meanWater 44 = .ok (.aload_n 0, 1) := by decide +kernel
theorem dX5_meanWater_45 : decode cX5_meanWater 45 = .ok (.getfield 49, 3) := by decide +kernel
theorem dX5_meanWater_48 : decode cX5_meanWater 48 = .ok (.getfield 193, 3) := by decide +kernel
theorem dX5_meanWater_51 : decode cX5_meanWater 51 = .ok (.iload_n 3, 1) := by decide +kernel
theorem dX5_meanWater_52 : decode cX5_meanWater 52 = .ok (.iaload, 1) := by decide +kernel
theorem dX5_meanWater_53 : decode cX5_meanWater 53 = .ok (.iadd, 1) := by decide +kernel
theorem dX5_meanWater_54 : decode cX5_meanWater 54 = .ok (.istore_n 2, 1) := by decide +kernel
theorem dX5_meanWater_55 : decode cX5_meanWater 55 = .ok (.iinc 3 1, 3) := by decide +kernel
theorem dX5_meanWater_58 : decode cX5_meanWater 58 = .ok (.goto (-40), 3) := by decide +kernel
theorem dX5_meanWater_61 : decode cX5_meanWater 61 = .ok (.iload_n 2, 1) := by decide +kernel
theorem dX5_meanWater_62 : decode cX5_meanWater 62 = .ok (.i2d, 1) := by decide +kernel
theorem dX5_meanWater_63 : decode cX5_meanWater 63 = .ok (.iload_n 1, 1) := by decide +kernel
theorem dX5_meanWater_64 : decode cX5_meanWater 64 = .ok (.i2d, 1) := by decide +kernel
theorem dX5_meanWater_65 : decode cX5_meanWater 65 = .ok (.ddiv, 1) := by decide +kernel
theorem dX5_meanWater_66 : decode cX5_meanWater 66 = .ok (.dreturn, 1) := by decide +kernel
theorem dX5_progress_0 : decode cX5_progress 0 = .ok (.aload_n 0, 1) := by decide +kernel
theorem dX5_progress_1 : decode cX5_progress 1 = .ok (.getfield 49, 3) := by decide +kernel
theorem dX5_progress_4 : decode cX5_progress 4 = .ok (.getfield 37, 3) := by decide +kernel
theorem dX5_progress_7 : decode cX5_progress 7 = .ok (.getfield 115, 3) := by decide +kernel
theorem dX5_progress_10 : decode cX5_progress 10 = .ok (.ifCond .ne 5, 3) := by decide +kernel
theorem dX5_progress_13 : decode cX5_progress 13 = .ok (.fconst 0, 1) := by decide +kernel
theorem dX5_progress_14 : decode cX5_progress 14 = .ok (.freturn, 1) := by decide +kernel
theorem dX5_progress_15 : decode cX5_progress 15 = .ok (.aload_n 0, 1) := by decide +kernel
theorem dX5_progress_16 : decode cX5_progress 16 = .ok (.getfield 49, 3) := by decide +kernel
theorem dX5_progress_19 : decode cX5_progress 19 = .ok (.getfield 116, 3) := by decide +kernel
theorem dX5_progress_22 : decode cX5_progress 22 = .ok (.i2f, 1) := by decide +kernel
theorem dX5_progress_23 : decode cX5_progress 23 = .ok (.aload_n 0, 1) := by decide +kernel
theorem dX5_progress_24 : decode cX5_progress 24 = .ok (.getfield 49, 3) := by decide +kernel
theorem dX5_progress_27 : decode cX5_progress 27 = .ok (.getfield 37, 3) := by decide +kernel
theorem dX5_progress_30 : decode cX5_progress 30 = .ok (.getfield 115, 3) := by decide +kernel
theorem dX5_progress_33 : decode cX5_progress 33 = .ok (.i2f, 1) := by decide +kernel
theorem dX5_progress_34 : decode cX5_progress 34 = .ok (.fdiv, 1) := by decide +kernel
theorem dX5_progress_35 : decode cX5_progress 35 = .ok (.freturn, 1) := by decide +kernel
theorem dX5_distanceToday_0 : decode cX5_distanceToday 0 = .ok (.aload_n 0, 1) := by decide +kernel
theorem dX5_distanceToday_1 : decode cX5_distanceToday 1 = .ok (.getfield 49, 3) := by decide +kernel
theorem dX5_distanceToday_4 : decode cX5_distanceToday 4 = .ok (.invokevirtual 247, 3) := by decide +kernel
theorem dX5_distanceToday_7 : decode cX5_distanceToday 7 = .ok (.ireturn, 1) := by decide +kernel
theorem dX5_needToday_0 : decode cX5_needToday 0 = .ok (.aload_n 0, 1) := by decide +kernel
theorem dX5_needToday_1 : decode cX5_needToday 1 = .ok (.iload_n 1, 1) := by decide +kernel
theorem dX5_needToday_2 : decode cX5_needToday 2 = .ok (.invokevirtual 181, 3) := by decide +kernel
theorem dX5_needToday_5 : decode cX5_needToday 5 = .ok (.aload_n 0, 1) := by decide +kernel
theorem dX5_needToday_6 : decode cX5_needToday 6 = .ok (.getfield 49, 3) := by decide +kernel
theorem dX5_needToday_9 : decode cX5_needToday 9 = .ok (.iload_n 1, 1) := by decide +kernel
theorem dX5_needToday_10 : decode cX5_needToday 10 = .ok (.invokevirtual 184, 3) := by decide +kernel
theorem dX5_needToday_13 : decode cX5_needToday 13 = .ok (.ifCond .ne 5, 3) := by decide +kernel
theorem dX5_needToday_16 : decode cX5_needToday 16 = .ok (.iconst 0, 1) := by decide +kernel
theorem dX5_needToday_17 : decode cX5_needToday 17 = .ok (.ireturn, 1) := by decide +kernel
theorem dX5_needToday_18 : decode cX5_needToday 18 = .ok (.aload_n 0, 1) := by decide +kernel
theorem dX5_needToday_19 : decode cX5_needToday 19 = .ok (.getfield 49, 3) := by decide +kernel
theorem dX5_needToday_22 : decode cX5_needToday 22 = .ok (.iload_n 1, 1) := by decide +kernel
theorem dX5_needToday_23 : decode cX5_needToday 23 = .ok (.aload_n 0, 1) := by decide +kernel
theorem dX5_needToday_24 : decode cX5_needToday 24 = .ok (.getfield 49, 3) := by decide +kernel
theorem dX5_needToday_27 : decode cX5_needToday 27 = .ok (.getfield 37, 3) := by decide +kernel
theorem dX5_needToday_30 : decode cX5_needToday 30 = .ok (.aload_n 0, 1) := by decide +kernel
theorem dX5_needToday_31 : decode cX5_needToday 31 = .ok (.getfield 49, 3) := by decide +kernel
theorem dX5_needToday_34 : decode cX5_needToday 34 = .ok (.getfield 123, 3) := by decide +kernel
theorem dX5_needToday_37 : decode cX5_needToday 37 = .ok (.invokevirtual 128, 3) := by decide +kernel
theorem dX5_needToday_40 : decode cX5_needToday 40 = .ok (.invokevirtual 250, 3) := by decide +kernel
theorem dX5_needToday_43 : decode cX5_needToday 43 = .ok (.ireturn, 1) := by decide +kernel
theorem dX5_livingAfter_0 : decode cX5_livingAfter 0 = .ok (.iload_n 1, 1) := by decide +kernel
theorem dX5_livingAfter_1 : decode cX5_livingAfter 1 = .ok (.ifCond .lt 9, 3) := by decide +kernel
theorem dX5_livingAfter_4 : decode cX5_livingAfter 4 = .ok (.iload_n 1, 1) := by decide +kernel
theorem dX5_livingAfter_5 : decode cX5_livingAfter 5 = .ok (.bipush 50, 2) := by decide +kernel
theorem dX5_livingAfter_7 : decode cX5_livingAfter 7 = .ok (.if_icmp .le 13, 3) := by decide +kernel
theorem dX5_livingAfter_10 : decode cX5_livingAfter 10 = .ok (.new 97, 3) := by decide +kernel
theorem dX5_livingAfter_13 : decode cX5_livingAfter 13 = .ok (.dup, 1) := by decide +kernel
theorem dX5_livingAfter_14 : decode cX5_livingAfter 14 = .ok (.ldc 254, 2) := by decide +kernel
theorem dX5_livingAfter_16 : decode cX5_livingAfter 16 = .ok (.invokespecial 101, 3) := by decide +kernel
theorem dX5_livingAfter_19 : decode cX5_livingAfter 19 = .ok (.athrow, 1) := by decide +kernel
theorem dX5_livingAfter_20 : decode cX5_livingAfter 20 = .ok (.aload_n 0, 1) := by decide +kernel
theorem dX5_livingAfter_21 : decode cX5_livingAfter 21 = .ok (.getfield 55, 3) := by decide +kernel
theorem dX5_livingAfter_24 : decode cX5_livingAfter 24 = .ok (.aload_n 0, 1) := by decide +kernel
theorem dX5_livingAfter_25 : decode cX5_livingAfter 25 = .ok (.getfield 49, 3) := by decide +kernel
theorem dX5_livingAfter_28 : decode cX5_livingAfter 28 = .ok (.invokevirtual 52, 3) := by decide +kernel
theorem dX5_livingAfter_31 : decode cX5_livingAfter 31 = .ok (.iconst 0, 1) := by decide +kernel
theorem dX5_livingAfter_32 : decode cX5_livingAfter 32 = .ok (.istore_n 2, 1) := by decide +kernel
theorem dX5_livingAfter_33 : decode cX5_livingAfter 33 = .ok (.iload_n 2, 1) := by decide +kernel
theorem dX5_livingAfter_34 : decode cX5_livingAfter 34 = .ok (.iload_n 1, 1) := by decide +kernel
theorem dX5_livingAfter_35 : decode cX5_livingAfter 35 = .ok (.if_icmp .ge 27, 3) := by decide +kernel
theorem dX5_livingAfter_38 : decode cX5_livingAfter 38 = .ok (.aload_n 0, 1) := by decide +kernel
theorem dX5_livingAfter_39 : decode cX5_livingAfter 39 = .ok (.getfield 55, 3) := by decide +kernel
theorem dX5_livingAfter_42 : decode cX5_livingAfter 42 = .ok (.invokevirtual 256, 3) := by decide +kernel
theorem dX5_livingAfter_45 : decode cX5_livingAfter 45 = .ok (.ifCond .eq 17, 3) := by decide +kernel
theorem dX5_livingAfter_48 : decode cX5_livingAfter 48 = .ok (.aload_n 0, 1) := by decide +kernel
theorem dX5_livingAfter_49 : decode cX5_livingAfter 49 = .ok (.getfield 55, 3) := by decide +kernel
theorem dX5_livingAfter_52 : decode cX5_livingAfter 52 = .ok (.invokevirtual 259, 3) := by decide +kernel
theorem dX5_livingAfter_55 : decode cX5_livingAfter 55 = .ok (.pop, 1) := by decide +kernel
theorem dX5_livingAfter_56 : decode cX5_livingAfter 56 = .ok (.iinc 2 1, 3) := by decide +kernel
theorem dX5_livingAfter_59 : decode cX5_livingAfter 59 = .ok (.goto (-26), 3) := by decide +kernel
theorem dX5_livingAfter_62 : decode cX5_livingAfter 62 = .ok (.aload_n 0, 1) := by decide +kernel
theorem dX5_livingAfter_63 : decode cX5_livingAfter 63 = .ok (.getfield 55, 3) := by decide +kernel
theorem dX5_livingAfter_66 : decode cX5_livingAfter 66 = .ok (.invokevirtual 169, 3) := by decide +kernel
theorem dX5_livingAfter_69 : decode cX5_livingAfter 69 = .ok (.ireturn, 1) := by decide +kernel
theorem dX5_daysToArrival_0 : decode cX5_daysToArrival 0 = .ok (.aload_n 0, 1) := by decide +kernel
theorem dX5_daysToArrival_1 : decode cX5_daysToArrival 1 = .ok (.getfield 55, 3) := by decide +kernel
theorem dX5_daysToArrival_4 : decode cX5_daysToArrival 4 = .ok (.aload_n 0, 1) := by decide +kernel
theorem dX5_daysToArrival_5 : decode cX5_daysToArrival 5 = .ok (.getfield 49, 3) := by decide +kernel
theorem dX5_daysToArrival_8 : decode cX5_daysToArrival 8 = .ok (.invokevirtual 52, 3) := by decide +kernel
theorem dX5_daysToArrival_11 : decode cX5_daysToArrival 11 = .ok (.iconst 0, 1) := by decide +kernel
theorem dX5_daysToArrival_12 : decode cX5_daysToArrival 12 = .ok (.istore_n 1, 1) := by decide +kernel
theorem dX5_daysToArrival_13 : decode cX5_daysToArrival 13 = .ok (.iload_n 1, 1) := by decide +kernel
theorem dX5_daysToArrival_14 : decode cX5_daysToArrival 14 = .ok (.sipush 200, 3) := by decide +kernel
theorem dX5_daysToArrival_17 : decode cX5_daysToArrival 17 = .ok (.if_icmp .ge 27, 3) := by decide +kernel
theorem dX5_daysToArrival_20 : decode cX5_daysToArrival 20 = .ok (.aload_n 0, 1) := by decide +kernel
theorem dX5_daysToArrival_21 : decode cX5_daysToArrival 21 = .ok (.getfield 55, 3) := by decide +kernel
theorem dX5_daysToArrival_24 : decode cX5_daysToArrival 24 = .ok (.invokevirtual 256, 3) := by decide +kernel
theorem dX5_daysToArrival_27 : decode cX5_daysToArrival 27 = .ok (.ifCond .eq 17, 3) := by decide +kernel
theorem dX5_daysToArrival_30 : decode cX5_daysToArrival 30 = .ok (.aload_n 0, 1) := by decide +kernel
theorem dX5_daysToArrival_31 : decode cX5_daysToArrival 31 = .ok (.getfield 55, 3) := by decide +kernel
theorem dX5_daysToArrival_34 : decode cX5_daysToArrival 34 = .ok (.invokevirtual 259, 3) := by decide +kernel
theorem dX5_daysToArrival_37 : decode cX5_daysToArrival 37 = .ok (.pop, 1) := by decide +kernel
theorem dX5_daysToArrival_38 : decode cX5_daysToArrival 38 = .ok (.iinc 1 1, 3) := by decide +kernel
theorem dX5_daysToArrival_41 : decode cX5_daysToArrival 41 = .ok (.goto (-28), 3) := by decide +kernel
theorem dX5_daysToArrival_44 : decode cX5_daysToArrival 44 = .ok (.aload_n 0, 1) := by decide +kernel
theorem dX5_daysToArrival_45 : decode cX5_daysToArrival 45 = .ok (.getfield 55, 3) := by decide +kernel
theorem dX5_daysToArrival_48 : decode cX5_daysToArrival 48 = .ok (.invokevirtual 119, 3) := by decide +kernel
theorem dX5_daysToArrival_51 : decode cX5_daysToArrival 51 = .ok (.ifCond .ne 14, 3) := by decide +kernel
theorem dX5_daysToArrival_54 : decode cX5_daysToArrival 54 = .ok (.new 110, 3) := by decide +kernel
theorem dX5_daysToArrival_57 : decode cX5_daysToArrival 57 = .ok (.dup, 1) := by decide +kernel
theorem dX5_daysToArrival_58 : decode cX5_daysToArrival 58 = .ok (.ldc_w 262, 3) := by decide +kernel
theorem dX5_daysToArrival_61 : decode cX5_daysToArrival 61 = .ok (.invokespecial 114, 3) := by decide +kernel
theorem dX5_daysToArrival_64 : decode cX5_daysToArrival 64 = .ok (.athrow, 1) := by decide +kernel
theorem dX5_daysToArrival_65 : decode cX5_daysToArrival 65 = .ok (.aload_n 0, 1) := by decide +kernel
theorem dX5_daysToArrival_66 : decode cX5_daysToArrival 66 = .ok (.getfield 55, 3) := by decide +kernel
theorem dX5_daysToArrival_69 : decode cX5_daysToArrival 69 = .ok (.getfield 123, 3) := by decide +kernel
theorem dX5_daysToArrival_72 : decode cX5_daysToArrival 72 = .ok (.aload_n 0, 1) := by decide +kernel
theorem dX5_daysToArrival_73 : decode cX5_daysToArrival 73 = .ok (.getfield 49, 3) := by decide +kernel
theorem dX5_daysToArrival_76 : decode cX5_daysToArrival 76 = .ok (.getfield 123, 3) := by decide +kernel
theorem dX5_daysToArrival_79 : decode cX5_daysToArrival 79 = .ok (.isub, 1) := by decide +kernel
theorem dX5_daysToArrival_80 : decode cX5_daysToArrival 80 = .ok (.ireturn, 1) := by decide +kernel
theorem dX5_wouldDrink_0 : decode cX5_wouldDrink 0 = .ok (.aload_n 0, 1) := by decide +kernel
theorem dX5_wouldDrink_1 : decode cX5_wouldDrink 1 = .ok (.iload_n 1, 1) := by decide +kernel
theorem dX5_wouldDrink_2 : decode cX5_wouldDrink 2 = .ok (.invokevirtual 181, 3) := by decide +kernel
theorem dX5_wouldDrink_5 : decode cX5_wouldDrink 5 = .ok (.aload_n 0, 1) := by decide +kernel
theorem dX5_wouldDrink_6 : decode cX5_wouldDrink 6 = .ok (.getfield 49, 3) := by decide +kernel
theorem dX5_wouldDrink_9 : decode cX5_wouldDrink 9 = .ok (.getfield 37, 3) := by decide +kernel
theorem dX5_wouldDrink_12 : decode cX5_wouldDrink 12 = .ok (.aload_n 0, 1) := by decide +kernel
theorem dX5_wouldDrink_13 : decode cX5_wouldDrink 13 = .ok (.getfield 49, 3) := by decide +kernel
theorem dX5_wouldDrink_16 : decode cX5_wouldDrink 16 = .ok (.getfield 116, 3) := by decide +kernel
theorem dX5_wouldDrink_19 : decode cX5_wouldDrink 19 = .ok (.invokevirtual 156, 3) := by decide +kernel
theorem dX5_wouldDrink_22 : decode cX5_wouldDrink 22 = .ok (.istore_n 2, 1) := by decide +kernel
theorem dX5_wouldDrink_23 : decode cX5_wouldDrink 23 = .ok (.iload_n 2, 1) := by decide +kernel
theorem dX5_wouldDrink_24 : decode cX5_wouldDrink 24 = .ok (.iconst (-1), 1) := by decide +kernel
theorem dX5_wouldDrink_25 : decode cX5_wouldDrink 25 = .ok (.if_icmp .ne 14, 3) := by decide +kernel
theorem dX5_wouldDrink_28 : decode cX5_wouldDrink 28 = .ok (.new 87, 3) := by decide +kernel
theorem dX5_wouldDrink_31 : decode cX5_wouldDrink 31 = .ok (.dup, 1) := by decide +kernel
theorem dX5_wouldDrink_32 : decode cX5_wouldDrink 32 = .ok (.ldc_w 264, 3) := by decide +kernel
theorem dX5_wouldDrink_35 : decode cX5_wouldDrink 35 = .ok (.invokespecial 91, 3) := by decide +kernel
theorem dX5_wouldDrink_38 : decode cX5_wouldDrink 38 = .ok (.athrow, 1) := by decide +kernel
theorem dX5_wouldDrink_39 : decode cX5_wouldDrink 39 = .ok (.aload_n 0, 1) := by decide +kernel
theorem dX5_wouldDrink_40 : decode cX5_wouldDrink 40 = .ok (.getfield 49, 3) := by decide +kernel
theorem dX5_wouldDrink_43 : decode cX5_wouldDrink 43 = .ok (.iload_n 2, 1) := by decide +kernel
theorem dX5_wouldDrink_44 : decode cX5_wouldDrink 44 = .ok (.aload_n 0, 1) := by decide +kernel
theorem dX5_wouldDrink_45 : decode cX5_wouldDrink 45 = .ok (.getfield 73, 3) := by decide +kernel
theorem dX5_wouldDrink_48 : decode cX5_wouldDrink 48 = .ok (.invokevirtual 266, 3) := by decide +kernel
theorem dX5_wouldDrink_51 : decode cX5_wouldDrink 51 = .ok (.aload_n 0, 1) := by decide +kernel
theorem dX5_wouldDrink_52 : decode cX5_wouldDrink 52 = .ok (.getfield 49, 3) := by decide +kernel
theorem dX5_wouldDrink_55 : decode cX5_wouldDrink 55 = .ok (.iload_n 1, 1) := by decide +kernel
theorem dX5_wouldDrink_56 : decode cX5_wouldDrink 56 = .ok (.invokevirtual 184, 3) := by decide +kernel
theorem dX5_wouldDrink_59 : decode cX5_wouldDrink 59 = .ok (.ifCond .eq 12, 3) := by decide +kernel
theorem dX5_wouldDrink_62 : decode cX5_wouldDrink 62 = .ok (.aload_n 0, 1) := by decide +kernel
theorem dX5_wouldDrink_63 : decode cX5_wouldDrink 63 = .ok (.getfield 73, 3) := by decide +kernel
theorem dX5_wouldDrink_66 : decode cX5_wouldDrink 66 = .ok (.iload_n 1, 1) := by decide +kernel
theorem dX5_wouldDrink_67 : decode cX5_wouldDrink 67 = .ok (.iaload, 1) := by decide +kernel
theorem dX5_wouldDrink_68 : decode cX5_wouldDrink 68 = .ok (.goto 4, 3) := by decide +kernel
theorem dX5_wouldDrink_71 : decode cX5_wouldDrink 71 = .ok (.iconst 0, 1) := by decide +kernel
theorem dX5_wouldDrink_72 : decode cX5_wouldDrink 72 = .ok (.ireturn, 1) := by decide +kernel
theorem dX5_travel_0 : decode cX5_travel 0 = .ok (.aload_n 0, 1) := by decide +kernel
theorem dX5_travel_1 : decode cX5_travel 1 = .ok (.getfield 49, 3) := by decide +kernel
theorem dX5_travel_4 : decode cX5_travel 4 = .ok (.invokevirtual 256, 3) := by decide +kernel
theorem dX5_travel_7 : decode cX5_travel 7 = .ok (.ifCond .ne 14, 3) := by decide +kernel
theorem dX5_travel_10 : decode cX5_travel 10 = .ok (.new 87, 3) := by decide +kernel
theorem dX5_travel_13 : decode cX5_travel 13 = .ok (.dup, 1) := by decide +kernel
theorem dX5_travel_14 : decode cX5_travel 14 = .ok (.ldc_w 270, 3) := by decide +kernel
theorem dX5_travel_17 : decode cX5_travel 17 = .ok (.invokespecial 91, 3) := by decide +kernel
theorem dX5_travel_20 : decode cX5_travel 20 = .ok (.athrow, 1) := by decide +kernel
theorem dX5_travel_21 : decode cX5_travel 21 = .ok (.aload_n 0, 1) := by decide +kernel
theorem dX5_travel_22 : decode cX5_travel 22 = .ok (.getfield 61, 3) := by decide +kernel
theorem dX5_travel_25 : decode cX5_travel 25 = .ok (.aload_n 0, 1) := by decide +kernel
theorem dX5_travel_26 : decode cX5_travel 26 = .ok (.getfield 49, 3) := by decide +kernel
theorem dX5_travel_29 : decode cX5_travel 29 = .ok (.invokevirtual 272, 3) := by decide +kernel
theorem dX5_travel_32 : decode cX5_travel 32 = .ok (.aload_n 0, 1) := by decide +kernel
theorem dX5_travel_33 : decode cX5_travel 33 = .ok (.getfield 49, 3) := by decide +kernel
theorem dX5_travel_36 : decode cX5_travel 36 = .ok (.invokevirtual 259, 3) := by decide +kernel
theorem dX5_travel_39 : decode cX5_travel 39 = .ok (.ireturn, 1) := by decide +kernel
theorem dX5_rest_0 : decode cX5_rest 0 = .ok (.aload_n 0, 1) := by decide +kernel
theorem dX5_rest_1 : decode cX5_rest 1 = .ok (.getfield 49, 3) := by decide +kernel
theorem dX5_rest_4 : decode cX5_rest 4 = .ok (.invokevirtual 275, 3) := by decide +kernel
theorem dX5_rest_7 : decode cX5_rest 7 = .ok (.ifCond .ne 14, 3) := by decide +kernel
theorem dX5_rest_10 : decode cX5_rest 10 = .ok (.new 87, 3) := by decide +kernel
theorem dX5_rest_13 : decode cX5_rest 13 = .ok (.dup, 1) := by decide +kernel
theorem dX5_rest_14 : decode cX5_rest 14 = .ok (.ldc_w 278, 3) := by decide +kernel
theorem dX5_rest_17 : decode cX5_rest 17 = .ok (.invokespecial 91, 3) := by decide +kernel
theorem dX5_rest_20 : decode cX5_rest 20 = .ok (.athrow, 1) := by decide +kernel
theorem dX5_rest_21 : decode cX5_rest 21 = .ok (.aload_n 0, 1) := by decide +kernel
theorem dX5_rest_22 : decode cX5_rest 22 = .ok (.getfield 61, 3) := by decide +kernel
theorem dX5_rest_25 : decode cX5_rest 25 = .ok (.aload_n 0, 1) := by decide +kernel
theorem dX5_rest_26 : decode cX5_rest 26 = .ok (.getfield 49, 3) := by decide +kernel
theorem dX5_rest_29 : decode cX5_rest 29 = .ok (.invokevirtual 272, 3) := by decide +kernel
theorem dX5_rest_32 : decode cX5_rest 32 = .ok (.aload_n 0, 1) := by decide +kernel
theorem dX5_rest_33 : decode cX5_rest 33 = .ok (.getfield 49, 3) := by decide +kernel
theorem dX5_rest_36 : decode cX5_rest 36 = .ok (.invokevirtual 280, 3) := by decide +kernel
theorem dX5_rest_39 : decode cX5_rest 39 = .ok (.aload_n 0, 1) := by decide +kernel
theorem dX5_rest_40 : decode cX5_rest 40 = .ok (.getfield 49, 3) := by decide +kernel
theorem dX5_rest_43 : decode cX5_rest 43 = .ok (.invokevirtual 169, 3) := by decide +kernel
theorem dX5_rest_46 : decode cX5_rest 46 = .ok (.ireturn, 1) := by decide +kernel
theorem dX5_drink_0 : decode cX5_drink 0 = .ok (.aload_n 0, 1) := by decide +kernel
theorem dX5_drink_1 : decode cX5_drink 1 = .ok (.getfield 49, 3) := by decide +kernel
theorem dX5_drink_4 : decode cX5_drink 4 = .ok (.getfield 37, 3) := by decide +kernel
theorem dX5_drink_7 : decode cX5_drink 7 = .ok (.aload_n 0, 1) := by decide +kernel
theorem dX5_drink_8 : decode cX5_drink 8 = .ok (.getfield 49, 3) := by decide +kernel
theorem dX5_drink_11 : decode cX5_drink 11 = .ok (.getfield 116, 3) := by decide +kernel
theorem dX5_drink_14 : decode cX5_drink 14 = .ok (.invokevirtual 156, 3) := by decide +kernel
theorem dX5_drink_17 : decode cX5_drink 17 = .ok (.istore_n 1, 1) := by decide +kernel
theorem dX5_drink_18 : decode cX5_drink 18 = .ok (.iload_n 1, 1) := by decide +kernel
theorem dX5_drink_19 : decode cX5_drink 19 = .ok (.iconst (-1), 1) := by decide +kernel
theorem dX5_drink_20 : decode cX5_drink 20 = .ok (.if_icmp .ne 14, 3) := by decide +kernel
theorem dX5_drink_23 : decode cX5_drink 23 = .ok (.new 87, 3) := by decide +kernel
theorem dX5_drink_26 : decode cX5_drink 26 = .ok (.dup, 1) := by decide +kernel
theorem dX5_drink_27 : decode cX5_drink 27 = .ok (.ldc_w 264, 3) := by decide +kernel
theorem dX5_drink_30 : decode cX5_drink 30 = .ok (.invokespecial 91, 3) := by decide +kernel
theorem dX5_drink_33 : decode cX5_drink 33 = .ok (.athrow, 1) := by decide +kernel
theorem dX5_drink_34 : decode cX5_drink 34 = .ok (.aload_n 0, 1) := by decide +kernel
theorem dX5_drink_35 : decode cX5_drink 35 = .ok (.getfield 61, 3) := by decide +kernel
theorem dX5_drink_38 : decode cX5_drink 38 = .ok (.aload_n 0, 1) := by decide +kernel
theorem dX5_drink_39 : decode cX5_drink 39 = .ok (.getfield 49, 3) := by decide +kernel
theorem dX5_drink_42 : decode cX5_drink 42 = .ok (.invokevirtual 272, 3) := by decide +kernel
theorem dX5_drink_45 : decode cX5_drink 45 = .ok (.aload_n 0, 1) := by decide +kernel
theorem dX5_drink_46 : decode cX5_drink 46 = .ok (.getfield 49, 3) := by decide +kernel
theorem dX5_drink_49 : decode cX5_drink 49 = .ok (.iload_n 1, 1) := by decide +kernel
theorem dX5_drink_50 : decode cX5_drink 50 = .ok (.aload_n 0, 1) := by decide +kernel
theorem dX5_drink_51 : decode cX5_drink 51 = .ok (.getfield 73, 3) := by decide +kernel
theorem dX5_drink_54 : decode cX5_drink 54 = .ok (.invokevirtual 266, 3) := by decide +kernel
theorem dX5_drink_57 : decode cX5_drink 57 = .ok (.aload_n 0, 1) := by decide +kernel
theorem dX5_drink_58 : decode cX5_drink 58 = .ok (.getfield 49, 3) := by decide +kernel
theorem dX5_drink_61 : decode cX5_drink 61 = .ok (.iload_n 1, 1) := by decide +kernel
theorem dX5_drink_62 : decode cX5_drink 62 = .ok (.aload_n 0, 1) := by decide +kernel
theorem dX5_drink_63 : decode cX5_drink 63 = .ok (.getfield 73, 3) := by decide +kernel
theorem dX5_drink_66 : decode cX5_drink 66 = .ok (.invokevirtual 283, 3) := by decide +kernel
theorem dX5_drink_69 : decode cX5_drink 69 = .ok (.ireturn, 1) := by decide +kernel
theorem dX5_setLeader_0 : decode cX5_setLeader 0 = .ok (.aload_n 0, 1) := by decide +kernel
theorem dX5_setLeader_1 : decode cX5_setLeader 1 = .ok (.iload_n 1, 1) := by decide +kernel
theorem dX5_setLeader_2 : decode cX5_setLeader 2 = .ok (.invokevirtual 181, 3) := by decide +kernel
theorem dX5_setLeader_5 : decode cX5_setLeader 5 = .ok (.aload_n 0, 1) := by decide +kernel
theorem dX5_setLeader_6 : decode cX5_setLeader 6 = .ok (.getfield 49, 3) := by decide +kernel
theorem dX5_setLeader_9 : decode cX5_setLeader 9 = .ok (.iload_n 1, 1) := by decide +kernel
theorem dX5_setLeader_10 : decode cX5_setLeader 10 = .ok (.invokevirtual 184, 3) := by decide +kernel
theorem dX5_setLeader_13 : decode cX5_setLeader 13 = .ok (.ifCond .ne 14, 3) := by decide +kernel
theorem dX5_setLeader_16 : decode cX5_setLeader 16 = .ok (.new 87, 3) := by decide +kernel
theorem dX5_setLeader_19 : decode cX5_setLeader 19 = .ok (.dup, 1) := by decide +kernel
theorem dX5_setLeader_20 : decode cX5_setLeader 20 = .ok (.ldc_w 287, 3) := by decide +kernel
theorem dX5_setLeader_23 : decode cX5_setLeader 23 = .ok (.invokespecial 91, 3) := by decide +kernel
theorem dX5_setLeader_26 : decode cX5_setLeader 26 = .ok (.athrow, 1) := by decide +kernel
theorem dX5_setLeader_27 : decode cX5_setLeader 27 = .ok (.aload_n 0, 1) := by decide +kernel
theorem dX5_setLeader_28 : decode cX5_setLeader 28 = .ok (.getfield 61, 3) := by decide +kernel
theorem dX5_setLeader_31 : decode cX5_setLeader 31 = .ok (.aload_n 0, 1) := by decide +kernel
theorem dX5_setLeader_32 : decode cX5_setLeader 32 = .ok (.getfield 49, 3) := by decide +kernel
theorem dX5_setLeader_35 : decode cX5_setLeader 35 = .ok (.invokevirtual 272, 3) := by decide +kernel
theorem dX5_setLeader_38 : decode cX5_setLeader 38 = .ok (.aload_n 0, 1) := by decide +kernel
theorem dX5_setLeader_39 : decode cX5_setLeader 39 = .ok (.getfield 49, 3) := by decide +kernel
theorem dX5_setLeader_42 : decode cX5_setLeader 42 = .ok (.getfield 172, 3) := by decide +kernel
theorem dX5_setLeader_45 : decode cX5_setLeader 45 = .ok (.istore_n 2, 1) := by decide +kernel
theorem dX5_setLeader_46 : decode cX5_setLeader 46 = .ok (.aload_n 0, 1) := by decide +kernel
theorem dX5_setLeader_47 : decode cX5_setLeader 47 = .ok (.getfield 49, 3) := by decide +kernel
theorem dX5_setLeader_50 : decode cX5_setLeader 50 = .ok (.iload_n 1, 1) := by decide +kernel
theorem dX5_setLeader_51 : decode cX5_setLeader 51 = .ok (.putfield 172, 3) := by decide +kernel
theorem dX5_setLeader_54 : decode cX5_setLeader 54 = .ok (.iload_n 2, 1) := by decide +kernel
theorem dX5_setLeader_55 : decode cX5_setLeader 55 = .ok (.ireturn, 1) := by decide +kernel
theorem dX5_setStopping_0 : decode cX5_setStopping 0 = .ok (.aload_n 0, 1) := by decide +kernel
theorem dX5_setStopping_1 : decode cX5_setStopping 1 = .ok (.getfield 61, 3) := by decide +kernel
theorem dX5_setStopping_4 : decode cX5_setStopping 4 = .ok (.aload_n 0, 1) := by decide +kernel
theorem dX5_setStopping_5 : decode cX5_setStopping 5 = .ok (.getfield 49, 3) := by decide +kernel
theorem dX5_setStopping_8 : decode cX5_setStopping 8 = .ok (.invokevirtual 272, 3) := by decide +kernel
theorem dX5_setStopping_11 : decode cX5_setStopping 11 = .ok (.aload_n 0, 1) := by decide +kernel
theorem dX5_setStopping_12 : decode cX5_setStopping 12 = .ok (.getfield 49, 3) := by decide +kernel
theorem dX5_setStopping_15 : decode cX5_setStopping 15 = .ok (.getfield 132, 3) := by decide +kernel
theorem dX5_setStopping_18 : decode cX5_setStopping 18 = .ok (.istore_n 2, 1) := by decide +kernel
theorem dX5_setStopping_19 : decode cX5_setStopping 19 = .ok (.aload_n 0, 1) := by decide +kernel
theorem dX5_setStopping_20 : decode cX5_setStopping 20 = .ok (.getfield 49, 3) := by decide +kernel
theorem dX5_setStopping_23 : decode cX5_setStopping 23 = .ok (.iload_n 1, 1) := by decide +kernel
theorem dX5_setStopping_24 : decode cX5_setStopping 24 = .ok (.putfield 132, 3) := by decide +kernel
theorem dX5_setStopping_27 : decode cX5_setStopping 27 = .ok (.iload_n 2, 1) := by decide +kernel
theorem dX5_setStopping_28 : decode cX5_setStopping 28 = .ok (.ireturn, 1) := by decide +kernel
theorem dX5_putOn_0 : decode cX5_putOn 0 = .ok (.aload_n 0, 1) := by decide +kernel
theorem dX5_putOn_1 : decode cX5_putOn 1 = .ok (.iload_n 1, 1) := by decide +kernel
theorem dX5_putOn_2 : decode cX5_putOn 2 = .ok (.invokevirtual 230, 3) := by decide +kernel
theorem dX5_putOn_5 : decode cX5_putOn 5 = .ok (.aload_n 0, 1) := by decide +kernel
theorem dX5_putOn_6 : decode cX5_putOn 6 = .ok (.iload_n 2, 1) := by decide +kernel
theorem dX5_putOn_7 : decode cX5_putOn 7 = .ok (.invokevirtual 181, 3) := by decide +kernel
theorem dX5_putOn_10 : decode cX5_putOn 10 = .ok (.aload_n 0, 1) := by decide +kernel
theorem dX5_putOn_11 : decode cX5_putOn 11 = .ok (.getfield 49, 3) := by decide +kernel
theorem dX5_putOn_14 : decode cX5_putOn 14 = .ok (.iload_n 2, 1) := by decide +kernel
theorem dX5_putOn_15 : decode cX5_putOn 15 = .ok (.invokevirtual 184, 3) := by decide +kernel
theorem dX5_putOn_18 : decode cX5_putOn 18 = .ok (.ifCond .eq 16, 3) := by decide +kernel
theorem dX5_putOn_21 : decode cX5_putOn 21 = .ok (.aload_n 0, 1) := by decide +kernel
theorem dX5_putOn_22 : decode cX5_putOn 22 = .ok (.getfield 49, 3) := by decide +kernel
theorem dX5_putOn_25 : decode cX5_putOn 25 = .ok (.getfield 239, 3) := by decide +kernel
theorem dX5_putOn_28 : decode cX5_putOn 28 = .ok (.iload_n 1, 1) := by decide +kernel
theorem dX5_putOn_29 : decode cX5_putOn 29 = .ok (.iaload, 1) := by decide +kernel
theorem dX5_putOn_30 : decode cX5_putOn 30 = .ok (.iload_n 2, 1) := by decide +kernel
theorem dX5_putOn_31 : decode cX5_putOn 31 = .ok (.if_icmp .ne 14, 3) := by decide +kernel
theorem dX5_putOn_34 : decode cX5_putOn 34 = .ok (.new 87, 3) := by decide +kernel
theorem dX5_putOn_37 : decode cX5_putOn 37 = .ok (.dup, 1) := by decide +kernel
theorem dX5_putOn_38 : decode cX5_putOn 38 = .ok (.ldc_w 289, 3) := by decide +kernel
theorem dX5_putOn_41 : decode cX5_putOn 41 = .ok (.invokespecial 91, 3) := by decide +kernel
theorem dX5_putOn_44 : decode cX5_putOn 44 = .ok (.athrow, 1) := by decide +kernel
theorem dX5_putOn_45 : decode cX5_putOn 45 = .ok (.aload_n 0, 1) := by decide +kernel
theorem dX5_putOn_46 : decode cX5_putOn 46 = .ok (.getfield 49, 3) := by decide +kernel
theorem dX5_putOn_49 : decode cX5_putOn 49 = .ok (.iload_n 1, 1) := by decide +kernel
theorem dX5_putOn_50 : decode cX5_putOn 50 = .ok (.invokevirtual 244, 3) := by decide +kernel
theorem dX5_putOn_53 : decode cX5_putOn 53 = .ok (.aload_n 0, 1) := by decide +kernel
theorem dX5_putOn_54 : decode cX5_putOn 54 = .ok (.getfield 49, 3) := by decide +kernel
theorem dX5_putOn_57 : decode cX5_putOn 57 = .ok (.getfield 116, 3) := by decide +kernel
theorem dX5_putOn_60 : decode cX5_putOn 60 = .ok (.if_icmp .eq 14, 3) := by decide +kernel
theorem dX5_putOn_63 : decode cX5_putOn 63 = .ok (.new 87, 3) := by decide +kernel
theorem dX5_putOn_66 : decode cX5_putOn 66 = .ok (.dup, 1) := by decide +kernel
theorem dX5_putOn_67 : decode cX5_putOn 67 = .ok (.ldc_w 291, 3) := by decide +kernel
theorem dX5_putOn_70 : decode cX5_putOn 70 = .ok (.invokespecial 91, 3) := by decide +kernel
theorem dX5_putOn_73 : decode cX5_putOn 73 = .ok (.athrow, 1) := by decide +kernel
theorem dX5_putOn_74 : decode cX5_putOn 74 = .ok (.aload_n 0, 1) := by decide +kernel
theorem dX5_putOn_75 : decode cX5_putOn 75 = .ok (.getfield 49, 3) := by decide +kernel
theorem dX5_putOn_78 : decode cX5_putOn 78 = .ok (.getfield 233, 3) := by decide +kernel
theorem dX5_putOn_81 : decode cX5_putOn 81 = .ok (.iload_n 1, 1) := by decide +kernel
theorem dX5_putOn_82 : decode cX5_putOn 82 = .ok (.iaload, 1) := by decide +kernel
theorem dX5_putOn_83 : decode cX5_putOn 83 = .ok (.aload_n 0, 1) := by decide +kernel
theorem dX5_putOn_84 : decode cX5_putOn 84 = .ok (.getfield 49, 3) := by decide +kernel
theorem dX5_putOn_87 : decode cX5_putOn 87 = .ok (.iload_n 2, 1) := by decide +kernel
theorem dX5_putOn_88 : decode cX5_putOn 88 = .ok (.invokevirtual 211, 3) := by decide +kernel
theorem dX5_putOn_91 : decode cX5_putOn 91 = .ok (.if_icmp .le 14, 3) := by decide +kernel
theorem dX5_putOn_94 : decode cX5_putOn 94 = .ok (.new 87, 3) := by decide +kernel
theorem dX5_putOn_97 : decode cX5_putOn 97 = .ok (.dup, 1) := by decide +kernel
theorem dX5_putOn_98 : decode cX5_putOn 98 = .ok (.ldc_w 293, 3) := by decide +kernel
theorem dX5_putOn_101 : decode cX5_putOn 101 = .ok (.invokespecial 91, 3) := by decide +kernel
theorem dX5_putOn_104 : decode cX5_putOn 104 = .ok (.athrow, 1) := by decide +kernel
theorem dX5_putOn_105 : decode cX5_putOn 105 = .ok (.aload_n 0, 1) := by decide +kernel
theorem dX5_putOn_106 : decode cX5_putOn 106 = .ok (.getfield 61, 3) := by decide +kernel
theorem dX5_putOn_109 : decode cX5_putOn 109 = .ok (.aload_n 0, 1) := by decide +kernel
theorem dX5_putOn_110 : decode cX5_putOn 110 = .ok (.getfield 49, 3) := by decide +kernel
theorem dX5_putOn_113 : decode cX5_putOn 113 = .ok (.invokevirtual 272, 3) := by decide +kernel
theorem dX5_putOn_116 : decode cX5_putOn 116 = .ok (.aload_n 0, 1) := by decide +kernel
theorem dX5_putOn_117 : decode cX5_putOn 117 = .ok (.getfield 49, 3) := by decide +kernel
theorem dX5_putOn_120 : decode cX5_putOn 120 = .ok (.iload_n 1, 1) := by decide +kernel
theorem dX5_putOn_121 : decode cX5_putOn 121 = .ok (.invokevirtual 295, 3) := by decide +kernel
theorem dX5_putOn_124 : decode cX5_putOn 124 = .ok (.aload_n 0, 1) := by decide +kernel
theorem dX5_putOn_125 : decode cX5_putOn 125 = .ok (.getfield 49, 3) := by decide +kernel
theorem dX5_putOn_128 : decode cX5_putOn 128 = .ok (.iload_n 1, 1) := by decide +kernel
theorem dX5_putOn_129 : decode cX5_putOn 129 = .ok (.iload_n 2, 1) := by decide +kernel
theorem dX5_putOn_130 : decode cX5_putOn 130 = .ok (.invokevirtual 298, 3) := by decide +kernel
theorem dX5_putOn_133 : decode cX5_putOn 133 = .ok (.aload_n 0, 1) := by decide +kernel
theorem dX5_putOn_134 : decode cX5_putOn 134 = .ok (.getfield 49, 3) := by decide +kernel
theorem dX5_putOn_137 : decode cX5_putOn 137 = .ok (.iload_n 2, 1) := by decide +kernel
theorem dX5_putOn_138 : decode cX5_putOn 138 = .ok (.invokevirtual 211, 3) := by decide +kernel
theorem dX5_putOn_141 : decode cX5_putOn 141 = .ok (.ireturn, 1) := by decide +kernel
theorem dX5_takeOff_0 : decode cX5_takeOff 0 = .ok (.aload_n 0, 1) := by decide +kernel
theorem dX5_takeOff_1 : decode cX5_takeOff 1 = .ok (.iload_n 1, 1) := by decide +kernel
theorem dX5_takeOff_2 : decode cX5_takeOff 2 = .ok (.invokevirtual 230, 3) := by decide +kernel
theorem dX5_takeOff_5 : decode cX5_takeOff 5 = .ok (.aload_n 0, 1) := by decide +kernel
theorem dX5_takeOff_6 : decode cX5_takeOff 6 = .ok (.getfield 49, 3) := by decide +kernel
theorem dX5_takeOff_9 : decode cX5_takeOff 9 = .ok (.getfield 239, 3) := by decide +kernel
theorem dX5_takeOff_12 : decode cX5_takeOff 12 = .ok (.iload_n 1, 1) := by decide +kernel
theorem dX5_takeOff_13 : decode cX5_takeOff 13 = .ok (.iaload, 1) := by decide +kernel
theorem dX5_takeOff_14 : decode cX5_takeOff 14 = .ok (.istore_n 2, 1) := by decide +kernel
theorem dX5_takeOff_15 : decode cX5_takeOff 15 = .ok (.iload_n 2, 1) := by decide +kernel
theorem dX5_takeOff_16 : decode cX5_takeOff 16 = .ok (.iconst (-1), 1) := by decide +kernel
theorem dX5_takeOff_17 : decode cX5_takeOff 17 = .ok (.if_icmp .ne 14, 3) := by decide +kernel
theorem dX5_takeOff_20 : decode cX5_takeOff 20 = .ok (.new 87, 3) := by decide +kernel
theorem dX5_takeOff_23 : decode cX5_takeOff 23 = .ok (.dup, 1) := by decide +kernel
theorem dX5_takeOff_24 : decode cX5_takeOff 24 = .ok (.ldc_w 302, 3) := by decide +kernel
theorem dX5_takeOff_27 : decode cX5_takeOff 27 = .ok (.invokespecial 91, 3) := by decide +kernel
theorem dX5_takeOff_30 : decode cX5_takeOff 30 = .ok (.athrow, 1) := by decide +kernel
theorem dX5_takeOff_31 : decode cX5_takeOff 31 = .ok (.aload_n 0, 1) := by decide +kernel
theorem dX5_takeOff_32 : decode cX5_takeOff 32 = .ok (.getfield 61, 3) := by decide +kernel
theorem dX5_takeOff_35 : decode cX5_takeOff 35 = .ok (.aload_n 0, 1) := by decide +kernel
theorem dX5_takeOff_36 : decode cX5_takeOff 36 = .ok (.getfield 49, 3) := by decide +kernel
theorem dX5_takeOff_39 : decode cX5_takeOff 39 = .ok (.invokevirtual 272, 3) := by decide +kernel
theorem dX5_takeOff_42 : decode cX5_takeOff 42 = .ok (.aload_n 0, 1) := by decide +kernel
theorem dX5_takeOff_43 : decode cX5_takeOff 43 = .ok (.getfield 49, 3) := by decide +kernel
theorem dX5_takeOff_46 : decode cX5_takeOff 46 = .ok (.iload_n 1, 1) := by decide +kernel
theorem dX5_takeOff_47 : decode cX5_takeOff 47 = .ok (.invokevirtual 295, 3) := by decide +kernel
theorem dX5_takeOff_50 : decode cX5_takeOff 50 = .ok (.iload_n 2, 1) := by decide +kernel
theorem dX5_takeOff_51 : decode cX5_takeOff 51 = .ok (.ireturn, 1) := by decide +kernel
theorem dX5_addLoad_0 : decode cX5_addLoad 0 = .ok (.iload_n 1, 1) := by decide +kernel
theorem dX5_addLoad_1 : decode cX5_addLoad 1 = .ok (.iconst 1, 1) := by decide +kernel
theorem dX5_addLoad_2 : decode cX5_addLoad 2 = .ok (.if_icmp .lt 20, 3) := by decide +kernel
theorem dX5_addLoad_5 : decode cX5_addLoad 5 = .ok (.iload_n 1, 1) := by decide +kernel
theorem dX5_addLoad_6 : decode cX5_addLoad 6 = .ok (.bipush 99, 2) := by decide +kernel
theorem dX5_addLoad_8 : decode cX5_addLoad 8 = .ok (.if_icmp .gt 14, 3) := by decide +kernel
theorem dX5_addLoad_11 : decode cX5_addLoad 11 = .ok (.iload_n 2, 1) := by decide +kernel
theorem dX5_addLoad_12 : decode cX5_addLoad 12 = .ok (.iconst 1, 1) := by decide +kernel
theorem dX5_addLoad_13 : decode cX5_addLoad 13 = .ok (.if_icmp .lt 9, 3) := by decide +kernel
theorem dX5_addLoad_16 : decode cX5_addLoad 16 = .ok (.iload_n 2, 1) := by decide +kernel
theorem dX5_addLoad_17 : decode cX5_addLoad 17 = .ok (.bipush 99, 2) := by decide +kernel
theorem dX5_addLoad_19 : decode cX5_addLoad 19 = .ok (.if_icmp .le 14, 3) := by decide +kernel
theorem dX5_addLoad_22 : decode cX5_addLoad 22 = .ok (.new 97, 3) := by decide +kernel
theorem dX5_addLoad_25 : decode cX5_addLoad 25 = .ok (.dup, 1) := by decide +kernel
theorem dX5_addLoad_26 : decode cX5_addLoad 26 = .ok (.ldc_w 304, 3) := by decide +kernel
theorem dX5_addLoad_29 : decode cX5_addLoad 29 = .ok (.invokespecial 101, 3) := by decide +kernel
theorem dX5_addLoad_32 : decode cX5_addLoad 32 = .ok (.athrow, 1) := by decide +kernel
theorem dX5_addLoad_33 : decode cX5_addLoad 33 = .ok (.aload_n 0, 1) := by decide +kernel
theorem dX5_addLoad_34 : decode cX5_addLoad 34 = .ok (.getfield 49, 3) := by decide +kernel
theorem dX5_addLoad_37 : decode cX5_addLoad 37 = .ok (.getfield 222, 3) := by decide +kernel
theorem dX5_addLoad_40 : decode cX5_addLoad 40 = .ok (.bipush 20, 2) := by decide +kernel
theorem dX5_addLoad_42 : decode cX5_addLoad 42 = .ok (.if_icmp .lt 14, 3) := by decide +kernel
theorem dX5_addLoad_45 : decode cX5_addLoad 45 = .ok (.new 87, 3) := by decide +kernel
theorem dX5_addLoad_48 : decode cX5_addLoad 48 = .ok (.dup, 1) := by decide +kernel
theorem dX5_addLoad_49 : decode cX5_addLoad 49 = .ok (.ldc_w 306, 3) := by decide +kernel
theorem dX5_addLoad_52 : decode cX5_addLoad 52 = .ok (.invokespecial 91, 3) := by decide +kernel
theorem dX5_addLoad_55 : decode cX5_addLoad 55 = .ok (.athrow, 1) := by decide +kernel
theorem dX5_addLoad_56 : decode cX5_addLoad 56 = .ok (.aload_n 0, 1) := by decide +kernel
theorem dX5_addLoad_57 : decode cX5_addLoad 57 = .ok (.getfield 61, 3) := by decide +kernel
theorem dX5_addLoad_60 : decode cX5_addLoad 60 = .ok (.aload_n 0, 1) := by decide +kernel
theorem dX5_addLoad_61 : decode cX5_addLoad 61 = .ok (.getfield 49, 3) := by decide +kernel
theorem dX5_addLoad_64 : decode cX5_addLoad 64 = .ok (.invokevirtual 272, 3) := by decide +kernel
theorem dX5_addLoad_67 : decode cX5_addLoad 67 = .ok (.aload_n 0, 1) := by decide +kernel
theorem dX5_addLoad_68 : decode cX5_addLoad 68 = .ok (.getfield 49, 3) := by decide +kernel
theorem dX5_addLoad_71 : decode cX5_addLoad 71 = .ok (.iload_n 1, 1) := by decide +kernel
theorem dX5_addLoad_72 : decode cX5_addLoad 72 = .ok (.iload_n 2, 1) := by decide +kernel
theorem dX5_addLoad_73 : decode cX5_addLoad 73 = .ok (.invokevirtual 308, 3) := by decide +kernel
theorem dX5_addLoad_76 : decode cX5_addLoad 76 = .ok (.ireturn, 1) := by decide +kernel
theorem dX5_undo_0 : decode cX5_undo 0 = .ok (.aload_n 0, 1) := by decide +kernel
theorem dX5_undo_1 : decode cX5_undo 1 = .ok (.getfield 61, 3) := by decide +kernel
theorem dX5_undo_4 : decode cX5_undo 4 = .ok (.getfield 311, 3) := by decide +kernel
theorem dX5_undo_7 : decode cX5_undo 7 = .ok (.ifCond .ne 14, 3) := by decide +kernel
theorem dX5_undo_10 : decode cX5_undo 10 = .ok (.new 87, 3) := by decide +kernel
theorem dX5_undo_13 : decode cX5_undo 13 = .ok (.dup, 1) := by decide +kernel
theorem dX5_undo_14 : decode cX5_undo 14 = .ok (.ldc_w 314, 3) := by decide +kernel
theorem dX5_undo_17 : decode cX5_undo 17 = .ok (.invokespecial 91, 3) := by decide +kernel
theorem dX5_undo_20 : decode cX5_undo 20 = .ok (.athrow, 1) := by decide +kernel
theorem dX5_undo_21 : decode cX5_undo 21 = .ok (.aload_n 0, 1) := by decide +kernel
theorem dX5_undo_22 : decode cX5_undo 22 = .ok (.getfield 61, 3) := by decide +kernel
theorem dX5_undo_25 : decode cX5_undo 25 = .ok (.aload_n 0, 1) := by decide +kernel
theorem dX5_undo_26 : decode cX5_undo 26 = .ok (.getfield 49, 3) := by decide +kernel
theorem dX5_undo_29 : decode cX5_undo 29 = .ok (.invokevirtual 316, 3) := by decide +kernel
theorem dX5_undo_32 : decode cX5_undo 32 = .ok (.aload_n 0, 1) := by decide +kernel
theorem dX5_undo_33 : decode cX5_undo 33 = .ok (.getfield 61, 3) := by decide +kernel
theorem dX5_undo_36 : decode cX5_undo 36 = .ok (.getfield 311, 3) := by decide +kernel
theorem dX5_undo_39 : decode cX5_undo 39 = .ok (.ireturn, 1) := by decide +kernel
theorem dX5_requireSlot_0 : decode cX5_requireSlot 0 = .ok (.iload_n 1, 1) := by decide +kernel
theorem dX5_requireSlot_1 : decode cX5_requireSlot 1 = .ok (.ifCond .lt 8, 3) := by decide +kernel
theorem dX5_requireSlot_4 : decode cX5_requireSlot 4 = .ok (.iload_n 1, 1) := by decide +kernel
theorem dX5_requireSlot_5 : decode cX5_requireSlot 5 = .ok (.iconst 2, 1) := by decide +kernel
theorem dX5_requireSlot_6 : decode cX5_requireSlot 6 = .ok (.if_icmp .lt 14, 3) := by decide +kernel
theorem dX5_requireSlot_9 : decode cX5_requireSlot 9 = .ok (.new 151, 3) := by decide +kernel
theorem dX5_requireSlot_12 : decode cX5_requireSlot 12 = .ok (.dup, 1) := by decide +kernel
theorem dX5_requireSlot_13 : decode cX5_requireSlot 13 = .ok (.ldc_w 319, 3) := by decide +kernel
theorem dX5_requireSlot_16 : decode cX5_requireSlot 16 = .ok (.invokespecial 155, 3) := by decide +kernel
theorem dX5_requireSlot_19 : decode cX5_requireSlot 19 = .ok (.athrow, 1) := by decide +kernel
theorem dX5_requireSlot_20 : decode cX5_requireSlot 20 = .ok (.return_, 1) := by decide +kernel
theorem dX5_saveSnapshot_0 : decode cX5_saveSnapshot 0 = .ok (.aload_n 0, 1) := by decide +kernel
theorem dX5_saveSnapshot_1 : decode cX5_saveSnapshot 1 = .ok (.iload_n 1, 1) := by decide +kernel
theorem dX5_saveSnapshot_2 : decode cX5_saveSnapshot 2 = .ok (.invokevirtual 321, 3) := by decide +kernel
theorem dX5_saveSnapshot_5 : decode cX5_saveSnapshot 5 = .ok (.aload_n 0, 1) := by decide +kernel
theorem dX5_saveSnapshot_6 : decode cX5_saveSnapshot 6 = .ok (.getfield 65, 3) := by decide +kernel
theorem dX5_saveSnapshot_9 : decode cX5_saveSnapshot 9 = .ok (.iload_n 1, 1) := by decide +kernel
theorem dX5_saveSnapshot_10 : decode cX5_saveSnapshot 10 = .ok (.aaload, 1) := by decide +kernel
theorem dX5_saveSnapshot_11 : decode cX5_saveSnapshot 11 = .ok (.aload_n 0, 1) := by decide +kernel
theorem dX5_saveSnapshot_12 : decode cX5_saveSnapshot 12 = .ok (.getfield 49, 3) := by decide +kernel
theorem dX5_saveSnapshot_15 : decode cX5_saveSnapshot 15 = .ok (.invokevirtual 52, 3) := by decide +kernel
theorem dX5_saveSnapshot_18 : decode cX5_saveSnapshot 18 = .ok (.aload_n 0, 1) := by decide +kernel
theorem dX5_saveSnapshot_19 : decode cX5_saveSnapshot 19 = .ok (.getfield 69, 3) := by decide +kernel
theorem dX5_saveSnapshot_22 : decode cX5_saveSnapshot 22 = .ok (.iload_n 1, 1) := by decide +kernel
theorem dX5_saveSnapshot_23 : decode cX5_saveSnapshot 23 = .ok (.iconst 1, 1) := by decide +kernel
theorem dX5_saveSnapshot_24 : decode cX5_saveSnapshot 24 = .ok (.bastore, 1) := by decide +kernel
theorem dX5_saveSnapshot_25 : decode cX5_saveSnapshot 25 = .ok (.aload_n 0, 1) := by decide +kernel
theorem dX5_saveSnapshot_26 : decode cX5_saveSnapshot 26 = .ok (.getfield 49, 3) := by decide +kernel
theorem dX5_saveSnapshot_29 : decode cX5_saveSnapshot 29 = .ok (.getfield 116, 3) := by decide +kernel
theorem dX5_saveSnapshot_32 : decode cX5_saveSnapshot 32 = .ok (.ireturn, 1) := by decide +kernel
theorem dX5_restoreSnapshot_0 : decode cX5_restoreSnapshot 0 = .ok (.aload_n 0, 1) := by decide +kernel
theorem dX5_restoreSnapshot_1 : decode cX5_restoreSnapshot 1 = .ok (.iload_n 1, 1) := by decide +kernel
theorem dX5_restoreSnapshot_2 : decode cX5_restoreSnapshot 2 = .ok (.invokevirtual 321, 3) := by decide +kernel
theorem dX5_restoreSnapshot_5 : decode cX5_restoreSnapshot 5 = .ok (.aload_n 0, 1) := by decide +kernel
theorem dX5_restoreSnapshot_6 : decode cX5_restoreSnapshot 6 = .ok (.getfield 69, 3) := by decide +kernel
theorem dX5_restoreSnapshot_9 : decode cX5_restoreSnapshot 9 = .ok (.iload_n 1, 1) := by decide +kernel
theorem dX5_restoreSnapshot_10 : decode cX5_restoreSnapshot 10 = .ok (.baload, 1) := by decide +kernel
theorem dX5_restoreSnapshot_11 : decode cX5_restoreSnapshot 11 = .ok (.ifCond .ne 14, 3) := by decide +kernel
theorem dX5_restoreSnapshot_14 : decode cX5_restoreSnapshot 14 = .ok (.new 110, 3) := by decide +kernel
theorem dX5_restoreSnapshot_17 : decode cX5_restoreSnapshot 17 = .ok (.dup, 1) := by decide +kernel
theorem dX5_restoreSnapshot_18 : decode cX5_restoreSnapshot 18 = .ok (.ldc_w 324, 3) := by decide +kernel
theorem dX5_restoreSnapshot_21 : decode cX5_restoreSnapshot 21 = .ok (.invokespecial 114, 3) := by decide +kernel
theorem dX5_restoreSnapshot_24 : decode cX5_restoreSnapshot 24 = .ok (.athrow, 1) := by decide +kernel
theorem dX5_restoreSnapshot_25 : decode cX5_restoreSnapshot 25 = .ok (.aload_n 0, 1) := by decide +kernel
theorem dX5_restoreSnapshot_26 : decode cX5_restoreSnapshot 26 = .ok (.getfield 61, 3) := by decide +kernel
theorem dX5_restoreSnapshot_29 : decode cX5_restoreSnapshot 29 = .ok (.aload_n 0, 1) := by decide +kernel
theorem dX5_restoreSnapshot_30 : decode cX5_restoreSnapshot 30 = .ok (.getfield 49, 3) := by decide +kernel
theorem dX5_restoreSnapshot_33 : decode cX5_restoreSnapshot 33 = .ok (.invokevirtual 272, 3) := by decide +kernel
theorem dX5_restoreSnapshot_36 : decode cX5_restoreSnapshot 36 = .ok (.aload_n 0, 1) := by decide +kernel
theorem dX5_restoreSnapshot_37 : decode cX5_restoreSnapshot 37 = .ok (.getfield 49, 3) := by decide +kernel
theorem dX5_restoreSnapshot_40 : decode cX5_restoreSnapshot 40 = .ok (.aload_n 0, 1) := by decide +kernel
theorem dX5_restoreSnapshot_41 : decode cX5_restoreSnapshot 41 = .ok (.getfield 65, 3) := by decide +kernel
theorem dX5_restoreSnapshot_44 : decode cX5_restoreSnapshot 44 = .ok (.iload_n 1, 1) := by decide +kernel
theorem dX5_restoreSnapshot_45 : decode cX5_restoreSnapshot 45 = .ok (.aaload, 1) := by decide +kernel
theorem dX5_restoreSnapshot_46 : decode cX5_restoreSnapshot 46 = .ok (.invokevirtual 52, 3) := by decide +kernel
theorem dX5_restoreSnapshot_49 : decode cX5_restoreSnapshot 49 = .ok (.aload_n 0, 1) := by decide +kernel
theorem dX5_restoreSnapshot_50 : decode cX5_restoreSnapshot 50 = .ok (.getfield 49, 3) := by decide +kernel
theorem dX5_restoreSnapshot_53 : decode cX5_restoreSnapshot 53 = .ok (.getfield 116, 3) := by decide +kernel
theorem dX5_restoreSnapshot_56 : decode cX5_restoreSnapshot 56 = .ok (.ireturn, 1) := by decide +kernel
theorem dX5_writtenByte_0 : decode cX5_writtenByte 0 = .ok (.iload_n 1, 1) := by decide +kernel
theorem dX5_writtenByte_1 : decode cX5_writtenByte 1 = .ok (.ifCond .lt 14, 3) := by decide +kernel
theorem dX5_writtenByte_4 : decode cX5_writtenByte 4 = .ok (.iload_n 1, 1) := by decide +kernel
theorem dX5_writtenByte_5 : decode cX5_writtenByte 5 = .ok (.aload_n 0, 1) := by decide +kernel
theorem dX5_writtenByte_6 : decode cX5_writtenByte 6 = .ok (.getfield 80, 3) := by decide +kernel
theorem dX5_writtenByte_9 : decode cX5_writtenByte 9 = .ok (.getfield 329, 3) := by decide +kernel
theorem dX5_writtenByte_12 : decode cX5_writtenByte 12 = .ok (.if_icmp .lt 14, 3) := by decide +kernel
theorem dX5_writtenByte_15 : decode cX5_writtenByte 15 = .ok (.new 151, 3) := by decide +kernel
theorem dX5_writtenByte_18 : decode cX5_writtenByte 18 = .ok (.dup, 1) := by decide +kernel
theorem dX5_writtenByte_19 : decode cX5_writtenByte 19 = .ok (.ldc_w 330, 3) := by decide +kernel
theorem dX5_writtenByte_22 : decode cX5_writtenByte 22 = .ok (.invokespecial 155, 3) := by decide +kernel
theorem dX5_writtenByte_25 : decode cX5_writtenByte 25 = .ok (.athrow, 1) := by decide +kernel
theorem dX5_writtenByte_26 : decode cX5_writtenByte 26 = .ok (.aload_n 0, 1) := by decide +kernel
theorem dX5_writtenByte_27 : decode cX5_writtenByte 27 = .ok (.getfield 80, 3) := by decide +kernel
theorem dX5_writtenByte_30 : decode cX5_writtenByte 30 = .ok (.getfield 332, 3) := by decide +kernel
theorem dX5_writtenByte_33 : decode cX5_writtenByte 33 = .ok (.iload_n 1, 1) := by decide +kernel
theorem dX5_writtenByte_34 : decode cX5_writtenByte 34 = .ok (.baload, 1) := by decide +kernel
theorem dX5_writtenByte_35 : decode cX5_writtenByte 35 = .ok (.ireturn, 1) := by decide +kernel
theorem dJ0_init_81219_0 : decode cJ0_init_81219 0 = .ok (.aload_n 0, 1) := by decide +kernel
theorem dJ0_init_81219_1 : decode cJ0_init_81219 1 = .ok (.aload_n 1, 1) := by decide +kernel
theorem dJ0_init_81219_2 : decode cJ0_init_81219 2 = .ok (.aconst_null, 1) := by decide +kernel
theorem dJ0_init_81219_3 : decode cJ0_init_81219 3 = .ok (.invokespecial 489, 3) := by decide +kernel
theorem dJ0_init_81219_6 : decode cJ0_init_81219 6 = .ok (.return_, 1) := by decide +kernel
theorem dJ0_length_8abf5_0 : decode cJ0_length_8abf5 0 = .ok (.aload_n 0, 1) := by decide +kernel
theorem dJ0_length_8abf5_1 : decode cJ0_length_8abf5 1 = .ok (.getfield 9, 3) := by decide +kernel
theorem dJ0_length_8abf5_4 : decode cJ0_length_8abf5 4 = .ok (.arraylength, 1) := by decide +kernel
theorem dJ0_length_8abf5_5 : decode cJ0_length_8abf5 5 = .ok (.aload_n 0, 1) := by decide +kernel
theorem dJ0_length_8abf5_6 : decode cJ0_length_8abf5 6 = .ok (.invokevirtual 335, 3) := by decide +kernel
theorem dJ0_length_8abf5_9 : decode cJ0_length_8abf5 9 = .ok (.ishr, 1) := by decide +kernel
theorem dJ0_length_8abf5_10 : decode cJ0_length_8abf5 10 = .ok (.ireturn, 1) := by decide +kernel
theorem dJ0_charAt_5068e_0 : decode cJ0_charAt_5068e 0 = .ok (.aload_n 0, 1) := by decide +kernel
theorem dJ0_charAt_5068e_1 : decode cJ0_charAt_5068e 1 = .ok (.invokevirtual 492, 3) := by decide +kernel
theorem dJ0_charAt_5068e_4 : decode cJ0_charAt_5068e 4 = .ok (.ifCond .eq 12, 3) := by decide +kernel
theorem dJ0_charAt_5068e_7 : decode cJ0_charAt_5068e 7 = .ok (.aload_n 0, 1) := by decide +kernel
theorem dJ0_charAt_5068e_8 : decode cJ0_charAt_5068e 8 = .ok (.getfield 9, 3) := by decide +kernel
theorem dJ0_charAt_5068e_11 : decode cJ0_charAt_5068e 11 = .ok (.iload_n 1, 1) := by decide +kernel
theorem dJ0_charAt_5068e_12 : decode cJ0_charAt_5068e 12 = .ok (.invokestatic 495, 3) := by decide +kernel
theorem dJ0_charAt_5068e_15 : decode cJ0_charAt_5068e 15 = .ok (.ireturn, 1) := by decide +kernel
theorem dJ0_charAt_5068e_16 : decode cJ0_charAt_5068e 16 = .ok (.aload_n 0, 1) := by decide +kernel
theorem dJ0_charAt_5068e_17 : decode cJ0_charAt_5068e 17 = .ok (.getfield 9, 3) := by decide +kernel
theorem dJ0_charAt_5068e_20 : decode cJ0_charAt_5068e 20 = .ok (.iload_n 1, 1) := by decide +kernel
theorem dJ0_charAt_5068e_21 : decode cJ0_charAt_5068e 21 = .ok (.invokestatic 498, 3) := by decide +kernel
theorem dJ0_charAt_5068e_24 : decode cJ0_charAt_5068e 24 = .ok (.ireturn, 1) := by decide +kernel
theorem dJ0_getBytes_840e7_0 : decode cJ0_getBytes_840e7 0 = .ok (.aload_n 0, 1) := by decide +kernel
theorem dJ0_getBytes_840e7_1 : decode cJ0_getBytes_840e7 1 = .ok (.invokevirtual 335, 3) := by decide +kernel
theorem dJ0_getBytes_840e7_4 : decode cJ0_getBytes_840e7 4 = .ok (.iload_n 3, 1) := by decide +kernel
theorem dJ0_getBytes_840e7_5 : decode cJ0_getBytes_840e7 5 = .ok (.if_icmp .ne 23, 3) := by decide +kernel
theorem dJ0_getBytes_840e7_8 : decode cJ0_getBytes_840e7 8 = .ok (.aload_n 0, 1) := by decide +kernel
theorem dJ0_getBytes_840e7_9 : decode cJ0_getBytes_840e7 9 = .ok (.getfield 9, 3) := by decide +kernel
theorem dJ0_getBytes_840e7_12 : decode cJ0_getBytes_840e7 12 = .ok (.iconst 0, 1) := by decide +kernel
theorem dJ0_getBytes_840e7_13 : decode cJ0_getBytes_840e7 13 = .ok (.aload_n 1, 1) := by decide +kernel
theorem dJ0_getBytes_840e7_14 : decode cJ0_getBytes_840e7 14 = .ok (.iload_n 2, 1) := by decide +kernel
theorem dJ0_getBytes_840e7_15 : decode cJ0_getBytes_840e7 15 = .ok (.iload_n 3, 1) := by decide +kernel
theorem dJ0_getBytes_840e7_16 : decode cJ0_getBytes_840e7 16 = .ok (.ishl, 1) := by decide +kernel
theorem dJ0_getBytes_840e7_17 : decode cJ0_getBytes_840e7 17 = .ok (.aload_n 0, 1) := by decide +kernel
theorem dJ0_getBytes_840e7_18 : decode cJ0_getBytes_840e7 18 = .ok (.getfield 9, 3) := by decide +kernel
theorem dJ0_getBytes_840e7_21 : decode cJ0_getBytes_840e7 21 = .ok (.arraylength, 1) := by decide +kernel
theorem dJ0_getBytes_840e7_22 : decode cJ0_getBytes_840e7 22 = .ok (.invokestatic 212, 3) := by decide +kernel
theorem dJ0_getBytes_840e7_25 : decode cJ0_getBytes_840e7 25 = .ok (.goto 18, 3) := by decide +kernel
theorem dJ0_getBytes_840e7_28 : decode cJ0_getBytes_840e7 28 = .ok (.aload_n 0, 1) := by decide +kernel
theorem dJ0_getBytes_840e7_29 : decode cJ0_getBytes_840e7 29 = .ok (.getfield 9, 3) := by decide +kernel
theorem dJ0_getBytes_840e7_32 : decode cJ0_getBytes_840e7 32 = .ok (.iconst 0, 1) := by decide +kernel
theorem dJ0_getBytes_840e7_33 : decode cJ0_getBytes_840e7 33 = .ok (.aload_n 1, 1) := by decide +kernel
theorem dJ0_getBytes_840e7_34 : decode cJ0_getBytes_840e7 34 = .ok (.iload_n 2, 1) := by decide +kernel
theorem dJ0_getBytes_840e7_35 : decode cJ0_getBytes_840e7 35 = .ok (.aload_n 0, 1) := by decide +kernel
theorem dJ0_getBytes_840e7_36 : decode cJ0_getBytes_840e7 36 = .ok (.getfield 9, 3) := by decide +kernel
theorem dJ0_getBytes_840e7_39 : decode cJ0_getBytes_840e7 39 = .ok (.arraylength, 1) := by decide +kernel
theorem dJ0_getBytes_840e7_40 : decode cJ0_getBytes_840e7 40 = .ok (.invokestatic 106, 3) := by decide +kernel
theorem dJ0_getBytes_840e7_43 : decode cJ0_getBytes_840e7 43 = .ok (.return_, 1) := by decide +kernel
theorem dJ0_init_db425_0 : decode cJ0_init_db425 0 = .ok (.aload_n 0, 1) := by decide +kernel
theorem dJ0_init_db425_1 : decode cJ0_init_db425 1 = .ok (.invokespecial 1, 3) := by decide +kernel
theorem dJ0_init_db425_4 : decode cJ0_init_db425 4 = .ok (.aload_n 1, 1) := by decide +kernel
theorem dJ0_init_db425_5 : decode cJ0_init_db425 5 = .ok (.invokevirtual 552, 3) := by decide +kernel
theorem dJ0_init_db425_8 : decode cJ0_init_db425 8 = .ok (.astore_n 3, 1) := by decide +kernel
theorem dJ0_init_db425_9 : decode cJ0_init_db425 9 = .ok (.aload_n 1, 1) := by decide +kernel
theorem dJ0_init_db425_10 : decode cJ0_init_db425 10 = .ok (.invokevirtual 549, 3) := by decide +kernel
theorem dJ0_init_db425_13 : decode cJ0_init_db425 13 = .ok (.istore 4, 2) := by decide +kernel
theorem dJ0_init_db425_15 : decode cJ0_init_db425 15 = .ok (.aload_n 1, 1) := by decide +kernel
theorem dJ0_init_db425_16 : decode cJ0_init_db425 16 = .ok (.invokevirtual 1047, 3) := by decide +kernel
theorem dJ0_init_db425_19 : decode cJ0_init_db425 19 = .ok (.ifCond .eq 22, 3) := by decide +kernel
theorem dJ0_init_db425_22 : decode cJ0_init_db425 22 = .ok (.aload_n 0, 1) := by decide +kernel
theorem dJ0_init_db425_23 : decode cJ0_init_db425 23 = .ok (.iconst 0, 1) := by decide +kernel
theorem dJ0_init_db425_24 : decode cJ0_init_db425 24 = .ok (.putfield 15, 3) := by decide +kernel
theorem dJ0_init_db425_27 : decode cJ0_init_db425 27 = .ok (.aload_n 0, 1) := by decide +kernel
theorem dJ0_init_db425_28 : decode cJ0_init_db425 28 = .ok (.aload_n 3, 1) := by decide +kernel
theorem dJ0_init_db425_29 : decode cJ0_init_db425 29 = .ok (.iconst 0, 1) := by decide +kernel
theorem dJ0_init_db425_30 : decode cJ0_init_db425 30 = .ok (.iload 4, 2) := by decide +kernel
theorem dJ0_init_db425_32 : decode cJ0_init_db425 32 = .ok (.invokestatic 54, 3) := by decide +kernel
theorem dJ0_init_db425_35 : decode cJ0_init_db425 35 = .ok (.putfield 9, 3) := by decide +kernel
theorem dJ0_init_db425_38 : decode cJ0_init_db425 38 = .ok (.goto 59, 3) := by decide +kernel
theorem dJ0_init_db425_41 : decode cJ0_init_db425 41 = .ok (.getstatic 38, 3) := by decide +kernel
theorem dJ0_init_db425_44 : decode cJ0_init_db425 44 = .ok (.ifCond .eq 35, 3) := by decide +kernel
theorem dJ0_init_db425_47 : decode cJ0_init_db425 47 = .ok (.aload_n 1, 1) := by decide +kernel
theorem dJ0_init_db425_48 : decode cJ0_init_db425 48 = .ok (.getfield 1048, 3) := by decide +kernel
theorem dJ0_init_db425_51 : decode cJ0_init_db425 51 = .ok (.ifCond .eq 28, 3) := by decide +kernel
theorem dJ0_init_db425_54 : decode cJ0_init_db425 54 = .ok (.aload_n 0, 1) := by decide +kernel
theorem dJ0_init_db425_55 : decode cJ0_init_db425 55 = .ok (.aload_n 3, 1) := by decide +kernel
theorem dJ0_init_db425_56 : decode cJ0_init_db425 56 = .ok (.iconst 0, 1) := by decide +kernel
theorem dJ0_init_db425_57 : decode cJ0_init_db425 57 = .ok (.iload 4, 2) := by decide +kernel
theorem dJ0_init_db425_59 : decode cJ0_init_db425 59 = .ok (.invokestatic 1051, 3) := by decide +kernel
theorem dJ0_init_db425_62 : decode cJ0_init_db425 62 = .ok (.putfield 9, 3) := by decide +kernel
theorem dJ0_init_db425_65 : decode cJ0_init_db425 65 = .ok (.aload_n 0, 1) := by decide +kernel
theorem dJ0_init_db425_66 : decode cJ0_init_db425 66 = .ok (.aload_n 0, 1) := by decide +kernel
theorem dJ0_init_db425_67 : decode cJ0_init_db425 67 = .ok (.getfield 9, 3) := by decide +kernel
theorem dJ0_init_db425_70 : decode cJ0_init_db425 70 = .ok (.iload 4, 2) := by decide +kernel
theorem dJ0_init_db425_72 : decode cJ0_init_db425 72 = .ok (.invokestatic 47, 3) := by decide +kernel
theorem dJ0_init_db425_75 : decode cJ0_init_db425 75 = .ok (.putfield 15, 3) := by decide +kernel
theorem dJ0_init_db425_78 : decode cJ0_init_db425 78 = .ok (.return_, 1) := by decide +kernel
theorem dJ0_init_db425_79 : decode cJ0_init_db425 79 = .ok (.aload_n 0, 1) := by decide +kernel
theorem dJ0_init_db425_80 : decode cJ0_init_db425 80 = .ok (.iconst 1, 1) := by decide +kernel
theorem dJ0_init_db425_81 : decode cJ0_init_db425 81 = .ok (.putfield 15, 3) := by decide +kernel
theorem dJ0_init_db425_84 : decode cJ0_init_db425 84 = .ok (.aload_n 0, 1) := by decide +kernel
theorem dJ0_init_db425_85 : decode cJ0_init_db425 85 = .ok (.aload_n 3, 1) := by decide +kernel
theorem dJ0_init_db425_86 : decode cJ0_init_db425 86 = .ok (.iconst 0, 1) := by decide +kernel
theorem dJ0_init_db425_87 : decode cJ0_init_db425 87 = .ok (.iload 4, 2) := by decide +kernel
theorem dJ0_init_db425_89 : decode cJ0_init_db425 89 = .ok (.iconst 1, 1) := by decide +kernel
theorem dJ0_init_db425_90 : decode cJ0_init_db425 90 = .ok (.ishl, 1) := by decide +kernel
theorem dJ0_init_db425_91 : decode cJ0_init_db425 91 = .ok (.invokestatic 54, 3) := by decide +kernel
theorem dJ0_init_db425_94 : decode cJ0_init_db425 94 = .ok (.putfield 9, 3) := by decide +kernel
theorem dJ0_init_db425_97 : decode cJ0_init_db425 97 = .ok (.return_, 1) := by decide +kernel
theorem dJ0_coder_7d493_0 : decode cJ0_coder_7d493 0 = .ok (.getstatic 38, 3) := by decide +kernel
theorem dJ0_coder_7d493_3 : decode cJ0_coder_7d493 3 = .ok (.ifCond .eq 10, 3) := by decide +kernel
theorem dJ0_coder_7d493_6 : decode cJ0_coder_7d493 6 = .ok (.aload_n 0, 1) := by decide +kernel
theorem dJ0_coder_7d493_7 : decode cJ0_coder_7d493 7 = .ok (.getfield 15, 3) := by decide +kernel
theorem dJ0_coder_7d493_10 : decode cJ0_coder_7d493 10 = .ok (.goto 4, 3) := by decide +kernel
theorem dJ0_coder_7d493_13 : decode cJ0_coder_7d493 13 = .ok (.iconst 1, 1) := by decide +kernel
theorem dJ0_coder_7d493_14 : decode cJ0_coder_7d493 14 = .ok (.ireturn, 1) := by decide +kernel
theorem dJ0_isLatin1_aae02_0 : decode cJ0_isLatin1_aae02 0 = .ok (.getstatic 38, 3) := by decide +kernel
theorem dJ0_isLatin1_aae02_3 : decode cJ0_isLatin1_aae02 3 = .ok (.ifCond .eq 14, 3) := by decide +kernel
theorem dJ0_isLatin1_aae02_6 : decode cJ0_isLatin1_aae02 6 = .ok (.aload_n 0, 1) := by decide +kernel
theorem dJ0_isLatin1_aae02_7 : decode cJ0_isLatin1_aae02 7 = .ok (.getfield 15, 3) := by decide +kernel
theorem dJ0_isLatin1_aae02_10 : decode cJ0_isLatin1_aae02 10 = .ok (.ifCond .ne 7, 3) := by decide +kernel
theorem dJ0_isLatin1_aae02_13 : decode cJ0_isLatin1_aae02 13 = .ok (.iconst 1, 1) := by decide +kernel
theorem dJ0_isLatin1_aae02_14 : decode cJ0_isLatin1_aae02 14 = .ok (.goto 4, 3) := by decide +kernel
theorem dJ0_isLatin1_aae02_17 : decode cJ0_isLatin1_aae02 17 = .ok (.iconst 0, 1) := by decide +kernel
theorem dJ0_isLatin1_aae02_18 : decode cJ0_isLatin1_aae02 18 = .ok (.ireturn, 1) := by decide +kernel
theorem dJ0_checkIndex_df160_0 : decode cJ0_checkIndex_df160 0 = .ok (.iload_n 0, 1) := by decide +kernel
theorem dJ0_checkIndex_df160_1 : decode cJ0_checkIndex_df160 1 = .ok (.iload_n 1, 1) := by decide +kernel
theorem dJ0_checkIndex_df160_2 : decode cJ0_checkIndex_df160 2 = .ok (.getstatic 1053, 3) := by decide +kernel
theorem dJ0_checkIndex_df160_5 : decode cJ0_checkIndex_df160 5 = .ok (.invokestatic 1059, 3) := by decide +kernel
theorem dJ0_checkIndex_df160_8 : decode cJ0_checkIndex_df160 8 = .ok (.pop, 1) := by decide +kernel
theorem dJ0_checkIndex_df160_9 : decode cJ0_checkIndex_df160 9 = .ok (.return_, 1) := by decide +kernel
theorem dJ0_checkBoundsOffCount_cabcc_0 : decode cJ0_checkBoundsOffCount_cabcc 0 = .ok (.iload_n 0, 1) := by decide +kernel
theorem dJ0_checkBoundsOffCount_cabcc_1 : decode cJ0_checkBoundsOffCount_cabcc 1 = .ok (.iload_n 1, 1) := by decide +kernel
theorem dJ0_checkBoundsOffCount_cabcc_2 : decode cJ0_checkBoundsOffCount_cabcc 2 = .ok (.iload_n 2, 1) := by decide +kernel
theorem dJ0_checkBoundsOffCount_cabcc_3 : decode cJ0_checkBoundsOffCount_cabcc 3 = .ok (.getstatic 1053, 3) := by decide +kernel
theorem dJ0_checkBoundsOffCount_cabcc_6 : decode cJ0_checkBoundsOffCount_cabcc 6 = .ok (.invokestatic 1065, 3) := by decide +kernel
theorem dJ0_checkBoundsOffCount_cabcc_9 : decode cJ0_checkBoundsOffCount_cabcc 9 = .ok (.ireturn, 1) := by decide +kernel
theorem dJ0_checkBoundsBeginEnd_23922_0 : decode cJ0_checkBoundsBeginEnd_23922 0 = .ok (.iload_n 0, 1) := by decide +kernel
theorem dJ0_checkBoundsBeginEnd_23922_1 : decode cJ0_checkBoundsBeginEnd_23922 1 = .ok (.iload_n 1, 1) := by decide +kernel
theorem dJ0_checkBoundsBeginEnd_23922_2 : decode cJ0_checkBoundsBeginEnd_23922 2 = .ok (.iload_n 2, 1) := by decide +kernel
theorem dJ0_checkBoundsBeginEnd_23922_3 : decode cJ0_checkBoundsBeginEnd_23922 3 = .ok (.getstatic 1053, 3) := by decide +kernel
theorem dJ0_checkBoundsBeginEnd_23922_6 : decode cJ0_checkBoundsBeginEnd_23922 6 = .ok (.invokestatic 1062, 3) := by decide +kernel
theorem dJ0_checkBoundsBeginEnd_23922_9 : decode cJ0_checkBoundsBeginEnd_23922 9 = .ok (.pop, 1) := by decide +kernel
theorem dJ0_checkBoundsBeginEnd_23922_10 : decode cJ0_checkBoundsBeginEnd_23922 10 = .ok (.return_, 1) := by decide +kernel
theorem dJ1_charAt_3b067_0 : decode cJ1_charAt_3b067 0 = .ok (.iload_n 1, 1) := by decide +kernel
theorem dJ1_charAt_3b067_1 : decode cJ1_charAt_3b067 1 = .ok (.aload_n 0, 1) := by decide +kernel
theorem dJ1_charAt_3b067_2 : decode cJ1_charAt_3b067 2 = .ok (.arraylength, 1) := by decide +kernel
theorem dJ1_charAt_3b067_3 : decode cJ1_charAt_3b067 3 = .ok (.invokestatic 9, 3) := by decide +kernel
theorem dJ1_charAt_3b067_6 : decode cJ1_charAt_3b067 6 = .ok (.aload_n 0, 1) := by decide +kernel
theorem dJ1_charAt_3b067_7 : decode cJ1_charAt_3b067 7 = .ok (.iload_n 1, 1) := by decide +kernel
theorem dJ1_charAt_3b067_8 : decode cJ1_charAt_3b067 8 = .ok (.baload, 1) := by decide +kernel
theorem dJ1_charAt_3b067_9 : decode cJ1_charAt_3b067 9 = .ok (.sipush 255, 3) := by decide +kernel
theorem dJ1_charAt_3b067_12 : decode cJ1_charAt_3b067 12 = .ok (.iand, 1) := by decide +kernel
theorem dJ1_charAt_3b067_13 : decode cJ1_charAt_3b067 13 = .ok (.i2c, 1) := by decide +kernel
theorem dJ1_charAt_3b067_14 : decode cJ1_charAt_3b067 14 = .ok (.ireturn, 1) := by decide +kernel
theorem dJ1_canEncode_fc78d_0 : decode cJ1_canEncode_fc78d 0 = .ok (.iload_n 0, 1) := by decide +kernel
theorem dJ1_canEncode_fc78d_1 : decode cJ1_canEncode_fc78d 1 = .ok (.sipush 255, 3) := by decide +kernel
theorem dJ1_canEncode_fc78d_4 : decode cJ1_canEncode_fc78d 4 = .ok (.if_icmp .gt 7, 3) := by decide +kernel
theorem dJ1_canEncode_fc78d_7 : decode cJ1_canEncode_fc78d 7 = .ok (.iconst 1, 1) := by decide +kernel
theorem dJ1_canEncode_fc78d_8 : decode cJ1_canEncode_fc78d 8 = .ok (.goto 4, 3) := by decide +kernel
theorem dJ1_canEncode_fc78d_11 : decode cJ1_canEncode_fc78d 11 = .ok (.iconst 0, 1) := by decide +kernel
theorem dJ1_canEncode_fc78d_12 : decode cJ1_canEncode_fc78d 12 = .ok (.ireturn, 1) := by decide +kernel
theorem dJ1_inflate_0e8fd_0 : decode cJ1_inflate_0e8fd 0 = .ok (.aload_n 0, 1) := by decide +kernel
theorem dJ1_inflate_0e8fd_1 : decode cJ1_inflate_0e8fd 1 = .ok (.iload_n 1, 1) := by decide +kernel
theorem dJ1_inflate_0e8fd_2 : decode cJ1_inflate_0e8fd 2 = .ok (.aload_n 2, 1) := by decide +kernel
theorem dJ1_inflate_0e8fd_3 : decode cJ1_inflate_0e8fd 3 = .ok (.iload_n 3, 1) := by decide +kernel
theorem dJ1_inflate_0e8fd_4 : decode cJ1_inflate_0e8fd 4 = .ok (.iload 4, 2) := by decide +kernel
theorem dJ1_inflate_0e8fd_6 : decode cJ1_inflate_0e8fd 6 = .ok (.invokestatic 240, 3) := by decide +kernel
theorem dJ1_inflate_0e8fd_9 : decode cJ1_inflate_0e8fd 9 = .ok (.return_, 1) := by decide +kernel
theorem dJ3_checkIndex_8e157_0 : decode cJ3_checkIndex_8e157 0 = .ok (.iload_n 0, 1) := by decide +kernel
theorem dJ3_checkIndex_8e157_1 : decode cJ3_checkIndex_8e157 1 = .ok (.ifCond .lt 8, 3) := by decide +kernel
theorem dJ3_checkIndex_8e157_4 : decode cJ3_checkIndex_8e157 4 = .ok (.iload_n 0, 1) := by decide +kernel
theorem dJ3_checkIndex_8e157_5 : decode cJ3_checkIndex_8e157 5 = .ok (.iload_n 1, 1) := by decide +kernel
theorem dJ3_checkIndex_8e157_6 : decode cJ3_checkIndex_8e157 6 = .ok (.if_icmp .lt 10, 3) := by decide +kernel
theorem dJ3_checkIndex_8e157_9 : decode cJ3_checkIndex_8e157 9 = .ok (.aload_n 2, 1) := by decide +kernel
theorem dJ3_checkIndex_8e157_10 : decode cJ3_checkIndex_8e157 10 = .ok (.iload_n 0, 1) := by decide +kernel
theorem dJ3_checkIndex_8e157_11 : decode cJ3_checkIndex_8e157 11 = .ok (.iload_n 1, 1) := by decide +kernel
theorem dJ3_checkIndex_8e157_12 : decode cJ3_checkIndex_8e157 12 = .ok (.invokestatic 95, 3) := by decide +kernel
theorem dJ3_checkIndex_8e157_15 : decode cJ3_checkIndex_8e157 15 = .ok (.athrow, 1) := by decide +kernel
theorem dJ3_checkIndex_8e157_16 : decode cJ3_checkIndex_8e157 16 = .ok (.iload_n 0, 1) := by decide +kernel
theorem dJ3_checkIndex_8e157_17 : decode cJ3_checkIndex_8e157 17 = .ok (.ireturn, 1) := by decide +kernel
theorem dJ3_checkFromToIndex_8c36e_0 : decode cJ3_checkFromToIndex_8c36e 0 = .ok (.iload_n 0, 1) := by decide +kernel
theorem dJ3_checkFromToIndex_8c36e_1 : decode cJ3_checkFromToIndex_8c36e 1 = .ok (.ifCond .lt 13, 3) := by decide +kernel
theorem dJ3_checkFromToIndex_8c36e_4 : decode cJ3_checkFromToIndex_8c36e 4 = .ok (.iload_n 0, 1) := by decide +kernel
theorem dJ3_checkFromToIndex_8c36e_5 : decode cJ3_checkFromToIndex_8c36e 5 = .ok (.iload_n 1, 1) := by decide +kernel
theorem dJ3_checkFromToIndex_8c36e_6 : decode cJ3_checkFromToIndex_8c36e 6 = .ok (.if_icmp .gt 8, 3) := by decide +kernel
theorem dJ3_checkFromToIndex_8c36e_9 : decode cJ3_checkFromToIndex_8c36e 9 = .ok (.iload_n 1, 1) := by decide +kernel
theorem dJ3_checkFromToIndex_8c36e_10 : decode cJ3_checkFromToIndex_8c36e 10 = .ok (.iload_n 2, 1) := by decide +kernel
theorem dJ3_checkFromToIndex_8c36e_11 : decode cJ3_checkFromToIndex_8c36e 11 = .ok (.if_icmp .le 11, 3) := by decide +kernel
theorem dJ3_checkFromToIndex_8c36e_14 : decode cJ3_checkFromToIndex_8c36e 14 = .ok (.aload_n 3, 1) := by decide +kernel
theorem dJ3_checkFromToIndex_8c36e_15 : decode cJ3_checkFromToIndex_8c36e 15 = .ok (.iload_n 0, 1) := by decide +kernel
theorem dJ3_checkFromToIndex_8c36e_16 : decode cJ3_checkFromToIndex_8c36e 16 = .ok (.iload_n 1, 1) := by decide +kernel
theorem dJ3_checkFromToIndex_8c36e_17 : decode cJ3_checkFromToIndex_8c36e 17 = .ok (.iload_n 2, 1) := by decide +kernel
theorem dJ3_checkFromToIndex_8c36e_18 : decode cJ3_checkFromToIndex_8c36e 18 = .ok (.invokestatic 99, 3) := by decide +kernel
theorem dJ3_checkFromToIndex_8c36e_21 : decode cJ3_checkFromToIndex_8c36e 21 = .ok (.athrow, 1) := by decide +kernel
theorem dJ3_checkFromToIndex_8c36e_22 : decode cJ3_checkFromToIndex_8c36e 22 = .ok (.iload_n 0, 1) := by decide +kernel
theorem dJ3_checkFromToIndex_8c36e_23 : decode cJ3_checkFromToIndex_8c36e 23 = .ok (.ireturn, 1) := by decide +kernel
theorem dJ3_checkFromIndexSize_8c36e_0 : decode cJ3_checkFromIndexSize_8c36e 0 = .ok (.iload_n 2, 1) := by decide +kernel
theorem dJ3_checkFromIndexSize_8c36e_1 : decode cJ3_checkFromIndexSize_8c36e 1 = .ok (.iload_n 0, 1) := by decide +kernel
theorem dJ3_checkFromIndexSize_8c36e_2 : decode cJ3_checkFromIndexSize_8c36e 2 = .ok (.ior, 1) := by decide +kernel
theorem dJ3_checkFromIndexSize_8c36e_3 : decode cJ3_checkFromIndexSize_8c36e 3 = .ok (.iload_n 1, 1) := by decide +kernel
theorem dJ3_checkFromIndexSize_8c36e_4 : decode cJ3_checkFromIndexSize_8c36e 4 = .ok (.ior, 1) := by decide +kernel
theorem dJ3_checkFromIndexSize_8c36e_5 : decode cJ3_checkFromIndexSize_8c36e 5 = .ok (.ifCond .lt 10, 3) := by decide +kernel
theorem dJ3_checkFromIndexSize_8c36e_8 : decode cJ3_checkFromIndexSize_8c36e 8 = .ok (.iload_n 1, 1) := by decide +kernel
theorem dJ3_checkFromIndexSize_8c36e_9 : decode cJ3_checkFromIndexSize_8c36e 9 = .ok (.iload_n 2, 1) := by decide +kernel
theorem dJ3_checkFromIndexSize_8c36e_10 : decode cJ3_checkFromIndexSize_8c36e 10 = .ok (.iload_n 0, 1) := by decide +kernel
theorem dJ3_checkFromIndexSize_8c36e_11 : decode cJ3_checkFromIndexSize_8c36e 11 = .ok (.isub, 1) := by decide +kernel
theorem dJ3_checkFromIndexSize_8c36e_12 : decode cJ3_checkFromIndexSize_8c36e 12 = .ok (.if_icmp .le 11, 3) := by decide +kernel
theorem dJ3_checkFromIndexSize_8c36e_15 : decode cJ3_checkFromIndexSize_8c36e 15 = .ok (.aload_n 3, 1) := by decide +kernel
theorem dJ3_checkFromIndexSize_8c36e_16 : decode cJ3_checkFromIndexSize_8c36e 16 = .ok (.iload_n 0, 1) := by decide +kernel
theorem dJ3_checkFromIndexSize_8c36e_17 : decode cJ3_checkFromIndexSize_8c36e 17 = .ok (.iload_n 1, 1) := by decide +kernel
theorem dJ3_checkFromIndexSize_8c36e_18 : decode cJ3_checkFromIndexSize_8c36e 18 = .ok (.iload_n 2, 1) := by decide +kernel
theorem dJ3_checkFromIndexSize_8c36e_19 : decode cJ3_checkFromIndexSize_8c36e 19 = .ok (.invokestatic 103, 3) := by decide +kernel
theorem dJ3_checkFromIndexSize_8c36e_22 : decode cJ3_checkFromIndexSize_8c36e 22 = .ok (.athrow, 1) := by decide +kernel
theorem dJ3_checkFromIndexSize_8c36e_23 : decode cJ3_checkFromIndexSize_8c36e 23 = .ok (.iload_n 0, 1) := by decide +kernel
theorem dJ3_checkFromIndexSize_8c36e_24 : decode cJ3_checkFromIndexSize_8c36e 24 = .ok (.ireturn, 1) := by decide +kernel
theorem dJ4_init_da8c8_0 : decode cJ4_init_da8c8 0 = .ok (.aload_n 0, 1) := by decide +kernel
theorem dJ4_init_da8c8_1 : decode cJ4_init_da8c8 1 = .ok (.bipush 16, 2) := by decide +kernel
theorem dJ4_init_da8c8_3 : decode cJ4_init_da8c8 3 = .ok (.invokespecial 1, 3) := by decide +kernel
theorem dJ4_init_da8c8_6 : decode cJ4_init_da8c8 6 = .ok (.return_, 1) := by decide +kernel
theorem dJ4_init_a7421_0 : decode cJ4_init_a7421 0 = .ok (.aload_n 0, 1) := by decide +kernel
theorem dJ4_init_a7421_1 : decode cJ4_init_a7421 1 = .ok (.aload_n 1, 1) := by decide +kernel
theorem dJ4_init_a7421_2 : decode cJ4_init_a7421 2 = .ok (.invokespecial 7, 3) := by decide +kernel
theorem dJ4_init_a7421_5 : decode cJ4_init_a7421 5 = .ok (.return_, 1) := by decide +kernel
theorem dJ4_append_15ec4_0 : decode cJ4_append_15ec4 0 = .ok (.aload_n 0, 1) := by decide +kernel
theorem dJ4_append_15ec4_1 : decode cJ4_append_15ec4 1 = .ok (.aload_n 1, 1) := by decide +kernel
theorem dJ4_append_15ec4_2 : decode cJ4_append_15ec4 2 = .ok (.invokespecial 29, 3) := by decide +kernel
theorem dJ4_append_15ec4_5 : decode cJ4_append_15ec4 5 = .ok (.pop, 1) := by decide +kernel
theorem dJ4_append_15ec4_6 : decode cJ4_append_15ec4 6 = .ok (.aload_n 0, 1) := by decide +kernel
theorem dJ4_append_15ec4_7 : decode cJ4_append_15ec4 7 = .ok (.areturn, 1) := by decide +kernel
theorem dJ4_append_cf468_0 : decode cJ4_append_cf468 0 = .ok (.aload_n 0, 1) := by decide +kernel
theorem dJ4_append_cf468_1 : decode cJ4_append_cf468 1 = .ok (.iload_n 1, 1) := by decide +kernel
theorem dJ4_append_cf468_2 : decode cJ4_append_cf468 2 = .ok (.invokespecial 50, 3) := by decide +kernel
theorem dJ4_append_cf468_5 : decode cJ4_append_cf468 5 = .ok (.pop, 1) := by decide +kernel
theorem dJ4_append_cf468_6 : decode cJ4_append_cf468 6 = .ok (.aload_n 0, 1) := by decide +kernel
theorem dJ4_append_cf468_7 : decode cJ4_append_cf468 7 = .ok (.areturn, 1) := by decide +kernel
theorem dJ4_append_bf812_0 : decode cJ4_append_bf812 0 = .ok (.aload_n 0, 1) := by decide +kernel
theorem dJ4_append_bf812_1 : decode cJ4_append_bf812 1 = .ok (.iload_n 1, 1) := by decide +kernel
theorem dJ4_append_bf812_2 : decode cJ4_append_bf812 2 = .ok (.invokespecial 53, 3) := by decide +kernel
theorem dJ4_append_bf812_5 : decode cJ4_append_bf812 5 = .ok (.pop, 1) := by decide +kernel
theorem dJ4_append_bf812_6 : decode cJ4_append_bf812 6 = .ok (.aload_n 0, 1) := by decide +kernel
theorem dJ4_append_bf812_7 : decode cJ4_append_bf812 7 = .ok (.areturn, 1) := by decide +kernel
theorem dJ4_toString_0e30d_0 : decode cJ4_toString_0e30d 0 = .ok (.new 18, 3) := by decide +kernel
theorem dJ4_toString_0e30d_3 : decode cJ4_toString_0e30d 3 = .ok (.dup, 1) := by decide +kernel
theorem dJ4_toString_0e30d_4 : decode cJ4_toString_0e30d 4 = .ok (.aload_n 0, 1) := by decide +kernel
theorem dJ4_toString_0e30d_5 : decode cJ4_toString_0e30d 5 = .ok (.invokespecial 137, 3) := by decide +kernel
theorem dJ4_toString_0e30d_8 : decode cJ4_toString_0e30d 8 = .ok (.areturn, 1) := by decide +kernel
theorem dJ4_append_cf1ce_0 : decode cJ4_append_cf1ce 0 = .ok (.aload_n 0, 1) := by decide +kernel
theorem dJ4_append_cf1ce_1 : decode cJ4_append_cf1ce 1 = .ok (.aload_n 1, 1) := by decide +kernel
theorem dJ4_append_cf1ce_2 : decode cJ4_append_cf1ce 2 = .ok (.invokevirtual 23, 3) := by decide +kernel
theorem dJ4_append_cf1ce_5 : decode cJ4_append_cf1ce 5 = .ok (.areturn, 1) := by decide +kernel
theorem dJ4_length_8abf5_0 : decode cJ4_length_8abf5 0 = .ok (.aload_n 0, 1) := by decide +kernel
theorem dJ4_length_8abf5_1 : decode cJ4_length_8abf5 1 = .ok (.invokespecial 343, 3) := by decide +kernel
theorem dJ4_length_8abf5_4 : decode cJ4_length_8abf5 4 = .ok (.ireturn, 1) := by decide +kernel
theorem dJ5_init_d00df_0 : decode cJ5_init_d00df 0 = .ok (.aload_n 0, 1) := by decide +kernel
theorem dJ5_init_d00df_1 : decode cJ5_init_d00df 1 = .ok (.invokespecial 3, 3) := by decide +kernel
theorem dJ5_init_d00df_4 : decode cJ5_init_d00df 4 = .ok (.getstatic 18, 3) := by decide +kernel
theorem dJ5_init_d00df_7 : decode cJ5_init_d00df 7 = .ok (.ifCond .eq 18, 3) := by decide +kernel
theorem dJ5_init_d00df_10 : decode cJ5_init_d00df 10 = .ok (.aload_n 0, 1) := by decide +kernel
theorem dJ5_init_d00df_11 : decode cJ5_init_d00df 11 = .ok (.iload_n 1, 1) := by decide +kernel
theorem dJ5_init_d00df_12 : decode cJ5_init_d00df 12 = .ok (.newarray .byte, 2) := by decide +kernel
theorem dJ5_init_d00df_14 : decode cJ5_init_d00df 14 = .ok (.putfield 15, 3) := by decide +kernel
theorem dJ5_init_d00df_17 : decode cJ5_init_d00df 17 = .ok (.aload_n 0, 1) := by decide +kernel
theorem dJ5_init_d00df_18 : decode cJ5_init_d00df 18 = .ok (.iconst 0, 1) := by decide +kernel
theorem dJ5_init_d00df_19 : decode cJ5_init_d00df 19 = .ok (.putfield 22, 3) := by decide +kernel
theorem dJ5_init_d00df_22 : decode cJ5_init_d00df 22 = .ok (.goto 16, 3) := by decide +kernel
theorem dJ5_init_d00df_25 : decode cJ5_init_d00df 25 = .ok (.aload_n 0, 1) := by decide +kernel
theorem dJ5_init_d00df_26 : decode cJ5_init_d00df 26 = .ok (.iload_n 1, 1) := by decide +kernel
theorem dJ5_init_d00df_27 : decode cJ5_init_d00df 27 = .ok (.invokestatic 26, 3) := by decide +kernel
theorem dJ5_init_d00df_30 : decode cJ5_init_d00df 30 = .ok (.putfield 15, 3) := by decide +kernel
theorem dJ5_init_d00df_33 : decode cJ5_init_d00df 33 = .ok (.aload_n 0, 1) := by decide +kernel
theorem dJ5_init_d00df_34 : decode cJ5_init_d00df 34 = .ok (.iconst 1, 1) := by decide +kernel
theorem dJ5_init_d00df_35 : decode cJ5_init_d00df 35 = .ok (.putfield 22, 3) := by decide +kernel
theorem dJ5_init_d00df_38 : decode cJ5_init_d00df 38 = .ok (.return_, 1) := by decide +kernel
theorem dJ5_init_a7421_0 : decode cJ5_init_a7421 0 = .ok (.aload_n 0, 1) := by decide +kernel
theorem dJ5_init_a7421_1 : decode cJ5_init_a7421 1 = .ok (.invokespecial 3, 3) := by decide +kernel
theorem dJ5_init_a7421_4 : decode cJ5_init_a7421 4 = .ok (.aload_n 1, 1) := by decide +kernel
theorem dJ5_init_a7421_5 : decode cJ5_init_a7421 5 = .ok (.invokevirtual 32, 3) := by decide +kernel
theorem dJ5_init_a7421_8 : decode cJ5_init_a7421 8 = .ok (.istore_n 2, 1) := by decide +kernel
theorem dJ5_init_a7421_9 : decode cJ5_init_a7421 9 = .ok (.iload_n 2, 1) := by decide +kernel
theorem dJ5_init_a7421_10 : decode cJ5_init_a7421 10 = .ok (.ldc 38, 2) := by decide +kernel
theorem dJ5_init_a7421_12 : decode cJ5_init_a7421 12 = .ok (.if_icmp .ge 10, 3) := by decide +kernel
theorem dJ5_init_a7421_15 : decode cJ5_init_a7421 15 = .ok (.iload_n 2, 1) := by decide +kernel
theorem dJ5_init_a7421_16 : decode cJ5_init_a7421 16 = .ok (.bipush 16, 2) := by decide +kernel
theorem dJ5_init_a7421_18 : decode cJ5_init_a7421 18 = .ok (.iadd, 1) := by decide +kernel
theorem dJ5_init_a7421_19 : decode cJ5_init_a7421 19 = .ok (.goto 5, 3) := by decide +kernel
theorem dJ5_init_a7421_22 : decode cJ5_init_a7421 22 = .ok (.ldc 39, 2) := by decide +kernel
theorem dJ5_init_a7421_24 : decode cJ5_init_a7421 24 = .ok (.istore_n 3, 1) := by decide +kernel
theorem dJ5_init_a7421_25 : decode cJ5_init_a7421 25 = .ok (.aload_n 1, 1) := by decide +kernel
theorem dJ5_init_a7421_26 : decode cJ5_init_a7421 26 = .ok (.invokevirtual 40, 3) := by decide +kernel
theorem dJ5_init_a7421_29 : decode cJ5_init_a7421 29 = .ok (.istore 4, 2) := by decide +kernel
theorem dJ5_init_a7421_31 : decode cJ5_init_a7421 31 = .ok (.aload_n 0, 1) := by decide +kernel
theorem dJ5_init_a7421_32 : decode cJ5_init_a7421 32 = .ok (.iload 4, 2) := by decide +kernel
theorem dJ5_init_a7421_34 : decode cJ5_init_a7421 34 = .ok (.putfield 22, 3) := by decide +kernel
theorem dJ5_init_a7421_37 : decode cJ5_init_a7421 37 = .ok (.aload_n 0, 1) := by decide +kernel
theorem dJ5_init_a7421_38 : decode cJ5_init_a7421 38 = .ok (.iload 4, 2) := by decide +kernel
theorem dJ5_init_a7421_40 : decode cJ5_init_a7421 40 = .ok (.ifCond .ne 9, 3) := by decide +kernel
theorem dJ5_init_a7421_43 : decode cJ5_init_a7421 43 = .ok (.iload_n 3, 1) := by decide +kernel
theorem dJ5_init_a7421_44 : decode cJ5_init_a7421 44 = .ok (.newarray .byte, 2) := by decide +kernel
theorem dJ5_init_a7421_46 : decode cJ5_init_a7421 46 = .ok (.goto 7, 3) := by decide +kernel
theorem dJ5_init_a7421_49 : decode cJ5_init_a7421 49 = .ok (.iload_n 3, 1) := by decide +kernel
theorem dJ5_init_a7421_50 : decode cJ5_init_a7421 50 = .ok (.invokestatic 26, 3) := by decide +kernel
theorem dJ5_init_a7421_53 : decode cJ5_init_a7421 53 = .ok (.putfield 15, 3) := by decide +kernel
theorem dJ5_init_a7421_56 : decode cJ5_init_a7421 56 = .ok (.aload_n 0, 1) := by decide +kernel
theorem dJ5_init_a7421_57 : decode cJ5_init_a7421 57 = .ok (.aload_n 1, 1) := by decide +kernel
theorem dJ5_init_a7421_58 : decode cJ5_init_a7421 58 = .ok (.invokevirtual 43, 3) := by decide +kernel
theorem dJ5_init_a7421_61 : decode cJ5_init_a7421 61 = .ok (.pop, 1) := by decide +kernel
theorem dJ5_init_a7421_62 : decode cJ5_init_a7421 62 = .ok (.return_, 1) := by decide +kernel
theorem dJ5_length_8abf5_0 : decode cJ5_length_8abf5 0 = .ok (.aload_n 0, 1) := by decide +kernel
theorem dJ5_length_8abf5_1 : decode cJ5_length_8abf5 1 = .ok (.getfield 79, 3) := by decide +kernel
theorem dJ5_length_8abf5_4 : decode cJ5_length_8abf5 4 = .ok (.ireturn, 1) := by decide +kernel
theorem dJ5_ensureCapacityInternal_d00df_0 : decode cJ5_ensureCapacityInternal_d00df 0 = .ok (.aload_n 0, 1) := by decide +kernel
theorem dJ5_ensureCapacityInternal_d00df_1 : decode cJ5_ensureCapacityInternal_d00df 1 = .ok (.getfield 15, 3) := by decide +kernel
theorem dJ5_ensureCapacityInternal_d00df_4 : decode cJ5_ensureCapacityInternal_d00df 4 = .ok (.arraylength, 1) := by decide +kernel
theorem dJ5_ensureCapacityInternal_d00df_5 : decode cJ5_ensureCapacityInternal_d00df 5 = .ok (.aload_n 0, 1) := by decide +kernel
theorem dJ5_ensureCapacityInternal_d00df_6 : decode cJ5_ensureCapacityInternal_d00df 6 = .ok (.getfield 22, 3) := by decide +kernel
theorem dJ5_ensureCapacityInternal_d00df_9 : decode cJ5_ensureCapacityInternal_d00df 9 = .ok (.ishr, 1) := by decide +kernel
theorem dJ5_ensureCapacityInternal_d00df_10 : decode cJ5_ensureCapacityInternal_d00df 10 = .ok (.istore_n 2, 1) := by decide +kernel
theorem dJ5_ensureCapacityInternal_d00df_11 : decode cJ5_ensureCapacityInternal_d00df 11 = .ok (.iload_n 1, 1) := by decide +kernel
theorem dJ5_ensureCapacityInternal_d00df_12 : decode cJ5_ensureCapacityInternal_d00df 12 = .ok (.iload_n 2, 1) := by decide +kernel
theorem dJ5_ensureCapacityInternal_d00df_13 : decode cJ5_ensureCapacityInternal_d00df 13 = .ok (.isub, 1) := by decide +kernel
theorem dJ5_ensureCapacityInternal_d00df_14 : decode cJ5_ensureCapacityInternal_d00df 14 = .ok (.ifCond .le 24, 3) := by decide +kernel
theorem dJ5_ensureCapacityInternal_d00df_17 : decode cJ5_ensureCapacityInternal_d00df 17 = .ok (.aload_n 0, 1) := by decide +kernel
theorem dJ5_ensureCapacityInternal_d00df_18 : decode cJ5_ensureCapacityInternal_d00df 18 = .ok (.aload_n 0, 1) := by decide +kernel
theorem dJ5_ensureCapacityInternal_d00df_19 : decode cJ5_ensureCapacityInternal_d00df 19 = .ok (.getfield 15, 3) := by decide +kernel
theorem dJ5_ensureCapacityInternal_d00df_22 : decode cJ5_ensureCapacityInternal_d00df 22 = .ok (.aload_n 0, 1) := by decide +kernel
theorem dJ5_ensureCapacityInternal_d00df_23 : decode cJ5_ensureCapacityInternal_d00df 23 = .ok (.iload_n 1, 1) := by decide +kernel
theorem dJ5_ensureCapacityInternal_d00df_24 : decode cJ5_ensureCapacityInternal_d00df 24 = .ok (.invokevirtual 104, 3) := by decide +kernel
theorem dJ5_ensureCapacityInternal_d00df_27 : decode cJ5_ensureCapacityInternal_d00df 27 = .ok (.aload_n 0, 1) := by decide +kernel
theorem dJ5_ensureCapacityInternal_d00df_28 : decode cJ5_ensureCapacityInternal_d00df 28 = .ok (.getfield 22, 3) := by decide +kernel
theorem dJ5_ensureCapacityInternal_d00df_31 : decode cJ5_ensureCapacityInternal_d00df 31 = .ok (.ishl, 1) := by decide +kernel
theorem dJ5_ensureCapacityInternal_d00df_32 : decode cJ5_ensureCapacityInternal_d00df 32 = .ok (.invokestatic 108, 3) := by decide +kernel
theorem dJ5_ensureCapacityInternal_d00df_35 : decode cJ5_ensureCapacityInternal_d00df 35 = .ok (.putfield 15, 3) := by decide +kernel
theorem dJ5_ensureCapacityInternal_d00df_38 : decode cJ5_ensureCapacityInternal_d00df 38 = .ok (.return_, 1) := by decide +kernel
theorem dJ5_newCapacity_0f7a4_0 : decode cJ5_newCapacity_0f7a4 0 = .ok (.aload_n 0, 1) := by decide +kernel
theorem dJ5_newCapacity_0f7a4_1 : decode cJ5_newCapacity_0f7a4 1 = .ok (.getfield 15, 3) := by decide +kernel
theorem dJ5_newCapacity_0f7a4_4 : decode cJ5_newCapacity_0f7a4 4 = .ok (.arraylength, 1) := by decide +kernel
theorem dJ5_newCapacity_0f7a4_5 : decode cJ5_newCapacity_0f7a4 5 = .ok (.istore_n 2, 1) := by decide +kernel
theorem dJ5_newCapacity_0f7a4_6 : decode cJ5_newCapacity_0f7a4 6 = .ok (.iload_n 1, 1) := by decide +kernel
theorem dJ5_newCapacity_0f7a4_7 : decode cJ5_newCapacity_0f7a4 7 = .ok (.aload_n 0, 1) := by decide +kernel
theorem dJ5_newCapacity_0f7a4_8 : decode cJ5_newCapacity_0f7a4 8 = .ok (.getfield 22, 3) := by decide +kernel
theorem dJ5_newCapacity_0f7a4_11 : decode cJ5_newCapacity_0f7a4 11 = .ok (.ishl, 1) := by decide +kernel
theorem dJ5_newCapacity_0f7a4_12 : decode cJ5_newCapacity_0f7a4 12 = .ok (.istore_n 3, 1) := by decide +kernel
theorem dJ5_newCapacity_0f7a4_13 : decode cJ5_newCapacity_0f7a4 13 = .ok (.iload_n 3, 1) := by decide +kernel
theorem dJ5_newCapacity_0f7a4_14 : decode cJ5_newCapacity_0f7a4 14 = .ok (.iload_n 2, 1) := by decide +kernel
theorem dJ5_newCapacity_0f7a4_15 : decode cJ5_newCapacity_0f7a4 15 = .ok (.isub, 1) := by decide +kernel
theorem dJ5_newCapacity_0f7a4_16 : decode cJ5_newCapacity_0f7a4 16 = .ok (.istore 4, 2) := by decide +kernel
theorem dJ5_newCapacity_0f7a4_18 : decode cJ5_newCapacity_0f7a4 18 = .ok (.iload_n 2, 1) := by decide +kernel
theorem dJ5_newCapacity_0f7a4_19 : decode cJ5_newCapacity_0f7a4 19 = .ok (.iload 4, 2) := by decide +kernel
theorem dJ5_newCapacity_0f7a4_21 : decode cJ5_newCapacity_0f7a4 21 = .ok (.iload_n 2, 1) := by decide +kernel
theorem dJ5_newCapacity_0f7a4_22 : decode cJ5_newCapacity_0f7a4 22 = .ok (.iconst 2, 1) := by decide +kernel
theorem dJ5_newCapacity_0f7a4_23 : decode cJ5_newCapacity_0f7a4 23 = .ok (.aload_n 0, 1) := by decide +kernel
theorem dJ5_newCapacity_0f7a4_24 : decode cJ5_newCapacity_0f7a4 24 = .ok (.getfield 22, 3) := by decide +kernel
theorem dJ5_newCapacity_0f7a4_27 : decode cJ5_newCapacity_0f7a4 27 = .ok (.ishl, 1) := by decide +kernel
theorem dJ5_newCapacity_0f7a4_28 : decode cJ5_newCapacity_0f7a4 28 = .ok (.iadd, 1) := by decide +kernel
theorem dJ5_newCapacity_0f7a4_29 : decode cJ5_newCapacity_0f7a4 29 = .ok (.invokestatic 114, 3) := by decide +kernel
theorem dJ5_newCapacity_0f7a4_32 : decode cJ5_newCapacity_0f7a4 32 = .ok (.istore 5, 2) := by decide +kernel
theorem dJ5_newCapacity_0f7a4_34 : decode cJ5_newCapacity_0f7a4 34 = .ok (.iload 5, 2) := by decide +kernel
theorem dJ5_newCapacity_0f7a4_36 : decode cJ5_newCapacity_0f7a4 36 = .ok (.ldc 39, 2) := by decide +kernel
theorem dJ5_newCapacity_0f7a4_38 : decode cJ5_newCapacity_0f7a4 38 = .ok (.if_icmp .ne 13, 3) := by decide +kernel
theorem dJ5_newCapacity_0f7a4_41 : decode cJ5_newCapacity_0f7a4 41 = .ok (.new 120, 3) := by decide +kernel
theorem dJ5_newCapacity_0f7a4_44 : decode cJ5_newCapacity_0f7a4 44 = .ok (.dup, 1) := by decide +kernel
theorem dJ5_newCapacity_0f7a4_45 : decode cJ5_newCapacity_0f7a4 45 = .ok (.ldc 122, 2) := by decide +kernel
theorem dJ5_newCapacity_0f7a4_47 : decode cJ5_newCapacity_0f7a4 47 = .ok (.invokespecial 124, 3) := by decide +kernel
theorem dJ5_newCapacity_0f7a4_50 : decode cJ5_newCapacity_0f7a4 50 = .ok (.athrow, 1) := by decide +kernel
theorem dJ5_newCapacity_0f7a4_51 : decode cJ5_newCapacity_0f7a4 51 = .ok (.iload 5, 2) := by decide +kernel
theorem dJ5_newCapacity_0f7a4_53 : decode cJ5_newCapacity_0f7a4 53 = .ok (.aload_n 0, 1) := by decide +kernel
theorem dJ5_newCapacity_0f7a4_54 : decode cJ5_newCapacity_0f7a4 54 = .ok (.getfield 22, 3) := by decide +kernel
theorem dJ5_newCapacity_0f7a4_57 : decode cJ5_newCapacity_0f7a4 57 = .ok (.ishr, 1) := by decide +kernel
theorem dJ5_newCapacity_0f7a4_58 : decode cJ5_newCapacity_0f7a4 58 = .ok (.ireturn, 1) := by decide +kernel
theorem dJ5_inflate_da8c8_0 : decode cJ5_inflate_da8c8 0 = .ok (.aload_n 0, 1) := by decide +kernel
theorem dJ5_inflate_da8c8_1 : decode cJ5_inflate_da8c8 1 = .ok (.invokevirtual 83, 3) := by decide +kernel
theorem dJ5_inflate_da8c8_4 : decode cJ5_inflate_da8c8 4 = .ok (.ifCond .ne 4, 3) := by decide +kernel
theorem dJ5_inflate_da8c8_7 : decode cJ5_inflate_da8c8 7 = .ok (.return_, 1) := by decide +kernel
theorem dJ5_inflate_da8c8_8 : decode cJ5_inflate_da8c8 8 = .ok (.aload_n 0, 1) := by decide +kernel
theorem dJ5_inflate_da8c8_9 : decode cJ5_inflate_da8c8 9 = .ok (.getfield 15, 3) := by decide +kernel
theorem dJ5_inflate_da8c8_12 : decode cJ5_inflate_da8c8 12 = .ok (.arraylength, 1) := by decide +kernel
theorem dJ5_inflate_da8c8_13 : decode cJ5_inflate_da8c8 13 = .ok (.invokestatic 26, 3) := by decide +kernel
theorem dJ5_inflate_da8c8_16 : decode cJ5_inflate_da8c8 16 = .ok (.astore_n 1, 1) := by decide +kernel
theorem dJ5_inflate_da8c8_17 : decode cJ5_inflate_da8c8 17 = .ok (.aload_n 0, 1) := by decide +kernel
theorem dJ5_inflate_da8c8_18 : decode cJ5_inflate_da8c8 18 = .ok (.getfield 15, 3) := by decide +kernel
theorem dJ5_inflate_da8c8_21 : decode cJ5_inflate_da8c8 21 = .ok (.iconst 0, 1) := by decide +kernel
theorem dJ5_inflate_da8c8_22 : decode cJ5_inflate_da8c8 22 = .ok (.aload_n 1, 1) := by decide +kernel
theorem dJ5_inflate_da8c8_23 : decode cJ5_inflate_da8c8 23 = .ok (.iconst 0, 1) := by decide +kernel
theorem dJ5_inflate_da8c8_24 : decode cJ5_inflate_da8c8 24 = .ok (.aload_n 0, 1) := by decide +kernel
theorem dJ5_inflate_da8c8_25 : decode cJ5_inflate_da8c8 25 = .ok (.getfield 79, 3) := by decide +kernel
theorem dJ5_inflate_da8c8_28 : decode cJ5_inflate_da8c8 28 = .ok (.invokestatic 125, 3) := by decide +kernel
theorem dJ5_inflate_da8c8_31 : decode cJ5_inflate_da8c8 31 = .ok (.aload_n 0, 1) := by decide +kernel
theorem dJ5_inflate_da8c8_32 : decode cJ5_inflate_da8c8 32 = .ok (.aload_n 1, 1) := by decide +kernel
theorem dJ5_inflate_da8c8_33 : decode cJ5_inflate_da8c8 33 = .ok (.putfield 15, 3) := by decide +kernel
theorem dJ5_inflate_da8c8_36 : decode cJ5_inflate_da8c8 36 = .ok (.aload_n 0, 1) := by decide +kernel
theorem dJ5_inflate_da8c8_37 : decode cJ5_inflate_da8c8 37 = .ok (.iconst 1, 1) := by decide +kernel
theorem dJ5_inflate_da8c8_38 : decode cJ5_inflate_da8c8 38 = .ok (.putfield 22, 3) := by decide +kernel
theorem dJ5_inflate_da8c8_41 : decode cJ5_inflate_da8c8 41 = .ok (.return_, 1) := by decide +kernel
theorem dJ5_append_cf1ce_0 : decode cJ5_append_cf1ce 0 = .ok (.aload_n 1, 1) := by decide +kernel
theorem dJ5_append_cf1ce_1 : decode cJ5_append_cf1ce 1 = .ok (.ifnonnull 8, 3) := by decide +kernel
theorem dJ5_append_cf1ce_4 : decode cJ5_append_cf1ce 4 = .ok (.aload_n 0, 1) := by decide +kernel
theorem dJ5_append_cf1ce_5 : decode cJ5_append_cf1ce 5 = .ok (.invokevirtual 204, 3) := by decide +kernel
end
section
theorem dJ5_append_cf1ce_8 : decode cJ5_append_cf1ce 8 = .ok (.areturn, 1) := by decide +kernel
theorem dJ5_append_cf1ce_9 : decode cJ5_append_cf1ce 9 = .ok (.aload_n 1, 1) := by decide +kernel
theorem dJ5_append_cf1ce_10 : decode cJ5_append_cf1ce 10 = .ok (.invokevirtual 32, 3) := by decide +kernel
theorem dJ5_append_cf1ce_13 : decode cJ5_append_cf1ce 13 = .ok (.istore_n 2, 1) := by decide +kernel
theorem dJ5_append_cf1ce_14 : decode cJ5_append_cf1ce 14 = .ok (.aload_n 0, 1) := by decide +kernel
theorem dJ5_append_cf1ce_15 : decode cJ5_append_cf1ce 15 = .ok (.aload_n 0, 1) := by decide +kernel
theorem dJ5_append_cf1ce_16 : decode cJ5_append_cf1ce 16 = .ok (.getfield 79, 3) := by decide +kernel
theorem dJ5_append_cf1ce_19 : decode cJ5_append_cf1ce 19 = .ok (.iload_n 2, 1) := by decide +kernel
theorem dJ5_append_cf1ce_20 : decode cJ5_append_cf1ce 20 = .ok (.iadd, 1) := by decide +kernel
theorem dJ5_append_cf1ce_21 : decode cJ5_append_cf1ce 21 = .ok (.invokevirtual 100, 3) := by decide +kernel
theorem dJ5_append_cf1ce_24 : decode cJ5_append_cf1ce 24 = .ok (.aload_n 0, 1) := by decide +kernel
theorem dJ5_append_cf1ce_25 : decode cJ5_append_cf1ce 25 = .ok (.aload_n 0, 1) := by decide +kernel
theorem dJ5_append_cf1ce_26 : decode cJ5_append_cf1ce 26 = .ok (.getfield 79, 3) := by decide +kernel
theorem dJ5_append_cf1ce_29 : decode cJ5_append_cf1ce 29 = .ok (.aload_n 1, 1) := by decide +kernel
theorem dJ5_append_cf1ce_30 : decode cJ5_append_cf1ce 30 = .ok (.invokevirtual 208, 3) := by decide +kernel
theorem dJ5_append_cf1ce_33 : decode cJ5_append_cf1ce 33 = .ok (.aload_n 0, 1) := by decide +kernel
theorem dJ5_append_cf1ce_34 : decode cJ5_append_cf1ce 34 = .ok (.dup, 1) := by decide +kernel
theorem dJ5_append_cf1ce_35 : decode cJ5_append_cf1ce 35 = .ok (.getfield 79, 3) := by decide +kernel
theorem dJ5_append_cf1ce_38 : decode cJ5_append_cf1ce 38 = .ok (.iload_n 2, 1) := by decide +kernel
theorem dJ5_append_cf1ce_39 : decode cJ5_append_cf1ce 39 = .ok (.iadd, 1) := by decide +kernel
theorem dJ5_append_cf1ce_40 : decode cJ5_append_cf1ce 40 = .ok (.putfield 79, 3) := by decide +kernel
theorem dJ5_append_cf1ce_43 : decode cJ5_append_cf1ce 43 = .ok (.aload_n 0, 1) := by decide +kernel
theorem dJ5_append_cf1ce_44 : decode cJ5_append_cf1ce 44 = .ok (.areturn, 1) := by decide +kernel
theorem dJ5_appendNull_278bc_0 : decode cJ5_appendNull_278bc 0 = .ok (.aload_n 0, 1) := by decide +kernel
theorem dJ5_appendNull_278bc_1 : decode cJ5_appendNull_278bc 1 = .ok (.aload_n 0, 1) := by decide +kernel
theorem dJ5_appendNull_278bc_2 : decode cJ5_appendNull_278bc 2 = .ok (.getfield 79, 3) := by decide +kernel
theorem dJ5_appendNull_278bc_5 : decode cJ5_appendNull_278bc 5 = .ok (.iconst 4, 1) := by decide +kernel
theorem dJ5_appendNull_278bc_6 : decode cJ5_appendNull_278bc 6 = .ok (.iadd, 1) := by decide +kernel
theorem dJ5_appendNull_278bc_7 : decode cJ5_appendNull_278bc 7 = .ok (.invokevirtual 100, 3) := by decide +kernel
theorem dJ5_appendNull_278bc_10 : decode cJ5_appendNull_278bc 10 = .ok (.aload_n 0, 1) := by decide +kernel
theorem dJ5_appendNull_278bc_11 : decode cJ5_appendNull_278bc 11 = .ok (.getfield 79, 3) := by decide +kernel
theorem dJ5_appendNull_278bc_14 : decode cJ5_appendNull_278bc 14 = .ok (.istore_n 1, 1) := by decide +kernel
theorem dJ5_appendNull_278bc_15 : decode cJ5_appendNull_278bc 15 = .ok (.aload_n 0, 1) := by decide +kernel
theorem dJ5_appendNull_278bc_16 : decode cJ5_appendNull_278bc 16 = .ok (.getfield 15, 3) := by decide +kernel
theorem dJ5_appendNull_278bc_19 : decode cJ5_appendNull_278bc 19 = .ok (.astore_n 2, 1) := by decide +kernel
theorem dJ5_appendNull_278bc_20 : decode cJ5_appendNull_278bc 20 = .ok (.aload_n 0, 1) := by decide +kernel
theorem dJ5_appendNull_278bc_21 : decode cJ5_appendNull_278bc 21 = .ok (.invokevirtual 83, 3) := by decide +kernel
theorem dJ5_appendNull_278bc_24 : decode cJ5_appendNull_278bc 24 = .ok (.ifCond .eq 38, 3) := by decide +kernel
theorem dJ5_appendNull_278bc_27 : decode cJ5_appendNull_278bc 27 = .ok (.aload_n 2, 1) := by decide +kernel
theorem dJ5_appendNull_278bc_28 : decode cJ5_appendNull_278bc 28 = .ok (.iload_n 1, 1) := by decide +kernel
theorem dJ5_appendNull_278bc_29 : decode cJ5_appendNull_278bc 29 = .ok (.iinc 1 1, 3) := by decide +kernel
theorem dJ5_appendNull_278bc_32 : decode cJ5_appendNull_278bc 32 = .ok (.bipush 110, 2) := by decide +kernel
theorem dJ5_appendNull_278bc_34 : decode cJ5_appendNull_278bc 34 = .ok (.bastore, 1) := by decide +kernel
theorem dJ5_appendNull_278bc_35 : decode cJ5_appendNull_278bc 35 = .ok (.aload_n 2, 1) := by decide +kernel
theorem dJ5_appendNull_278bc_36 : decode cJ5_appendNull_278bc 36 = .ok (.iload_n 1, 1) := by decide +kernel
theorem dJ5_appendNull_278bc_37 : decode cJ5_appendNull_278bc 37 = .ok (.iinc 1 1, 3) := by decide +kernel
theorem dJ5_appendNull_278bc_40 : decode cJ5_appendNull_278bc 40 = .ok (.bipush 117, 2) := by decide +kernel
theorem dJ5_appendNull_278bc_42 : decode cJ5_appendNull_278bc 42 = .ok (.bastore, 1) := by decide +kernel
theorem dJ5_appendNull_278bc_43 : decode cJ5_appendNull_278bc 43 = .ok (.aload_n 2, 1) := by decide +kernel
theorem dJ5_appendNull_278bc_44 : decode cJ5_appendNull_278bc 44 = .ok (.iload_n 1, 1) := by decide +kernel
theorem dJ5_appendNull_278bc_45 : decode cJ5_appendNull_278bc 45 = .ok (.iinc 1 1, 3) := by decide +kernel
theorem dJ5_appendNull_278bc_48 : decode cJ5_appendNull_278bc 48 = .ok (.bipush 108, 2) := by decide +kernel
theorem dJ5_appendNull_278bc_50 : decode cJ5_appendNull_278bc 50 = .ok (.bastore, 1) := by decide +kernel
theorem dJ5_appendNull_278bc_51 : decode cJ5_appendNull_278bc 51 = .ok (.aload_n 2, 1) := by decide +kernel
theorem dJ5_appendNull_278bc_52 : decode cJ5_appendNull_278bc 52 = .ok (.iload_n 1, 1) := by decide +kernel
theorem dJ5_appendNull_278bc_53 : decode cJ5_appendNull_278bc 53 = .ok (.iinc 1 1, 3) := by decide +kernel
theorem dJ5_appendNull_278bc_56 : decode cJ5_appendNull_278bc 56 = .ok (.bipush 108, 2) := by decide +kernel
theorem dJ5_appendNull_278bc_58 : decode cJ5_appendNull_278bc 58 = .ok (.bastore, 1) := by decide +kernel
theorem dJ5_appendNull_278bc_59 : decode cJ5_appendNull_278bc 59 = .ok (.goto 17, 3) := by decide +kernel
theorem dJ5_appendNull_278bc_62 : decode cJ5_appendNull_278bc 62 = .ok (.aload_n 2, 1) := by decide +kernel
theorem dJ5_appendNull_278bc_63 : decode cJ5_appendNull_278bc 63 = .ok (.iload_n 1, 1) := by decide +kernel
theorem dJ5_appendNull_278bc_64 : decode cJ5_appendNull_278bc 64 = .ok (.bipush 110, 2) := by decide +kernel
theorem dJ5_appendNull_278bc_66 : decode cJ5_appendNull_278bc 66 = .ok (.bipush 117, 2) := by decide +kernel
theorem dJ5_appendNull_278bc_68 : decode cJ5_appendNull_278bc 68 = .ok (.bipush 108, 2) := by decide +kernel
theorem dJ5_appendNull_278bc_70 : decode cJ5_appendNull_278bc 70 = .ok (.bipush 108, 2) := by decide +kernel
theorem dJ5_appendNull_278bc_72 : decode cJ5_appendNull_278bc 72 = .ok (.invokestatic 226, 3) := by decide +kernel
theorem dJ5_appendNull_278bc_75 : decode cJ5_appendNull_278bc 75 = .ok (.istore_n 1, 1) := by decide +kernel
theorem dJ5_appendNull_278bc_76 : decode cJ5_appendNull_278bc 76 = .ok (.aload_n 0, 1) := by decide +kernel
theorem dJ5_appendNull_278bc_77 : decode cJ5_appendNull_278bc 77 = .ok (.iload_n 1, 1) := by decide +kernel
theorem dJ5_appendNull_278bc_78 : decode cJ5_appendNull_278bc 78 = .ok (.putfield 79, 3) := by decide +kernel
theorem dJ5_appendNull_278bc_81 : decode cJ5_appendNull_278bc 81 = .ok (.aload_n 0, 1) := by decide +kernel
theorem dJ5_appendNull_278bc_82 : decode cJ5_appendNull_278bc 82 = .ok (.areturn, 1) := by decide +kernel
theorem dJ5_append_3fe6f_0 : decode cJ5_append_3fe6f 0 = .ok (.aload_n 0, 1) := by decide +kernel
theorem dJ5_append_3fe6f_1 : decode cJ5_append_3fe6f 1 = .ok (.aload_n 0, 1) := by decide +kernel
theorem dJ5_append_3fe6f_2 : decode cJ5_append_3fe6f 2 = .ok (.getfield 79, 3) := by decide +kernel
theorem dJ5_append_3fe6f_5 : decode cJ5_append_3fe6f 5 = .ok (.iconst 1, 1) := by decide +kernel
theorem dJ5_append_3fe6f_6 : decode cJ5_append_3fe6f 6 = .ok (.iadd, 1) := by decide +kernel
theorem dJ5_append_3fe6f_7 : decode cJ5_append_3fe6f 7 = .ok (.invokevirtual 100, 3) := by decide +kernel
theorem dJ5_append_3fe6f_10 : decode cJ5_append_3fe6f 10 = .ok (.aload_n 0, 1) := by decide +kernel
theorem dJ5_append_3fe6f_11 : decode cJ5_append_3fe6f 11 = .ok (.invokevirtual 83, 3) := by decide +kernel
theorem dJ5_append_3fe6f_14 : decode cJ5_append_3fe6f 14 = .ok (.ifCond .eq 31, 3) := by decide +kernel
theorem dJ5_append_3fe6f_17 : decode cJ5_append_3fe6f 17 = .ok (.iload_n 1, 1) := by decide +kernel
theorem dJ5_append_3fe6f_18 : decode cJ5_append_3fe6f 18 = .ok (.invokestatic 191, 3) := by decide +kernel
theorem dJ5_append_3fe6f_21 : decode cJ5_append_3fe6f 21 = .ok (.ifCond .eq 24, 3) := by decide +kernel
theorem dJ5_append_3fe6f_24 : decode cJ5_append_3fe6f 24 = .ok (.aload_n 0, 1) := by decide +kernel
theorem dJ5_append_3fe6f_25 : decode cJ5_append_3fe6f 25 = .ok (.getfield 15, 3) := by decide +kernel
theorem dJ5_append_3fe6f_28 : decode cJ5_append_3fe6f 28 = .ok (.aload_n 0, 1) := by decide +kernel
theorem dJ5_append_3fe6f_29 : decode cJ5_append_3fe6f 29 = .ok (.dup, 1) := by decide +kernel
theorem dJ5_append_3fe6f_30 : decode cJ5_append_3fe6f 30 = .ok (.getfield 79, 3) := by decide +kernel
theorem dJ5_append_3fe6f_33 : decode cJ5_append_3fe6f 33 = .ok (.dup_x1, 1) := by decide +kernel
theorem dJ5_append_3fe6f_34 : decode cJ5_append_3fe6f 34 = .ok (.iconst 1, 1) := by decide +kernel
theorem dJ5_append_3fe6f_35 : decode cJ5_append_3fe6f 35 = .ok (.iadd, 1) := by decide +kernel
theorem dJ5_append_3fe6f_36 : decode cJ5_append_3fe6f 36 = .ok (.putfield 79, 3) := by decide +kernel
theorem dJ5_append_3fe6f_39 : decode cJ5_append_3fe6f 39 = .ok (.iload_n 1, 1) := by decide +kernel
theorem dJ5_append_3fe6f_40 : decode cJ5_append_3fe6f 40 = .ok (.i2b, 1) := by decide +kernel
theorem dJ5_append_3fe6f_41 : decode cJ5_append_3fe6f 41 = .ok (.bastore, 1) := by decide +kernel
theorem dJ5_append_3fe6f_42 : decode cJ5_append_3fe6f 42 = .ok (.goto 33, 3) := by decide +kernel
theorem dJ5_append_3fe6f_45 : decode cJ5_append_3fe6f 45 = .ok (.aload_n 0, 1) := by decide +kernel
theorem dJ5_append_3fe6f_46 : decode cJ5_append_3fe6f 46 = .ok (.invokevirtual 83, 3) := by decide +kernel
theorem dJ5_append_3fe6f_49 : decode cJ5_append_3fe6f 49 = .ok (.ifCond .eq 7, 3) := by decide +kernel
theorem dJ5_append_3fe6f_52 : decode cJ5_append_3fe6f 52 = .ok (.aload_n 0, 1) := by decide +kernel
theorem dJ5_append_3fe6f_53 : decode cJ5_append_3fe6f 53 = .ok (.invokevirtual 195, 3) := by decide +kernel
theorem dJ5_append_3fe6f_56 : decode cJ5_append_3fe6f 56 = .ok (.aload_n 0, 1) := by decide +kernel
theorem dJ5_append_3fe6f_57 : decode cJ5_append_3fe6f 57 = .ok (.getfield 15, 3) := by decide +kernel
theorem dJ5_append_3fe6f_60 : decode cJ5_append_3fe6f 60 = .ok (.aload_n 0, 1) := by decide +kernel
theorem dJ5_append_3fe6f_61 : decode cJ5_append_3fe6f 61 = .ok (.dup, 1) := by decide +kernel
theorem dJ5_append_3fe6f_62 : decode cJ5_append_3fe6f 62 = .ok (.getfield 79, 3) := by decide +kernel
theorem dJ5_append_3fe6f_65 : decode cJ5_append_3fe6f 65 = .ok (.dup_x1, 1) := by decide +kernel
theorem dJ5_append_3fe6f_66 : decode cJ5_append_3fe6f 66 = .ok (.iconst 1, 1) := by decide +kernel
theorem dJ5_append_3fe6f_67 : decode cJ5_append_3fe6f 67 = .ok (.iadd, 1) := by decide +kernel
theorem dJ5_append_3fe6f_68 : decode cJ5_append_3fe6f 68 = .ok (.putfield 79, 3) := by decide +kernel
theorem dJ5_append_3fe6f_71 : decode cJ5_append_3fe6f 71 = .ok (.iload_n 1, 1) := by decide +kernel
theorem dJ5_append_3fe6f_72 : decode cJ5_append_3fe6f 72 = .ok (.invokestatic 197, 3) := by decide +kernel
theorem dJ5_append_3fe6f_75 : decode cJ5_append_3fe6f 75 = .ok (.aload_n 0, 1) := by decide +kernel
theorem dJ5_append_3fe6f_76 : decode cJ5_append_3fe6f 76 = .ok (.areturn, 1) := by decide +kernel
theorem dJ5_append_c97b9_0 : decode cJ5_append_c97b9 0 = .ok (.aload_n 0, 1) := by decide +kernel
theorem dJ5_append_c97b9_1 : decode cJ5_append_c97b9 1 = .ok (.getfield 79, 3) := by decide +kernel
theorem dJ5_append_c97b9_4 : decode cJ5_append_c97b9 4 = .ok (.istore_n 2, 1) := by decide +kernel
theorem dJ5_append_c97b9_5 : decode cJ5_append_c97b9 5 = .ok (.iload_n 2, 1) := by decide +kernel
theorem dJ5_append_c97b9_6 : decode cJ5_append_c97b9 6 = .ok (.iload_n 1, 1) := by decide +kernel
theorem dJ5_append_c97b9_7 : decode cJ5_append_c97b9 7 = .ok (.invokestatic 245, 3) := by decide +kernel
theorem dJ5_append_c97b9_10 : decode cJ5_append_c97b9 10 = .ok (.iadd, 1) := by decide +kernel
theorem dJ5_append_c97b9_11 : decode cJ5_append_c97b9 11 = .ok (.istore_n 3, 1) := by decide +kernel
theorem dJ5_append_c97b9_12 : decode cJ5_append_c97b9 12 = .ok (.aload_n 0, 1) := by decide +kernel
theorem dJ5_append_c97b9_13 : decode cJ5_append_c97b9 13 = .ok (.iload_n 3, 1) := by decide +kernel
theorem dJ5_append_c97b9_14 : decode cJ5_append_c97b9 14 = .ok (.invokevirtual 100, 3) := by decide +kernel
theorem dJ5_append_c97b9_17 : decode cJ5_append_c97b9 17 = .ok (.aload_n 0, 1) := by decide +kernel
theorem dJ5_append_c97b9_18 : decode cJ5_append_c97b9 18 = .ok (.invokevirtual 83, 3) := by decide +kernel
theorem dJ5_append_c97b9_21 : decode cJ5_append_c97b9 21 = .ok (.ifCond .eq 16, 3) := by decide +kernel
theorem dJ5_append_c97b9_24 : decode cJ5_append_c97b9 24 = .ok (.iload_n 1, 1) := by decide +kernel
theorem dJ5_append_c97b9_25 : decode cJ5_append_c97b9 25 = .ok (.iload_n 3, 1) := by decide +kernel
theorem dJ5_append_c97b9_26 : decode cJ5_append_c97b9 26 = .ok (.aload_n 0, 1) := by decide +kernel
theorem dJ5_append_c97b9_27 : decode cJ5_append_c97b9 27 = .ok (.getfield 15, 3) := by decide +kernel
theorem dJ5_append_c97b9_30 : decode cJ5_append_c97b9 30 = .ok (.invokestatic 248, 3) := by decide +kernel
theorem dJ5_append_c97b9_33 : decode cJ5_append_c97b9 33 = .ok (.pop, 1) := by decide +kernel
theorem dJ5_append_c97b9_34 : decode cJ5_append_c97b9 34 = .ok (.goto 14, 3) := by decide +kernel
theorem dJ5_append_c97b9_37 : decode cJ5_append_c97b9 37 = .ok (.iload_n 1, 1) := by decide +kernel
theorem dJ5_append_c97b9_38 : decode cJ5_append_c97b9 38 = .ok (.iload_n 2, 1) := by decide +kernel
theorem dJ5_append_c97b9_39 : decode cJ5_append_c97b9 39 = .ok (.iload_n 3, 1) := by decide +kernel
theorem dJ5_append_c97b9_40 : decode cJ5_append_c97b9 40 = .ok (.aload_n 0, 1) := by decide +kernel
theorem dJ5_append_c97b9_41 : decode cJ5_append_c97b9 41 = .ok (.getfield 15, 3) := by decide +kernel
theorem dJ5_append_c97b9_44 : decode cJ5_append_c97b9 44 = .ok (.invokestatic 251, 3) := by decide +kernel
theorem dJ5_append_c97b9_47 : decode cJ5_append_c97b9 47 = .ok (.pop, 1) := by decide +kernel
theorem dJ5_append_c97b9_48 : decode cJ5_append_c97b9 48 = .ok (.aload_n 0, 1) := by decide +kernel
theorem dJ5_append_c97b9_49 : decode cJ5_append_c97b9 49 = .ok (.iload_n 3, 1) := by decide +kernel
theorem dJ5_append_c97b9_50 : decode cJ5_append_c97b9 50 = .ok (.putfield 79, 3) := by decide +kernel
theorem dJ5_append_c97b9_53 : decode cJ5_append_c97b9 53 = .ok (.aload_n 0, 1) := by decide +kernel
theorem dJ5_append_c97b9_54 : decode cJ5_append_c97b9 54 = .ok (.areturn, 1) := by decide +kernel
theorem dJ5_getValue_6d5f1_0 : decode cJ5_getValue_6d5f1 0 = .ok (.aload_n 0, 1) := by decide +kernel
theorem dJ5_getValue_6d5f1_1 : decode cJ5_getValue_6d5f1 1 = .ok (.getfield 15, 3) := by decide +kernel
theorem dJ5_getValue_6d5f1_4 : decode cJ5_getValue_6d5f1 4 = .ok (.areturn, 1) := by decide +kernel
theorem dJ5_isLatin1_aae02_0 : decode cJ5_isLatin1_aae02 0 = .ok (.getstatic 18, 3) := by decide +kernel
theorem dJ5_isLatin1_aae02_3 : decode cJ5_isLatin1_aae02 3 = .ok (.ifCond .eq 14, 3) := by decide +kernel
theorem dJ5_isLatin1_aae02_6 : decode cJ5_isLatin1_aae02 6 = .ok (.aload_n 0, 1) := by decide +kernel
theorem dJ5_isLatin1_aae02_7 : decode cJ5_isLatin1_aae02 7 = .ok (.getfield 22, 3) := by decide +kernel
theorem dJ5_isLatin1_aae02_10 : decode cJ5_isLatin1_aae02 10 = .ok (.ifCond .ne 7, 3) := by decide +kernel
theorem dJ5_isLatin1_aae02_13 : decode cJ5_isLatin1_aae02 13 = .ok (.iconst 1, 1) := by decide +kernel
theorem dJ5_isLatin1_aae02_14 : decode cJ5_isLatin1_aae02 14 = .ok (.goto 4, 3) := by decide +kernel
theorem dJ5_isLatin1_aae02_17 : decode cJ5_isLatin1_aae02 17 = .ok (.iconst 0, 1) := by decide +kernel
theorem dJ5_isLatin1_aae02_18 : decode cJ5_isLatin1_aae02 18 = .ok (.ireturn, 1) := by decide +kernel
theorem dJ5_inflateIfNeededFor_a7421_0 : decode cJ5_inflateIfNeededFor_a7421 0 = .ok (.getstatic 18, 3) := by decide +kernel
theorem dJ5_inflateIfNeededFor_a7421_3 : decode cJ5_inflateIfNeededFor_a7421 3 = .ok (.ifCond .eq 18, 3) := by decide +kernel
theorem dJ5_inflateIfNeededFor_a7421_6 : decode cJ5_inflateIfNeededFor_a7421 6 = .ok (.aload_n 0, 1) := by decide +kernel
theorem dJ5_inflateIfNeededFor_a7421_7 : decode cJ5_inflateIfNeededFor_a7421 7 = .ok (.getfield 22, 3) := by decide +kernel
theorem dJ5_inflateIfNeededFor_a7421_10 : decode cJ5_inflateIfNeededFor_a7421 10 = .ok (.aload_n 1, 1) := by decide +kernel
theorem dJ5_inflateIfNeededFor_a7421_11 : decode cJ5_inflateIfNeededFor_a7421 11 = .ok (.invokevirtual 40, 3) := by decide +kernel
theorem dJ5_inflateIfNeededFor_a7421_14 : decode cJ5_inflateIfNeededFor_a7421 14 = .ok (.if_icmp .eq 7, 3) := by decide +kernel
theorem dJ5_inflateIfNeededFor_a7421_17 : decode cJ5_inflateIfNeededFor_a7421 17 = .ok (.aload_n 0, 1) := by decide +kernel
theorem dJ5_inflateIfNeededFor_a7421_18 : decode cJ5_inflateIfNeededFor_a7421 18 = .ok (.invokevirtual 195, 3) := by decide +kernel
theorem dJ5_inflateIfNeededFor_a7421_21 : decode cJ5_inflateIfNeededFor_a7421 21 = .ok (.return_, 1) := by decide +kernel
theorem dJ5_putStringAt_47b60_0 : decode cJ5_putStringAt_47b60 0 = .ok (.aload_n 0, 1) := by decide +kernel
theorem dJ5_putStringAt_47b60_1 : decode cJ5_putStringAt_47b60 1 = .ok (.aload_n 2, 1) := by decide +kernel
theorem dJ5_putStringAt_47b60_2 : decode cJ5_putStringAt_47b60 2 = .ok (.invokevirtual 397, 3) := by decide +kernel
theorem dJ5_putStringAt_47b60_5 : decode cJ5_putStringAt_47b60 5 = .ok (.aload_n 2, 1) := by decide +kernel
theorem dJ5_putStringAt_47b60_6 : decode cJ5_putStringAt_47b60 6 = .ok (.aload_n 0, 1) := by decide +kernel
theorem dJ5_putStringAt_47b60_7 : decode cJ5_putStringAt_47b60 7 = .ok (.getfield 15, 3) := by decide +kernel
theorem dJ5_putStringAt_47b60_10 : decode cJ5_putStringAt_47b60 10 = .ok (.iload_n 1, 1) := by decide +kernel
theorem dJ5_putStringAt_47b60_11 : decode cJ5_putStringAt_47b60 11 = .ok (.aload_n 0, 1) := by decide +kernel
theorem dJ5_putStringAt_47b60_12 : decode cJ5_putStringAt_47b60 12 = .ok (.getfield 22, 3) := by decide +kernel
theorem dJ5_putStringAt_47b60_15 : decode cJ5_putStringAt_47b60 15 = .ok (.invokevirtual 399, 3) := by decide +kernel
theorem dJ5_putStringAt_47b60_18 : decode cJ5_putStringAt_47b60 18 = .ok (.return_, 1) := by decide +kernel
theorem dJ6_getChars_ba4f3_0 : decode cJ6_getChars_ba4f3 0 = .ok (.iload_n 1, 1) := by decide +kernel
theorem dJ6_getChars_ba4f3_1 : decode cJ6_getChars_ba4f3 1 = .ok (.istore 5, 2) := by decide +kernel
theorem dJ6_getChars_ba4f3_3 : decode cJ6_getChars_ba4f3 3 = .ok (.iload_n 0, 1) := by decide +kernel
theorem dJ6_getChars_ba4f3_4 : decode cJ6_getChars_ba4f3 4 = .ok (.ifCond .ge 7, 3) := by decide +kernel
theorem dJ6_getChars_ba4f3_7 : decode cJ6_getChars_ba4f3 7 = .ok (.iconst 1, 1) := by decide +kernel
theorem dJ6_getChars_ba4f3_8 : decode cJ6_getChars_ba4f3 8 = .ok (.goto 4, 3) := by decide +kernel
theorem dJ6_getChars_ba4f3_11 : decode cJ6_getChars_ba4f3 11 = .ok (.iconst 0, 1) := by decide +kernel
theorem dJ6_getChars_ba4f3_12 : decode cJ6_getChars_ba4f3 12 = .ok (.istore 6, 2) := by decide +kernel
theorem dJ6_getChars_ba4f3_14 : decode cJ6_getChars_ba4f3 14 = .ok (.iload 6, 2) := by decide +kernel
theorem dJ6_getChars_ba4f3_16 : decode cJ6_getChars_ba4f3 16 = .ok (.ifCond .ne 6, 3) := by decide +kernel
theorem dJ6_getChars_ba4f3_19 : decode cJ6_getChars_ba4f3 19 = .ok (.iload_n 0, 1) := by decide +kernel
theorem dJ6_getChars_ba4f3_20 : decode cJ6_getChars_ba4f3 20 = .ok (.ineg, 1) := by decide +kernel
theorem dJ6_getChars_ba4f3_21 : decode cJ6_getChars_ba4f3 21 = .ok (.istore_n 0, 1) := by decide +kernel
theorem dJ6_getChars_ba4f3_22 : decode cJ6_getChars_ba4f3 22 = .ok (.iload_n 0, 1) := by decide +kernel
theorem dJ6_getChars_ba4f3_23 : decode cJ6_getChars_ba4f3 23 = .ok (.bipush (-100), 2) := by decide +kernel
theorem dJ6_getChars_ba4f3_25 : decode cJ6_getChars_ba4f3 25 = .ok (.if_icmp .gt 47, 3) := by decide +kernel
theorem dJ6_getChars_ba4f3_28 : decode cJ6_getChars_ba4f3 28 = .ok (.iload_n 0, 1) := by decide +kernel
theorem dJ6_getChars_ba4f3_29 : decode cJ6_getChars_ba4f3 29 = .ok (.bipush 100, 2) := by decide +kernel
theorem dJ6_getChars_ba4f3_31 : decode cJ6_getChars_ba4f3 31 = .ok (.idiv, 1) := by decide +kernel
theorem dJ6_getChars_ba4f3_32 : decode cJ6_getChars_ba4f3 32 = .ok (.istore_n 3, 1) := by decide +kernel
theorem dJ6_getChars_ba4f3_33 : decode cJ6_getChars_ba4f3 33 = .ok (.iload_n 3, 1) := by decide +kernel
theorem dJ6_getChars_ba4f3_34 : decode cJ6_getChars_ba4f3 34 = .ok (.bipush 100, 2) := by decide +kernel
theorem dJ6_getChars_ba4f3_36 : decode cJ6_getChars_ba4f3 36 = .ok (.imul, 1) := by decide +kernel
theorem dJ6_getChars_ba4f3_37 : decode cJ6_getChars_ba4f3 37 = .ok (.iload_n 0, 1) := by decide +kernel
theorem dJ6_getChars_ba4f3_38 : decode cJ6_getChars_ba4f3 38 = .ok (.isub, 1) := by decide +kernel
theorem dJ6_getChars_ba4f3_39 : decode cJ6_getChars_ba4f3 39 = .ok (.istore 4, 2) := by decide +kernel
theorem dJ6_getChars_ba4f3_41 : decode cJ6_getChars_ba4f3 41 = .ok (.iload_n 3, 1) := by decide +kernel
theorem dJ6_getChars_ba4f3_42 : decode cJ6_getChars_ba4f3 42 = .ok (.istore_n 0, 1) := by decide +kernel
theorem dJ6_getChars_ba4f3_43 : decode cJ6_getChars_ba4f3 43 = .ok (.aload_n 2, 1) := by decide +kernel
theorem dJ6_getChars_ba4f3_44 : decode cJ6_getChars_ba4f3 44 = .ok (.iinc 5 (-1), 3) := by decide +kernel
theorem dJ6_getChars_ba4f3_47 : decode cJ6_getChars_ba4f3 47 = .ok (.iload 5, 2) := by decide +kernel
theorem dJ6_getChars_ba4f3_49 : decode cJ6_getChars_ba4f3 49 = .ok (.getstatic 83, 3) := by decide +kernel
theorem dJ6_getChars_ba4f3_52 : decode cJ6_getChars_ba4f3 52 = .ok (.iload 4, 2) := by decide +kernel
theorem dJ6_getChars_ba4f3_54 : decode cJ6_getChars_ba4f3 54 = .ok (.baload, 1) := by decide +kernel
theorem dJ6_getChars_ba4f3_55 : decode cJ6_getChars_ba4f3 55 = .ok (.bastore, 1) := by decide +kernel
theorem dJ6_getChars_ba4f3_56 : decode cJ6_getChars_ba4f3 56 = .ok (.aload_n 2, 1) := by decide +kernel
theorem dJ6_getChars_ba4f3_57 : decode cJ6_getChars_ba4f3 57 = .ok (.iinc 5 (-1), 3) := by decide +kernel
theorem dJ6_getChars_ba4f3_60 : decode cJ6_getChars_ba4f3 60 = .ok (.iload 5, 2) := by decide +kernel
theorem dJ6_getChars_ba4f3_62 : decode cJ6_getChars_ba4f3 62 = .ok (.getstatic 87, 3) := by decide +kernel
theorem dJ6_getChars_ba4f3_65 : decode cJ6_getChars_ba4f3 65 = .ok (.iload 4, 2) := by decide +kernel
theorem dJ6_getChars_ba4f3_67 : decode cJ6_getChars_ba4f3 67 = .ok (.baload, 1) := by decide +kernel
theorem dJ6_getChars_ba4f3_68 : decode cJ6_getChars_ba4f3 68 = .ok (.bastore, 1) := by decide +kernel
theorem dJ6_getChars_ba4f3_69 : decode cJ6_getChars_ba4f3 69 = .ok (.goto (-47), 3) := by decide +kernel
theorem dJ6_getChars_ba4f3_72 : decode cJ6_getChars_ba4f3 72 = .ok (.aload_n 2, 1) := by decide +kernel
theorem dJ6_getChars_ba4f3_73 : decode cJ6_getChars_ba4f3 73 = .ok (.iinc 5 (-1), 3) := by decide +kernel
theorem dJ6_getChars_ba4f3_76 : decode cJ6_getChars_ba4f3 76 = .ok (.iload 5, 2) := by decide +kernel
theorem dJ6_getChars_ba4f3_78 : decode cJ6_getChars_ba4f3 78 = .ok (.getstatic 83, 3) := by decide +kernel
theorem dJ6_getChars_ba4f3_81 : decode cJ6_getChars_ba4f3 81 = .ok (.iload_n 0, 1) := by decide +kernel
theorem dJ6_getChars_ba4f3_82 : decode cJ6_getChars_ba4f3 82 = .ok (.ineg, 1) := by decide +kernel
theorem dJ6_getChars_ba4f3_83 : decode cJ6_getChars_ba4f3 83 = .ok (.baload, 1) := by decide +kernel
theorem dJ6_getChars_ba4f3_84 : decode cJ6_getChars_ba4f3 84 = .ok (.bastore, 1) := by decide +kernel
theorem dJ6_getChars_ba4f3_85 : decode cJ6_getChars_ba4f3 85 = .ok (.iload_n 0, 1) := by decide +kernel
theorem dJ6_getChars_ba4f3_86 : decode cJ6_getChars_ba4f3 86 = .ok (.bipush (-9), 2) := by decide +kernel
theorem dJ6_getChars_ba4f3_88 : decode cJ6_getChars_ba4f3 88 = .ok (.if_icmp .ge 16, 3) := by decide +kernel
theorem dJ6_getChars_ba4f3_91 : decode cJ6_getChars_ba4f3 91 = .ok (.aload_n 2, 1) := by decide +kernel
theorem dJ6_getChars_ba4f3_92 : decode cJ6_getChars_ba4f3 92 = .ok (.iinc 5 (-1), 3) := by decide +kernel
theorem dJ6_getChars_ba4f3_95 : decode cJ6_getChars_ba4f3 95 = .ok (.iload 5, 2) := by decide +kernel
theorem dJ6_getChars_ba4f3_97 : decode cJ6_getChars_ba4f3 97 = .ok (.getstatic 87, 3) := by decide +kernel
theorem dJ6_getChars_ba4f3_100 : decode cJ6_getChars_ba4f3 100 = .ok (.iload_n 0, 1) := by decide +kernel
theorem dJ6_getChars_ba4f3_101 : decode cJ6_getChars_ba4f3 101 = .ok (.ineg, 1) := by decide +kernel
theorem dJ6_getChars_ba4f3_102 : decode cJ6_getChars_ba4f3 102 = .ok (.baload, 1) := by decide +kernel
theorem dJ6_getChars_ba4f3_103 : decode cJ6_getChars_ba4f3 103 = .ok (.bastore, 1) := by decide +kernel
theorem dJ6_getChars_ba4f3_104 : decode cJ6_getChars_ba4f3 104 = .ok (.iload 6, 2) := by decide +kernel
theorem dJ6_getChars_ba4f3_106 : decode cJ6_getChars_ba4f3 106 = .ok (.ifCond .eq 12, 3) := by decide +kernel
theorem dJ6_getChars_ba4f3_109 : decode cJ6_getChars_ba4f3 109 = .ok (.aload_n 2, 1) := by decide +kernel
theorem dJ6_getChars_ba4f3_110 : decode cJ6_getChars_ba4f3 110 = .ok (.iinc 5 (-1), 3) := by decide +kernel
theorem dJ6_getChars_ba4f3_113 : decode cJ6_getChars_ba4f3 113 = .ok (.iload 5, 2) := by decide +kernel
theorem dJ6_getChars_ba4f3_115 : decode cJ6_getChars_ba4f3 115 = .ok (.bipush 45, 2) := by decide +kernel
theorem dJ6_getChars_ba4f3_117 : decode cJ6_getChars_ba4f3 117 = .ok (.bastore, 1) := by decide +kernel
theorem dJ6_getChars_ba4f3_118 : decode cJ6_getChars_ba4f3 118 = .ok (.iload 5, 2) := by decide +kernel
theorem dJ6_getChars_ba4f3_120 : decode cJ6_getChars_ba4f3 120 = .ok (.ireturn, 1) := by decide +kernel
theorem dJ6_stringSize_0f7a4_0 : decode cJ6_stringSize_0f7a4 0 = .ok (.iconst 1, 1) := by decide +kernel
theorem dJ6_stringSize_0f7a4_1 : decode cJ6_stringSize_0f7a4 1 = .ok (.istore_n 1, 1) := by decide +kernel
theorem dJ6_stringSize_0f7a4_2 : decode cJ6_stringSize_0f7a4 2 = .ok (.iload_n 0, 1) := by decide +kernel
theorem dJ6_stringSize_0f7a4_3 : decode cJ6_stringSize_0f7a4 3 = .ok (.ifCond .lt 8, 3) := by decide +kernel
theorem dJ6_stringSize_0f7a4_6 : decode cJ6_stringSize_0f7a4 6 = .ok (.iconst 0, 1) := by decide +kernel
theorem dJ6_stringSize_0f7a4_7 : decode cJ6_stringSize_0f7a4 7 = .ok (.istore_n 1, 1) := by decide +kernel
theorem dJ6_stringSize_0f7a4_8 : decode cJ6_stringSize_0f7a4 8 = .ok (.iload_n 0, 1) := by decide +kernel
theorem dJ6_stringSize_0f7a4_9 : decode cJ6_stringSize_0f7a4 9 = .ok (.ineg, 1) := by decide +kernel
theorem dJ6_stringSize_0f7a4_10 : decode cJ6_stringSize_0f7a4 10 = .ok (.istore_n 0, 1) := by decide +kernel
theorem dJ6_stringSize_0f7a4_11 : decode cJ6_stringSize_0f7a4 11 = .ok (.bipush (-10), 2) := by decide +kernel
theorem dJ6_stringSize_0f7a4_13 : decode cJ6_stringSize_0f7a4 13 = .ok (.istore_n 2, 1) := by decide +kernel
theorem dJ6_stringSize_0f7a4_14 : decode cJ6_stringSize_0f7a4 14 = .ok (.iconst 1, 1) := by decide +kernel
theorem dJ6_stringSize_0f7a4_15 : decode cJ6_stringSize_0f7a4 15 = .ok (.istore_n 3, 1) := by decide +kernel
theorem dJ6_stringSize_0f7a4_16 : decode cJ6_stringSize_0f7a4 16 = .ok (.iload_n 3, 1) := by decide +kernel
theorem dJ6_stringSize_0f7a4_17 : decode cJ6_stringSize_0f7a4 17 = .ok (.bipush 10, 2) := by decide +kernel
theorem dJ6_stringSize_0f7a4_19 : decode cJ6_stringSize_0f7a4 19 = .ok (.if_icmp .ge 23, 3) := by decide +kernel
theorem dJ6_stringSize_0f7a4_22 : decode cJ6_stringSize_0f7a4 22 = .ok (.iload_n 0, 1) := by decide +kernel
theorem dJ6_stringSize_0f7a4_23 : decode cJ6_stringSize_0f7a4 23 = .ok (.iload_n 2, 1) := by decide +kernel
theorem dJ6_stringSize_0f7a4_24 : decode cJ6_stringSize_0f7a4 24 = .ok (.if_icmp .le 7, 3) := by decide +kernel
theorem dJ6_stringSize_0f7a4_27 : decode cJ6_stringSize_0f7a4 27 = .ok (.iload_n 3, 1) := by decide +kernel
theorem dJ6_stringSize_0f7a4_28 : decode cJ6_stringSize_0f7a4 28 = .ok (.iload_n 1, 1) := by decide +kernel
theorem dJ6_stringSize_0f7a4_29 : decode cJ6_stringSize_0f7a4 29 = .ok (.iadd, 1) := by decide +kernel
theorem dJ6_stringSize_0f7a4_30 : decode cJ6_stringSize_0f7a4 30 = .ok (.ireturn, 1) := by decide +kernel
theorem dJ6_stringSize_0f7a4_31 : decode cJ6_stringSize_0f7a4 31 = .ok (.bipush 10, 2) := by decide +kernel
theorem dJ6_stringSize_0f7a4_33 : decode cJ6_stringSize_0f7a4 33 = .ok (.iload_n 2, 1) := by decide +kernel
theorem dJ6_stringSize_0f7a4_34 : decode cJ6_stringSize_0f7a4 34 = .ok (.imul, 1) := by decide +kernel
theorem dJ6_stringSize_0f7a4_35 : decode cJ6_stringSize_0f7a4 35 = .ok (.istore_n 2, 1) := by decide +kernel
theorem dJ6_stringSize_0f7a4_36 : decode cJ6_stringSize_0f7a4 36 = .ok (.iinc 3 1, 3) := by decide +kernel
theorem dJ6_stringSize_0f7a4_39 : decode cJ6_stringSize_0f7a4 39 = .ok (.goto (-23), 3) := by decide +kernel
theorem dJ6_stringSize_0f7a4_42 : decode cJ6_stringSize_0f7a4 42 = .ok (.bipush 10, 2) := by decide +kernel
theorem dJ6_stringSize_0f7a4_44 : decode cJ6_stringSize_0f7a4 44 = .ok (.iload_n 1, 1) := by decide +kernel
theorem dJ6_stringSize_0f7a4_45 : decode cJ6_stringSize_0f7a4 45 = .ok (.iadd, 1) := by decide +kernel
theorem dJ6_stringSize_0f7a4_46 : decode cJ6_stringSize_0f7a4 46 = .ok (.ireturn, 1) := by decide +kernel
theorem dJ7_copyOf_9075b_0 : decode cJ7_copyOf_9075b 0 = .ok (.iload_n 1, 1) := by decide +kernel
theorem dJ7_copyOf_9075b_1 : decode cJ7_copyOf_9075b 1 = .ok (.aload_n 0, 1) := by decide +kernel
theorem dJ7_copyOf_9075b_2 : decode cJ7_copyOf_9075b 2 = .ok (.arraylength, 1) := by decide +kernel
theorem dJ7_copyOf_9075b_3 : decode cJ7_copyOf_9075b 3 = .ok (.if_icmp .ne 11, 3) := by decide +kernel
theorem dJ7_copyOf_9075b_6 : decode cJ7_copyOf_9075b 6 = .ok (.aload_n 0, 1) := by decide +kernel
theorem dJ7_copyOf_9075b_7 : decode cJ7_copyOf_9075b 7 = .ok (.invokevirtual 310, 3) := by decide +kernel
theorem dJ7_copyOf_9075b_10 : decode cJ7_copyOf_9075b 10 = .ok (.checkcast 311, 3) := by decide +kernel
theorem dJ7_copyOf_9075b_13 : decode cJ7_copyOf_9075b 13 = .ok (.areturn, 1) := by decide +kernel
theorem dJ7_copyOf_9075b_14 : decode cJ7_copyOf_9075b 14 = .ok (.iload_n 1, 1) := by decide +kernel
theorem dJ7_copyOf_9075b_15 : decode cJ7_copyOf_9075b 15 = .ok (.newarray .byte, 2) := by decide +kernel
theorem dJ7_copyOf_9075b_17 : decode cJ7_copyOf_9075b 17 = .ok (.astore_n 2, 1) := by decide +kernel
theorem dJ7_copyOf_9075b_18 : decode cJ7_copyOf_9075b 18 = .ok (.aload_n 0, 1) := by decide +kernel
theorem dJ7_copyOf_9075b_19 : decode cJ7_copyOf_9075b 19 = .ok (.iconst 0, 1) := by decide +kernel
theorem dJ7_copyOf_9075b_20 : decode cJ7_copyOf_9075b 20 = .ok (.aload_n 2, 1) := by decide +kernel
theorem dJ7_copyOf_9075b_21 : decode cJ7_copyOf_9075b 21 = .ok (.iconst 0, 1) := by decide +kernel
theorem dJ7_copyOf_9075b_22 : decode cJ7_copyOf_9075b 22 = .ok (.aload_n 0, 1) := by decide +kernel
theorem dJ7_copyOf_9075b_23 : decode cJ7_copyOf_9075b 23 = .ok (.arraylength, 1) := by decide +kernel
theorem dJ7_copyOf_9075b_24 : decode cJ7_copyOf_9075b 24 = .ok (.iload_n 1, 1) := by decide +kernel
theorem dJ7_copyOf_9075b_25 : decode cJ7_copyOf_9075b 25 = .ok (.invokestatic 304, 3) := by decide +kernel
theorem dJ7_copyOf_9075b_28 : decode cJ7_copyOf_9075b 28 = .ok (.invokestatic 150, 3) := by decide +kernel
theorem dJ7_copyOf_9075b_31 : decode cJ7_copyOf_9075b 31 = .ok (.aload_n 2, 1) := by decide +kernel
theorem dJ7_copyOf_9075b_32 : decode cJ7_copyOf_9075b 32 = .ok (.areturn, 1) := by decide +kernel
theorem dJ7_checkLength_df160_0 : decode cJ7_checkLength_df160 0 = .ok (.iload_n 1, 1) := by decide +kernel
theorem dJ7_checkLength_df160_1 : decode cJ7_checkLength_df160 1 = .ok (.iload_n 0, 1) := by decide +kernel
theorem dJ7_checkLength_df160_2 : decode cJ7_checkLength_df160 2 = .ok (.if_icmp .ge 35, 3) := by decide +kernel
theorem dJ7_checkLength_df160_5 : decode cJ7_checkLength_df160 5 = .ok (.new 43, 3) := by decide +kernel
theorem dJ7_checkLength_df160_8 : decode cJ7_checkLength_df160 8 = .ok (.dup, 1) := by decide +kernel
theorem dJ7_checkLength_df160_9 : decode cJ7_checkLength_df160 9 = .ok (.new 45, 3) := by decide +kernel
theorem dJ7_checkLength_df160_12 : decode cJ7_checkLength_df160 12 = .ok (.dup, 1) := by decide +kernel
theorem dJ7_checkLength_df160_13 : decode cJ7_checkLength_df160 13 = .ok (.invokespecial 47, 3) := by decide +kernel
theorem dJ7_checkLength_df160_16 : decode cJ7_checkLength_df160 16 = .ok (.iload_n 0, 1) := by decide +kernel
theorem dJ7_checkLength_df160_17 : decode cJ7_checkLength_df160 17 = .ok (.invokevirtual 54, 3) := by decide +kernel
theorem dJ7_checkLength_df160_20 : decode cJ7_checkLength_df160 20 = .ok (.ldc_w 337, 3) := by decide +kernel
theorem dJ7_checkLength_df160_23 : decode cJ7_checkLength_df160 23 = .ok (.invokevirtual 50, 3) := by decide +kernel
theorem dJ7_checkLength_df160_26 : decode cJ7_checkLength_df160 26 = .ok (.iload_n 1, 1) := by decide +kernel
theorem dJ7_checkLength_df160_27 : decode cJ7_checkLength_df160 27 = .ok (.invokevirtual 54, 3) := by decide +kernel
theorem dJ7_checkLength_df160_30 : decode cJ7_checkLength_df160 30 = .ok (.invokevirtual 61, 3) := by decide +kernel
theorem dJ7_checkLength_df160_33 : decode cJ7_checkLength_df160 33 = .ok (.invokespecial 65, 3) := by decide +kernel
theorem dJ7_checkLength_df160_36 : decode cJ7_checkLength_df160 36 = .ok (.athrow, 1) := by decide +kernel
theorem dJ7_checkLength_df160_37 : decode cJ7_checkLength_df160 37 = .ok (.return_, 1) := by decide +kernel
theorem dJ7_copyOfRange_39247_0 : decode cJ7_copyOfRange_39247 0 = .ok (.iload_n 1, 1) := by decide +kernel
theorem dJ7_copyOfRange_39247_1 : decode cJ7_copyOfRange_39247 1 = .ok (.ifCond .ne 9, 3) := by decide +kernel
theorem dJ7_copyOfRange_39247_4 : decode cJ7_copyOfRange_39247 4 = .ok (.iload_n 2, 1) := by decide +kernel
theorem dJ7_copyOfRange_39247_5 : decode cJ7_copyOfRange_39247 5 = .ok (.aload_n 0, 1) := by decide +kernel
theorem dJ7_copyOfRange_39247_6 : decode cJ7_copyOfRange_39247 6 = .ok (.arraylength, 1) := by decide +kernel
theorem dJ7_copyOfRange_39247_7 : decode cJ7_copyOfRange_39247 7 = .ok (.if_icmp .eq 10, 3) := by decide +kernel
theorem dJ7_copyOfRange_39247_10 : decode cJ7_copyOfRange_39247 10 = .ok (.aload_n 0, 1) := by decide +kernel
theorem dJ7_copyOfRange_39247_11 : decode cJ7_copyOfRange_39247 11 = .ok (.iload_n 1, 1) := by decide +kernel
theorem dJ7_copyOfRange_39247_12 : decode cJ7_copyOfRange_39247 12 = .ok (.iload_n 2, 1) := by decide +kernel
theorem dJ7_copyOfRange_39247_13 : decode cJ7_copyOfRange_39247 13 = .ok (.invokestatic 339, 3) := by decide +kernel
theorem dJ7_copyOfRange_39247_16 : decode cJ7_copyOfRange_39247 16 = .ok (.areturn, 1) := by decide +kernel
theorem dJ7_copyOfRange_39247_17 : decode cJ7_copyOfRange_39247 17 = .ok (.aload_n 0, 1) := by decide +kernel
theorem dJ7_copyOfRange_39247_18 : decode cJ7_copyOfRange_39247 18 = .ok (.invokevirtual 310, 3) := by decide +kernel
theorem dJ7_copyOfRange_39247_21 : decode cJ7_copyOfRange_39247 21 = .ok (.checkcast 311, 3) := by decide +kernel
theorem dJ7_copyOfRange_39247_24 : decode cJ7_copyOfRange_39247 24 = .ok (.areturn, 1) := by decide +kernel
theorem dJ7_copyOfRangeByte_39247_0 : decode cJ7_copyOfRangeByte_39247 0 = .ok (.iload_n 1, 1) := by decide +kernel
theorem dJ7_copyOfRangeByte_39247_1 : decode cJ7_copyOfRangeByte_39247 1 = .ok (.iload_n 2, 1) := by decide +kernel
theorem dJ7_copyOfRangeByte_39247_2 : decode cJ7_copyOfRangeByte_39247 2 = .ok (.invokestatic 343, 3) := by decide +kernel
theorem dJ7_copyOfRangeByte_39247_5 : decode cJ7_copyOfRangeByte_39247 5 = .ok (.iload_n 2, 1) := by decide +kernel
theorem dJ7_copyOfRangeByte_39247_6 : decode cJ7_copyOfRangeByte_39247 6 = .ok (.iload_n 1, 1) := by decide +kernel
theorem dJ7_copyOfRangeByte_39247_7 : decode cJ7_copyOfRangeByte_39247 7 = .ok (.isub, 1) := by decide +kernel
theorem dJ7_copyOfRangeByte_39247_8 : decode cJ7_copyOfRangeByte_39247 8 = .ok (.istore_n 3, 1) := by decide +kernel
theorem dJ7_copyOfRangeByte_39247_9 : decode cJ7_copyOfRangeByte_39247 9 = .ok (.iload_n 3, 1) := by decide +kernel
theorem dJ7_copyOfRangeByte_39247_10 : decode cJ7_copyOfRangeByte_39247 10 = .ok (.newarray .byte, 2) := by decide +kernel
theorem dJ7_copyOfRangeByte_39247_12 : decode cJ7_copyOfRangeByte_39247 12 = .ok (.astore 4, 2) := by decide +kernel
theorem dJ7_copyOfRangeByte_39247_14 : decode cJ7_copyOfRangeByte_39247 14 = .ok (.aload_n 0, 1) := by decide +kernel
theorem dJ7_copyOfRangeByte_39247_15 : decode cJ7_copyOfRangeByte_39247 15 = .ok (.iload_n 1, 1) := by decide +kernel
theorem dJ7_copyOfRangeByte_39247_16 : decode cJ7_copyOfRangeByte_39247 16 = .ok (.aload 4, 2) := by decide +kernel
theorem dJ7_copyOfRangeByte_39247_18 : decode cJ7_copyOfRangeByte_39247 18 = .ok (.iconst 0, 1) := by decide +kernel
theorem dJ7_copyOfRangeByte_39247_19 : decode cJ7_copyOfRangeByte_39247 19 = .ok (.aload_n 0, 1) := by decide +kernel
theorem dJ7_copyOfRangeByte_39247_20 : decode cJ7_copyOfRangeByte_39247 20 = .ok (.arraylength, 1) := by decide +kernel
theorem dJ7_copyOfRangeByte_39247_21 : decode cJ7_copyOfRangeByte_39247 21 = .ok (.iload_n 1, 1) := by decide +kernel
theorem dJ7_copyOfRangeByte_39247_22 : decode cJ7_copyOfRangeByte_39247 22 = .ok (.isub, 1) := by decide +kernel
theorem dJ7_copyOfRangeByte_39247_23 : decode cJ7_copyOfRangeByte_39247 23 = .ok (.iload_n 3, 1) := by decide +kernel
theorem dJ7_copyOfRangeByte_39247_24 : decode cJ7_copyOfRangeByte_39247 24 = .ok (.invokestatic 304, 3) := by decide +kernel
theorem dJ7_copyOfRangeByte_39247_27 : decode cJ7_copyOfRangeByte_39247 27 = .ok (.invokestatic 150, 3) := by decide +kernel
theorem dJ7_copyOfRangeByte_39247_30 : decode cJ7_copyOfRangeByte_39247 30 = .ok (.aload 4, 2) := by decide +kernel
theorem dJ7_copyOfRangeByte_39247_32 : decode cJ7_copyOfRangeByte_39247 32 = .ok (.areturn, 1) := by decide +kernel
theorem dJ8_newLength_cabcc_0 : decode cJ8_newLength_cabcc 0 = .ok (.iload_n 0, 1) := by decide +kernel
theorem dJ8_newLength_cabcc_1 : decode cJ8_newLength_cabcc 1 = .ok (.iload_n 1, 1) := by decide +kernel
theorem dJ8_newLength_cabcc_2 : decode cJ8_newLength_cabcc 2 = .ok (.iload_n 2, 1) := by decide +kernel
theorem dJ8_newLength_cabcc_3 : decode cJ8_newLength_cabcc 3 = .ok (.invokestatic 194, 3) := by decide +kernel
theorem dJ8_newLength_cabcc_6 : decode cJ8_newLength_cabcc 6 = .ok (.iadd, 1) := by decide +kernel
theorem dJ8_newLength_cabcc_7 : decode cJ8_newLength_cabcc 7 = .ok (.istore_n 3, 1) := by decide +kernel
theorem dJ8_newLength_cabcc_8 : decode cJ8_newLength_cabcc 8 = .ok (.iconst 0, 1) := by decide +kernel
theorem dJ8_newLength_cabcc_9 : decode cJ8_newLength_cabcc 9 = .ok (.iload_n 3, 1) := by decide +kernel
theorem dJ8_newLength_cabcc_10 : decode cJ8_newLength_cabcc 10 = .ok (.if_icmp .ge 11, 3) := by decide +kernel
theorem dJ8_newLength_cabcc_13 : decode cJ8_newLength_cabcc 13 = .ok (.iload_n 3, 1) := by decide +kernel
theorem dJ8_newLength_cabcc_14 : decode cJ8_newLength_cabcc 14 = .ok (.ldc 200, 2) := by decide +kernel
theorem dJ8_newLength_cabcc_16 : decode cJ8_newLength_cabcc 16 = .ok (.if_icmp .gt 5, 3) := by decide +kernel
theorem dJ8_newLength_cabcc_19 : decode cJ8_newLength_cabcc 19 = .ok (.iload_n 3, 1) := by decide +kernel
theorem dJ8_newLength_cabcc_20 : decode cJ8_newLength_cabcc 20 = .ok (.ireturn, 1) := by decide +kernel
theorem dJ8_newLength_cabcc_21 : decode cJ8_newLength_cabcc 21 = .ok (.iload_n 0, 1) := by decide +kernel
theorem dJ8_newLength_cabcc_22 : decode cJ8_newLength_cabcc 22 = .ok (.iload_n 1, 1) := by decide +kernel
theorem dJ8_newLength_cabcc_23 : decode cJ8_newLength_cabcc 23 = .ok (.invokestatic 201, 3) := by decide +kernel
theorem dJ8_newLength_cabcc_26 : decode cJ8_newLength_cabcc 26 = .ok (.ireturn, 1) := by decide +kernel
theorem dJ8_hugeLength_7cf53_0 : decode cJ8_hugeLength_7cf53 0 = .ok (.iload_n 0, 1) := by decide +kernel
theorem dJ8_hugeLength_7cf53_1 : decode cJ8_hugeLength_7cf53 1 = .ok (.iload_n 1, 1) := by decide +kernel
theorem dJ8_hugeLength_7cf53_2 : decode cJ8_hugeLength_7cf53 2 = .ok (.iadd, 1) := by decide +kernel
theorem dJ8_hugeLength_7cf53_3 : decode cJ8_hugeLength_7cf53 3 = .ok (.istore_n 2, 1) := by decide +kernel
theorem dJ8_hugeLength_7cf53_4 : decode cJ8_hugeLength_7cf53 4 = .ok (.iload_n 2, 1) := by decide +kernel
theorem dJ8_hugeLength_7cf53_5 : decode cJ8_hugeLength_7cf53 5 = .ok (.ifCond .ge 44, 3) := by decide +kernel
theorem dJ8_hugeLength_7cf53_8 : decode cJ8_hugeLength_7cf53 8 = .ok (.new 204, 3) := by decide +kernel
theorem dJ8_hugeLength_7cf53_11 : decode cJ8_hugeLength_7cf53 11 = .ok (.dup, 1) := by decide +kernel
theorem dJ8_hugeLength_7cf53_12 : decode cJ8_hugeLength_7cf53 12 = .ok (.new 89, 3) := by decide +kernel
theorem dJ8_hugeLength_7cf53_15 : decode cJ8_hugeLength_7cf53 15 = .ok (.dup, 1) := by decide +kernel
theorem dJ8_hugeLength_7cf53_16 : decode cJ8_hugeLength_7cf53 16 = .ok (.invokespecial 91, 3) := by decide +kernel
theorem dJ8_hugeLength_7cf53_19 : decode cJ8_hugeLength_7cf53 19 = .ok (.ldc 206, 2) := by decide +kernel
theorem dJ8_hugeLength_7cf53_21 : decode cJ8_hugeLength_7cf53 21 = .ok (.invokevirtual 94, 3) := by decide +kernel
theorem dJ8_hugeLength_7cf53_24 : decode cJ8_hugeLength_7cf53 24 = .ok (.iload_n 0, 1) := by decide +kernel
theorem dJ8_hugeLength_7cf53_25 : decode cJ8_hugeLength_7cf53 25 = .ok (.invokevirtual 98, 3) := by decide +kernel
theorem dJ8_hugeLength_7cf53_28 : decode cJ8_hugeLength_7cf53 28 = .ok (.ldc 208, 2) := by decide +kernel
theorem dJ8_hugeLength_7cf53_30 : decode cJ8_hugeLength_7cf53 30 = .ok (.invokevirtual 94, 3) := by decide +kernel
theorem dJ8_hugeLength_7cf53_33 : decode cJ8_hugeLength_7cf53 33 = .ok (.iload_n 1, 1) := by decide +kernel
theorem dJ8_hugeLength_7cf53_34 : decode cJ8_hugeLength_7cf53 34 = .ok (.invokevirtual 98, 3) := by decide +kernel
theorem dJ8_hugeLength_7cf53_37 : decode cJ8_hugeLength_7cf53 37 = .ok (.ldc 210, 2) := by decide +kernel
theorem dJ8_hugeLength_7cf53_39 : decode cJ8_hugeLength_7cf53 39 = .ok (.invokevirtual 94, 3) := by decide +kernel
theorem dJ8_hugeLength_7cf53_42 : decode cJ8_hugeLength_7cf53 42 = .ok (.invokevirtual 101, 3) := by decide +kernel
theorem dJ8_hugeLength_7cf53_45 : decode cJ8_hugeLength_7cf53 45 = .ok (.invokespecial 212, 3) := by decide +kernel
theorem dJ8_hugeLength_7cf53_48 : decode cJ8_hugeLength_7cf53 48 = .ok (.athrow, 1) := by decide +kernel
theorem dJ8_hugeLength_7cf53_49 : decode cJ8_hugeLength_7cf53 49 = .ok (.iload_n 2, 1) := by decide +kernel
theorem dJ8_hugeLength_7cf53_50 : decode cJ8_hugeLength_7cf53 50 = .ok (.ldc 200, 2) := by decide +kernel
theorem dJ8_hugeLength_7cf53_52 : decode cJ8_hugeLength_7cf53 52 = .ok (.if_icmp .gt 6, 3) := by decide +kernel
theorem dJ8_hugeLength_7cf53_55 : decode cJ8_hugeLength_7cf53 55 = .ok (.ldc 200, 2) := by decide +kernel
theorem dJ8_hugeLength_7cf53_57 : decode cJ8_hugeLength_7cf53 57 = .ok (.ireturn, 1) := by decide +kernel
theorem dJ8_hugeLength_7cf53_58 : decode cJ8_hugeLength_7cf53 58 = .ok (.iload_n 2, 1) := by decide +kernel
theorem dJ8_hugeLength_7cf53_59 : decode cJ8_hugeLength_7cf53 59 = .ok (.ireturn, 1) := by decide +kernel
end
section
def am_tbl : List Cond := lw_tbl.filter goodWord
theorem am_wd {w : Cond} (i : Nat) (h : lw_tbl[i]? = some w) (g : goodWord w = true) : w ∈ am_tbl := List.mem_filter.mpr ⟨List.mem_of_getElem? h, g⟩
/-- a field by a pool index of a class: own, index, class number, field number -/
def am_F (own : String) (idx ci k : Nat) (q : vw_C) : Prop := vwCl[ci]? = some q ∧ k < q.2.2 ∧ Cond.fieldLink own idx (q.2.1 k).1 (q.2.1 k).2.1 (q.2.1 k).2.2.1 ∈ am_tbl
/-- a method by a pool index: an instance method found by its receiver; a static one; a constructor -/
def am_SV (own : String) (idx : Nat) (y : MethodName) (C : String) (n : Nat) : Prop := Cond.methodLink own idx y ∈ am_tbl ∧ Cond.instanceMethod y ∈ am_tbl ∧ Cond.selects C y y ∈ am_tbl ∧ Cond.initialized y.cls ∈ am_tbl ∧ y.cls ≠ "java/lang/invoke/MethodHandle" ∧ y.cls ≠ "java/lang/invoke/VarHandle" ∧ (parseMethodDescriptor y.desc).map (fun d => d.parameters.length) = some n
def am_SS (own : String) (idx : Nat) (y : MethodName) (n : Nat) : Prop := Cond.methodLink own idx y ∈ am_tbl ∧ Cond.static y ∈ am_tbl ∧ Cond.initialized y.cls ∈ am_tbl ∧ y.cls ≠ "java/lang/invoke/MethodHandle" ∧ y.cls ≠ "java/lang/invoke/VarHandle" ∧ (parseMethodDescriptor y.desc).map (fun d => d.parameters.length) = some n
def am_SI (own : String) (idx : Nat) (y : MethodName) (n : Nat) : Prop := Cond.methodLink own idx y ∈ am_tbl ∧ Cond.instanceMethod y ∈ am_tbl ∧ Cond.initialized y.cls ∈ am_tbl ∧ y.name = "<init>" ∧ y.cls ≠ "java/lang/invoke/MethodHandle" ∧ y.cls ≠ "java/lang/invoke/VarHandle" ∧ (parseMethodDescriptor y.desc).map (fun d => d.parameters.length) = some n
end
section
/-! ===== the words by pool index ===== -/
theorem f_X3_39 : am_F RX3 39 3 0 (RX3, TX3, 13) := ⟨rfl, by decide, am_wd 74 (by decide +kernel) rfl⟩
theorem f_X0_86 : am_F RX0 86 3 0 (RX3, TX3, 13) := ⟨rfl, by decide, am_wd 75 (by decide +kernel) rfl⟩
theorem f_X5_115 : am_F RX5 115 3 0 (RX3, TX3, 13) := ⟨rfl, by decide, am_wd 76 (by decide +kernel) rfl⟩
theorem f_X2_119 : am_F RX2 119 3 0 (RX3, TX3, 13) := ⟨rfl, by decide, am_wd 77 (by decide +kernel) rfl⟩
theorem f_X3_43 : am_F RX3 43 3 1 (RX3, TX3, 13) := ⟨rfl, by decide, am_wd 78 (by decide +kernel) rfl⟩
theorem f_X0_72 : am_F RX0 72 3 1 (RX3, TX3, 13) := ⟨rfl, by decide, am_wd 79 (by decide +kernel) rfl⟩
theorem f_X5_107 : am_F RX5 107 3 1 (RX3, TX3, 13) := ⟨rfl, by decide, am_wd 80 (by decide +kernel) rfl⟩
theorem f_X3_9 : am_F RX3 9 3 2 (RX3, TX3, 13) := ⟨rfl, by decide, am_wd 81 (by decide +kernel) rfl⟩
theorem f_X0_111 : am_F RX0 111 3 2 (RX3, TX3, 13) := ⟨rfl, by decide, am_wd 82 (by decide +kernel) rfl⟩
theorem f_X5_187 : am_F RX5 187 3 2 (RX3, TX3, 13) := ⟨rfl, by decide, am_wd 83 (by decide +kernel) rfl⟩
theorem f_X3_15 : am_F RX3 15 3 3 (RX3, TX3, 13) := ⟨rfl, by decide, am_wd 84 (by decide +kernel) rfl⟩
theorem f_X0_120 : am_F RX0 120 3 3 (RX3, TX3, 13) := ⟨rfl, by decide, am_wd 85 (by decide +kernel) rfl⟩
theorem f_X3_18 : am_F RX3 18 3 4 (RX3, TX3, 13) := ⟨rfl, by decide, am_wd 86 (by decide +kernel) rfl⟩
theorem f_X0_77 : am_F RX0 77 3 4 (RX3, TX3, 13) := ⟨rfl, by decide, am_wd 87 (by decide +kernel) rfl⟩
theorem f_X5_196 : am_F RX5 196 3 4 (RX3, TX3, 13) := ⟨rfl, by decide, am_wd 88 (by decide +kernel) rfl⟩
theorem f_X3_46 : am_F RX3 46 3 5 (RX3, TX3, 13) := ⟨rfl, by decide, am_wd 89 (by decide +kernel) rfl⟩
theorem f_X0_80 : am_F RX0 80 3 5 (RX3, TX3, 13) := ⟨rfl, by decide, am_wd 90 (by decide +kernel) rfl⟩
theorem f_X5_136 : am_F RX5 136 3 5 (RX3, TX3, 13) := ⟨rfl, by decide, am_wd 91 (by decide +kernel) rfl⟩
theorem f_X3_21 : am_F RX3 21 3 6 (RX3, TX3, 13) := ⟨rfl, by decide, am_wd 92 (by decide +kernel) rfl⟩
theorem f_X5_142 : am_F RX5 142 3 6 (RX3, TX3, 13) := ⟨rfl, by decide, am_wd 93 (by decide +kernel) rfl⟩
theorem f_X0_135 : am_F RX0 135 3 6 (RX3, TX3, 13) := ⟨rfl, by decide, am_wd 94 (by decide +kernel) rfl⟩
theorem f_X3_24 : am_F RX3 24 3 7 (RX3, TX3, 13) := ⟨rfl, by decide, am_wd 95 (by decide +kernel) rfl⟩
theorem f_X0_83 : am_F RX0 83 3 7 (RX3, TX3, 13) := ⟨rfl, by decide, am_wd 96 (by decide +kernel) rfl⟩
theorem f_X5_148 : am_F RX5 148 3 7 (RX3, TX3, 13) := ⟨rfl, by decide, am_wd 97 (by decide +kernel) rfl⟩
theorem f_X3_27 : am_F RX3 27 3 8 (RX3, TX3, 13) := ⟨rfl, by decide, am_wd 98 (by decide +kernel) rfl⟩
theorem f_X0_164 : am_F RX0 164 3 8 (RX3, TX3, 13) := ⟨rfl, by decide, am_wd 99 (by decide +kernel) rfl⟩
theorem f_X3_49 : am_F RX3 49 3 9 (RX3, TX3, 13) := ⟨rfl, by decide, am_wd 100 (by decide +kernel) rfl⟩
theorem f_X3_30 : am_F RX3 30 3 10 (RX3, TX3, 13) := ⟨rfl, by decide, am_wd 101 (by decide +kernel) rfl⟩
theorem f_X3_33 : am_F RX3 33 3 11 (RX3, TX3, 13) := ⟨rfl, by decide, am_wd 102 (by decide +kernel) rfl⟩
theorem f_X3_36 : am_F RX3 36 3 12 (RX3, TX3, 13) := ⟨rfl, by decide, am_wd 103 (by decide +kernel) rfl⟩
theorem f_X5_37 : am_F RX5 37 0 0 (RX0, TX0, 17) := ⟨rfl, by decide, am_wd 137 (by decide +kernel) rfl⟩
theorem f_X0_42 : am_F RX0 42 0 0 (RX0, TX0, 17) := ⟨rfl, by decide, am_wd 138 (by decide +kernel) rfl⟩
theorem f_X2_85 : am_F RX2 85 0 0 (RX0, TX0, 17) := ⟨rfl, by decide, am_wd 139 (by decide +kernel) rfl⟩
theorem f_X0_46 : am_F RX0 46 0 1 (RX0, TX0, 17) := ⟨rfl, by decide, am_wd 140 (by decide +kernel) rfl⟩
theorem f_X5_116 : am_F RX5 116 0 1 (RX0, TX0, 17) := ⟨rfl, by decide, am_wd 141 (by decide +kernel) rfl⟩
theorem f_X0_50 : am_F RX0 50 0 2 (RX0, TX0, 17) := ⟨rfl, by decide, am_wd 142 (by decide +kernel) rfl⟩
theorem f_X5_123 : am_F RX5 123 0 2 (RX0, TX0, 17) := ⟨rfl, by decide, am_wd 143 (by decide +kernel) rfl⟩
theorem f_X0_53 : am_F RX0 53 0 3 (RX0, TX0, 17) := ⟨rfl, by decide, am_wd 144 (by decide +kernel) rfl⟩
theorem f_X5_132 : am_F RX5 132 0 3 (RX0, TX0, 17) := ⟨rfl, by decide, am_wd 145 (by decide +kernel) rfl⟩
theorem f_X0_57 : am_F RX0 57 0 4 (RX0, TX0, 17) := ⟨rfl, by decide, am_wd 146 (by decide +kernel) rfl⟩
theorem f_X5_172 : am_F RX5 172 0 4 (RX0, TX0, 17) := ⟨rfl, by decide, am_wd 147 (by decide +kernel) rfl⟩
theorem f_X0_60 : am_F RX0 60 0 5 (RX0, TX0, 17) := ⟨rfl, by decide, am_wd 148 (by decide +kernel) rfl⟩
theorem f_X5_166 : am_F RX5 166 0 5 (RX0, TX0, 17) := ⟨rfl, by decide, am_wd 149 (by decide +kernel) rfl⟩
theorem f_X0_9 : am_F RX0 9 0 6 (RX0, TX0, 17) := ⟨rfl, by decide, am_wd 150 (by decide +kernel) rfl⟩
theorem f_X5_193 : am_F RX5 193 0 6 (RX0, TX0, 17) := ⟨rfl, by decide, am_wd 151 (by decide +kernel) rfl⟩
theorem f_X0_15 : am_F RX0 15 0 7 (RX0, TX0, 17) := ⟨rfl, by decide, am_wd 152 (by decide +kernel) rfl⟩
theorem f_X5_199 : am_F RX5 199 0 7 (RX0, TX0, 17) := ⟨rfl, by decide, am_wd 153 (by decide +kernel) rfl⟩
theorem f_X0_18 : am_F RX0 18 0 8 (RX0, TX0, 17) := ⟨rfl, by decide, am_wd 154 (by decide +kernel) rfl⟩
theorem f_X5_202 : am_F RX5 202 0 8 (RX0, TX0, 17) := ⟨rfl, by decide, am_wd 155 (by decide +kernel) rfl⟩
theorem f_X0_21 : am_F RX0 21 0 9 (RX0, TX0, 17) := ⟨rfl, by decide, am_wd 156 (by decide +kernel) rfl⟩
theorem f_X5_205 : am_F RX5 205 0 9 (RX0, TX0, 17) := ⟨rfl, by decide, am_wd 157 (by decide +kernel) rfl⟩
theorem f_X0_24 : am_F RX0 24 0 10 (RX0, TX0, 17) := ⟨rfl, by decide, am_wd 158 (by decide +kernel) rfl⟩
theorem f_X5_208 : am_F RX5 208 0 10 (RX0, TX0, 17) := ⟨rfl, by decide, am_wd 159 (by decide +kernel) rfl⟩
theorem f_X0_27 : am_F RX0 27 0 11 (RX0, TX0, 17) := ⟨rfl, by decide, am_wd 160 (by decide +kernel) rfl⟩
theorem f_X5_145 : am_F RX5 145 0 11 (RX0, TX0, 17) := ⟨rfl, by decide, am_wd 161 (by decide +kernel) rfl⟩
theorem f_X0_69 : am_F RX0 69 0 12 (RX0, TX0, 17) := ⟨rfl, by decide, am_wd 162 (by decide +kernel) rfl⟩
theorem f_X5_222 : am_F RX5 222 0 12 (RX0, TX0, 17) := ⟨rfl, by decide, am_wd 163 (by decide +kernel) rfl⟩
theorem f_X0_30 : am_F RX0 30 0 13 (RX0, TX0, 17) := ⟨rfl, by decide, am_wd 164 (by decide +kernel) rfl⟩
theorem f_X5_233 : am_F RX5 233 0 13 (RX0, TX0, 17) := ⟨rfl, by decide, am_wd 165 (by decide +kernel) rfl⟩
theorem f_X0_33 : am_F RX0 33 0 14 (RX0, TX0, 17) := ⟨rfl, by decide, am_wd 166 (by decide +kernel) rfl⟩
theorem f_X5_236 : am_F RX5 236 0 14 (RX0, TX0, 17) := ⟨rfl, by decide, am_wd 167 (by decide +kernel) rfl⟩
theorem f_X0_36 : am_F RX0 36 0 15 (RX0, TX0, 17) := ⟨rfl, by decide, am_wd 168 (by decide +kernel) rfl⟩
theorem f_X5_239 : am_F RX5 239 0 15 (RX0, TX0, 17) := ⟨rfl, by decide, am_wd 169 (by decide +kernel) rfl⟩
theorem f_X0_39 : am_F RX0 39 0 16 (RX0, TX0, 17) := ⟨rfl, by decide, am_wd 170 (by decide +kernel) rfl⟩
theorem f_X2_9 : am_F RX2 9 2 0 (RX2, TX2, 8) := ⟨rfl, by decide, am_wd 206 (by decide +kernel) rfl⟩
theorem f_X5_84 : am_F RX5 84 2 1 (RX2, TX2, 8) := ⟨rfl, by decide, am_wd 207 (by decide +kernel) rfl⟩
theorem f_X2_41 : am_F RX2 41 2 1 (RX2, TX2, 8) := ⟨rfl, by decide, am_wd 208 (by decide +kernel) rfl⟩
theorem f_X2_23 : am_F RX2 23 2 2 (RX2, TX2, 8) := ⟨rfl, by decide, am_wd 209 (by decide +kernel) rfl⟩
theorem f_X5_33 : am_F RX5 33 2 2 (RX2, TX2, 8) := ⟨rfl, by decide, am_wd 210 (by decide +kernel) rfl⟩
theorem f_X2_69 : am_F RX2 69 2 3 (RX2, TX2, 8) := ⟨rfl, by decide, am_wd 211 (by decide +kernel) rfl⟩
theorem f_X2_72 : am_F RX2 72 2 4 (RX2, TX2, 8) := ⟨rfl, by decide, am_wd 212 (by decide +kernel) rfl⟩
theorem f_X2_44 : am_F RX2 44 2 5 (RX2, TX2, 8) := ⟨rfl, by decide, am_wd 213 (by decide +kernel) rfl⟩
theorem f_X2_112 : am_F RX2 112 2 6 (RX2, TX2, 8) := ⟨rfl, by decide, am_wd 214 (by decide +kernel) rfl⟩
theorem f_X2_89 : am_F RX2 89 2 7 (RX2, TX2, 8) := ⟨rfl, by decide, am_wd 215 (by decide +kernel) rfl⟩
theorem f_X1_11 : am_F RX1 11 1 0 (RX1, TX1, 3) := ⟨rfl, by decide, am_wd 429 (by decide +kernel) rfl⟩
theorem f_X1_24 : am_F RX1 24 1 1 (RX1, TX1, 3) := ⟨rfl, by decide, am_wd 430 (by decide +kernel) rfl⟩
theorem f_X1_20 : am_F RX1 20 1 2 (RX1, TX1, 3) := ⟨rfl, by decide, am_wd 431 (by decide +kernel) rfl⟩
theorem f_X5_311 : am_F RX5 311 1 2 (RX1, TX1, 3) := ⟨rfl, by decide, am_wd 432 (by decide +kernel) rfl⟩
theorem f_X4_9 : am_F RX4 9 4 0 (RX4, TX4, 2) := ⟨rfl, by decide, am_wd 446 (by decide +kernel) rfl⟩
theorem f_X5_332 : am_F RX5 332 4 0 (RX4, TX4, 2) := ⟨rfl, by decide, am_wd 447 (by decide +kernel) rfl⟩
theorem f_X5_329 : am_F RX5 329 4 1 (RX4, TX4, 2) := ⟨rfl, by decide, am_wd 448 (by decide +kernel) rfl⟩
theorem f_X5_12 : am_F RX5 12 5 0 (RX5, TX5, 9) := ⟨rfl, by decide, am_wd 455 (by decide +kernel) rfl⟩
theorem f_X5_26 : am_F RX5 26 5 1 (RX5, TX5, 9) := ⟨rfl, by decide, am_wd 456 (by decide +kernel) rfl⟩
theorem f_X5_49 : am_F RX5 49 5 2 (RX5, TX5, 9) := ⟨rfl, by decide, am_wd 457 (by decide +kernel) rfl⟩
theorem f_X5_55 : am_F RX5 55 5 3 (RX5, TX5, 9) := ⟨rfl, by decide, am_wd 458 (by decide +kernel) rfl⟩
theorem f_X5_61 : am_F RX5 61 5 4 (RX5, TX5, 9) := ⟨rfl, by decide, am_wd 459 (by decide +kernel) rfl⟩
theorem f_X5_65 : am_F RX5 65 5 5 (RX5, TX5, 9) := ⟨rfl, by decide, am_wd 460 (by decide +kernel) rfl⟩
theorem f_X5_69 : am_F RX5 69 5 6 (RX5, TX5, 9) := ⟨rfl, by decide, am_wd 461 (by decide +kernel) rfl⟩
theorem f_X5_73 : am_F RX5 73 5 7 (RX5, TX5, 9) := ⟨rfl, by decide, am_wd 462 (by decide +kernel) rfl⟩
theorem f_X5_80 : am_F RX5 80 5 8 (RX5, TX5, 9) := ⟨rfl, by decide, am_wd 463 (by decide +kernel) rfl⟩
theorem f_J5_15 : am_F RJ5 15 6 0 (RJ4, TJ4, 4) := ⟨rfl, by decide, am_wd 1098 (by decide +kernel) rfl⟩
theorem f_J5_22 : am_F RJ5 22 6 1 (RJ4, TJ4, 4) := ⟨rfl, by decide, am_wd 1099 (by decide +kernel) rfl⟩
theorem fd_J0_1048 : am_F RJ0 1048 6 2 (RJ4, TJ4, 4) := ⟨rfl, by decide, am_wd 1100 (by decide +kernel) rfl⟩
theorem f_J5_79 : am_F RJ5 79 6 3 (RJ4, TJ4, 4) := ⟨rfl, by decide, am_wd 1101 (by decide +kernel) rfl⟩
theorem fd_J0_9 : am_F RJ0 9 7 0 (RJ0, TJ0, 4) := ⟨rfl, by decide, am_wd 1216 (by decide +kernel) rfl⟩
theorem fd_J0_15 : am_F RJ0 15 7 1 (RJ0, TJ0, 4) := ⟨rfl, by decide, am_wd 1217 (by decide +kernel) rfl⟩
theorem h_X5_init : Cond.code yX5_init cX5_init 3 none ∈ am_tbl := am_wd 56 (by decide +kernel) rfl
theorem h_X2_init : Cond.code yX2_init cX2_init 1 none ∈ am_tbl := am_wd 64 (by decide +kernel) rfl
theorem h_X3_init : Cond.code yX3_init cX3_init 1 none ∈ am_tbl := am_wd 72 (by decide +kernel) rfl
theorem h_X0_init : Cond.code yX0_init cX0_init 2 none ∈ am_tbl := am_wd 135 (by decide +kernel) rfl
theorem h_X2_takeText : Cond.code yX2_takeText cX2_takeText 3 none ∈ am_tbl := am_wd 237 (by decide +kernel) rfl
theorem h_J0_length_8abf5 : Cond.code yJ0_length_8abf5 cJ0_length_8abf5 1 (some .int) ∈ am_tbl := am_wd 241 (by decide +kernel) rfl
theorem h_J0_coder_7d493 : Cond.code yJ0_coder_7d493 cJ0_coder_7d493 1 (some .byte) ∈ am_tbl := am_wd 245 (by decide +kernel) rfl
theorem h_J0_charAt_5068e : Cond.code yJ0_charAt_5068e cJ0_charAt_5068e 2 (some .char) ∈ am_tbl := am_wd 251 (by decide +kernel) rfl
theorem h_J0_isLatin1_aae02 : Cond.code yJ0_isLatin1_aae02 cJ0_isLatin1_aae02 1 (some .boolean) ∈ am_tbl := am_wd 255 (by decide +kernel) rfl
theorem h_J1_charAt_3b067 : Cond.code yJ1_charAt_3b067 cJ1_charAt_3b067 2 (some .char) ∈ am_tbl := am_wd 258 (by decide +kernel) rfl
theorem h_J0_checkIndex_df160 : Cond.code yJ0_checkIndex_df160 cJ0_checkIndex_df160 2 none ∈ am_tbl := am_wd 261 (by decide +kernel) rfl
theorem h_J3_checkIndex_8e157 : Cond.code yJ3_checkIndex_8e157 cJ3_checkIndex_8e157 3 (some .int) ∈ am_tbl := am_wd 266 (by decide +kernel) rfl
theorem h_J2_charAt_3b067 : Cond.code yJ2_charAt_3b067 cJ2_charAt_3b067 2 (some .char) ∈ am_tbl := am_wd 269 (by decide +kernel) rfl
theorem h_J2_checkIndex_2214a : Cond.code yJ2_checkIndex_2214a cJ2_checkIndex_2214a 2 none ∈ am_tbl := am_wd 272 (by decide +kernel) rfl
theorem h_J2_length_9d52b : Cond.code yJ2_length_9d52b cJ2_length_9d52b 1 (some .int) ∈ am_tbl := am_wd 275 (by decide +kernel) rfl
theorem h_J2_getChar_3b067 : Cond.code yJ2_getChar_3b067 cJ2_getChar_3b067 2 (some .char) ∈ am_tbl := am_wd 279 (by decide +kernel) rfl
theorem h_X2_takeByte : Cond.code yX2_takeByte cX2_takeByte 2 none ∈ am_tbl := am_wd 289 (by decide +kernel) rfl
theorem h_X2_findError : Cond.code yX2_findError cX2_findError 2 (some .int) ∈ am_tbl := am_wd 293 (by decide +kernel) rfl
theorem h_X2_step : Cond.code yX2_step cX2_step 1 none ∈ am_tbl := am_wd 297 (by decide +kernel) rfl
theorem h_X2_stepOverWord : Cond.code yX2_stepOverWord cX2_stepOverWord 1 none ∈ am_tbl := am_wd 301 (by decide +kernel) rfl
theorem h_X2_stepOverNumber : Cond.code yX2_stepOverNumber cX2_stepOverNumber 2 none ∈ am_tbl := am_wd 305 (by decide +kernel) rfl
theorem h_X2_readRoute : Cond.code yX2_readRoute cX2_readRoute 1 (some .boolean) ∈ am_tbl := am_wd 309 (by decide +kernel) rfl
theorem h_X2_isWord : Cond.code yX2_isWord cX2_isWord 3 (some .boolean) ∈ am_tbl := am_wd 314 (by decide +kernel) rfl
theorem h_X2_takeNumber : Cond.code yX2_takeNumber cX2_takeNumber 3 (some .boolean) ∈ am_tbl := am_wd 318 (by decide +kernel) rfl
theorem h_X3_clear : Cond.code yX3_clear cX3_clear 2 none ∈ am_tbl := am_wd 322 (by decide +kernel) rfl
theorem h_X2_takeSemicolon : Cond.code yX2_takeSemicolon cX2_takeSemicolon 1 (some .boolean) ∈ am_tbl := am_wd 326 (by decide +kernel) rfl
theorem h_X2_readCamels : Cond.code yX2_readCamels cX2_readCamels 3 (some .boolean) ∈ am_tbl := am_wd 330 (by decide +kernel) rfl
theorem h_X2_readCamel : Cond.code yX2_readCamel cX2_readCamel 3 (some .boolean) ∈ am_tbl := am_wd 335 (by decide +kernel) rfl
theorem h_X3_addCamel : Cond.code yX3_addCamel cX3_addCamel 4 none ∈ am_tbl := am_wd 339 (by decide +kernel) rfl
theorem h_X2_readWells : Cond.code yX2_readWells cX2_readWells 3 (some .boolean) ∈ am_tbl := am_wd 343 (by decide +kernel) rfl
theorem h_X2_readWell : Cond.code yX2_readWell cX2_readWell 3 (some .boolean) ∈ am_tbl := am_wd 348 (by decide +kernel) rfl
theorem h_X3_wellAt : Cond.code yX3_wellAt cX3_wellAt 3 (some .int) ∈ am_tbl := am_wd 352 (by decide +kernel) rfl
theorem h_X3_addWell : Cond.code yX3_addWell cX3_addWell 4 none ∈ am_tbl := am_wd 356 (by decide +kernel) rfl
theorem h_X2_readStorms : Cond.code yX2_readStorms cX2_readStorms 3 (some .boolean) ∈ am_tbl := am_wd 360 (by decide +kernel) rfl
theorem h_X2_readStorm : Cond.code yX2_readStorm cX2_readStorm 3 (some .boolean) ∈ am_tbl := am_wd 365 (by decide +kernel) rfl
theorem h_X3_addStorm : Cond.code yX3_addStorm cX3_addStorm 4 none ∈ am_tbl := am_wd 369 (by decide +kernel) rfl
theorem h_X0_setOut : Cond.code yX0_setOut cX0_setOut 2 none ∈ am_tbl := am_wd 373 (by decide +kernel) rfl
theorem h_X2_readLoads : Cond.code yX2_readLoads cX2_readLoads 3 (some .boolean) ∈ am_tbl := am_wd 377 (by decide +kernel) rfl
theorem h_X2_readLoad : Cond.code yX2_readLoad cX2_readLoad 3 (some .boolean) ∈ am_tbl := am_wd 382 (by decide +kernel) rfl
theorem h_X0_bringLoad : Cond.code yX0_bringLoad cX0_bringLoad 4 (some .int) ∈ am_tbl := am_wd 386 (by decide +kernel) rfl
theorem h_X0_freeOn : Cond.code yX0_freeOn cX0_freeOn 2 (some .int) ∈ am_tbl := am_wd 391 (by decide +kernel) rfl
theorem h_X3_hasCamel : Cond.code yX3_hasCamel cX3_hasCamel 2 (some .boolean) ∈ am_tbl := am_wd 395 (by decide +kernel) rfl
theorem h_X0_hangOn : Cond.code yX0_hangOn cX0_hangOn 3 none ∈ am_tbl := am_wd 399 (by decide +kernel) rfl
theorem h_X0_hasLoad : Cond.code yX0_hasLoad cX0_hasLoad 2 (some .boolean) ∈ am_tbl := am_wd 403 (by decide +kernel) rfl
theorem h_X3_copyFrom : Cond.code yX3_copyFrom cX3_copyFrom 2 none ∈ am_tbl := am_wd 409 (by decide +kernel) rfl
theorem h_X0_copyFrom : Cond.code yX0_copyFrom cX0_copyFrom 2 none ∈ am_tbl := am_wd 418 (by decide +kernel) rfl
theorem h_X1_init : Cond.code yX1_init cX1_init 3 none ∈ am_tbl := am_wd 424 (by decide +kernel) rfl
theorem h_X4_init : Cond.code yX4_init cX4_init 1 none ∈ am_tbl := am_wd 444 (by decide +kernel) rfl
theorem h_X5_hasError : Cond.code yX5_hasError cX5_hasError 1 (some .boolean) ∈ am_tbl := am_wd 486 (by decide +kernel) rfl
theorem h_X5_length : Cond.code yX5_length cX5_length 1 (some .int) ∈ am_tbl := am_wd 490 (by decide +kernel) rfl
theorem h_X5_wellCount : Cond.code yX5_wellCount cX5_wellCount 1 (some .int) ∈ am_tbl := am_wd 494 (by decide +kernel) rfl
theorem h_X5_camelCount : Cond.code yX5_camelCount cX5_camelCount 1 (some .int) ∈ am_tbl := am_wd 498 (by decide +kernel) rfl
theorem h_X5_loadCount : Cond.code yX5_loadCount cX5_loadCount 1 (some .int) ∈ am_tbl := am_wd 502 (by decide +kernel) rfl
theorem h_X5_travel : Cond.code yX5_travel cX5_travel 1 (some .int) ∈ am_tbl := am_wd 516 (by decide +kernel) rfl
theorem h_X0_canTravel : Cond.code yX0_canTravel cX0_canTravel 1 (some .boolean) ∈ am_tbl := am_wd 520 (by decide +kernel) rfl
theorem h_X0_isAtEnd : Cond.code yX0_isAtEnd cX0_isAtEnd 1 (some .boolean) ∈ am_tbl := am_wd 524 (by decide +kernel) rfl
theorem h_X0_canRest : Cond.code yX0_canRest cX0_canRest 1 (some .boolean) ∈ am_tbl := am_wd 528 (by decide +kernel) rfl
theorem h_X0_countLiving : Cond.code yX0_countLiving cX0_countLiving 3 (some .int) ∈ am_tbl := am_wd 532 (by decide +kernel) rfl
theorem h_X0_isLiving : Cond.code yX0_isLiving cX0_isLiving 2 (some .boolean) ∈ am_tbl := am_wd 536 (by decide +kernel) rfl
theorem h_X1_remember : Cond.code yX1_remember cX1_remember 2 none ∈ am_tbl := am_wd 608 (by decide +kernel) rfl
theorem h_J9_min_7cf53 : Cond.code yJ9_min_7cf53 cJ9_min_7cf53 2 (some .int) ∈ am_tbl := am_wd 612 (by decide +kernel) rfl
theorem h_X0_passTravelDay : Cond.code yX0_passTravelDay cX0_passTravelDay 5 (some .int) ∈ am_tbl := am_wd 616 (by decide +kernel) rfl
theorem h_X0_speedOf : Cond.code yX0_speedOf cX0_speedOf 3 (some .int) ∈ am_tbl := am_wd 620 (by decide +kernel) rfl
theorem h_J9_max_7cf53 : Cond.code yJ9_max_7cf53 cJ9_max_7cf53 2 (some .int) ∈ am_tbl := am_wd 623 (by decide +kernel) rfl
theorem h_X3_greatestStorm : Cond.code yX3_greatestStorm cX3_greatestStorm 4 (some .int) ∈ am_tbl := am_wd 627 (by decide +kernel) rfl
theorem h_X0_distanceNow : Cond.code yX0_distanceNow cX0_distanceNow 3 (some .int) ∈ am_tbl := am_wd 632 (by decide +kernel) rfl
theorem h_X3_firstWellBehind : Cond.code yX3_firstWellBehind cX3_firstWellBehind 5 (some .int) ∈ am_tbl := am_wd 637 (by decide +kernel) rfl
theorem h_X0_tire : Cond.code yX0_tire cX0_tire 3 none ∈ am_tbl := am_wd 641 (by decide +kernel) rfl
theorem h_X0_needIn : Cond.code yX0_needIn cX0_needIn 3 (some .int) ∈ am_tbl := am_wd 645 (by decide +kernel) rfl
theorem h_X0_useWater : Cond.code yX0_useWater cX0_useWater 3 none ∈ am_tbl := am_wd 649 (by decide +kernel) rfl
theorem h_X0_dropAllOf : Cond.code yX0_dropAllOf cX0_dropAllOf 3 none ∈ am_tbl := am_wd 653 (by decide +kernel) rfl
theorem h_X0_layDown : Cond.code yX0_layDown cX0_layDown 3 none ∈ am_tbl := am_wd 657 (by decide +kernel) rfl
theorem h_X0_endDay : Cond.code yX0_endDay cX0_endDay 2 none ∈ am_tbl := am_wd 661 (by decide +kernel) rfl
theorem h_X0_quickest : Cond.code yX0_quickest cX0_quickest 4 (some .int) ∈ am_tbl := am_wd 665 (by decide +kernel) rfl
theorem h_X5_rest : Cond.code yX5_rest cX5_rest 1 (some .int) ∈ am_tbl := am_wd 669 (by decide +kernel) rfl
theorem h_X0_passRestDay : Cond.code yX0_passRestDay cX0_passRestDay 3 none ∈ am_tbl := am_wd 675 (by decide +kernel) rfl
theorem h_X5_drink : Cond.code yX5_drink cX5_drink 2 (some .int) ∈ am_tbl := am_wd 680 (by decide +kernel) rfl
theorem h_X0_shareOut : Cond.code yX0_shareOut cX0_shareOut 6 none ∈ am_tbl := am_wd 686 (by decide +kernel) rfl
theorem h_X0_nextToDrink : Cond.code yX0_nextToDrink cX0_nextToDrink 5 (some .int) ∈ am_tbl := am_wd 690 (by decide +kernel) rfl
theorem h_X0_takeShares : Cond.code yX0_takeShares cX0_takeShares 5 (some .int) ∈ am_tbl := am_wd 694 (by decide +kernel) rfl
theorem h_X5_setLeader : Cond.code yX5_setLeader cX5_setLeader 3 (some .int) ∈ am_tbl := am_wd 698 (by decide +kernel) rfl
theorem h_X5_requireCamel : Cond.code yX5_requireCamel cX5_requireCamel 2 none ∈ am_tbl := am_wd 702 (by decide +kernel) rfl
theorem h_X5_putOn : Cond.code yX5_putOn cX5_putOn 3 (some .int) ∈ am_tbl := am_wd 725 (by decide +kernel) rfl
end
section
theorem h_X5_requireLoad : Cond.code yX5_requireLoad cX5_requireLoad 2 none ∈ am_tbl := am_wd 729 (by decide +kernel) rfl
theorem h_X0_whereIs : Cond.code yX0_whereIs cX0_whereIs 2 (some .int) ∈ am_tbl := am_wd 736 (by decide +kernel) rfl
theorem h_X5_takeOff : Cond.code yX5_takeOff cX5_takeOff 3 (some .int) ∈ am_tbl := am_wd 745 (by decide +kernel) rfl
theorem h_X5_addLoad : Cond.code yX5_addLoad cX5_addLoad 3 (some .int) ∈ am_tbl := am_wd 750 (by decide +kernel) rfl
theorem h_X5_undo : Cond.code yX5_undo cX5_undo 1 (some .int) ∈ am_tbl := am_wd 772 (by decide +kernel) rfl
theorem h_X1_takeBack : Cond.code yX1_takeBack cX1_takeBack 2 none ∈ am_tbl := am_wd 777 (by decide +kernel) rfl
theorem h_X5_saveSnapshot : Cond.code yX5_saveSnapshot cX5_saveSnapshot 2 (some .int) ∈ am_tbl := am_wd 781 (by decide +kernel) rfl
theorem h_X5_requireSlot : Cond.code yX5_requireSlot cX5_requireSlot 2 none ∈ am_tbl := am_wd 785 (by decide +kernel) rfl
theorem h_X5_restoreSnapshot : Cond.code yX5_restoreSnapshot cX5_restoreSnapshot 2 (some .int) ∈ am_tbl := am_wd 790 (by decide +kernel) rfl
theorem h_X5_load : Cond.code yX5_load cX5_load 2 (some .int) ∈ am_tbl := am_wd 810 (by decide +kernel) rfl
theorem h_X1_forget : Cond.code yX1_forget cX1_forget 1 none ∈ am_tbl := am_wd 815 (by decide +kernel) rfl
theorem h_X5_append : Cond.code yX5_append cX5_append 6 (some .int) ∈ am_tbl := am_wd 819 (by decide +kernel) rfl
theorem h_X2_takeFour : Cond.code yX2_takeFour cX2_takeFour 3 none ∈ am_tbl := am_wd 824 (by decide +kernel) rfl
theorem h_X5_shorten : Cond.code yX5_shorten cX5_shorten 2 (some .int) ∈ am_tbl := am_wd 828 (by decide +kernel) rfl
theorem h_X5_errorOffset : Cond.code yX5_errorOffset cX5_errorOffset 1 (some .int) ∈ am_tbl := am_wd 833 (by decide +kernel) rfl
theorem h_X5_stormOn : Cond.code yX5_stormOn cX5_stormOn 2 (some .int) ∈ am_tbl := am_wd 838 (by decide +kernel) rfl
theorem h_X5_wellKilometre : Cond.code yX5_wellKilometre cX5_wellKilometre 2 (some .int) ∈ am_tbl := am_wd 844 (by decide +kernel) rfl
theorem h_X5_requireWell : Cond.code yX5_requireWell cX5_requireWell 2 none ∈ am_tbl := am_wd 848 (by decide +kernel) rfl
theorem h_X5_wellCapacity : Cond.code yX5_wellCapacity cX5_wellCapacity 2 (some .int) ∈ am_tbl := am_wd 853 (by decide +kernel) rfl
theorem h_X5_wellLevel : Cond.code yX5_wellLevel cX5_wellLevel 2 (some .int) ∈ am_tbl := am_wd 857 (by decide +kernel) rfl
theorem h_X5_wellHere : Cond.code yX5_wellHere cX5_wellHere 2 (some .int) ∈ am_tbl := am_wd 861 (by decide +kernel) rfl
theorem h_X5_nextWell : Cond.code yX5_nextWell cX5_nextWell 2 (some .int) ∈ am_tbl := am_wd 866 (by decide +kernel) rfl
theorem h_X5_isDead : Cond.code yX5_isDead cX5_isDead 2 (some .boolean) ∈ am_tbl := am_wd 872 (by decide +kernel) rfl
theorem h_X5_pace : Cond.code yX5_pace cX5_pace 2 (some .int) ∈ am_tbl := am_wd 876 (by decide +kernel) rfl
theorem h_X5_tank : Cond.code yX5_tank cX5_tank 2 (some .int) ∈ am_tbl := am_wd 880 (by decide +kernel) rfl
theorem h_X5_water : Cond.code yX5_water cX5_water 2 (some .int) ∈ am_tbl := am_wd 884 (by decide +kernel) rfl
theorem h_X5_strain : Cond.code yX5_strain cX5_strain 2 (some .int) ∈ am_tbl := am_wd 888 (by decide +kernel) rfl
theorem h_X5_lameDays : Cond.code yX5_lameDays cX5_lameDays 2 (some .int) ∈ am_tbl := am_wd 892 (by decide +kernel) rfl
theorem h_X5_dryDays : Cond.code yX5_dryDays cX5_dryDays 2 (some .int) ∈ am_tbl := am_wd 896 (by decide +kernel) rfl
theorem h_X5_carried : Cond.code yX5_carried cX5_carried 2 (some .int) ∈ am_tbl := am_wd 900 (by decide +kernel) rfl
theorem h_X5_freeWeight : Cond.code yX5_freeWeight cX5_freeWeight 2 (some .int) ∈ am_tbl := am_wd 904 (by decide +kernel) rfl
theorem h_X5_speed : Cond.code yX5_speed cX5_speed 2 (some .int) ∈ am_tbl := am_wd 908 (by decide +kernel) rfl
theorem h_X5_thirstiest : Cond.code yX5_thirstiest cX5_thirstiest 2 (some .int) ∈ am_tbl := am_wd 913 (by decide +kernel) rfl
theorem h_X0_leastWatered : Cond.code yX0_leastWatered cX0_leastWatered 3 (some .int) ∈ am_tbl := am_wd 917 (by decide +kernel) rfl
theorem h_X5_fastest : Cond.code yX5_fastest cX5_fastest 2 (some .int) ∈ am_tbl := am_wd 922 (by decide +kernel) rfl
theorem h_X5_weightOf : Cond.code yX5_weightOf cX5_weightOf 2 (some .int) ∈ am_tbl := am_wd 927 (by decide +kernel) rfl
theorem h_X5_valueOf : Cond.code yX5_valueOf cX5_valueOf 2 (some .int) ∈ am_tbl := am_wd 931 (by decide +kernel) rfl
theorem h_X5_isCarried : Cond.code yX5_isCarried cX5_isCarried 2 (some .boolean) ∈ am_tbl := am_wd 935 (by decide +kernel) rfl
theorem h_X5_carrierOf : Cond.code yX5_carrierOf cX5_carrierOf 2 (some .int) ∈ am_tbl := am_wd 939 (by decide +kernel) rfl
theorem h_X5_placeOf : Cond.code yX5_placeOf cX5_placeOf 2 (some .int) ∈ am_tbl := am_wd 944 (by decide +kernel) rfl
theorem h_X5_needToday : Cond.code yX5_needToday cX5_needToday 2 (some .int) ∈ am_tbl := am_wd 948 (by decide +kernel) rfl
theorem h_X5_livingAfter : Cond.code yX5_livingAfter cX5_livingAfter 3 (some .int) ∈ am_tbl := am_wd 953 (by decide +kernel) rfl
theorem h_X5_daysToArrival : Cond.code yX5_daysToArrival cX5_daysToArrival 2 (some .int) ∈ am_tbl := am_wd 958 (by decide +kernel) rfl
theorem h_X5_wouldDrink : Cond.code yX5_wouldDrink cX5_wouldDrink 3 (some .int) ∈ am_tbl := am_wd 964 (by decide +kernel) rfl
theorem h_X5_writtenByte : Cond.code yX5_writtenByte cX5_writtenByte 2 (some .int) ∈ am_tbl := am_wd 968 (by decide +kernel) rfl
theorem h_J4_init_a7421 : Cond.code yJ4_init_a7421 cJ4_init_a7421 2 none ∈ am_tbl := am_wd 983 (by decide +kernel) rfl
theorem h_J5_init_a7421 : Cond.code yJ5_init_a7421 cJ5_init_a7421 5 none ∈ am_tbl := am_wd 986 (by decide +kernel) rfl
theorem h_J2_newBytesFor_77867 : Cond.code yJ2_newBytesFor_77867 cJ2_newBytesFor_77867 1 (some (.array .byte)) ∈ am_tbl := am_wd 994 (by decide +kernel) rfl
theorem h_J2_newBytesLength_0f7a4 : Cond.code yJ2_newBytesLength_0f7a4 cJ2_newBytesLength_0f7a4 1 (some .int) ∈ am_tbl := am_wd 997 (by decide +kernel) rfl
theorem h_J4_append_cf1ce : Cond.code yJ4_append_cf1ce cJ4_append_cf1ce 2 (some (.object "java/lang/AbstractStringBuilder")) ∈ am_tbl := am_wd 1004 (by decide +kernel) rfl
theorem h_J4_append_15ec4 : Cond.code yJ4_append_15ec4 cJ4_append_15ec4 2 (some (.object "java/lang/StringBuilder")) ∈ am_tbl := am_wd 1008 (by decide +kernel) rfl
theorem h_J5_append_cf1ce : Cond.code yJ5_append_cf1ce cJ5_append_cf1ce 3 (some (.object "java/lang/AbstractStringBuilder")) ∈ am_tbl := am_wd 1011 (by decide +kernel) rfl
theorem h_J5_appendNull_278bc : Cond.code yJ5_appendNull_278bc cJ5_appendNull_278bc 3 (some (.object "java/lang/AbstractStringBuilder")) ∈ am_tbl := am_wd 1015 (by decide +kernel) rfl
theorem h_J5_ensureCapacityInternal_d00df : Cond.code yJ5_ensureCapacityInternal_d00df cJ5_ensureCapacityInternal_d00df 3 none ∈ am_tbl := am_wd 1019 (by decide +kernel) rfl
theorem h_J5_newCapacity_0f7a4 : Cond.code yJ5_newCapacity_0f7a4 cJ5_newCapacity_0f7a4 6 (some .int) ∈ am_tbl := am_wd 1023 (by decide +kernel) rfl
theorem h_J8_newLength_cabcc : Cond.code yJ8_newLength_cabcc cJ8_newLength_cabcc 4 (some .int) ∈ am_tbl := am_wd 1026 (by decide +kernel) rfl
theorem h_J8_hugeLength_7cf53 : Cond.code yJ8_hugeLength_7cf53 cJ8_hugeLength_7cf53 3 (some .int) ∈ am_tbl := am_wd 1031 (by decide +kernel) rfl
theorem h_J7_copyOf_9075b : Cond.code yJ7_copyOf_9075b cJ7_copyOf_9075b 3 (some (.array .byte)) ∈ am_tbl := am_wd 1034 (by decide +kernel) rfl
theorem h_J5_isLatin1_aae02 : Cond.code yJ5_isLatin1_aae02 cJ5_isLatin1_aae02 1 (some .boolean) ∈ am_tbl := am_wd 1048 (by decide +kernel) rfl
theorem h_J2_putCharsAt_cd4e5 : Cond.code yJ2_putCharsAt_cd4e5 cJ2_putCharsAt_cd4e5 7 (some .int) ∈ am_tbl := am_wd 1052 (by decide +kernel) rfl
theorem h_J2_checkBoundsBeginEnd_d044e : Cond.code yJ2_checkBoundsBeginEnd_d044e cJ2_checkBoundsBeginEnd_d044e 3 none ∈ am_tbl := am_wd 1055 (by decide +kernel) rfl
theorem h_J0_checkBoundsBeginEnd_23922 : Cond.code yJ0_checkBoundsBeginEnd_23922 cJ0_checkBoundsBeginEnd_23922 3 none ∈ am_tbl := am_wd 1058 (by decide +kernel) rfl
theorem h_J3_checkFromToIndex_8c36e : Cond.code yJ3_checkFromToIndex_8c36e cJ3_checkFromToIndex_8c36e 4 (some .int) ∈ am_tbl := am_wd 1061 (by decide +kernel) rfl
theorem h_J2_putChar_b72d1 : Cond.code yJ2_putChar_b72d1 cJ2_putChar_b72d1 3 none ∈ am_tbl := am_wd 1064 (by decide +kernel) rfl
theorem h_J5_putStringAt_47b60 : Cond.code yJ5_putStringAt_47b60 cJ5_putStringAt_47b60 3 none ∈ am_tbl := am_wd 1068 (by decide +kernel) rfl
theorem h_J5_inflateIfNeededFor_a7421 : Cond.code yJ5_inflateIfNeededFor_a7421 cJ5_inflateIfNeededFor_a7421 2 none ∈ am_tbl := am_wd 1072 (by decide +kernel) rfl
theorem h_J5_inflate_da8c8 : Cond.code yJ5_inflate_da8c8 cJ5_inflate_da8c8 2 none ∈ am_tbl := am_wd 1076 (by decide +kernel) rfl
theorem h_J1_inflate_0e8fd : Cond.code yJ1_inflate_0e8fd cJ1_inflate_0e8fd 5 none ∈ am_tbl := am_wd 1079 (by decide +kernel) rfl
theorem h_J2_inflate_0e8fd : Cond.code yJ2_inflate_0e8fd cJ2_inflate_0e8fd 6 none ∈ am_tbl := am_wd 1082 (by decide +kernel) rfl
theorem h_J2_checkBoundsOffCount_d044e : Cond.code yJ2_checkBoundsOffCount_d044e cJ2_checkBoundsOffCount_d044e 3 none ∈ am_tbl := am_wd 1085 (by decide +kernel) rfl
theorem h_J0_checkBoundsOffCount_cabcc : Cond.code yJ0_checkBoundsOffCount_cabcc cJ0_checkBoundsOffCount_cabcc 3 (some .int) ∈ am_tbl := am_wd 1088 (by decide +kernel) rfl
theorem h_J3_checkFromIndexSize_8c36e : Cond.code yJ3_checkFromIndexSize_8c36e cJ3_checkFromIndexSize_8c36e 4 (some .int) ∈ am_tbl := am_wd 1091 (by decide +kernel) rfl
theorem h_J0_getBytes_840e7 : Cond.code yJ0_getBytes_840e7 cJ0_getBytes_840e7 4 none ∈ am_tbl := am_wd 1095 (by decide +kernel) rfl
theorem h_J4_append_bf812 : Cond.code yJ4_append_bf812 cJ4_append_bf812 2 (some (.object "java/lang/StringBuilder")) ∈ am_tbl := am_wd 1113 (by decide +kernel) rfl
theorem h_J5_append_c97b9 : Cond.code yJ5_append_c97b9 cJ5_append_c97b9 4 (some (.object "java/lang/AbstractStringBuilder")) ∈ am_tbl := am_wd 1116 (by decide +kernel) rfl
theorem h_J6_stringSize_0f7a4 : Cond.code yJ6_stringSize_0f7a4 cJ6_stringSize_0f7a4 4 (some .int) ∈ am_tbl := am_wd 1119 (by decide +kernel) rfl
theorem h_J6_getChars_ba4f3 : Cond.code yJ6_getChars_ba4f3 cJ6_getChars_ba4f3 7 (some .int) ∈ am_tbl := am_wd 1122 (by decide +kernel) rfl
theorem h_J2_getChars_46870 : Cond.code yJ2_getChars_46870 cJ2_getChars_46870 5 (some .int) ∈ am_tbl := am_wd 1129 (by decide +kernel) rfl
theorem h_J2_getChars_ba4f3 : Cond.code yJ2_getChars_ba4f3 cJ2_getChars_ba4f3 7 (some .int) ∈ am_tbl := am_wd 1132 (by decide +kernel) rfl
theorem h_J4_append_cf468 : Cond.code yJ4_append_cf468 cJ4_append_cf468 2 (some (.object "java/lang/StringBuilder")) ∈ am_tbl := am_wd 1138 (by decide +kernel) rfl
theorem h_J5_append_3fe6f : Cond.code yJ5_append_3fe6f cJ5_append_3fe6f 2 (some (.object "java/lang/AbstractStringBuilder")) ∈ am_tbl := am_wd 1141 (by decide +kernel) rfl
theorem h_J1_canEncode_fc78d : Cond.code yJ1_canEncode_fc78d cJ1_canEncode_fc78d 1 (some .boolean) ∈ am_tbl := am_wd 1144 (by decide +kernel) rfl
theorem h_J2_putCharSB_b72d1 : Cond.code yJ2_putCharSB_b72d1 cJ2_putCharSB_b72d1 3 none ∈ am_tbl := am_wd 1147 (by decide +kernel) rfl
theorem h_J4_init_da8c8 : Cond.code yJ4_init_da8c8 cJ4_init_da8c8 1 none ∈ am_tbl := am_wd 1156 (by decide +kernel) rfl
theorem h_J5_init_d00df : Cond.code yJ5_init_d00df cJ5_init_d00df 2 none ∈ am_tbl := am_wd 1159 (by decide +kernel) rfl
theorem h_J4_toString_0e30d : Cond.code yJ4_toString_0e30d cJ4_toString_0e30d 1 (some (.object "java/lang/String")) ∈ am_tbl := am_wd 1165 (by decide +kernel) rfl
theorem h_J0_init_81219 : Cond.code yJ0_init_81219 cJ0_init_81219 2 none ∈ am_tbl := am_wd 1170 (by decide +kernel) rfl
theorem h_J0_init_db425 : Cond.code yJ0_init_db425 cJ0_init_db425 5 none ∈ am_tbl := am_wd 1173 (by decide +kernel) rfl
theorem h_J5_getValue_6d5f1 : Cond.code yJ5_getValue_6d5f1 cJ5_getValue_6d5f1 1 (some (.array .byte)) ∈ am_tbl := am_wd 1179 (by decide +kernel) rfl
theorem h_J4_length_8abf5 : Cond.code yJ4_length_8abf5 cJ4_length_8abf5 1 (some .int) ∈ am_tbl := am_wd 1185 (by decide +kernel) rfl
theorem h_J5_length_8abf5 : Cond.code yJ5_length_8abf5 cJ5_length_8abf5 1 (some .int) ∈ am_tbl := am_wd 1187 (by decide +kernel) rfl
theorem h_J7_copyOfRange_39247 : Cond.code yJ7_copyOfRange_39247 cJ7_copyOfRange_39247 3 (some (.array .byte)) ∈ am_tbl := am_wd 1191 (by decide +kernel) rfl
theorem h_J7_copyOfRangeByte_39247 : Cond.code yJ7_copyOfRangeByte_39247 cJ7_copyOfRangeByte_39247 5 (some (.array .byte)) ∈ am_tbl := am_wd 1194 (by decide +kernel) rfl
theorem h_J7_checkLength_df160 : Cond.code yJ7_checkLength_df160 cJ7_checkLength_df160 2 none ∈ am_tbl := am_wd 1197 (by decide +kernel) rfl
theorem h_J2_compress_39247 : Cond.code yJ2_compress_39247 cJ2_compress_39247 6 (some (.array .byte)) ∈ am_tbl := am_wd 1208 (by decide +kernel) rfl
theorem h_J2_compress_5af95 : Cond.code yJ2_compress_5af95 cJ2_compress_5af95 7 (some .int) ∈ am_tbl := am_wd 1211 (by decide +kernel) rfl
theorem h_J2_coderFromArrayLen_85cad : Cond.code yJ2_coderFromArrayLen_85cad cJ2_coderFromArrayLen_85cad 2 (some .byte) ∈ am_tbl := am_wd 1215 (by decide +kernel) rfl
theorem h_X5_kilometre : Cond.code yX5_kilometre cX5_kilometre 1 (some .int) ∈ am_tbl := am_wd 1234 (by decide +kernel) rfl
theorem h_X5_day : Cond.code yX5_day cX5_day 1 (some .int) ∈ am_tbl := am_wd 1238 (by decide +kernel) rfl
theorem h_X5_leader : Cond.code yX5_leader cX5_leader 1 (some .int) ∈ am_tbl := am_wd 1243 (by decide +kernel) rfl
theorem h_X5_isStopping : Cond.code yX5_isStopping cX5_isStopping 1 (some .boolean) ∈ am_tbl := am_wd 1247 (by decide +kernel) rfl
theorem h_X5_drunk : Cond.code yX5_drunk cX5_drunk 1 (some .int) ∈ am_tbl := am_wd 1252 (by decide +kernel) rfl
theorem h_X5_hasArrived : Cond.code yX5_hasArrived cX5_hasArrived 1 (some .boolean) ∈ am_tbl := am_wd 1259 (by decide +kernel) rfl
theorem h_X5_livingCamels : Cond.code yX5_livingCamels cX5_livingCamels 1 (some .int) ∈ am_tbl := am_wd 1264 (by decide +kernel) rfl
theorem h_X5_carriedValue : Cond.code yX5_carriedValue cX5_carriedValue 3 (some .int) ∈ am_tbl := am_wd 1268 (by decide +kernel) rfl
theorem h_X5_meanWater : Cond.code yX5_meanWater cX5_meanWater 4 (some .double) ∈ am_tbl := am_wd 1272 (by decide +kernel) rfl
theorem h_X5_progress : Cond.code yX5_progress cX5_progress 1 (some .float) ∈ am_tbl := am_wd 1276 (by decide +kernel) rfl
theorem h_X5_distanceToday : Cond.code yX5_distanceToday cX5_distanceToday 1 (some .int) ∈ am_tbl := am_wd 1287 (by decide +kernel) rfl
theorem h_X5_setStopping : Cond.code yX5_setStopping cX5_setStopping 3 (some .boolean) ∈ am_tbl := am_wd 1298 (by decide +kernel) rfl
theorem s_L_280 : am_SI RL 280 yX5_init 0 := ⟨am_wd 54 (by decide +kernel) rfl, am_wd 55 (by decide +kernel) rfl, am_wd 27 (by decide +kernel) rfl, rfl, by decide +kernel, by decide +kernel, by decide +kernel⟩
theorem s_X2_20 : am_SI RX2 20 yX0_init 1 := ⟨am_wd 133 (by decide +kernel) rfl, am_wd 134 (by decide +kernel) rfl, am_wd 29 (by decide +kernel) rfl, rfl, by decide +kernel, by decide +kernel, by decide +kernel⟩
theorem s_X5_18 : am_SV RX5 18 yX2_takeText RX2 1 := ⟨am_wd 234 (by decide +kernel) rfl, am_wd 235 (by decide +kernel) rfl, am_wd 236 (by decide +kernel) rfl, am_wd 28 (by decide +kernel) rfl, by decide +kernel, by decide +kernel, by decide +kernel⟩
theorem s_X2_31 : am_SV RX2 31 yJ0_length_8abf5 RJ0 0 := ⟨am_wd 238 (by decide +kernel) rfl, am_wd 239 (by decide +kernel) rfl, am_wd 240 (by decide +kernel) rfl, am_wd 31 (by decide +kernel) rfl, by decide +kernel, by decide +kernel, by decide +kernel⟩
theorem s_X2_37 : am_SV RX2 37 yJ0_charAt_5068e RJ0 1 := ⟨am_wd 248 (by decide +kernel) rfl, am_wd 249 (by decide +kernel) rfl, am_wd 250 (by decide +kernel) rfl, am_wd 31 (by decide +kernel) rfl, by decide +kernel, by decide +kernel, by decide +kernel⟩
theorem s_J0_498 : am_SS RJ0 498 yJ2_charAt_3b067 2 := ⟨am_wd 267 (by decide +kernel) rfl, am_wd 268 (by decide +kernel) rfl, am_wd 34 (by decide +kernel) rfl, by decide +kernel, by decide +kernel, by decide +kernel⟩
theorem s_X2_27 : am_SV RX2 27 yX2_takeByte RX2 1 := ⟨am_wd 286 (by decide +kernel) rfl, am_wd 288 (by decide +kernel) rfl, am_wd 0 (by decide +kernel) rfl, am_wd 28 (by decide +kernel) rfl, by decide +kernel, by decide +kernel, by decide +kernel⟩
theorem s_X5_22 : am_SV RX5 22 yX2_findError RX2 0 := ⟨am_wd 290 (by decide +kernel) rfl, am_wd 291 (by decide +kernel) rfl, am_wd 292 (by decide +kernel) rfl, am_wd 28 (by decide +kernel) rfl, by decide +kernel, by decide +kernel, by decide +kernel⟩
theorem s_X2_47 : am_SV RX2 47 yX2_step RX2 0 := ⟨am_wd 294 (by decide +kernel) rfl, am_wd 296 (by decide +kernel) rfl, am_wd 1 (by decide +kernel) rfl, am_wd 28 (by decide +kernel) rfl, by decide +kernel, by decide +kernel, by decide +kernel⟩
theorem s_X2_149 : am_SV RX2 149 yX2_stepOverWord RX2 0 := ⟨am_wd 298 (by decide +kernel) rfl, am_wd 300 (by decide +kernel) rfl, am_wd 2 (by decide +kernel) rfl, am_wd 28 (by decide +kernel) rfl, by decide +kernel, by decide +kernel, by decide +kernel⟩
theorem s_X2_152 : am_SV RX2 152 yX2_stepOverNumber RX2 0 := ⟨am_wd 302 (by decide +kernel) rfl, am_wd 304 (by decide +kernel) rfl, am_wd 3 (by decide +kernel) rfl, am_wd 28 (by decide +kernel) rfl, by decide +kernel, by decide +kernel, by decide +kernel⟩
theorem s_X2_50 : am_SV RX2 50 yX2_readRoute RX2 0 := ⟨am_wd 306 (by decide +kernel) rfl, am_wd 308 (by decide +kernel) rfl, am_wd 4 (by decide +kernel) rfl, am_wd 28 (by decide +kernel) rfl, by decide +kernel, by decide +kernel, by decide +kernel⟩
theorem s_X2_77 : am_SV RX2 77 yX2_isWord RX2 1 := ⟨am_wd 311 (by decide +kernel) rfl, am_wd 313 (by decide +kernel) rfl, am_wd 5 (by decide +kernel) rfl, am_wd 28 (by decide +kernel) rfl, by decide +kernel, by decide +kernel, by decide +kernel⟩
theorem s_X2_81 : am_SV RX2 81 yX2_takeNumber RX2 2 := ⟨am_wd 315 (by decide +kernel) rfl, am_wd 317 (by decide +kernel) rfl, am_wd 6 (by decide +kernel) rfl, am_wd 28 (by decide +kernel) rfl, by decide +kernel, by decide +kernel, by decide +kernel⟩
theorem s_X2_92 : am_SV RX2 92 yX3_clear RX3 1 := ⟨am_wd 319 (by decide +kernel) rfl, am_wd 320 (by decide +kernel) rfl, am_wd 321 (by decide +kernel) rfl, am_wd 30 (by decide +kernel) rfl, by decide +kernel, by decide +kernel, by decide +kernel⟩
theorem s_X2_95 : am_SV RX2 95 yX2_takeSemicolon RX2 0 := ⟨am_wd 323 (by decide +kernel) rfl, am_wd 325 (by decide +kernel) rfl, am_wd 7 (by decide +kernel) rfl, am_wd 28 (by decide +kernel) rfl, by decide +kernel, by decide +kernel, by decide +kernel⟩
theorem s_X2_54 : am_SV RX2 54 yX2_readCamels RX2 0 := ⟨am_wd 327 (by decide +kernel) rfl, am_wd 329 (by decide +kernel) rfl, am_wd 8 (by decide +kernel) rfl, am_wd 28 (by decide +kernel) rfl, by decide +kernel, by decide +kernel, by decide +kernel⟩
theorem s_X2_100 : am_SV RX2 100 yX2_readCamel RX2 0 := ⟨am_wd 332 (by decide +kernel) rfl, am_wd 334 (by decide +kernel) rfl, am_wd 9 (by decide +kernel) rfl, am_wd 28 (by decide +kernel) rfl, by decide +kernel, by decide +kernel, by decide +kernel⟩
theorem s_X2_103 : am_SV RX2 103 yX3_addCamel RX3 3 := ⟨am_wd 336 (by decide +kernel) rfl, am_wd 337 (by decide +kernel) rfl, am_wd 338 (by decide +kernel) rfl, am_wd 30 (by decide +kernel) rfl, by decide +kernel, by decide +kernel, by decide +kernel⟩
theorem s_X2_57 : am_SV RX2 57 yX2_readWells RX2 0 := ⟨am_wd 340 (by decide +kernel) rfl, am_wd 342 (by decide +kernel) rfl, am_wd 10 (by decide +kernel) rfl, am_wd 28 (by decide +kernel) rfl, by decide +kernel, by decide +kernel, by decide +kernel⟩
theorem s_X2_109 : am_SV RX2 109 yX2_readWell RX2 0 := ⟨am_wd 345 (by decide +kernel) rfl, am_wd 347 (by decide +kernel) rfl, am_wd 11 (by decide +kernel) rfl, am_wd 28 (by decide +kernel) rfl, by decide +kernel, by decide +kernel, by decide +kernel⟩
theorem s_X2_115 : am_SV RX2 115 yX3_wellAt RX3 1 := ⟨am_wd 349 (by decide +kernel) rfl, am_wd 350 (by decide +kernel) rfl, am_wd 351 (by decide +kernel) rfl, am_wd 30 (by decide +kernel) rfl, by decide +kernel, by decide +kernel, by decide +kernel⟩
theorem s_X2_120 : am_SV RX2 120 yX3_addWell RX3 3 := ⟨am_wd 353 (by decide +kernel) rfl, am_wd 354 (by decide +kernel) rfl, am_wd 355 (by decide +kernel) rfl, am_wd 30 (by decide +kernel) rfl, by decide +kernel, by decide +kernel, by decide +kernel⟩
theorem s_X2_60 : am_SV RX2 60 yX2_readStorms RX2 0 := ⟨am_wd 357 (by decide +kernel) rfl, am_wd 359 (by decide +kernel) rfl, am_wd 12 (by decide +kernel) rfl, am_wd 28 (by decide +kernel) rfl, by decide +kernel, by decide +kernel, by decide +kernel⟩
theorem s_X2_125 : am_SV RX2 125 yX2_readStorm RX2 0 := ⟨am_wd 362 (by decide +kernel) rfl, am_wd 364 (by decide +kernel) rfl, am_wd 13 (by decide +kernel) rfl, am_wd 28 (by decide +kernel) rfl, by decide +kernel, by decide +kernel, by decide +kernel⟩
theorem s_X2_128 : am_SV RX2 128 yX3_addStorm RX3 3 := ⟨am_wd 366 (by decide +kernel) rfl, am_wd 367 (by decide +kernel) rfl, am_wd 368 (by decide +kernel) rfl, am_wd 30 (by decide +kernel) rfl, by decide +kernel, by decide +kernel, by decide +kernel⟩
theorem s_X2_63 : am_SV RX2 63 yX0_setOut RX0 0 := ⟨am_wd 370 (by decide +kernel) rfl, am_wd 371 (by decide +kernel) rfl, am_wd 372 (by decide +kernel) rfl, am_wd 29 (by decide +kernel) rfl, by decide +kernel, by decide +kernel, by decide +kernel⟩
theorem s_X2_66 : am_SV RX2 66 yX2_readLoads RX2 0 := ⟨am_wd 374 (by decide +kernel) rfl, am_wd 376 (by decide +kernel) rfl, am_wd 14 (by decide +kernel) rfl, am_wd 28 (by decide +kernel) rfl, by decide +kernel, by decide +kernel, by decide +kernel⟩
theorem s_X2_133 : am_SV RX2 133 yX2_readLoad RX2 0 := ⟨am_wd 379 (by decide +kernel) rfl, am_wd 381 (by decide +kernel) rfl, am_wd 15 (by decide +kernel) rfl, am_wd 28 (by decide +kernel) rfl, by decide +kernel, by decide +kernel, by decide +kernel⟩
theorem s_X2_136 : am_SV RX2 136 yX0_bringLoad RX0 2 := ⟨am_wd 383 (by decide +kernel) rfl, am_wd 384 (by decide +kernel) rfl, am_wd 385 (by decide +kernel) rfl, am_wd 29 (by decide +kernel) rfl, by decide +kernel, by decide +kernel, by decide +kernel⟩
theorem s_X2_142 : am_SV RX2 142 yX0_freeOn RX0 1 := ⟨am_wd 388 (by decide +kernel) rfl, am_wd 389 (by decide +kernel) rfl, am_wd 390 (by decide +kernel) rfl, am_wd 29 (by decide +kernel) rfl, by decide +kernel, by decide +kernel, by decide +kernel⟩
theorem s_X0_100 : am_SV RX0 100 yX3_hasCamel RX3 1 := ⟨am_wd 392 (by decide +kernel) rfl, am_wd 393 (by decide +kernel) rfl, am_wd 394 (by decide +kernel) rfl, am_wd 30 (by decide +kernel) rfl, by decide +kernel, by decide +kernel, by decide +kernel⟩
theorem s_X2_145 : am_SV RX2 145 yX0_hangOn RX0 2 := ⟨am_wd 396 (by decide +kernel) rfl, am_wd 397 (by decide +kernel) rfl, am_wd 398 (by decide +kernel) rfl, am_wd 29 (by decide +kernel) rfl, by decide +kernel, by decide +kernel, by decide +kernel⟩
theorem s_X0_123 : am_SV RX0 123 yX0_hasLoad RX0 1 := ⟨am_wd 400 (by decide +kernel) rfl, am_wd 401 (by decide +kernel) rfl, am_wd 402 (by decide +kernel) rfl, am_wd 29 (by decide +kernel) rfl, by decide +kernel, by decide +kernel, by decide +kernel⟩
theorem s_X5_43 : am_SV RX5 43 yX3_copyFrom RX3 1 := ⟨am_wd 406 (by decide +kernel) rfl, am_wd 407 (by decide +kernel) rfl, am_wd 408 (by decide +kernel) rfl, am_wd 30 (by decide +kernel) rfl, by decide +kernel, by decide +kernel, by decide +kernel⟩
theorem m_X3_52 : Cond.methodLink RX3 52 arraycopyName ∈ am_tbl := am_wd 410 (by decide +kernel) rfl
theorem s_X5_47 : am_SI RX5 47 yX0_init 1 := ⟨am_wd 414 (by decide +kernel) rfl, am_wd 134 (by decide +kernel) rfl, am_wd 29 (by decide +kernel) rfl, rfl, by decide +kernel, by decide +kernel, by decide +kernel⟩
theorem s_X5_52 : am_SV RX5 52 yX0_copyFrom RX0 1 := ⟨am_wd 415 (by decide +kernel) rfl, am_wd 416 (by decide +kernel) rfl, am_wd 417 (by decide +kernel) rfl, am_wd 29 (by decide +kernel) rfl, by decide +kernel, by decide +kernel, by decide +kernel⟩
theorem m_X0_63 : Cond.methodLink RX0 63 arraycopyName ∈ am_tbl := am_wd 419 (by decide +kernel) rfl
theorem s_X5_60 : am_SI RX5 60 yX1_init 1 := ⟨am_wd 422 (by decide +kernel) rfl, am_wd 423 (by decide +kernel) rfl, am_wd 36 (by decide +kernel) rfl, rfl, by decide +kernel, by decide +kernel, by decide +kernel⟩
theorem s_X1_17 : am_SI RX1 17 yX0_init 1 := ⟨am_wd 428 (by decide +kernel) rfl, am_wd 134 (by decide +kernel) rfl, am_wd 29 (by decide +kernel) rfl, rfl, by decide +kernel, by decide +kernel, by decide +kernel⟩
theorem s_L_292 : am_SV RL 292 yX5_hasError RX5 0 := ⟨am_wd 483 (by decide +kernel) rfl, am_wd 484 (by decide +kernel) rfl, am_wd 485 (by decide +kernel) rfl, am_wd 27 (by decide +kernel) rfl, by decide +kernel, by decide +kernel, by decide +kernel⟩
theorem s_L_231 : am_SV RL 231 yX5_length RX5 0 := ⟨am_wd 487 (by decide +kernel) rfl, am_wd 488 (by decide +kernel) rfl, am_wd 489 (by decide +kernel) rfl, am_wd 27 (by decide +kernel) rfl, by decide +kernel, by decide +kernel, by decide +kernel⟩
theorem s_L_225 : am_SV RL 225 yX5_wellCount RX5 0 := ⟨am_wd 491 (by decide +kernel) rfl, am_wd 492 (by decide +kernel) rfl, am_wd 493 (by decide +kernel) rfl, am_wd 27 (by decide +kernel) rfl, by decide +kernel, by decide +kernel, by decide +kernel⟩
theorem s_L_222 : am_SV RL 222 yX5_camelCount RX5 0 := ⟨am_wd 495 (by decide +kernel) rfl, am_wd 496 (by decide +kernel) rfl, am_wd 497 (by decide +kernel) rfl, am_wd 27 (by decide +kernel) rfl, by decide +kernel, by decide +kernel, by decide +kernel⟩
theorem s_L_228 : am_SV RL 228 yX5_loadCount RX5 0 := ⟨am_wd 499 (by decide +kernel) rfl, am_wd 500 (by decide +kernel) rfl, am_wd 501 (by decide +kernel) rfl, am_wd 27 (by decide +kernel) rfl, by decide +kernel, by decide +kernel, by decide +kernel⟩
theorem s_L_163 : am_SS RL 163 yL_call__ 3 := ⟨am_wd 503 (by decide +kernel) rfl, am_wd 504 (by decide +kernel) rfl, am_wd 26 (by decide +kernel) rfl, by decide +kernel, by decide +kernel, by decide +kernel⟩
theorem s_L_150 : am_SS RL 150 yL_call 7 := ⟨am_wd 506 (by decide +kernel) rfl, am_wd 507 (by decide +kernel) rfl, am_wd 26 (by decide +kernel) rfl, by decide +kernel, by decide +kernel, by decide +kernel⟩
theorem s_L_7 : am_SV RL 7 yX5_travel RX5 0 := ⟨am_wd 513 (by decide +kernel) rfl, am_wd 514 (by decide +kernel) rfl, am_wd 515 (by decide +kernel) rfl, am_wd 27 (by decide +kernel) rfl, by decide +kernel, by decide +kernel, by decide +kernel⟩
theorem s_X5_256 : am_SV RX5 256 yX0_canTravel RX0 0 := ⟨am_wd 517 (by decide +kernel) rfl, am_wd 518 (by decide +kernel) rfl, am_wd 519 (by decide +kernel) rfl, am_wd 29 (by decide +kernel) rfl, by decide +kernel, by decide +kernel, by decide +kernel⟩
theorem s_X0_93 : am_SV RX0 93 yX0_isAtEnd RX0 0 := ⟨am_wd 521 (by decide +kernel) rfl, am_wd 522 (by decide +kernel) rfl, am_wd 523 (by decide +kernel) rfl, am_wd 29 (by decide +kernel) rfl, by decide +kernel, by decide +kernel, by decide +kernel⟩
theorem s_X0_97 : am_SV RX0 97 yX0_canRest RX0 0 := ⟨am_wd 525 (by decide +kernel) rfl, am_wd 526 (by decide +kernel) rfl, am_wd 527 (by decide +kernel) rfl, am_wd 29 (by decide +kernel) rfl, by decide +kernel, by decide +kernel, by decide +kernel⟩
theorem s_X0_89 : am_SV RX0 89 yX0_countLiving RX0 0 := ⟨am_wd 529 (by decide +kernel) rfl, am_wd 530 (by decide +kernel) rfl, am_wd 531 (by decide +kernel) rfl, am_wd 29 (by decide +kernel) rfl, by decide +kernel, by decide +kernel, by decide +kernel⟩
theorem s_X0_104 : am_SV RX0 104 yX0_isLiving RX0 1 := ⟨am_wd 533 (by decide +kernel) rfl, am_wd 534 (by decide +kernel) rfl, am_wd 535 (by decide +kernel) rfl, am_wd 29 (by decide +kernel) rfl, by decide +kernel, by decide +kernel, by decide +kernel⟩
theorem s_X5_272 : am_SV RX5 272 yX1_remember RX1 1 := ⟨am_wd 605 (by decide +kernel) rfl, am_wd 606 (by decide +kernel) rfl, am_wd 607 (by decide +kernel) rfl, am_wd 36 (by decide +kernel) rfl, by decide +kernel, by decide +kernel, by decide +kernel⟩
theorem s_X1_27 : am_SV RX1 27 yX0_copyFrom RX0 1 := ⟨am_wd 609 (by decide +kernel) rfl, am_wd 416 (by decide +kernel) rfl, am_wd 417 (by decide +kernel) rfl, am_wd 29 (by decide +kernel) rfl, by decide +kernel, by decide +kernel, by decide +kernel⟩
theorem s_X1_31 : am_SS RX1 31 yJ9_min_7cf53 2 := ⟨am_wd 610 (by decide +kernel) rfl, am_wd 611 (by decide +kernel) rfl, am_wd 42 (by decide +kernel) rfl, by decide +kernel, by decide +kernel, by decide +kernel⟩
theorem s_X5_259 : am_SV RX5 259 yX0_passTravelDay RX0 0 := ⟨am_wd 613 (by decide +kernel) rfl, am_wd 614 (by decide +kernel) rfl, am_wd 615 (by decide +kernel) rfl, am_wd 29 (by decide +kernel) rfl, by decide +kernel, by decide +kernel, by decide +kernel⟩
theorem s_X0_107 : am_SV RX0 107 yX0_speedOf RX0 1 := ⟨am_wd 617 (by decide +kernel) rfl, am_wd 618 (by decide +kernel) rfl, am_wd 619 (by decide +kernel) rfl, am_wd 29 (by decide +kernel) rfl, by decide +kernel, by decide +kernel, by decide +kernel⟩
theorem s_X0_114 : am_SS RX0 114 yJ9_max_7cf53 2 := ⟨am_wd 621 (by decide +kernel) rfl, am_wd 622 (by decide +kernel) rfl, am_wd 42 (by decide +kernel) rfl, by decide +kernel, by decide +kernel, by decide +kernel⟩
theorem s_X0_126 : am_SV RX0 126 yX3_greatestStorm RX3 1 := ⟨am_wd 624 (by decide +kernel) rfl, am_wd 625 (by decide +kernel) rfl, am_wd 626 (by decide +kernel) rfl, am_wd 30 (by decide +kernel) rfl, by decide +kernel, by decide +kernel, by decide +kernel⟩
theorem s_X3_58 : am_SS RX3 58 yJ9_max_7cf53 2 := ⟨am_wd 628 (by decide +kernel) rfl, am_wd 622 (by decide +kernel) rfl, am_wd 42 (by decide +kernel) rfl, by decide +kernel, by decide +kernel, by decide +kernel⟩
theorem s_X0_138 : am_SV RX0 138 yX0_distanceNow RX0 0 := ⟨am_wd 629 (by decide +kernel) rfl, am_wd 630 (by decide +kernel) rfl, am_wd 631 (by decide +kernel) rfl, am_wd 29 (by decide +kernel) rfl, by decide +kernel, by decide +kernel, by decide +kernel⟩
theorem s_X0_129 : am_SS RX0 129 yJ9_min_7cf53 2 := ⟨am_wd 633 (by decide +kernel) rfl, am_wd 611 (by decide +kernel) rfl, am_wd 42 (by decide +kernel) rfl, by decide +kernel, by decide +kernel, by decide +kernel⟩
theorem s_X0_132 : am_SV RX0 132 yX3_firstWellBehind RX3 1 := ⟨am_wd 634 (by decide +kernel) rfl, am_wd 635 (by decide +kernel) rfl, am_wd 636 (by decide +kernel) rfl, am_wd 30 (by decide +kernel) rfl, by decide +kernel, by decide +kernel, by decide +kernel⟩
theorem s_X0_141 : am_SV RX0 141 yX0_tire RX0 2 := ⟨am_wd 638 (by decide +kernel) rfl, am_wd 640 (by decide +kernel) rfl, am_wd 17 (by decide +kernel) rfl, am_wd 29 (by decide +kernel) rfl, by decide +kernel, by decide +kernel, by decide +kernel⟩
theorem s_X0_145 : am_SV RX0 145 yX0_needIn RX0 2 := ⟨am_wd 642 (by decide +kernel) rfl, am_wd 643 (by decide +kernel) rfl, am_wd 644 (by decide +kernel) rfl, am_wd 29 (by decide +kernel) rfl, by decide +kernel, by decide +kernel, by decide +kernel⟩
theorem s_X0_148 : am_SV RX0 148 yX0_useWater RX0 2 := ⟨am_wd 646 (by decide +kernel) rfl, am_wd 648 (by decide +kernel) rfl, am_wd 18 (by decide +kernel) rfl, am_wd 29 (by decide +kernel) rfl, by decide +kernel, by decide +kernel, by decide +kernel⟩
theorem s_X0_154 : am_SV RX0 154 yX0_dropAllOf RX0 1 := ⟨am_wd 650 (by decide +kernel) rfl, am_wd 652 (by decide +kernel) rfl, am_wd 19 (by decide +kernel) rfl, am_wd 29 (by decide +kernel) rfl, by decide +kernel, by decide +kernel, by decide +kernel⟩
theorem s_X0_158 : am_SV RX0 158 yX0_layDown RX0 1 := ⟨am_wd 654 (by decide +kernel) rfl, am_wd 655 (by decide +kernel) rfl, am_wd 656 (by decide +kernel) rfl, am_wd 29 (by decide +kernel) rfl, by decide +kernel, by decide +kernel, by decide +kernel⟩
theorem s_X0_151 : am_SV RX0 151 yX0_endDay RX0 0 := ⟨am_wd 658 (by decide +kernel) rfl, am_wd 660 (by decide +kernel) rfl, am_wd 20 (by decide +kernel) rfl, am_wd 29 (by decide +kernel) rfl, by decide +kernel, by decide +kernel, by decide +kernel⟩
end
section
theorem s_X0_161 : am_SV RX0 161 yX0_quickest RX0 0 := ⟨am_wd 662 (by decide +kernel) rfl, am_wd 663 (by decide +kernel) rfl, am_wd 664 (by decide +kernel) rfl, am_wd 29 (by decide +kernel) rfl, by decide +kernel, by decide +kernel, by decide +kernel⟩
theorem s_L_13 : am_SV RL 13 yX5_rest RX5 0 := ⟨am_wd 666 (by decide +kernel) rfl, am_wd 667 (by decide +kernel) rfl, am_wd 668 (by decide +kernel) rfl, am_wd 27 (by decide +kernel) rfl, by decide +kernel, by decide +kernel, by decide +kernel⟩
theorem s_X5_275 : am_SV RX5 275 yX0_canRest RX0 0 := ⟨am_wd 670 (by decide +kernel) rfl, am_wd 526 (by decide +kernel) rfl, am_wd 527 (by decide +kernel) rfl, am_wd 29 (by decide +kernel) rfl, by decide +kernel, by decide +kernel, by decide +kernel⟩
theorem s_X5_280 : am_SV RX5 280 yX0_passRestDay RX0 0 := ⟨am_wd 672 (by decide +kernel) rfl, am_wd 673 (by decide +kernel) rfl, am_wd 674 (by decide +kernel) rfl, am_wd 29 (by decide +kernel) rfl, by decide +kernel, by decide +kernel, by decide +kernel⟩
theorem s_X5_169 : am_SV RX5 169 yX0_countLiving RX0 0 := ⟨am_wd 676 (by decide +kernel) rfl, am_wd 530 (by decide +kernel) rfl, am_wd 531 (by decide +kernel) rfl, am_wd 29 (by decide +kernel) rfl, by decide +kernel, by decide +kernel, by decide +kernel⟩
theorem s_L_16 : am_SV RL 16 yX5_drink RX5 0 := ⟨am_wd 677 (by decide +kernel) rfl, am_wd 678 (by decide +kernel) rfl, am_wd 679 (by decide +kernel) rfl, am_wd 27 (by decide +kernel) rfl, by decide +kernel, by decide +kernel, by decide +kernel⟩
theorem s_X5_156 : am_SV RX5 156 yX3_wellAt RX3 1 := ⟨am_wd 681 (by decide +kernel) rfl, am_wd 350 (by decide +kernel) rfl, am_wd 351 (by decide +kernel) rfl, am_wd 30 (by decide +kernel) rfl, by decide +kernel, by decide +kernel, by decide +kernel⟩
theorem s_X5_266 : am_SV RX5 266 yX0_shareOut RX0 2 := ⟨am_wd 683 (by decide +kernel) rfl, am_wd 684 (by decide +kernel) rfl, am_wd 685 (by decide +kernel) rfl, am_wd 29 (by decide +kernel) rfl, by decide +kernel, by decide +kernel, by decide +kernel⟩
theorem s_X0_167 : am_SV RX0 167 yX0_nextToDrink RX0 1 := ⟨am_wd 687 (by decide +kernel) rfl, am_wd 689 (by decide +kernel) rfl, am_wd 21 (by decide +kernel) rfl, am_wd 29 (by decide +kernel) rfl, by decide +kernel, by decide +kernel, by decide +kernel⟩
theorem s_X5_283 : am_SV RX5 283 yX0_takeShares RX0 2 := ⟨am_wd 691 (by decide +kernel) rfl, am_wd 692 (by decide +kernel) rfl, am_wd 693 (by decide +kernel) rfl, am_wd 29 (by decide +kernel) rfl, by decide +kernel, by decide +kernel, by decide +kernel⟩
theorem s_L_19 : am_SV RL 19 yX5_setLeader RX5 1 := ⟨am_wd 695 (by decide +kernel) rfl, am_wd 696 (by decide +kernel) rfl, am_wd 697 (by decide +kernel) rfl, am_wd 27 (by decide +kernel) rfl, by decide +kernel, by decide +kernel, by decide +kernel⟩
theorem s_X5_181 : am_SV RX5 181 yX5_requireCamel RX5 1 := ⟨am_wd 699 (by decide +kernel) rfl, am_wd 701 (by decide +kernel) rfl, am_wd 22 (by decide +kernel) rfl, am_wd 27 (by decide +kernel) rfl, by decide +kernel, by decide +kernel, by decide +kernel⟩
theorem s_X5_175 : am_SV RX5 175 yX3_hasCamel RX3 1 := ⟨am_wd 703 (by decide +kernel) rfl, am_wd 393 (by decide +kernel) rfl, am_wd 394 (by decide +kernel) rfl, am_wd 30 (by decide +kernel) rfl, by decide +kernel, by decide +kernel, by decide +kernel⟩
theorem s_X5_184 : am_SV RX5 184 yX0_isLiving RX0 1 := ⟨am_wd 720 (by decide +kernel) rfl, am_wd 534 (by decide +kernel) rfl, am_wd 535 (by decide +kernel) rfl, am_wd 29 (by decide +kernel) rfl, by decide +kernel, by decide +kernel, by decide +kernel⟩
theorem s_L_23 : am_SV RL 23 yX5_putOn RX5 2 := ⟨am_wd 722 (by decide +kernel) rfl, am_wd 723 (by decide +kernel) rfl, am_wd 724 (by decide +kernel) rfl, am_wd 27 (by decide +kernel) rfl, by decide +kernel, by decide +kernel, by decide +kernel⟩
theorem s_X5_230 : am_SV RX5 230 yX5_requireLoad RX5 1 := ⟨am_wd 726 (by decide +kernel) rfl, am_wd 728 (by decide +kernel) rfl, am_wd 23 (by decide +kernel) rfl, am_wd 27 (by decide +kernel) rfl, by decide +kernel, by decide +kernel, by decide +kernel⟩
theorem s_X5_225 : am_SV RX5 225 yX0_hasLoad RX0 1 := ⟨am_wd 730 (by decide +kernel) rfl, am_wd 401 (by decide +kernel) rfl, am_wd 402 (by decide +kernel) rfl, am_wd 29 (by decide +kernel) rfl, by decide +kernel, by decide +kernel, by decide +kernel⟩
theorem s_X5_244 : am_SV RX5 244 yX0_whereIs RX0 1 := ⟨am_wd 733 (by decide +kernel) rfl, am_wd 734 (by decide +kernel) rfl, am_wd 735 (by decide +kernel) rfl, am_wd 29 (by decide +kernel) rfl, by decide +kernel, by decide +kernel, by decide +kernel⟩
theorem s_X5_211 : am_SV RX5 211 yX0_freeOn RX0 1 := ⟨am_wd 738 (by decide +kernel) rfl, am_wd 389 (by decide +kernel) rfl, am_wd 390 (by decide +kernel) rfl, am_wd 29 (by decide +kernel) rfl, by decide +kernel, by decide +kernel, by decide +kernel⟩
theorem s_X5_295 : am_SV RX5 295 yX0_layDown RX0 1 := ⟨am_wd 740 (by decide +kernel) rfl, am_wd 655 (by decide +kernel) rfl, am_wd 656 (by decide +kernel) rfl, am_wd 29 (by decide +kernel) rfl, by decide +kernel, by decide +kernel, by decide +kernel⟩
theorem s_X5_298 : am_SV RX5 298 yX0_hangOn RX0 2 := ⟨am_wd 741 (by decide +kernel) rfl, am_wd 397 (by decide +kernel) rfl, am_wd 398 (by decide +kernel) rfl, am_wd 29 (by decide +kernel) rfl, by decide +kernel, by decide +kernel, by decide +kernel⟩
theorem s_L_27 : am_SV RL 27 yX5_takeOff RX5 1 := ⟨am_wd 742 (by decide +kernel) rfl, am_wd 743 (by decide +kernel) rfl, am_wd 744 (by decide +kernel) rfl, am_wd 27 (by decide +kernel) rfl, by decide +kernel, by decide +kernel, by decide +kernel⟩
theorem s_L_30 : am_SV RL 30 yX5_addLoad RX5 2 := ⟨am_wd 747 (by decide +kernel) rfl, am_wd 748 (by decide +kernel) rfl, am_wd 749 (by decide +kernel) rfl, am_wd 27 (by decide +kernel) rfl, by decide +kernel, by decide +kernel, by decide +kernel⟩
theorem s_X5_308 : am_SV RX5 308 yX0_bringLoad RX0 2 := ⟨am_wd 768 (by decide +kernel) rfl, am_wd 384 (by decide +kernel) rfl, am_wd 385 (by decide +kernel) rfl, am_wd 29 (by decide +kernel) rfl, by decide +kernel, by decide +kernel, by decide +kernel⟩
theorem s_L_33 : am_SV RL 33 yX5_undo RX5 0 := ⟨am_wd 769 (by decide +kernel) rfl, am_wd 770 (by decide +kernel) rfl, am_wd 771 (by decide +kernel) rfl, am_wd 27 (by decide +kernel) rfl, by decide +kernel, by decide +kernel, by decide +kernel⟩
theorem s_X5_316 : am_SV RX5 316 yX1_takeBack RX1 1 := ⟨am_wd 774 (by decide +kernel) rfl, am_wd 775 (by decide +kernel) rfl, am_wd 776 (by decide +kernel) rfl, am_wd 36 (by decide +kernel) rfl, by decide +kernel, by decide +kernel, by decide +kernel⟩
theorem s_L_36 : am_SV RL 36 yX5_saveSnapshot RX5 1 := ⟨am_wd 778 (by decide +kernel) rfl, am_wd 779 (by decide +kernel) rfl, am_wd 780 (by decide +kernel) rfl, am_wd 27 (by decide +kernel) rfl, by decide +kernel, by decide +kernel, by decide +kernel⟩
theorem s_X5_321 : am_SV RX5 321 yX5_requireSlot RX5 1 := ⟨am_wd 782 (by decide +kernel) rfl, am_wd 784 (by decide +kernel) rfl, am_wd 24 (by decide +kernel) rfl, am_wd 27 (by decide +kernel) rfl, by decide +kernel, by decide +kernel, by decide +kernel⟩
theorem s_L_39 : am_SV RL 39 yX5_restoreSnapshot RX5 1 := ⟨am_wd 787 (by decide +kernel) rfl, am_wd 788 (by decide +kernel) rfl, am_wd 789 (by decide +kernel) rfl, am_wd 27 (by decide +kernel) rfl, by decide +kernel, by decide +kernel, by decide +kernel⟩
theorem s_L_42 : am_SV RL 42 yX5_load RX5 0 := ⟨am_wd 807 (by decide +kernel) rfl, am_wd 808 (by decide +kernel) rfl, am_wd 809 (by decide +kernel) rfl, am_wd 27 (by decide +kernel) rfl, by decide +kernel, by decide +kernel, by decide +kernel⟩
theorem s_X5_104 : am_SV RX5 104 yX1_forget RX1 0 := ⟨am_wd 812 (by decide +kernel) rfl, am_wd 813 (by decide +kernel) rfl, am_wd 814 (by decide +kernel) rfl, am_wd 36 (by decide +kernel) rfl, by decide +kernel, by decide +kernel, by decide +kernel⟩
theorem s_L_45 : am_SV RL 45 yX5_append RX5 5 := ⟨am_wd 816 (by decide +kernel) rfl, am_wd 817 (by decide +kernel) rfl, am_wd 818 (by decide +kernel) rfl, am_wd 27 (by decide +kernel) rfl, by decide +kernel, by decide +kernel, by decide +kernel⟩
theorem s_X5_93 : am_SV RX5 93 yX2_takeFour RX2 1 := ⟨am_wd 821 (by decide +kernel) rfl, am_wd 822 (by decide +kernel) rfl, am_wd 823 (by decide +kernel) rfl, am_wd 28 (by decide +kernel) rfl, by decide +kernel, by decide +kernel, by decide +kernel⟩
theorem s_L_49 : am_SV RL 49 yX5_shorten RX5 1 := ⟨am_wd 825 (by decide +kernel) rfl, am_wd 826 (by decide +kernel) rfl, am_wd 827 (by decide +kernel) rfl, am_wd 27 (by decide +kernel) rfl, by decide +kernel, by decide +kernel, by decide +kernel⟩
theorem s_L_52 : am_SV RL 52 yX5_errorOffset RX5 0 := ⟨am_wd 830 (by decide +kernel) rfl, am_wd 831 (by decide +kernel) rfl, am_wd 832 (by decide +kernel) rfl, am_wd 27 (by decide +kernel) rfl, by decide +kernel, by decide +kernel, by decide +kernel⟩
theorem s_L_55 : am_SV RL 55 yX5_stormOn RX5 1 := ⟨am_wd 835 (by decide +kernel) rfl, am_wd 836 (by decide +kernel) rfl, am_wd 837 (by decide +kernel) rfl, am_wd 27 (by decide +kernel) rfl, by decide +kernel, by decide +kernel, by decide +kernel⟩
theorem s_X5_128 : am_SV RX5 128 yX3_greatestStorm RX3 1 := ⟨am_wd 840 (by decide +kernel) rfl, am_wd 625 (by decide +kernel) rfl, am_wd 626 (by decide +kernel) rfl, am_wd 30 (by decide +kernel) rfl, by decide +kernel, by decide +kernel, by decide +kernel⟩
theorem s_L_58 : am_SV RL 58 yX5_wellKilometre RX5 1 := ⟨am_wd 841 (by decide +kernel) rfl, am_wd 842 (by decide +kernel) rfl, am_wd 843 (by decide +kernel) rfl, am_wd 27 (by decide +kernel) rfl, by decide +kernel, by decide +kernel, by decide +kernel⟩
theorem s_X5_139 : am_SV RX5 139 yX5_requireWell RX5 1 := ⟨am_wd 845 (by decide +kernel) rfl, am_wd 847 (by decide +kernel) rfl, am_wd 25 (by decide +kernel) rfl, am_wd 27 (by decide +kernel) rfl, by decide +kernel, by decide +kernel, by decide +kernel⟩
theorem s_L_61 : am_SV RL 61 yX5_wellCapacity RX5 1 := ⟨am_wd 850 (by decide +kernel) rfl, am_wd 851 (by decide +kernel) rfl, am_wd 852 (by decide +kernel) rfl, am_wd 27 (by decide +kernel) rfl, by decide +kernel, by decide +kernel, by decide +kernel⟩
theorem s_L_64 : am_SV RL 64 yX5_wellLevel RX5 1 := ⟨am_wd 854 (by decide +kernel) rfl, am_wd 855 (by decide +kernel) rfl, am_wd 856 (by decide +kernel) rfl, am_wd 27 (by decide +kernel) rfl, by decide +kernel, by decide +kernel, by decide +kernel⟩
theorem s_L_67 : am_SV RL 67 yX5_wellHere RX5 0 := ⟨am_wd 858 (by decide +kernel) rfl, am_wd 859 (by decide +kernel) rfl, am_wd 860 (by decide +kernel) rfl, am_wd 27 (by decide +kernel) rfl, by decide +kernel, by decide +kernel, by decide +kernel⟩
theorem s_L_70 : am_SV RL 70 yX5_nextWell RX5 0 := ⟨am_wd 863 (by decide +kernel) rfl, am_wd 864 (by decide +kernel) rfl, am_wd 865 (by decide +kernel) rfl, am_wd 27 (by decide +kernel) rfl, by decide +kernel, by decide +kernel, by decide +kernel⟩
theorem s_X5_161 : am_SV RX5 161 yX3_firstWellBehind RX3 1 := ⟨am_wd 867 (by decide +kernel) rfl, am_wd 635 (by decide +kernel) rfl, am_wd 636 (by decide +kernel) rfl, am_wd 30 (by decide +kernel) rfl, by decide +kernel, by decide +kernel, by decide +kernel⟩
theorem s_L_73 : am_SV RL 73 yX5_isDead RX5 1 := ⟨am_wd 869 (by decide +kernel) rfl, am_wd 870 (by decide +kernel) rfl, am_wd 871 (by decide +kernel) rfl, am_wd 27 (by decide +kernel) rfl, by decide +kernel, by decide +kernel, by decide +kernel⟩
theorem s_L_77 : am_SV RL 77 yX5_pace RX5 1 := ⟨am_wd 873 (by decide +kernel) rfl, am_wd 874 (by decide +kernel) rfl, am_wd 875 (by decide +kernel) rfl, am_wd 27 (by decide +kernel) rfl, by decide +kernel, by decide +kernel, by decide +kernel⟩
theorem s_L_80 : am_SV RL 80 yX5_tank RX5 1 := ⟨am_wd 877 (by decide +kernel) rfl, am_wd 878 (by decide +kernel) rfl, am_wd 879 (by decide +kernel) rfl, am_wd 27 (by decide +kernel) rfl, by decide +kernel, by decide +kernel, by decide +kernel⟩
theorem s_L_83 : am_SV RL 83 yX5_water RX5 1 := ⟨am_wd 881 (by decide +kernel) rfl, am_wd 882 (by decide +kernel) rfl, am_wd 883 (by decide +kernel) rfl, am_wd 27 (by decide +kernel) rfl, by decide +kernel, by decide +kernel, by decide +kernel⟩
theorem s_L_86 : am_SV RL 86 yX5_strain RX5 1 := ⟨am_wd 885 (by decide +kernel) rfl, am_wd 886 (by decide +kernel) rfl, am_wd 887 (by decide +kernel) rfl, am_wd 27 (by decide +kernel) rfl, by decide +kernel, by decide +kernel, by decide +kernel⟩
theorem s_L_89 : am_SV RL 89 yX5_lameDays RX5 1 := ⟨am_wd 889 (by decide +kernel) rfl, am_wd 890 (by decide +kernel) rfl, am_wd 891 (by decide +kernel) rfl, am_wd 27 (by decide +kernel) rfl, by decide +kernel, by decide +kernel, by decide +kernel⟩
theorem s_L_92 : am_SV RL 92 yX5_dryDays RX5 1 := ⟨am_wd 893 (by decide +kernel) rfl, am_wd 894 (by decide +kernel) rfl, am_wd 895 (by decide +kernel) rfl, am_wd 27 (by decide +kernel) rfl, by decide +kernel, by decide +kernel, by decide +kernel⟩
theorem s_L_95 : am_SV RL 95 yX5_carried RX5 1 := ⟨am_wd 897 (by decide +kernel) rfl, am_wd 898 (by decide +kernel) rfl, am_wd 899 (by decide +kernel) rfl, am_wd 27 (by decide +kernel) rfl, by decide +kernel, by decide +kernel, by decide +kernel⟩
theorem s_L_98 : am_SV RL 98 yX5_freeWeight RX5 1 := ⟨am_wd 901 (by decide +kernel) rfl, am_wd 902 (by decide +kernel) rfl, am_wd 903 (by decide +kernel) rfl, am_wd 27 (by decide +kernel) rfl, by decide +kernel, by decide +kernel, by decide +kernel⟩
theorem s_L_101 : am_SV RL 101 yX5_speed RX5 1 := ⟨am_wd 905 (by decide +kernel) rfl, am_wd 906 (by decide +kernel) rfl, am_wd 907 (by decide +kernel) rfl, am_wd 27 (by decide +kernel) rfl, by decide +kernel, by decide +kernel, by decide +kernel⟩
theorem s_X5_190 : am_SV RX5 190 yX0_speedOf RX0 1 := ⟨am_wd 909 (by decide +kernel) rfl, am_wd 618 (by decide +kernel) rfl, am_wd 619 (by decide +kernel) rfl, am_wd 29 (by decide +kernel) rfl, by decide +kernel, by decide +kernel, by decide +kernel⟩
theorem s_L_104 : am_SV RL 104 yX5_thirstiest RX5 0 := ⟨am_wd 910 (by decide +kernel) rfl, am_wd 911 (by decide +kernel) rfl, am_wd 912 (by decide +kernel) rfl, am_wd 27 (by decide +kernel) rfl, by decide +kernel, by decide +kernel, by decide +kernel⟩
theorem s_X5_214 : am_SV RX5 214 yX0_leastWatered RX0 0 := ⟨am_wd 914 (by decide +kernel) rfl, am_wd 915 (by decide +kernel) rfl, am_wd 916 (by decide +kernel) rfl, am_wd 29 (by decide +kernel) rfl, by decide +kernel, by decide +kernel, by decide +kernel⟩
theorem s_L_107 : am_SV RL 107 yX5_fastest RX5 0 := ⟨am_wd 919 (by decide +kernel) rfl, am_wd 920 (by decide +kernel) rfl, am_wd 921 (by decide +kernel) rfl, am_wd 27 (by decide +kernel) rfl, by decide +kernel, by decide +kernel, by decide +kernel⟩
theorem s_X5_219 : am_SV RX5 219 yX0_quickest RX0 0 := ⟨am_wd 923 (by decide +kernel) rfl, am_wd 663 (by decide +kernel) rfl, am_wd 664 (by decide +kernel) rfl, am_wd 29 (by decide +kernel) rfl, by decide +kernel, by decide +kernel, by decide +kernel⟩
theorem s_L_110 : am_SV RL 110 yX5_weightOf RX5 1 := ⟨am_wd 924 (by decide +kernel) rfl, am_wd 925 (by decide +kernel) rfl, am_wd 926 (by decide +kernel) rfl, am_wd 27 (by decide +kernel) rfl, by decide +kernel, by decide +kernel, by decide +kernel⟩
theorem s_L_113 : am_SV RL 113 yX5_valueOf RX5 1 := ⟨am_wd 928 (by decide +kernel) rfl, am_wd 929 (by decide +kernel) rfl, am_wd 930 (by decide +kernel) rfl, am_wd 27 (by decide +kernel) rfl, by decide +kernel, by decide +kernel, by decide +kernel⟩
theorem s_L_116 : am_SV RL 116 yX5_isCarried RX5 1 := ⟨am_wd 932 (by decide +kernel) rfl, am_wd 933 (by decide +kernel) rfl, am_wd 934 (by decide +kernel) rfl, am_wd 27 (by decide +kernel) rfl, by decide +kernel, by decide +kernel, by decide +kernel⟩
theorem s_L_119 : am_SV RL 119 yX5_carrierOf RX5 1 := ⟨am_wd 936 (by decide +kernel) rfl, am_wd 937 (by decide +kernel) rfl, am_wd 938 (by decide +kernel) rfl, am_wd 27 (by decide +kernel) rfl, by decide +kernel, by decide +kernel, by decide +kernel⟩
theorem s_L_122 : am_SV RL 122 yX5_placeOf RX5 1 := ⟨am_wd 941 (by decide +kernel) rfl, am_wd 942 (by decide +kernel) rfl, am_wd 943 (by decide +kernel) rfl, am_wd 27 (by decide +kernel) rfl, by decide +kernel, by decide +kernel, by decide +kernel⟩
theorem s_L_125 : am_SV RL 125 yX5_needToday RX5 1 := ⟨am_wd 945 (by decide +kernel) rfl, am_wd 946 (by decide +kernel) rfl, am_wd 947 (by decide +kernel) rfl, am_wd 27 (by decide +kernel) rfl, by decide +kernel, by decide +kernel, by decide +kernel⟩
theorem s_X5_250 : am_SV RX5 250 yX0_needIn RX0 2 := ⟨am_wd 949 (by decide +kernel) rfl, am_wd 643 (by decide +kernel) rfl, am_wd 644 (by decide +kernel) rfl, am_wd 29 (by decide +kernel) rfl, by decide +kernel, by decide +kernel, by decide +kernel⟩
theorem s_L_128 : am_SV RL 128 yX5_livingAfter RX5 1 := ⟨am_wd 950 (by decide +kernel) rfl, am_wd 951 (by decide +kernel) rfl, am_wd 952 (by decide +kernel) rfl, am_wd 27 (by decide +kernel) rfl, by decide +kernel, by decide +kernel, by decide +kernel⟩
theorem s_L_131 : am_SV RL 131 yX5_daysToArrival RX5 0 := ⟨am_wd 955 (by decide +kernel) rfl, am_wd 956 (by decide +kernel) rfl, am_wd 957 (by decide +kernel) rfl, am_wd 27 (by decide +kernel) rfl, by decide +kernel, by decide +kernel, by decide +kernel⟩
theorem s_X5_119 : am_SV RX5 119 yX0_isAtEnd RX0 0 := ⟨am_wd 959 (by decide +kernel) rfl, am_wd 522 (by decide +kernel) rfl, am_wd 523 (by decide +kernel) rfl, am_wd 29 (by decide +kernel) rfl, by decide +kernel, by decide +kernel, by decide +kernel⟩
theorem s_L_134 : am_SV RL 134 yX5_wouldDrink RX5 1 := ⟨am_wd 961 (by decide +kernel) rfl, am_wd 962 (by decide +kernel) rfl, am_wd 963 (by decide +kernel) rfl, am_wd 27 (by decide +kernel) rfl, by decide +kernel, by decide +kernel, by decide +kernel⟩
theorem s_L_137 : am_SV RL 137 yX5_writtenByte RX5 1 := ⟨am_wd 965 (by decide +kernel) rfl, am_wd 966 (by decide +kernel) rfl, am_wd 967 (by decide +kernel) rfl, am_wd 27 (by decide +kernel) rfl, by decide +kernel, by decide +kernel, by decide +kernel⟩
theorem s_L_288 : am_SS RL 288 yL_feeds 2 := ⟨am_wd 970 (by decide +kernel) rfl, am_wd 971 (by decide +kernel) rfl, am_wd 26 (by decide +kernel) rfl, by decide +kernel, by decide +kernel, by decide +kernel⟩
theorem s_L_154 : am_SV RL 154 yJ0_length_8abf5 RJ0 0 := ⟨am_wd 973 (by decide +kernel) rfl, am_wd 239 (by decide +kernel) rfl, am_wd 240 (by decide +kernel) rfl, am_wd 31 (by decide +kernel) rfl, by decide +kernel, by decide +kernel, by decide +kernel⟩
theorem s_L_159 : am_SV RL 159 yJ0_charAt_5068e RJ0 1 := ⟨am_wd 974 (by decide +kernel) rfl, am_wd 249 (by decide +kernel) rfl, am_wd 250 (by decide +kernel) rfl, am_wd 31 (by decide +kernel) rfl, by decide +kernel, by decide +kernel, by decide +kernel⟩
theorem s_L_284 : am_SS RL 284 yL_route 2 := ⟨am_wd 975 (by decide +kernel) rfl, am_wd 976 (by decide +kernel) rfl, am_wd 26 (by decide +kernel) rfl, by decide +kernel, by decide +kernel, by decide +kernel⟩
theorem s_L_170 : am_SI RL 170 yJ4_init_a7421 1 := ⟨am_wd 981 (by decide +kernel) rfl, am_wd 982 (by decide +kernel) rfl, am_wd 47 (by decide +kernel) rfl, rfl, by decide +kernel, by decide +kernel, by decide +kernel⟩
theorem s_J4_7 : am_SI RJ4 7 yJ5_init_a7421 1 := ⟨am_wd 984 (by decide +kernel) rfl, am_wd 985 (by decide +kernel) rfl, am_wd 46 (by decide +kernel) rfl, rfl, by decide +kernel, by decide +kernel, by decide +kernel⟩
theorem s_J5_32 : am_SV RJ5 32 yJ0_length_8abf5 RJ0 0 := ⟨am_wd 988 (by decide +kernel) rfl, am_wd 239 (by decide +kernel) rfl, am_wd 240 (by decide +kernel) rfl, am_wd 31 (by decide +kernel) rfl, by decide +kernel, by decide +kernel, by decide +kernel⟩
theorem s_J5_40 : am_SV RJ5 40 yJ0_coder_7d493 RJ0 0 := ⟨am_wd 991 (by decide +kernel) rfl, am_wd 243 (by decide +kernel) rfl, am_wd 244 (by decide +kernel) rfl, am_wd 31 (by decide +kernel) rfl, by decide +kernel, by decide +kernel, by decide +kernel⟩
theorem s_J5_26 : am_SS RJ5 26 yJ2_newBytesFor_77867 1 := ⟨am_wd 992 (by decide +kernel) rfl, am_wd 993 (by decide +kernel) rfl, am_wd 34 (by decide +kernel) rfl, by decide +kernel, by decide +kernel, by decide +kernel⟩
theorem s_J4_23 : am_SV RJ4 23 yJ4_append_15ec4 RJ4 1 := ⟨am_wd 1005 (by decide +kernel) rfl, am_wd 1006 (by decide +kernel) rfl, am_wd 1007 (by decide +kernel) rfl, am_wd 47 (by decide +kernel) rfl, by decide +kernel, by decide +kernel, by decide +kernel⟩
theorem s_J5_114 : am_SS RJ5 114 yJ8_newLength_cabcc 3 := ⟨am_wd 1024 (by decide +kernel) rfl, am_wd 1025 (by decide +kernel) rfl, am_wd 48 (by decide +kernel) rfl, by decide +kernel, by decide +kernel, by decide +kernel⟩
theorem s_J8_194 : am_SS RJ8 194 yJ9_max_7cf53 2 := ⟨am_wd 1027 (by decide +kernel) rfl, am_wd 622 (by decide +kernel) rfl, am_wd 42 (by decide +kernel) rfl, by decide +kernel, by decide +kernel, by decide +kernel⟩
theorem s_J8_201 : am_SS RJ8 201 yJ8_hugeLength_7cf53 2 := ⟨am_wd 1029 (by decide +kernel) rfl, am_wd 1030 (by decide +kernel) rfl, am_wd 48 (by decide +kernel) rfl, by decide +kernel, by decide +kernel, by decide +kernel⟩
theorem s_J5_108 : am_SS RJ5 108 yJ7_copyOf_9075b 2 := ⟨am_wd 1032 (by decide +kernel) rfl, am_wd 1033 (by decide +kernel) rfl, am_wd 49 (by decide +kernel) rfl, by decide +kernel, by decide +kernel, by decide +kernel⟩
theorem s_J7_304 : am_SS RJ7 304 yJ9_min_7cf53 2 := ⟨am_wd 1042 (by decide +kernel) rfl, am_wd 611 (by decide +kernel) rfl, am_wd 42 (by decide +kernel) rfl, by decide +kernel, by decide +kernel, by decide +kernel⟩
theorem m_J7_150 : Cond.methodLink RJ7 150 arraycopyName ∈ am_tbl := am_wd 1043 (by decide +kernel) rfl
theorem s_J5_226 : am_SS RJ5 226 yJ2_putCharsAt_cd4e5 6 := ⟨am_wd 1050 (by decide +kernel) rfl, am_wd 1051 (by decide +kernel) rfl, am_wd 34 (by decide +kernel) rfl, by decide +kernel, by decide +kernel, by decide +kernel⟩
theorem s_J0_1062 : am_SS RJ0 1062 yJ3_checkFromToIndex_8c36e 4 := ⟨am_wd 1059 (by decide +kernel) rfl, am_wd 1060 (by decide +kernel) rfl, am_wd 33 (by decide +kernel) rfl, by decide +kernel, by decide +kernel, by decide +kernel⟩
theorem s_J5_125 : am_SS RJ5 125 yJ1_inflate_0e8fd 5 := ⟨am_wd 1077 (by decide +kernel) rfl, am_wd 1078 (by decide +kernel) rfl, am_wd 32 (by decide +kernel) rfl, by decide +kernel, by decide +kernel, by decide +kernel⟩
theorem s_J1_240 : am_SS RJ1 240 yJ2_inflate_0e8fd 5 := ⟨am_wd 1080 (by decide +kernel) rfl, am_wd 1081 (by decide +kernel) rfl, am_wd 34 (by decide +kernel) rfl, by decide +kernel, by decide +kernel, by decide +kernel⟩
theorem s_J0_1065 : am_SS RJ0 1065 yJ3_checkFromIndexSize_8c36e 4 := ⟨am_wd 1089 (by decide +kernel) rfl, am_wd 1090 (by decide +kernel) rfl, am_wd 33 (by decide +kernel) rfl, by decide +kernel, by decide +kernel, by decide +kernel⟩
theorem s_J5_399 : am_SV RJ5 399 yJ0_getBytes_840e7 RJ0 3 := ⟨am_wd 1092 (by decide +kernel) rfl, am_wd 1093 (by decide +kernel) rfl, am_wd 1094 (by decide +kernel) rfl, am_wd 31 (by decide +kernel) rfl, by decide +kernel, by decide +kernel, by decide +kernel⟩
theorem m_J0_212 : Cond.methodLink RJ0 212 arraycopyName ∈ am_tbl := am_wd 1096 (by decide +kernel) rfl
theorem s_J0_106 : am_SS RJ0 106 yJ1_inflate_0e8fd 5 := ⟨am_wd 1097 (by decide +kernel) rfl, am_wd 1078 (by decide +kernel) rfl, am_wd 32 (by decide +kernel) rfl, by decide +kernel, by decide +kernel, by decide +kernel⟩
theorem s_L_173 : am_SV RL 173 yJ4_append_bf812 RJ4 1 := ⟨am_wd 1110 (by decide +kernel) rfl, am_wd 1111 (by decide +kernel) rfl, am_wd 1112 (by decide +kernel) rfl, am_wd 47 (by decide +kernel) rfl, by decide +kernel, by decide +kernel, by decide +kernel⟩
theorem s_J5_245 : am_SS RJ5 245 yJ6_stringSize_0f7a4 1 := ⟨am_wd 1117 (by decide +kernel) rfl, am_wd 1118 (by decide +kernel) rfl, am_wd 51 (by decide +kernel) rfl, by decide +kernel, by decide +kernel, by decide +kernel⟩
theorem s_J5_248 : am_SS RJ5 248 yJ6_getChars_ba4f3 3 := ⟨am_wd 1120 (by decide +kernel) rfl, am_wd 1121 (by decide +kernel) rfl, am_wd 51 (by decide +kernel) rfl, by decide +kernel, by decide +kernel, by decide +kernel⟩
theorem s_J5_251 : am_SS RJ5 251 yJ2_getChars_46870 4 := ⟨am_wd 1127 (by decide +kernel) rfl, am_wd 1128 (by decide +kernel) rfl, am_wd 34 (by decide +kernel) rfl, by decide +kernel, by decide +kernel, by decide +kernel⟩
theorem s_L_176 : am_SV RL 176 yJ4_append_cf468 RJ4 1 := ⟨am_wd 1135 (by decide +kernel) rfl, am_wd 1136 (by decide +kernel) rfl, am_wd 1137 (by decide +kernel) rfl, am_wd 47 (by decide +kernel) rfl, by decide +kernel, by decide +kernel, by decide +kernel⟩
theorem s_J5_191 : am_SS RJ5 191 yJ1_canEncode_fc78d 1 := ⟨am_wd 1142 (by decide +kernel) rfl, am_wd 1143 (by decide +kernel) rfl, am_wd 32 (by decide +kernel) rfl, by decide +kernel, by decide +kernel, by decide +kernel⟩
theorem s_J5_197 : am_SS RJ5 197 yJ2_putCharSB_b72d1 3 := ⟨am_wd 1145 (by decide +kernel) rfl, am_wd 1146 (by decide +kernel) rfl, am_wd 34 (by decide +kernel) rfl, by decide +kernel, by decide +kernel, by decide +kernel⟩
theorem s_L_182 : am_SV RL 182 yJ4_append_15ec4 RJ4 1 := ⟨am_wd 1150 (by decide +kernel) rfl, am_wd 1006 (by decide +kernel) rfl, am_wd 1007 (by decide +kernel) rfl, am_wd 47 (by decide +kernel) rfl, by decide +kernel, by decide +kernel, by decide +kernel⟩
theorem s_L_191 : am_SI RL 191 yJ4_init_da8c8 0 := ⟨am_wd 1154 (by decide +kernel) rfl, am_wd 1155 (by decide +kernel) rfl, am_wd 47 (by decide +kernel) rfl, rfl, by decide +kernel, by decide +kernel, by decide +kernel⟩
theorem s_J4_1 : am_SI RJ4 1 yJ5_init_d00df 1 := ⟨am_wd 1157 (by decide +kernel) rfl, am_wd 1158 (by decide +kernel) rfl, am_wd 46 (by decide +kernel) rfl, rfl, by decide +kernel, by decide +kernel, by decide +kernel⟩
theorem s_L_196 : am_SV RL 196 yJ4_toString_0e30d RJ4 0 := ⟨am_wd 1162 (by decide +kernel) rfl, am_wd 1163 (by decide +kernel) rfl, am_wd 1164 (by decide +kernel) rfl, am_wd 47 (by decide +kernel) rfl, by decide +kernel, by decide +kernel, by decide +kernel⟩
theorem s_J4_137 : am_SI RJ4 137 yJ0_init_81219 1 := ⟨am_wd 1168 (by decide +kernel) rfl, am_wd 1169 (by decide +kernel) rfl, am_wd 31 (by decide +kernel) rfl, rfl, by decide +kernel, by decide +kernel, by decide +kernel⟩
theorem s_J0_489 : am_SI RJ0 489 yJ0_init_db425 2 := ⟨am_wd 1171 (by decide +kernel) rfl, am_wd 1172 (by decide +kernel) rfl, am_wd 31 (by decide +kernel) rfl, rfl, by decide +kernel, by decide +kernel, by decide +kernel⟩
theorem s_J0_54 : am_SS RJ0 54 yJ7_copyOfRange_39247 3 := ⟨am_wd 1189 (by decide +kernel) rfl, am_wd 1190 (by decide +kernel) rfl, am_wd 49 (by decide +kernel) rfl, by decide +kernel, by decide +kernel, by decide +kernel⟩
theorem s_J7_339 : am_SS RJ7 339 yJ7_copyOfRangeByte_39247 3 := ⟨am_wd 1192 (by decide +kernel) rfl, am_wd 1193 (by decide +kernel) rfl, am_wd 49 (by decide +kernel) rfl, by decide +kernel, by decide +kernel, by decide +kernel⟩
theorem s_J7_343 : am_SS RJ7 343 yJ7_checkLength_df160 2 := ⟨am_wd 1195 (by decide +kernel) rfl, am_wd 1196 (by decide +kernel) rfl, am_wd 49 (by decide +kernel) rfl, by decide +kernel, by decide +kernel, by decide +kernel⟩
theorem s_J7_47 : am_SI RJ7 47 yJ4_init_da8c8 0 := ⟨am_wd 1200 (by decide +kernel) rfl, am_wd 1155 (by decide +kernel) rfl, am_wd 47 (by decide +kernel) rfl, rfl, by decide +kernel, by decide +kernel, by decide +kernel⟩
theorem s_J7_54 : am_SV RJ7 54 yJ4_append_bf812 RJ4 1 := ⟨am_wd 1201 (by decide +kernel) rfl, am_wd 1111 (by decide +kernel) rfl, am_wd 1112 (by decide +kernel) rfl, am_wd 47 (by decide +kernel) rfl, by decide +kernel, by decide +kernel, by decide +kernel⟩
theorem s_J7_50 : am_SV RJ7 50 yJ4_append_15ec4 RJ4 1 := ⟨am_wd 1203 (by decide +kernel) rfl, am_wd 1006 (by decide +kernel) rfl, am_wd 1007 (by decide +kernel) rfl, am_wd 47 (by decide +kernel) rfl, by decide +kernel, by decide +kernel, by decide +kernel⟩
theorem s_J7_61 : am_SV RJ7 61 yJ4_toString_0e30d RJ4 0 := ⟨am_wd 1204 (by decide +kernel) rfl, am_wd 1163 (by decide +kernel) rfl, am_wd 1164 (by decide +kernel) rfl, am_wd 47 (by decide +kernel) rfl, by decide +kernel, by decide +kernel, by decide +kernel⟩
theorem s_J0_1051 : am_SS RJ0 1051 yJ2_compress_39247 3 := ⟨am_wd 1206 (by decide +kernel) rfl, am_wd 1207 (by decide +kernel) rfl, am_wd 34 (by decide +kernel) rfl, by decide +kernel, by decide +kernel, by decide +kernel⟩
theorem s_J0_47 : am_SS RJ0 47 yJ2_coderFromArrayLen_85cad 2 := ⟨am_wd 1213 (by decide +kernel) rfl, am_wd 1214 (by decide +kernel) rfl, am_wd 34 (by decide +kernel) rfl, by decide +kernel, by decide +kernel, by decide +kernel⟩
theorem s_L_257 : am_SS RL 257 yL_state 1 := ⟨am_wd 1227 (by decide +kernel) rfl, am_wd 1228 (by decide +kernel) rfl, am_wd 26 (by decide +kernel) rfl, by decide +kernel, by decide +kernel, by decide +kernel⟩
theorem s_L_202 : am_SV RL 202 yX5_kilometre RX5 0 := ⟨am_wd 1231 (by decide +kernel) rfl, am_wd 1232 (by decide +kernel) rfl, am_wd 1233 (by decide +kernel) rfl, am_wd 27 (by decide +kernel) rfl, by decide +kernel, by decide +kernel, by decide +kernel⟩
theorem s_L_205 : am_SV RL 205 yX5_day RX5 0 := ⟨am_wd 1235 (by decide +kernel) rfl, am_wd 1236 (by decide +kernel) rfl, am_wd 1237 (by decide +kernel) rfl, am_wd 27 (by decide +kernel) rfl, by decide +kernel, by decide +kernel, by decide +kernel⟩
theorem s_L_210 : am_SV RL 210 yX5_leader RX5 0 := ⟨am_wd 1240 (by decide +kernel) rfl, am_wd 1241 (by decide +kernel) rfl, am_wd 1242 (by decide +kernel) rfl, am_wd 27 (by decide +kernel) rfl, by decide +kernel, by decide +kernel, by decide +kernel⟩
theorem s_L_213 : am_SV RL 213 yX5_isStopping RX5 0 := ⟨am_wd 1244 (by decide +kernel) rfl, am_wd 1245 (by decide +kernel) rfl, am_wd 1246 (by decide +kernel) rfl, am_wd 27 (by decide +kernel) rfl, by decide +kernel, by decide +kernel, by decide +kernel⟩
theorem s_L_219 : am_SV RL 219 yX5_drunk RX5 0 := ⟨am_wd 1249 (by decide +kernel) rfl, am_wd 1250 (by decide +kernel) rfl, am_wd 1251 (by decide +kernel) rfl, am_wd 27 (by decide +kernel) rfl, by decide +kernel, by decide +kernel, by decide +kernel⟩
theorem s_L_268 : am_SS RL 268 yL_caravan 1 := ⟨am_wd 1253 (by decide +kernel) rfl, am_wd 1254 (by decide +kernel) rfl, am_wd 26 (by decide +kernel) rfl, by decide +kernel, by decide +kernel, by decide +kernel⟩
theorem s_L_232 : am_SV RL 232 yX5_hasArrived RX5 0 := ⟨am_wd 1256 (by decide +kernel) rfl, am_wd 1257 (by decide +kernel) rfl, am_wd 1258 (by decide +kernel) rfl, am_wd 27 (by decide +kernel) rfl, by decide +kernel, by decide +kernel, by decide +kernel⟩
theorem s_L_235 : am_SS RL 235 yJ9_max_7cf53 2 := ⟨am_wd 1260 (by decide +kernel) rfl, am_wd 622 (by decide +kernel) rfl, am_wd 42 (by decide +kernel) rfl, by decide +kernel, by decide +kernel, by decide +kernel⟩
theorem s_L_240 : am_SV RL 240 yX5_livingCamels RX5 0 := ⟨am_wd 1261 (by decide +kernel) rfl, am_wd 1262 (by decide +kernel) rfl, am_wd 1263 (by decide +kernel) rfl, am_wd 27 (by decide +kernel) rfl, by decide +kernel, by decide +kernel, by decide +kernel⟩
theorem s_L_243 : am_SV RL 243 yX5_carriedValue RX5 0 := ⟨am_wd 1265 (by decide +kernel) rfl, am_wd 1266 (by decide +kernel) rfl, am_wd 1267 (by decide +kernel) rfl, am_wd 27 (by decide +kernel) rfl, by decide +kernel, by decide +kernel, by decide +kernel⟩
theorem s_L_246 : am_SV RL 246 yX5_meanWater RX5 0 := ⟨am_wd 1269 (by decide +kernel) rfl, am_wd 1270 (by decide +kernel) rfl, am_wd 1271 (by decide +kernel) rfl, am_wd 27 (by decide +kernel) rfl, by decide +kernel, by decide +kernel, by decide +kernel⟩
theorem s_L_250 : am_SV RL 250 yX5_progress RX5 0 := ⟨am_wd 1273 (by decide +kernel) rfl, am_wd 1274 (by decide +kernel) rfl, am_wd 1275 (by decide +kernel) rfl, am_wd 27 (by decide +kernel) rfl, by decide +kernel, by decide +kernel, by decide +kernel⟩
theorem s_L_281 : am_SS RL 281 yL_day 2 := ⟨am_wd 1277 (by decide +kernel) rfl, am_wd 1278 (by decide +kernel) rfl, am_wd 26 (by decide +kernel) rfl, by decide +kernel, by decide +kernel, by decide +kernel⟩
theorem s_L_261 : am_SS RL 261 yL_distance 1 := ⟨am_wd 1280 (by decide +kernel) rfl, am_wd 1281 (by decide +kernel) rfl, am_wd 26 (by decide +kernel) rfl, by decide +kernel, by decide +kernel, by decide +kernel⟩
theorem s_L_254 : am_SS RL 254 yJ9_min_7cf53 2 := ⟨am_wd 1283 (by decide +kernel) rfl, am_wd 611 (by decide +kernel) rfl, am_wd 42 (by decide +kernel) rfl, by decide +kernel, by decide +kernel, by decide +kernel⟩
theorem s_L_265 : am_SV RL 265 yX5_distanceToday RX5 0 := ⟨am_wd 1284 (by decide +kernel) rfl, am_wd 1285 (by decide +kernel) rfl, am_wd 1286 (by decide +kernel) rfl, am_wd 27 (by decide +kernel) rfl, by decide +kernel, by decide +kernel, by decide +kernel⟩
theorem s_X5_247 : am_SV RX5 247 yX0_distanceNow RX0 0 := ⟨am_wd 1288 (by decide +kernel) rfl, am_wd 630 (by decide +kernel) rfl, am_wd 631 (by decide +kernel) rfl, am_wd 29 (by decide +kernel) rfl, by decide +kernel, by decide +kernel, by decide +kernel⟩
theorem s_L_299 : am_SS RL 299 yL_works 2 := ⟨am_wd 1289 (by decide +kernel) rfl, am_wd 1290 (by decide +kernel) rfl, am_wd 26 (by decide +kernel) rfl, by decide +kernel, by decide +kernel, by decide +kernel⟩
theorem s_L_272 : am_SS RL 272 yL_call_ 4 := ⟨am_wd 1292 (by decide +kernel) rfl, am_wd 1293 (by decide +kernel) rfl, am_wd 26 (by decide +kernel) rfl, by decide +kernel, by decide +kernel, by decide +kernel⟩
theorem s_L_275 : am_SV RL 275 yX5_setStopping RX5 1 := ⟨am_wd 1295 (by decide +kernel) rfl, am_wd 1296 (by decide +kernel) rfl, am_wd 1297 (by decide +kernel) rfl, am_wd 27 (by decide +kernel) rfl, by decide +kernel, by decide +kernel, by decide +kernel⟩
theorem s_L_303 : am_SS RL 303 yL_ahead 2 := ⟨am_wd 1299 (by decide +kernel) rfl, am_wd 1300 (by decide +kernel) rfl, am_wd 26 (by decide +kernel) rfl, by decide +kernel, by decide +kernel, by decide +kernel⟩
theorem s_L_295 : am_SS RL 295 yL_does 3 := ⟨am_wd 1302 (by decide +kernel) rfl, am_wd 1303 (by decide +kernel) rfl, am_wd 26 (by decide +kernel) rfl, by decide +kernel, by decide +kernel, by decide +kernel⟩
theorem am_mx1 : Cond.static Lib.Math.max.name ∈ am_tbl := am_wd 622 (by decide +kernel) rfl
theorem am_mn1 : Cond.static Lib.Math.min.name ∈ am_tbl := am_wd 611 (by decide +kernel) rfl
theorem am_mx2 : Cond.initialized "java/lang/Math" ∈ am_tbl := am_wd 42 (by decide +kernel) rfl
theorem am_mx3 : Cond.code Lib.Math.max.name Lib.Math.max.code 2 (some .int) ∈ am_tbl := am_wd 623 (by decide +kernel) rfl
theorem am_mn3 : Cond.code Lib.Math.min.name Lib.Math.min.code 2 (some .int) ∈ am_tbl := am_wd 612 (by decide +kernel) rfl
theorem am_ac1 : Cond.native arraycopyName ∈ am_tbl := am_wd 412 (by decide +kernel) rfl
theorem am_ac2 : Cond.static arraycopyName ∈ am_tbl := am_wd 411 (by decide +kernel) rfl
theorem am_ac3 : Cond.initialized "java/lang/System" ∈ am_tbl := am_wd 35 (by decide +kernel) rfl
theorem z_CaravanRouteLaw : Cond.initialized RL ∈ am_tbl := am_wd 26 (by decide +kernel) rfl
theorem z_CaravanRoute : Cond.initialized RX5 ∈ am_tbl := am_wd 27 (by decide +kernel) rfl
theorem z_CaravanRoute_Input : Cond.initialized RX2 ∈ am_tbl := am_wd 28 (by decide +kernel) rfl
theorem z_CaravanRoute_Caravan : Cond.initialized RX0 ∈ am_tbl := am_wd 29 (by decide +kernel) rfl
theorem z_CaravanRoute_Plan : Cond.initialized RX3 ∈ am_tbl := am_wd 30 (by decide +kernel) rfl
theorem z_java_lang_String : Cond.initialized RJ0 ∈ am_tbl := am_wd 31 (by decide +kernel) rfl
theorem z_java_lang_StringLatin1 : Cond.initialized RJ1 ∈ am_tbl := am_wd 32 (by decide +kernel) rfl
theorem z_jdk_internal_util_Preconditions : Cond.initialized RJ3 ∈ am_tbl := am_wd 33 (by decide +kernel) rfl
theorem z_java_lang_StringUTF16 : Cond.initialized "java/lang/StringUTF16" ∈ am_tbl := am_wd 34 (by decide +kernel) rfl
theorem z_java_lang_System : Cond.initialized "java/lang/System" ∈ am_tbl := am_wd 35 (by decide +kernel) rfl
theorem z_CaravanRoute_History : Cond.initialized RX1 ∈ am_tbl := am_wd 36 (by decide +kernel) rfl
theorem z_CaravanRoute_Writing : Cond.initialized RX4 ∈ am_tbl := am_wd 37 (by decide +kernel) rfl
theorem z_java_lang_Throwable : Cond.initialized "java/lang/Throwable" ∈ am_tbl := am_wd 38 (by decide +kernel) rfl
theorem z_java_lang_Exception : Cond.initialized "java/lang/Exception" ∈ am_tbl := am_wd 39 (by decide +kernel) rfl
theorem z_java_lang_RuntimeException : Cond.initialized "java/lang/RuntimeException" ∈ am_tbl := am_wd 40 (by decide +kernel) rfl
theorem z_java_lang_IllegalStateException : Cond.initialized "java/lang/IllegalStateException" ∈ am_tbl := am_wd 41 (by decide +kernel) rfl
theorem z_java_lang_Math : Cond.initialized "java/lang/Math" ∈ am_tbl := am_wd 42 (by decide +kernel) rfl
theorem z_java_lang_IndexOutOfBoundsException : Cond.initialized "java/lang/IndexOutOfBoundsException" ∈ am_tbl := am_wd 43 (by decide +kernel) rfl
theorem z_java_lang_IllegalArgumentException : Cond.initialized "java/lang/IllegalArgumentException" ∈ am_tbl := am_wd 44 (by decide +kernel) rfl
theorem z_java_util_NoSuchElementException : Cond.initialized "java/util/NoSuchElementException" ∈ am_tbl := am_wd 45 (by decide +kernel) rfl
theorem z_java_lang_AbstractStringBuilder : Cond.initialized RJ5 ∈ am_tbl := am_wd 46 (by decide +kernel) rfl
theorem z_java_lang_StringBuilder : Cond.initialized RJ4 ∈ am_tbl := am_wd 47 (by decide +kernel) rfl
theorem z_jdk_internal_util_ArraysSupport : Cond.initialized RJ8 ∈ am_tbl := am_wd 48 (by decide +kernel) rfl
theorem z_java_util_Arrays : Cond.initialized RJ7 ∈ am_tbl := am_wd 49 (by decide +kernel) rfl
theorem z_java_lang_Number : Cond.initialized "java/lang/Number" ∈ am_tbl := am_wd 50 (by decide +kernel) rfl
theorem z_java_lang_Integer : Cond.initialized RJ6 ∈ am_tbl := am_wd 51 (by decide +kernel) rfl
theorem k_L_8 : Cond.classLink RL 8 RX5 ∈ am_tbl := am_wd 52 (by decide +kernel) rfl
theorem k_X5_9 : Cond.classLink RX5 9 RX2 ∈ am_tbl := am_wd 60 (by decide +kernel) rfl
theorem k_X2_15 : Cond.classLink RX2 15 RX0 ∈ am_tbl := am_wd 66 (by decide +kernel) rfl
theorem k_X2_17 : Cond.classLink RX2 17 RX3 ∈ am_tbl := am_wd 68 (by decide +kernel) rfl
theorem k_X5_30 : Cond.classLink RX5 30 RX3 ∈ am_tbl := am_wd 404 (by decide +kernel) rfl
theorem k_X5_38 : Cond.classLink RX5 38 RX0 ∈ am_tbl := am_wd 413 (by decide +kernel) rfl
end
section
theorem k_X5_58 : Cond.classLink RX5 58 RX1 ∈ am_tbl := am_wd 420 (by decide +kernel) rfl
theorem k_X1_9 : Cond.classLink RX1 9 RX0 ∈ am_tbl := am_wd 426 (by decide +kernel) rfl
theorem k_X5_77 : Cond.classLink RX5 77 RX4 ∈ am_tbl := am_wd 440 (by decide +kernel) rfl
theorem k_L_140 : Cond.classLink RL 140 "java/util/NoSuchElementException" ∈ am_tbl := am_wd 509 (by decide +kernel) rfl
theorem k_L_144 : Cond.classLink RL 144 "java/lang/IllegalStateException" ∈ am_tbl := am_wd 510 (by decide +kernel) rfl
theorem k_L_146 : Cond.classLink RL 146 "java/lang/IllegalArgumentException" ∈ am_tbl := am_wd 511 (by decide +kernel) rfl
theorem k_L_148 : Cond.classLink RL 148 "java/lang/IndexOutOfBoundsException" ∈ am_tbl := am_wd 512 (by decide +kernel) rfl
theorem k_X5_87 : Cond.classLink RX5 87 "java/lang/IllegalStateException" ∈ am_tbl := am_wd 537 (by decide +kernel) rfl
theorem k_X5_151 : Cond.classLink RX5 151 "java/lang/IndexOutOfBoundsException" ∈ am_tbl := am_wd 704 (by decide +kernel) rfl
theorem k_X5_97 : Cond.classLink RX5 97 "java/lang/IllegalArgumentException" ∈ am_tbl := am_wd 751 (by decide +kernel) rfl
theorem k_X5_110 : Cond.classLink RX5 110 "java/util/NoSuchElementException" ∈ am_tbl := am_wd 791 (by decide +kernel) rfl
theorem k_L_166 : Cond.classLink RL 166 RJ4 ∈ am_tbl := am_wd 978 (by decide +kernel) rfl
theorem k_J7_311 : Cond.classLink RJ7 311 "[B" ∈ am_tbl := am_wd 1041 (by decide +kernel) rfl
theorem k_J4_18 : Cond.classLink RJ4 18 RJ0 ∈ am_tbl := am_wd 1166 (by decide +kernel) rfl
theorem k_J7_43 : Cond.classLink RJ7 43 "java/lang/IllegalArgumentException" ∈ am_tbl := am_wd 1198 (by decide +kernel) rfl
theorem k_J7_45 : Cond.classLink RJ7 45 RJ4 ∈ am_tbl := am_wd 1199 (by decide +kernel) rfl
theorem l_L_200 : Cond.constantLong RL 200 7 ∈ am_tbl := am_wd 1230 (by decide +kernel) rfl
theorem l_L_208 : Cond.constantLong RL 208 31 ∈ am_tbl := am_wd 1239 (by decide +kernel) rfl
theorem l_L_217 : Cond.constantLong RL 217 1009 ∈ am_tbl := am_wd 1248 (by decide +kernel) rfl
end
section
set_option maxRecDepth 200000 in
theorem h_L_works : Cond.code yL_works cL_works 18 (some .boolean) ∈ am_tbl := am_wd 1291 (by rfl) rfl
end
