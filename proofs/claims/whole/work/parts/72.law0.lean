/-! ===== the law: what stands between the calls ===== -/
theorem RR_out {I I' : am_I} {x : Nat} {tb : Nat → Nat} {n : Nat} {err : Int32} {r : Nat → Int32} {ct : Nat} {hs : Nat → Nat → Int32} {kp : Nat → Bool} {sn : Nat → Nat → Int32} {w : Nat × (Nat → Int32)} (h : RouRel I x tb n err r ct hs kp sn w) (hf : ∀ b : Nat, x ≤ b → b < x + 173 → I' b = I b) : RouRel I' x tb n err r ct hs kp sn w := by
  obtain ⟨a1, a2, a3, ⟨nx, a4⟩, a5, a6, a7⟩ := h
  exact ⟨a1.row (hf _ (by omega) (by omega)) (hf _ (by omega) (by omega)), by rw [hf x (by omega) (by omega)]; exact a2, CR_agree a3 (hf _ (by omega) (by omega)) (fun b g1 g2 => hf b (by omega) (by omega)) (fun b g1 g2 => hf b (by omega) (by omega)), ⟨nx, HistRel_agree a4 (hf _ (by omega) (by omega)) (fun b g1 g2 => hf b (by omega) (by omega)) (fun b g1 g2 => hf b (by omega) (by omega))⟩, SnRel_agree a5 (fun b g1 g2 => hf b (by omega) (by omega)) (fun b g1 g2 => hf b (by omega) (by omega)), a6.row (hf _ (by omega) (by omega)) (hf _ (by omega) (by omega)), a7⟩
theorem MM_out {I I' : am_I} {x y : Nat} {tb : Nat → Nat} {n : Nat} {err : Int32} {r : Nat → Int32} {ct : Nat} {hs : Nat → Nat → Int32} {kp : Nat → Bool} {sn : Nat → Nat → Int32} {w : Nat × (Nat → Int32)} (h : ModRel I y tb n err r ct hs kp sn w) (hf : RFr x I I') (hxy : x + 173 ≤ y) : ModRel I' y tb n err r ct hs kp sn w :=
  MM_agree h (by rw [hf y (by omega)]) (by rw [hf y (by omega)]) (by rw [hf y (by omega)]) (by rw [hf y (by omega)]) (hf _ (by omega)) (hf _ (by omega)) (hf _ (by omega)) (hf _ (by omega)) (hf _ (by omega)) (hf _ (by omega))
def LOk (err : Int32) (r : Nat → Int32) (ct : Nat) (hs : Nat → Nat → Int32) (kp : Nat → Bool) (sn : Nat → Nat → Int32) : Prop := RowOk r ∧ (∀ s : Nat, s < ct → RowOk (hs s)) ∧ (∀ j : Nat, j < 2 → kp j = true → RowOk (sn j)) ∧ (err = -1 ∨ ∃ k : Nat, err = nI k ∧ k ≤ 700)
theorem LOk.to {err : Int32} {r r' : Nat → Int32} {ct : Nat} {hs : Nat → Nat → Int32} {kp : Nat → Bool} {sn : Nat → Nat → Int32} (h : LOk err r ct hs kp sn) (hr : RowOk r') : LOk err r' (min 8 (ct + 1)) (sp_push r hs) kp sn := by
  refine ⟨hr, fun s hs2 => ?_, h.2.2.1, h.2.2.2⟩
  unfold sp_push
  by_cases e : s = 0
  · rw [if_pos e]; exact h.1
  · rw [if_neg e]; exact h.2.1 _ (by omega)
/-- the class's object and the model's, alike -/
def LInv (I : am_I) (x y : Nat) : Prop := ∃ (tb : Nat → Nat) (n : Nat) (err : Int32) (r : Nat → Int32) (ct : Nat) (hs : Nat → Nat → Int32) (kp : Nat → Bool) (sn : Nat → Nat → Int32) (w : Nat × (Nat → Int32)), RouRel I x tb n err r ct hs kp sn w ∧ ModRel I y tb n err r ct hs kp sn w ∧ LOk err r ct hs kp sn
def LL (Λ : am_L) (x y o : Nat) : Prop := RouLay Λ x ∧ ModLay Λ y ∧ Λ.1 o = (5, 1) ∧ x + 173 ≤ y ∧ y + 10 ≤ o
theorem LInv_q {I : am_I} {x y : Nat} {z : Int32} {tb : Nat → Nat} {n : Nat} {err : Int32} {r : Nat → Int32} {ct : Nat} {hs : Nat → Nat → Int32} {kp : Nat → Bool} {sn : Nat → Nat → Int32} {w : Nat × (Nat → Int32)} (hR : RouRel I x tb n err r ct hs kp sn w) (hM : ModRel I y tb n err r ct hs kp sn w) (hO : LOk err r ct hs kp sn) (hxy : x + 173 ≤ y) : LInv (am_up I y 10 z) x y :=
  ⟨tb, n, err, r, ct, hs, kp, sn, w, RR_out hR (fun b h1 h2 => am_up_ne (by omega)), MM_up hM (by omega), hO⟩
theorem LInv_c {I1 I2 : am_I} {x y cd : Nat} {tb : Nat → Nat} {n : Nat} {err : Int32} {r : Nat → Int32} {ct : Nat} {hs : Nat → Nat → Int32} {kp : Nat → Bool} {sn : Nat → Nat → Int32} {w : Nat × (Nat → Int32)} {tb' : Nat → Nat} {n' : Nat} {err' : Int32} {r' : Nat → Int32} {ct' : Nat} {hs' : Nat → Nat → Int32} {kp' : Nat → Bool} {sn' : Nat → Nat → Int32} {w' : Nat × (Nat → Int32)} (hxy : x + 173 ≤ y) (hf : MFr y I1 I2) (p1 : cd = 0 → RouRel I1 x tb' n' err' r' ct' hs' kp' sn' w') (p0 : ¬ cd = 0 → RouRel I1 x tb n err r ct hs kp sn w) (m1 : cd = 0 → ModRel I2 y tb' n' err' r' ct' hs' kp' sn' w') (m0 : ¬ cd = 0 → ModRel I2 y tb n err r ct hs kp sn w) (o1 : cd = 0 → LOk err' r' ct' hs' kp' sn') (o0 : LOk err r ct hs kp sn) : LInv I2 x y := by
  by_cases q : cd = 0
  · exact ⟨tb', n', err', r', ct', hs', kp', sn', w', RR_out (p1 q) (fun b h1 h2 => hf b (by omega)), m1 q, o1 q⟩
  · exact ⟨tb, n, err, r, ct, hs, kp, sn, w, RR_out (p0 q) (fun b h1 h2 => hf b (by omega)), m0 q, o0⟩
theorem lw_lt {P : Prop} [Decidable P] {a b N : Nat} (ha : a < N) (hb : b < N) : (if P then a else b) < N := by
  by_cases q : P
  · rw [if_pos q]; exact ha
  · rw [if_neg q]; exact hb
theorem lw_cdI {n : Nat} {c : Int32} : cdI n c < 2 ^ 31 := by
  unfold cdI
  exact lw_lt (by decide) (by decide)
theorem ite0 {P : Prop} [Decidable P] {a : Nat} (h : (if P then 0 else a) = 0) (ha : a ≠ 0) : P := by
  by_cases q : P
  · exact q
  · rw [if_neg q] at h; exact absurd h ha
theorem ite1 {P : Prop} [Decidable P] {a b : Nat} (h : (if P then b else a) = 0) (ha : a ≠ 0) : P ∧ b = 0 := by
  by_cases q : P
  · rw [if_pos q] at h; exact ⟨q, h⟩
  · rw [if_neg q] at h; exact absurd h ha
theorem ite2 {P : Prop} [Decidable P] {a b : Nat} (h : (if P then b else a) = 0) (hb : b ≠ 0) : ¬ P ∧ a = 0 := by
  by_cases q : P
  · rw [if_pos q] at h; exact absurd h hb
  · rw [if_neg q] at h; exact ⟨q, h⟩
/-- the script -/
def LSc (G : am_G) (X : am_X) (b L : Nat) (xs : Nat → Int32) : Prop := va_X b L xs X.2.2.1 X.2.2.1.heap ∧ b < X.2.2.1.heap.size ∧ ¬ am_A G b
section LAW0
variable {G : am_G} {X : am_X} {R : Room} {own : String} {cc : ByteArray} {nL : Nat} {ret : Option FieldType} {tb : List ExceptionTableEntry} {Q : State → Prop}
variable {Λ : am_L} {I : am_I} {J : am_J} {k n pc : Nat} {ls : List (Nat × Value)} {st : List Value}
theorem k_sld (C : am_Cx G X own cc nL ret tb Q) {b L j : Nat} {xs : Nat → Int32} {i : Int32} (S : LSc G X b L xs) (hL : L ≤ 3072) (hi : i = nI j) (hj : j < L) (hd : decode cc pc = .ok (.iaload, 1)) (kk : am_K G X R nL Λ I J k n (pc + 1) ls (.int (xs j) :: st)) : am_K G X R nL Λ I J k n pc ls (.int i :: .ref b :: st) := fun H locs la hR hS hl => by
  subst hi
  refine va_sld C.hx C.hb S.1 S.2.1 S.2.2 hS (vp_in_nI hj (by omega)) hd ?_
  rw [nI_clamp (by omega)]
  exact kk H locs la hR hS hl
theorem k_slenA (C : am_Cx G X own cc nL ret tb Q) {b L : Nat} {xs : Nat → Int32} (S : LSc G X b L xs) (hd : decode cc pc = .ok (.arraylength, 1)) (kk : am_K G X R nL Λ I J k n (pc + 1) ls (.int (nI L) :: st)) : am_K G X R nL Λ I J k n pc ls (.ref b :: st) := fun H locs la hR hS hl =>
  va_slen C.hx C.hb S.1 S.2.1 S.2.2 hS hd (kk H locs la hR hS hl)
theorem k_tabI (C : am_Cx G X own cc nL ret tb Q) {dflt lo hi : Int} {offs : Array Int} {len : Nat} {x : Int32} {off : Int} {tgt : Nat} (hd : decode cc pc = .ok (.tableswitch dflt lo hi offs, len)) (h1 : ¬ x.toInt < lo) (h2 : ¬ hi < x.toInt) (ho : offs[(x.toInt - lo).toNat]? = some off) (ht : (pc : Int) + off = (tgt : Int)) (kk : am_K G X R nL Λ I J k n tgt ls st) : am_K G X R nL Λ I J k n pc ls (.int x :: st) := fun H locs la hR hS hl =>
  lv_tableIn C.hx C.hb hd h1 h2 ho ht (kk H locs la hR hS hl)
theorem k_tabO (C : am_Cx G X own cc nL ret tb Q) {dflt lo hi : Int} {offs : Array Int} {len : Nat} {x : Int32} {tgt : Nat} (hd : decode cc pc = .ok (.tableswitch dflt lo hi offs, len)) (h : x.toInt < lo ∨ hi < x.toInt) (ht : (pc : Int) + dflt = (tgt : Int)) (kk : am_K G X R nL Λ I J k n tgt ls st) : am_K G X R nL Λ I J k n pc ls (.int x :: st) := fun H locs la hR hS hl =>
  lv_tableOut C.hx C.hb hd h ht (kk H locs la hR hS hl)
theorem k_dcmp (C : am_Cx G X own cc nL ret tb Q) {x y : UInt64} {op : CmpOp} (hd : decode cc pc = .ok (.dcmp op, 1)) (kk : am_K G X R nL Λ I J k n (pc + 1) ls (.int (Op.cmpValue (FP.dcmp x y) op) :: st)) : am_K G X R nL Λ I J k n pc ls (.double y :: .double x :: st) := fun H locs la hR hS hl =>
  lv_dcmp C.hx C.hb hd (kk H locs la hR hS hl)
end LAW0
abbrev lw_LS (b x y o c : Nat) : List (Nat × Value) := [(0, .ref b), (1, .ref x), (2, .ref y), (3, .ref o), (4, .int (nI (6 * c)))]
section LAW1
variable {G : am_G} {X : am_X} {tb : List ExceptionTableEntry} {Q : State → Prop} {Λ : am_L} {I : am_I} {J : am_J} {k n p b x y o c cd : Nat}
/-- behind both calls: the model's exception against the class's, then the answers -/
theorem lw_tail (C : am_Cx G X RL cL_law 9 (some .boolean) tb Q) {off : Int} {bb : Int32} (hy : ModLay Λ y) (ho : Λ.1 o = (5, 1)) (h10 : I y 10 = nI cd) (hcd : cd < 2 ^ 31) (h0 : cd = 0 → J o 0 = bb.toInt64)
    (d0 : decode cL_law p = .ok (.aload_n 2, 1)) (d1 : decode cL_law (p + 1) = .ok (.invokevirtual 158, 3)) (d4 : decode cL_law (p + 4) = .ok (.iload 5, 2)) (d6 : decode cL_law (p + 6) = .ok (.if_icmp .eq 5, 3)) (d11 : decode cL_law (p + 11) = .ok (.iload 5, 2)) (d13 : decode cL_law (p + 13) = .ok (.ifCond .ne 15, 3)) (d16 : decode cL_law (p + 16) = .ok (.aload_n 3, 1)) (d17 : decode cL_law (p + 17) = .ok (.iconst 0, 1)) (d18 : decode cL_law (p + 18) = .ok (.laload, 1)) (d19 : decode cL_law (p + 19) = .ok (.iload 6, 2)) (d21 : decode cL_law (p + 21) = .ok (.i2l, 1)) (d22 : decode cL_law (p + 22) = .ok (.lcmp, 1)) (d23 : decode cL_law (p + 23) = .ok (.ifCond .eq 5, 3)) (d28 : decode cL_law (p + 28) = .ok (.goto off, 3)) (hoff : ((p + 28 : Nat) : Int) + off = ((2922 : Nat) : Int))
    (hk : k ≤ room_1.cells ∧ n ≤ room_1.slots) (kk : am_K G X room_1 9 Λ I J k n 2922 (lw_LS b x y o c) []) : am_K G X room_1 9 Λ I J k n p ((6, .int bb) :: (5, .int (nI cd)) :: lw_LS b x y o c) [] := by
  have hg : am_K G X room_1 9 Λ I J k n (p + 28) ((6, .int bb) :: (5, .int (nI cd)) :: lw_LS b x y o c) [] := by
    refine k_goto C hoff d28 ?_
    exact k_sub [2, 3, 4, 5, 6] rfl kk
  refine k_aload_n C (f := 2) (i := 2) (p := 4) rfl rfl d0 ?_
  refine k_callVp C s_L_158 h_X6_thrown (L6_s hy) rfl (ct_X6_thrown hy) rfl rfl (Nat.le_of_ble_eq_true rfl) ⟨Nat.le_of_ble_eq_true rfl, Nat.le_of_ble_eq_true rfl⟩ hk ⟨rfl, rfl⟩ d1 ?_
  refine k_iload C (i := 5) (p := 1) rfl d4 ?_
  refine k_icmp_eq C (tgt := p + 11) (by omega) d6 (fun _ => ?_) (fun h => absurd h10 h)
  refine k_iload C (i := 5) (p := 1) rfl d11 ?_
  refine k_if_ne C (tgt := p + 28) (by omega) d13 (fun _ => hg) (fun h => ?_)
  have hc0 : cd = 0 := nI_inj hcd (by decide) (h.trans nI_0.symm)
  refine k_aload_n C (f := 3) (i := 3) (p := 5) rfl rfl d16 ?_
  refine k_iconst C ic_0 d17 ?_
  refine k_lald C ho rfl (by decide) (by decide) (h0 hc0) d18 ?_
  refine k_iload C (i := 6) (p := 0) rfl d19 ?_
  refine k_i2l C rfl d21 ?_
  refine k_lcmp C d22 ?_
  exact k_if_eq C (tgt := p + 28) (by omega) d23 (fun _ => hg) (fun h => absurd (md_cmp0.mpr rfl) h)
theorem lw_tailb (C : am_Cx G X RL cL_law 9 (some .boolean) tb Q) {off : Int} {P : Prop} [Decidable P] (hy : ModLay Λ y) (ho : Λ.1 o = (5, 1)) (h10 : I y 10 = nI cd) (hcd : cd < 2 ^ 31) {bb : Int32} (h0 : cd = 0 → J o 0 = (am_b P).toInt64 ∧ bb = am_b P)
    (d0 : decode cL_law p = .ok (.aload_n 2, 1)) (d1 : decode cL_law (p + 1) = .ok (.invokevirtual 158, 3)) (d4 : decode cL_law (p + 4) = .ok (.iload 5, 2)) (d6 : decode cL_law (p + 6) = .ok (.if_icmp .eq 5, 3)) (d11 : decode cL_law (p + 11) = .ok (.iload 5, 2)) (d13 : decode cL_law (p + 13) = .ok (.ifCond .ne 22, 3)) (d16 : decode cL_law (p + 16) = .ok (.aload_n 3, 1)) (d17 : decode cL_law (p + 17) = .ok (.iconst 0, 1)) (d18 : decode cL_law (p + 18) = .ok (.laload, 1)) (d19 : decode cL_law (p + 19) = .ok (.iload 6, 2)) (d21 : decode cL_law (p + 21) = .ok (.ifCond .eq 7, 3)) (d24 : decode cL_law (p + 24) = .ok (.lconst 1, 1)) (d25 : decode cL_law (p + 25) = .ok (.goto 4, 3)) (d28 : decode cL_law (p + 28) = .ok (.lconst 0, 1)) (d29 : decode cL_law (p + 29) = .ok (.lcmp, 1)) (d30 : decode cL_law (p + 30) = .ok (.ifCond .eq 5, 3)) (d35 : decode cL_law (p + 35) = .ok (.goto off, 3)) (hoff : ((p + 35 : Nat) : Int) + off = ((2922 : Nat) : Int))
    (hk : k ≤ room_1.cells ∧ n ≤ room_1.slots) (kk : am_K G X room_1 9 Λ I J k n 2922 (lw_LS b x y o c) []) : am_K G X room_1 9 Λ I J k n p ((6, .int bb) :: (5, .int (nI cd)) :: lw_LS b x y o c) [] := by
  have hg : am_K G X room_1 9 Λ I J k n (p + 35) ((6, .int bb) :: (5, .int (nI cd)) :: lw_LS b x y o c) [] := by
    refine k_goto C hoff d35 ?_
    exact k_sub [2, 3, 4, 5, 6] rfl kk
  refine k_aload_n C (f := 2) (i := 2) (p := 4) rfl rfl d0 ?_
  refine k_callVp C s_L_158 h_X6_thrown (L6_s hy) rfl (ct_X6_thrown hy) rfl rfl (Nat.le_of_ble_eq_true rfl) ⟨Nat.le_of_ble_eq_true rfl, Nat.le_of_ble_eq_true rfl⟩ hk ⟨rfl, rfl⟩ d1 ?_
  refine k_iload C (i := 5) (p := 1) rfl d4 ?_
  refine k_icmp_eq C (tgt := p + 11) (by omega) d6 (fun _ => ?_) (fun h => absurd h10 h)
  refine k_iload C (i := 5) (p := 1) rfl d11 ?_
  refine k_if_ne C (tgt := p + 35) (by omega) d13 (fun _ => hg) (fun h => ?_)
  have hc0 : cd = 0 := nI_inj hcd (by decide) (h.trans nI_0.symm)
  obtain ⟨hJ, rfl⟩ := h0 hc0
  refine k_aload_n C (f := 3) (i := 3) (p := 5) rfl rfl d16 ?_
  refine k_iconst C ic_0 d17 ?_
  refine k_lald C ho rfl (by decide) (by decide) hJ d18 ?_
  refine k_iload C (i := 6) (p := 0) rfl d19 ?_
  refine k_ifb_eq C (tgt := p + 28) (by omega) d21 (fun hP => ?_) (fun hP => ?_)
  · refine k_lconst C rfl d28 ?_
    refine k_lcmp C d29 ?_
    exact k_if_eq C (tgt := p + 35) (by omega) d30 (fun _ => hg) (fun h => absurd (md_cmp0.mpr (by rw [← am_bf hP]; rfl)) h)
  · refine k_lconst C rfl d24 ?_
    refine k_goto C (tgt := p + 29) (by omega) d25 ?_
    refine k_lcmp C d29 ?_
    exact k_if_eq C (tgt := p + 35) (by omega) d30 (fun _ => hg) (fun h => absurd (md_cmp0.mpr (by rw [← am_bt hP]; rfl)) h)
/-- two doubles that are one -/
theorem lw_taild (C : am_Cx G X RL cL_law 9 (some .boolean) tb Q) {off : Int} {d : UInt64}
    (d0 : decode cL_law p = .ok (.dload 5, 2)) (d2 : decode cL_law (p + 2) = .ok (.dload 7, 2)) (d4 : decode cL_law (p + 4) = .ok (.dcmp .l, 1)) (d5 : decode cL_law (p + 5) = .ok (.ifCond .eq 21, 3)) (d8 : decode cL_law (p + 8) = .ok (.dload 5, 2)) (d10 : decode cL_law (p + 10) = .ok (.dload 5, 2)) (d12 : decode cL_law (p + 12) = .ok (.dcmp .l, 1)) (d13 : decode cL_law (p + 13) = .ok (.ifCond .eq 11, 3)) (d16 : decode cL_law (p + 16) = .ok (.dload 7, 2)) (d18 : decode cL_law (p + 18) = .ok (.dload 7, 2)) (d20 : decode cL_law (p + 20) = .ok (.dcmp .l, 1)) (d21 : decode cL_law (p + 21) = .ok (.ifCond .ne 5, 3)) (d26 : decode cL_law (p + 26) = .ok (.goto off, 3)) (hoff : ((p + 26 : Nat) : Int) + off = ((2922 : Nat) : Int))
    (kk : am_K G X room_1 9 Λ I J k n 2922 (lw_LS b x y o c) []) : am_K G X room_1 9 Λ I J k n p ((7, .double d) :: (5, .double d) :: lw_LS b x y o c) [] := by
  have hg : am_K G X room_1 9 Λ I J k n (p + 26) ((7, .double d) :: (5, .double d) :: lw_LS b x y o c) [] := by
    refine k_goto C hoff d26 ?_
    exact k_sub [2, 3, 4, 5, 6] rfl kk
  refine k_dload C (i := 5) (p := 1) rfl d0 ?_
  refine k_dload C (i := 7) (p := 0) rfl d2 ?_
  refine k_dcmp C d4 ?_
  refine k_if_eq C (tgt := p + 26) (by omega) d5 (fun _ => hg) (fun h => ?_)
  refine k_dload C (i := 5) (p := 1) rfl d8 ?_
  refine k_dload C (i := 5) (p := 1) rfl d10 ?_
  refine k_dcmp C d12 ?_
  refine k_if_eq C (tgt := p + 24) (by omega) d13 (fun h2 => absurd h2 h) (fun h2 => ?_)
  refine k_dload C (i := 7) (p := 0) rfl d16 ?_
  refine k_dload C (i := 7) (p := 0) rfl d18 ?_
  refine k_dcmp C d20 ?_
  exact k_if_ne C (tgt := p + 26) (by omega) d21 (fun _ => hg) (fun h3 => absurd h3 h)
end LAW1
