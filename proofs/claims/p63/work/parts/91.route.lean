/-! ===== the text that the law makes ===== -/
abbrev L3 : Type := List (Nat × Nat × Nat)
abbrev LO : Type := List (Nat × Nat × Option Nat)
theorem ki_L_179 : Cond.constant RL 179 (1103515245 : Int32) ∈ am_tbl := am_wd 1148 (by decide +kernel) rfl
def GC : List (Nat × Nat × Nat) → Prop
  | [] => True
  | (a, b, c) :: t => (10 ≤ a ∧ a ≤ 41 ∧ 1 ≤ b ∧ b ≤ 8 ∧ 10 ≤ c ∧ c ≤ 73) ∧ GC t
def GW : Nat → List (Nat × Nat × Nat) → Prop
  | _, [] => True
  | k, (a, b, c) :: t => (20 * k ≤ a ∧ a ≤ 20 * k + 15 ∧ 1 ≤ b ∧ b ≤ 128 ∧ c ≤ 31) ∧ GW (k + 1) t
def GSt : List (Nat × Nat × Nat) → Prop
  | [] => True
  | (a, b, c) :: t => (a ≤ b ∧ b ≤ 14 ∧ 1 ≤ c ∧ c ≤ 9) ∧ GSt t
def frC (cs : List (Nat × Nat × Nat)) : Nat → Nat := fun j => 20 * (cs.getD j (0, 0, 0)).2.1
def frA (fr : Nat → Nat) (w : Nat) : Option Nat → Nat → Nat
  | none => fr
  | some j => fun i => if i = j then fr j - w else fr i
def frL (fr : Nat → Nat) : List (Nat × Nat × Option Nat) → Nat → Nat
  | [] => fr
  | (w, _, o) :: t => frL (frA fr w o) t
def GL (n : Nat) (fr : Nat → Nat) : List (Nat × Nat × Option Nat) → Prop
  | [] => True
  | (w, v, o) :: t => (1 ≤ w ∧ w ≤ 64 ∧ 1 ≤ v ∧ v ≤ 32 ∧ ∀ j : Nat, o = some j → j < n ∧ w ≤ fr j) ∧ GL n (frA fr w o) t
theorem GC_app {a b c : Nat} (h : 10 ≤ a ∧ a ≤ 41 ∧ 1 ≤ b ∧ b ≤ 8 ∧ 10 ≤ c ∧ c ≤ 73) : ∀ t : List (Nat × Nat × Nat), GC t → GC (t ++ [(a, b, c)])
  | [], _ => ⟨h, trivial⟩
  | (x, y, z) :: t, g => ⟨g.1, GC_app h t g.2⟩
theorem GW_app {a b c : Nat} : ∀ (t : List (Nat × Nat × Nat)) (k : Nat), (20 * (k + t.length) ≤ a ∧ a ≤ 20 * (k + t.length) + 15 ∧ 1 ≤ b ∧ b ≤ 128 ∧ c ≤ 31) → GW k t → GW k (t ++ [(a, b, c)])
  | [], k, h, _ => ⟨h, trivial⟩
  | (x, y, z) :: t, k, h, g => ⟨g.1, GW_app t (k + 1) (by simp only [List.length_cons] at h; rw [show k + (t.length + 1) = k + 1 + t.length by omega] at h; exact h) g.2⟩
theorem GSt_app {a b c : Nat} (h : a ≤ b ∧ b ≤ 14 ∧ 1 ≤ c ∧ c ≤ 9) : ∀ t : List (Nat × Nat × Nat), GSt t → GSt (t ++ [(a, b, c)])
  | [], _ => ⟨h, trivial⟩
  | (x, y, z) :: t, g => ⟨g.1, GSt_app h t g.2⟩
theorem GL_app {n w v : Nat} {o : Option Nat} : ∀ (t : List (Nat × Nat × Option Nat)) (fr : Nat → Nat), (1 ≤ w ∧ w ≤ 64 ∧ 1 ≤ v ∧ v ≤ 32 ∧ ∀ j : Nat, o = some j → j < n ∧ w ≤ frL fr t j) → GL n fr t → GL n fr (t ++ [(w, v, o)])
  | [], fr, h, _ => ⟨h, trivial⟩
  | (x, y, z) :: t, fr, h, g => ⟨g.1, GL_app t (frA fr x z) h g.2⟩
theorem frL_app {w v : Nat} {o : Option Nat} : ∀ (t : List (Nat × Nat × Option Nat)) (fr : Nat → Nat), frL fr (t ++ [(w, v, o)]) = frA (frL fr t) w o
  | [], fr => rfl
  | (x, y, z) :: t, fr => frL_app t (frA fr x z)
theorem frC_le : ∀ (t : List (Nat × Nat × Nat)) (j : Nat), GC t → frC t j ≤ 160
  | [], j, _ => Nat.zero_le _
  | (a, b, c) :: t, 0, g => by show 20 * b ≤ 160; have := g.1; omega
  | (a, b, c) :: t, j + 1, g => frC_le t j g.2
theorem frA_le {fr : Nat → Nat} {w : Nat} {o : Option Nat} {j : Nat} : frA fr w o j ≤ fr j := by
  cases o with
  | none => exact Nat.le_refl _
  | some i =>
    show (if j = i then fr i - w else fr j) ≤ fr j
    by_cases e : j = i
    · subst e; rw [if_pos rfl]; omega
    · rw [if_neg e]; exact Nat.le_refl _
theorem frL_le : ∀ (t : List (Nat × Nat × Option Nat)) (fr : Nat → Nat) (j : Nat), frL fr t j ≤ fr j
  | [], fr, j => Nat.le_refl _
  | (w, v, o) :: t, fr, j => Nat.le_trans (frL_le t (frA fr w o) j) frA_le
theorem frC_app {a b c : Nat} {t : List (Nat × Nat × Nat)} : (fun j => if j = t.length then 20 * b else frC t j) = frC (t ++ [(a, b, c)]) := by
  funext j
  unfold frC
  by_cases e : j = t.length
  · subst e
    rw [if_pos rfl]
    simp
  · rw [if_neg e]
    by_cases h : j < t.length
    · simp [List.getD_eq_getElem?_getD, List.getElem?_append_left h]
    · simp [List.getD_eq_getElem?_getD, List.getElem?_eq_none (show t.length ≤ j by omega), List.getElem?_eq_none (show (t ++ [(a, b, c)]).length ≤ j by simp; omega)]
def GoodTx (l : List Nat) : Prop := ∃ (L : Nat) (cs ws ss : List (Nat × Nat × Nat)) (ls : List (Nat × Nat × Option Nat)), l = lnR L ++ lnCs cs ++ lnWs ws ++ lnSs ss ++ lnLs ls ∧ (60 ≤ L ∧ L ≤ 315) ∧ (1 ≤ cs.length ∧ cs.length ≤ 5) ∧ ws.length ≤ 3 ∧ ss.length ≤ 3 ∧ ls.length ≤ 7 ∧ GC cs ∧ GW 0 ws ∧ GSt ss ∧ GL cs.length (frC cs) ls
def am_rt (Λ : am_L) (I : am_I) : am_PT := fun w Λ' I' _ => KPs Λ I Λ' I' ∧ ∃ (s sv : Nat) (l : List Nat), w = some (.ref s) ∧ (Λ.1 s).1 = 0 ∧ (Λ.1 sv).1 = 0 ∧ StAt Λ' I' s sv l.length (gl l) ∧ l.length ≤ 300 ∧ GoodTx l
theorem len_app {l m : List Nat} {A w : Nat} (h : l.length ≤ A) (hm : m.length ≤ w) : (l ++ m).length ≤ A + w := by
  rw [List.length_append]; omega
theorem gl_nil : gl [] = fun _ => 0 := by
  funext j
  rfl
theorem KPs_new {Λ : am_L} {I : am_I} {h : Nat} {s : Nat × Nat} (hh : ∀ a : Nat, (Λ.1 a).1 ≠ 0 → a < h) : KPs Λ I (am_nS Λ h s) (am_nI I h) := fun a ha => by
  have q : a ≠ h := fun e => by have := hh a ha; omega
  exact ⟨nS_ne q, nR_ne q, nI_old q⟩
/-- a builder just made -/
theorem RB_new {Λ Λ2 : am_L} {I I2 : am_I} {J' : am_J} {b n : Nat} {l : List Nat} {tx : Nat → Nat} (hh : ∀ a : Nat, (Λ.1 a).1 ≠ 0 → a < b) (h : am_ini b n tx (am_nS Λ b (1, 6)) (am_nI I b) none Λ2 I2 J') (hn : n = l.length) (ht : ∀ j : Nat, j < n → tx j = gl l j) : ∃ v cap : Nat, RB Λ I Λ2 I2 b v cap l := by
  obtain ⟨-, hk, v, cap, h1, h2, a1, a2, a3, a4, a5, a6, a7⟩ := h
  subst hn
  refine ⟨v, cap, fun a ha => ?_, fresh0 hh, ?_, h2, a1, a2, a3, a4, a5, a6, fun j hj => by rw [a7 j hj, ht j hj]⟩
  · have q : a ≠ b := fun e => by have := hh a ha; omega
    obtain ⟨b1, b2⟩ := hk a (by rw [nS_ne q]; exact ha)
    exact ⟨b1.trans (nS_ne q), (b2 q).1.trans (nR_ne q), ((b2 q).2 q).trans (nI_old q)⟩
  · by_cases e : v = b
    · rw [e]; exact fresh0 hh
    · rw [nS_ne e] at h1; exact h1
theorem AF_new {Λ0 Λ : am_L} {I0 I : am_I} {h : Nat} (hk : KPs Λ0 I0 Λ I) (hh : ∀ a : Nat, (Λ.1 a).1 ≠ 0 → a < h) : AF Λ0 (am_nS Λ h (2, 5)) (am_nI I h) h (frC []) := by
  refine ⟨nS_eq, ?_, fun j hj => by rw [nI_new]; rfl⟩
  by_cases e : (Λ0.1 h).1 = 0
  · exact e
  · exact absurd (hh h (by rw [(hk h e).1]; exact e)) (Nat.lt_irrefl _)
theorem gl128 : ∀ j : Nat, j < 5 → (W6 ++ DL j ++ [59]).length = 6 ∧ ∀ i : Nat, i < 6 → gl (W6 ++ DL j ++ [59]) i < 128 := by decide +kernel
set_option maxHeartbeats 4000000 in
set_option maxRecDepth 100000 in
theorem ct_L_route {G : am_G} {Λ : am_L} {I : am_I} {J : am_J} {wv vv : Int32}  : am_Ct G yL_route cL_route 10 (some (.object "java/lang/String")) { frames := 10, cells := 200, slots := 112000, locals := 900 } [.int wv, .int vv] Λ I J (am_rt Λ I) am_never := by
  refine am_ct_of (own := RL) rfl (by decide) (Nat.le_of_ble_eq_true rfl) (fun X C => ?_)
  change am_K G X { frames := 10, cells := 200, slots := 112000, locals := 900 } 10 Λ I J 0 0 0 [(0, .int wv), (1, .int vv)] []
  refine k_newC2 C (ci := 6) rfl k_L_166 ii_J4 in_J4 ⟨by show _ ≤ 200; (try dsimp only); omega, by show _ ≤ 112000; (try dsimp only); omega⟩ dL_route_0 (fun b hb0 => ?_)
  refine k_dup C rfl dL_route_3 ?_
  refine k_ldcS C 35 (by rfl) dL_route_4 ?_
  refine k_callIl C s_L_170 h_J4_init_a7421 (ct_J4_init_a7421 nS_eq nI_new cs_1) rfl rfl (Nat.le_of_ble_eq_true rfl) ⟨Nat.le_of_ble_eq_true rfl, Nat.le_of_ble_eq_true rfl⟩ ⟨rfl, rfl⟩ ⟨by show _ ≤ 200; (try dsimp only); omega, by show _ ≤ 112000; (try dsimp only); omega⟩ dL_route_6 ?_
  intro w0 Λ6 I6 J6 hv
  have ew : w0 = none := hv.1
  subst ew
  obtain ⟨v6, cap6, hB⟩ := RB_new (l := W1) hb0 hv rfl (fun j hj => (cat_gl (l := []) (m := W1) (fun _ _ => rfl) j hj))
  show am_K G X _ _ _ _ _ _ _ _ _ (.ref b :: [])
  have hlen : W1.length ≤ 6 := Nat.le_refl _
  clear hv
  refine k_bipush C bc_60 dL_route_9 ?_
  refine k_iload_n C (f := 0) (i := 0) (p := 0) rfl rfl dL_route_11 ?_
  refine k_sipush C sc_255 dL_route_12 ?_
  refine k_iand C dL_route_15 ?_
  obtain ⟨e1, he1, he19⟩ := and_le wv (M := 255) (by omega)
  rw [he1]
  refine k_iadd C dL_route_16 ?_
  rw [nI_add]
  refine k_callVl C s_L_173 h_J4_append_bf812 (hB.2.2.2.2.1) rfl (ct_J4_append_bf812 (v0 := 60 + e1) hB.2.2.2.2 (by omega) (by omega) hB.2.2.2.1) rfl rfl (Nat.le_of_ble_eq_true rfl) ⟨Nat.le_of_ble_eq_true rfl, Nat.le_of_ble_eq_true rfl⟩ ⟨rfl, rfl⟩ ⟨by show _ ≤ 200; (try dsimp only); omega, by show _ ≤ 112000; (try dsimp only); omega⟩ dL_route_17 ?_
  intro w0 Λ17 I17 J17 hv
  obtain ⟨rfl, q1, v17, cap17, q2, q3, q4⟩ := hv
  show am_K G X _ _ _ _ _ _ _ _ _ (.ref b :: _)
  replace hB := hB.step q1 q2 q3 (q4.toL (DL_len _).symm (fun i hi => DL_get (by rw [← DL_len]; exact hi)))
  replace hlen := len_app hlen (show (DL (60 + e1)).length ≤ 3 from by rw [DL_len]; exact (dg3_le _).2)
  clear q1 q2 q3 q4
  refine k_bipush C bc_59 dL_route_20 ?_
  refine k_callVl C s_L_176 h_J4_append_cf468 (hB.2.2.2.2.1) rfl (ct_J4_append_cf468 (c := 59) hB.2.2.2.2 (by omega) (by omega) hB.2.2.2.1) rfl rfl (Nat.le_of_ble_eq_true rfl) ⟨Nat.le_of_ble_eq_true rfl, Nat.le_of_ble_eq_true rfl⟩ ⟨rfl, rfl⟩ ⟨by show _ ≤ 200; (try dsimp only); omega, by show _ ≤ 112000; (try dsimp only); omega⟩ dL_route_22 ?_
  intro w0 Λ22 I22 J22 hv
  obtain ⟨rfl, q1, v22, cap22, q2, q3, q4⟩ := hv
  show am_K G X _ _ _ _ _ _ _ _ _ (.ref b :: _)
  replace hB := hB.step q1 q2 q3 (q4.toL (m := [59]) rfl (fun i hi => by obtain rfl : i = 0 := (by simp at hi; omega); rfl))
  replace hlen := len_app hlen (show [59].length ≤ 1 from Nat.le_refl _)
  clear q1 q2 q3 q4
  refine k_astore_n C (f := 2) (i := 2) (lv := [(2, _), (0, _), (1, _)]) rfl (Nat.le_of_ble_eq_true rfl) rfl dL_route_25 ?_
  refine k_iload_n C (f := 1) (i := 1) (p := 2) rfl rfl dL_route_26 ?_
  refine k_istore_n C (f := 3) (i := 3) (lv := [(3, _), (2, _), (0, _), (1, _)]) rfl (Nat.le_of_ble_eq_true rfl) rfl dL_route_27 ?_
  refine k_iconst C ic_1 dL_route_28 ?_
  refine k_iload_n C (f := 0) (i := 0) (p := 2) rfl rfl dL_route_29 ?_
  refine k_iconst C ic_3 dL_route_30 ?_
  refine k_ishr C dL_route_31 ?_
  refine k_sipush C sc_255 dL_route_32 ?_
  refine k_iand C dL_route_35 ?_
  obtain ⟨e2, he2, he29⟩ := and_le (wv >>> (nI 3 &&& 31)) (M := 255) (by omega)
  rw [he2]
  refine k_iconst C ic_5 dL_route_36 ?_
  refine k_irem C (by decide) dL_route_37 ?_
  rw [pk_rem (by omega) (by omega) (by omega)]
  refine k_iadd C dL_route_38 ?_
  rw [nI_add]
  obtain ⟨n, hn, hn1, hn5⟩ : ∃ n : Nat, 1 + e2 % 5 = n ∧ 1 ≤ n ∧ n ≤ 5 := ⟨_, rfl, by omega, by omega⟩
  rw [hn]
  refine k_istore C (i := 4) (lv := [(4, _), (3, _), (2, _), (0, _), (1, _)]) (Nat.le_of_ble_eq_true rfl) rfl dL_route_39 ?_
  refine k_iconst C ic_5 dL_route_41 ?_
  refine k_newA2 C am_ar_i (rfl) (Nat.le_of_ble_eq_true rfl) (Or.inl ⟨rfl, rfl⟩) ⟨by show _ ≤ 200; (try dsimp only); omega, by show _ ≤ 112000; (try dsimp only); omega⟩ dL_route_42 (fun fa hh42 => ?_)
  have hA := AF_new hB.1 hh42
  replace hB := hB.keep (KPs_new (s := (2, 5)) hh42)
  generalize am_nS _ fa (2, 5) = Λ42 at hA hB ⊢
  generalize am_nI _ fa = I42 at hA hB ⊢
  generalize am_nJ _ fa = J42
  obtain ⟨L, hL⟩ : ∃ L : Nat, 60 + e1 = L := ⟨_, rfl⟩
  rw [hL] at hB hlen
  have hlen : (lnR L).length ≤ 10 := hlen
  have hB : RB Λ I Λ42 I42 b v22 cap22 (lnR L ++ lnCs []) := by rw [show lnCs [] = [] from rfl, List.append_nil]; exact hB
  refine k_astore C (i := 5) (lv := [(5, _), (4, _), (3, _), (2, _), (0, _), (1, _)]) (Nat.le_of_ble_eq_true rfl) rfl dL_route_44 ?_
  refine k_iconst C ic_0 dL_route_46 ?_
  refine k_istore C (i := 6) (lv := [(6, _), (5, _), (4, _), (3, _), (2, _), (0, _), (1, _)]) (Nat.le_of_ble_eq_true rfl) rfl dL_route_47 ?_
  have loop49 : ∀ (f : Nat) (k : Nat) (cs : L3) (Λ1 : am_L) (S : am_I) (J1 : am_J) (v cap : Nat) (X0 : Int32), (k ≤ n) → (RB Λ I Λ1 S b v cap (lnR L ++ lnCs cs)) → (AF Λ Λ1 S fa (frC cs)) → (cs.length = k) → (GC cs) → ((lnR L ++ lnCs cs).length ≤ 10 + 14 * k) → (n - k) < f → am_K G X { frames := 10, cells := 200, slots := 112000, locals := 900 } 10 Λ1 S J1 (8 + 7 * k) (2300 + 4900 * k) 49 [(6, .int (nI k)), (5, .ref fa), (4, .int (nI n)), (3, .int X0), (2, .ref b), (0, .int wv)] [] := by
    intro f
    induction f with
    | zero => intro k cs Λ1 S J1 v cap X0 hk1 hB hA hcl hG hlen hf; exact absurd hf (Nat.not_lt_zero _)
    | succ f ih49 =>
      intro k cs Λ1 S J1 v cap X0 hk1 hB hA hcl hG hlen hf
      refine k_iload C (i := 6) (p := 0) rfl dL_route_49 ?_
      refine k_iload C (i := 4) (p := 2) rfl dL_route_51 ?_
      first
      | refine k_icmpN_ge C (tgt := 147) (by omega) (by omega) (by decide) dL_route_53 (fun hc53 => ?_) (fun hc53 => ?_)
      | refine k_icmp_ge C (tgt := 147) (by decide) dL_route_53 (fun hc53 => ?_) (fun hc53 => ?_)
      · skip
        have hcl2 : cs.length = n := by omega
        refine k_iconst C ic_0 dL_route_147 ?_
        refine k_istore C (i := 6) (lv := [(6, _), (5, _), (4, _), (3, _), (2, _), (0, _)]) (Nat.le_of_ble_eq_true rfl) rfl dL_route_148 ?_
        have loop150 : ∀ (f : Nat) (k : Nat) (ws : L3) (Λ1 : am_L) (S : am_I) (J1 : am_J) (v cap : Nat) (X0 : Int32), (k ≤ 3) → (RB Λ I Λ1 S b v cap (lnR L ++ lnCs cs ++ lnWs ws)) → (AF Λ Λ1 S fa (frC cs)) → (ws.length = k) → (GW 0 ws) → ((lnR L ++ lnCs cs ++ lnWs ws).length ≤ 80 + 15 * k) → (4 - k) < f → am_K G X { frames := 10, cells := 200, slots := 112000, locals := 900 } 10 Λ1 S J1 (50 + 7 * k) (26900 + 4900 * k) 150 [(6, .int (nI k)), (5, .ref fa), (4, .int (nI n)), (3, .int X0), (2, .ref b), (0, .int wv)] [] := by
          intro f
          induction f with
          | zero => intro k ws Λ1 S J1 v cap X0 hk1 hB hA hwl hGW hlen hf; exact absurd hf (Nat.not_lt_zero _)
          | succ f ih150 =>
            intro k ws Λ1 S J1 v cap X0 hk1 hB hA hwl hGW hlen hf
            refine k_iload C (i := 6) (p := 0) rfl dL_route_150 ?_
            refine k_iload_n C (f := 0) (i := 0) (p := 5) rfl rfl dL_route_152 ?_
            refine k_bipush C bc_6 dL_route_153 ?_
            refine k_ishr C dL_route_155 ?_
            refine k_iconst C ic_3 dL_route_156 ?_
            refine k_iand C dL_route_157 ?_
            obtain ⟨e6, he6, he69⟩ := and_le (wv >>> (nI 6 &&& 31)) (M := 3) (by omega)
            rw [he6]
            first
            | refine k_icmpN_ge C (tgt := 236) (by omega) (by omega) (by decide) dL_route_158 (fun hc158 => ?_) (fun hc158 => ?_)
            | refine k_icmp_ge C (tgt := 236) (by decide) dL_route_158 (fun hc158 => ?_) (fun hc158 => ?_)
            · skip
              refine k_iconst C ic_0 dL_route_236 ?_
              refine k_istore C (i := 6) (lv := [(6, _), (5, _), (4, _), (3, _), (2, _), (0, _)]) (Nat.le_of_ble_eq_true rfl) rfl dL_route_237 ?_
              have loop239 : ∀ (f : Nat) (k : Nat) (ss : L3) (Λ1 : am_L) (S : am_I) (J1 : am_J) (v cap : Nat) (X0 : Int32), (k ≤ 3) → (RB Λ I Λ1 S b v cap (lnR L ++ lnCs cs ++ lnWs ws ++ lnSs ss)) → (AF Λ Λ1 S fa (frC cs)) → (ss.length = k) → (GSt ss) → ((lnR L ++ lnCs cs ++ lnWs ws ++ lnSs ss).length ≤ 125 + 13 * k) → (4 - k) < f → am_K G X { frames := 10, cells := 200, slots := 112000, locals := 900 } 10 Λ1 S J1 (75 + 7 * k) (41700 + 4900 * k) 239 [(6, .int (nI k)), (5, .ref fa), (4, .int (nI n)), (3, .int X0), (2, .ref b), (0, .int wv)] [] := by
                intro f
                induction f with
                | zero => intro k ss Λ1 S J1 v cap X0 hk1 hB hA hsl hGS hlen hf; exact absurd hf (Nat.not_lt_zero _)
                | succ f ih239 =>
                  intro k ss Λ1 S J1 v cap X0 hk1 hB hA hsl hGS hlen hf
                  refine k_iload C (i := 6) (p := 0) rfl dL_route_239 ?_
                  refine k_iload_n C (f := 0) (i := 0) (p := 5) rfl rfl dL_route_241 ?_
                  refine k_bipush C bc_8 dL_route_242 ?_
                  refine k_ishr C dL_route_244 ?_
                  refine k_iconst C ic_3 dL_route_245 ?_
                  refine k_iand C dL_route_246 ?_
                  obtain ⟨e8b, he8b, he8b9⟩ := and_le (wv >>> (nI 8 &&& 31)) (M := 3) (by omega)
                  rw [he8b]
                  first
                  | refine k_icmpN_ge C (tgt := 330) (by omega) (by omega) (by decide) dL_route_247 (fun hc247 => ?_) (fun hc247 => ?_)
                  | refine k_icmp_ge C (tgt := 330) (by decide) dL_route_247 (fun hc247 => ?_) (fun hc247 => ?_)
                  · skip
                    refine k_iconst C ic_0 dL_route_330 ?_
                    refine k_istore C (i := 6) (lv := [(6, _), (5, _), (4, _), (3, _), (2, _), (0, _)]) (Nat.le_of_ble_eq_true rfl) rfl dL_route_331 ?_
                    have loop333 : ∀ (f : Nat) (k : Nat) (lz : LO) (Λ1 : am_L) (S : am_I) (J1 : am_J) (v cap : Nat) (X0 : Int32), (k ≤ 7) → (RB Λ I Λ1 S b v cap (lnR L ++ lnCs cs ++ lnWs ws ++ lnSs ss ++ lnLs lz)) → (AF Λ Λ1 S fa (frL (frC cs) lz)) → (lz.length = k) → (GL n (frC cs) lz) → ((lnR L ++ lnCs cs ++ lnWs ws ++ lnSs ss ++ lnLs lz).length ≤ 164 + 16 * k) → (8 - k) < f → am_K G X { frames := 10, cells := 200, slots := 112000, locals := 900 } 10 Λ1 S J1 (100 + 13 * k) (56500 + 7400 * k) 333 [(6, .int (nI k)), (5, .ref fa), (4, .int (nI n)), (3, .int X0), (2, .ref b), (0, .int wv)] [] := by
                      intro f
                      induction f with
                      | zero => intro k lz Λ1 S J1 v cap X0 hk1 hB hA hll hGL hlen hf; exact absurd hf (Nat.not_lt_zero _)
                      | succ f ih333 =>
                        intro k lz Λ1 S J1 v cap X0 hk1 hB hA hll hGL hlen hf
                        refine k_iload C (i := 6) (p := 0) rfl dL_route_333 ?_
                        refine k_iload_n C (f := 0) (i := 0) (p := 5) rfl rfl dL_route_335 ?_
                        refine k_bipush C bc_10 dL_route_336 ?_
                        refine k_ishr C dL_route_338 ?_
                        refine k_bipush C bc_7 dL_route_339 ?_
                        refine k_iand C dL_route_341 ?_
                        obtain ⟨e10, he10, he109⟩ := and_le (wv >>> (nI 10 &&& 31)) (M := 7) (by omega)
                        rw [he10]
                        first
                        | refine k_icmpN_ge C (tgt := 492) (by omega) (by omega) (by decide) dL_route_342 (fun hc342 => ?_) (fun hc342 => ?_)
                        | refine k_icmp_ge C (tgt := 492) (by decide) dL_route_342 (fun hc342 => ?_) (fun hc342 => ?_)
                        · skip
                          refine k_aload_n C (f := 2) (i := 2) (p := 4) rfl rfl dL_route_492 ?_
                          refine k_callVl C s_L_196 h_J4_toString_0e30d (hB.2.2.2.2.1) rfl (ct_J4_toString_0e30d hB.2.2.2.2) rfl rfl (Nat.le_of_ble_eq_true rfl) ⟨Nat.le_of_ble_eq_true rfl, Nat.le_of_ble_eq_true rfl⟩ ⟨rfl, rfl⟩ ⟨by show _ ≤ 200; (try dsimp only); omega, by show _ ≤ 112000; (try dsimp only); omega⟩ dL_route_493 ?_
                          intro w0 Λ493 I493 J493 hv
                          obtain ⟨s, sv, rfl, hkp, hs0, hsv0, hst⟩ := hv
                          show am_K G X _ _ _ _ _ _ _ _ _ (.ref s :: [])
                          exact k_aret C (by first | exact Or.inl ⟨_, rfl⟩ | exact Or.inr ⟨_, rfl⟩) (by show _ ≤ 200; (try dsimp only); omega) (by show _ ≤ 112000; (try dsimp only); omega) (⟨hB.1.tr hkp, s, sv, _, rfl, by
                            by_cases e : (Λ.1 s).1 = 0
                            · exact e
                            · rw [(hB.1 _ e).1] at hs0; exact absurd hs0 e, by
                            by_cases e : (Λ.1 sv).1 = 0
                            · exact e
                            · rw [(hB.1 _ e).1] at hsv0; exact absurd hsv0 e, hst, Nat.le_trans hlen (by omega), L, cs, ws, ss, lz, rfl, ⟨by omega, by omega⟩, ⟨by omega, by omega⟩, by omega, by omega, by omega, hG, hGW, hGS, by rw [hcl2]; exact hGL⟩) dL_route_496
                        · skip
                          have hk2 : k < 7 := by omega
                          refine k_iload_n C (f := 3) (i := 3) (p := 3) rfl rfl dL_route_345 ?_
                          refine k_ldcI C ki_L_179 dL_route_346 ?_
                          refine k_imul C dL_route_348 ?_
                          refine k_sipush C sc_12345 dL_route_349 ?_
                          refine k_iadd C dL_route_352 ?_
                          refine k_istore_n C (f := 3) (i := 3) (lv := [(3, _), (6, _), (5, _), (4, _), (2, _), (0, _)]) rfl (Nat.le_of_ble_eq_true rfl) rfl dL_route_353 ?_
                          generalize X0 * 1103515245 + nI 12345 = X1
                          refine k_iconst C ic_1 dL_route_354 ?_
                          refine k_iload_n C (f := 3) (i := 3) (p := 0) rfl rfl dL_route_355 ?_
                          refine k_bipush C bc_8 dL_route_356 ?_
                          refine k_ishr C dL_route_358 ?_
                          refine k_bipush C bc_63 dL_route_359 ?_
                          refine k_iand C dL_route_361 ?_
                          obtain ⟨l8, hl8, hl89⟩ := and_le (X1 >>> (nI 8 &&& 31)) (M := 63) (by omega)
                          rw [hl8]
                          refine k_iadd C dL_route_362 ?_
                          rw [nI_add]
                          refine k_istore C (i := 7) (lv := [(7, _), (3, _), (6, _), (5, _), (4, _), (2, _), (0, _)]) (Nat.le_of_ble_eq_true rfl) rfl dL_route_363 ?_
                          refine k_iload_n C (f := 3) (i := 3) (p := 1) rfl rfl dL_route_365 ?_
                          refine k_bipush C bc_14 dL_route_366 ?_
                          refine k_ishr C dL_route_368 ?_
                          refine k_sipush C sc_255 dL_route_369 ?_
                          refine k_iand C dL_route_372 ?_
                          obtain ⟨l14, hl14, hl149⟩ := and_le (X1 >>> (nI 14 &&& 31)) (M := 255) (by omega)
                          rw [hl14]
                          refine k_iload C (i := 4) (p := 4) rfl dL_route_373 ?_
                          refine k_irem C (nI_ne0 (by omega) (by omega)) dL_route_375 ?_
                          rw [pk_rem (by omega) (by omega) (by omega)]
                          have hj0 : l14 % n < n := Nat.mod_lt _ (by omega)
                          generalize l14 % n = j at hj0 ⊢
                          have hfb : frL (frC cs) lz j ≤ 160 := Nat.le_trans (frL_le lz _ j) (frC_le cs j hG)
                          refine k_istore C (i := 8) (lv := [(8, _), (7, _), (3, _), (6, _), (5, _), (4, _), (2, _), (0, _)]) (Nat.le_of_ble_eq_true rfl) rfl dL_route_376 ?_
                          have join402 : ∀ (o : Nat), ((o = 1 ∧ 1 + l8 ≤ frL (frC cs) lz j) ∨ o = 0) → am_K G X { frames := 10, cells := 200, slots := 112000, locals := 900 } 10 Λ1 S J1 (100 + 13 * k) (56500 + 7400 * k) 402 [(8, .int (nI j)), (7, .int (nI (1 + l8))), (6, .int (nI k)), (5, .ref fa), (4, .int (nI n)), (3, .int X1), (2, .ref b), (0, .int wv)] [.int (nI o)] := by
                            intro o ho
                            refine k_istore C (i := 9) (lv := [(9, _), (8, _), (7, _), (6, _), (5, _), (4, _), (3, _), (2, _), (0, _)]) (Nat.le_of_ble_eq_true rfl) rfl dL_route_402 ?_
                            rcases ho with ⟨rfl, hfit⟩ | rfl
                            · skip
                              refine k_iload C (i := 9) (p := 0) rfl dL_route_404 ?_
                              first
                              | refine k_ifb_eq C (tgt := 419) (by decide) dL_route_406 (fun hc406 => ?_) (fun hc406 => ?_)
                              | refine k_if_eq C (tgt := 419) (by decide) dL_route_406 (fun hc406 => ?_) (fun hc406 => ?_)
                              · skip
                                first
                                | omega
                                | exact absurd hc406 (nI_ge (by omega) (by omega))
                                | exact absurd hc406 (by decide)
                                | exact absurd hc406 (nI_pos (by omega))
                                | exact absurd (nI_pos' (by omega)) hc406
                                | exact absurd rfl hc406
                                | exact absurd hc406 (nI_ne0 (by omega) (by omega))
                                | exact hc406 rfl
                                | contradiction
                                | exact absurd hc406 (nI_n101 (by omega))
                                | exact absurd hc406.symm (nI_n101 (by omega))
                                | (simp_all; done)
                              · skip
                                refine k_aload C (i := 5) (p := 4) rfl dL_route_409 ?_
                                refine k_iload C (i := 8) (p := 1) rfl dL_route_411 ?_
                                refine k_dup2 C rfl rfl dL_route_413 ?_
                                refine k_iald C (hA.1) (rfl) (by omega) (by decide) (hA.2.2 j (by omega)) dL_route_414 ?_
                                refine k_iload C (i := 7) (p := 2) rfl dL_route_415 ?_
                                refine k_isub C dL_route_417 ?_
                                rw [pk_sub hfit]
                                refine k_iast C (hA.1) (rfl) (by omega) (by decide) dL_route_418 ?_
                                replace hB := hB.up (k := j) (x := nI (frL (frC cs) lz j - (1 + l8))) hA
                                replace hA : AF Λ Λ1 _ fa (frA (frL (frC cs) lz) (1 + l8) (some j)) := hA.up (k := j) (x := frL (frC cs) lz j - (1 + l8))
                                refine k_aload_n C (f := 2) (i := 2) (p := 7) rfl rfl dL_route_419 ?_
                                refine k_ldcS C 39 (by rfl) dL_route_420 ?_
                                refine k_callVl C s_L_182 h_J4_append_15ec4 (hB.2.2.2.2.1) rfl (ct_appCs hB.2.2.2.2 cs_5 (show _ + 5 ≤ 300 by omega) hB.2.2.2.1) rfl rfl (Nat.le_of_ble_eq_true rfl) ⟨Nat.le_of_ble_eq_true rfl, Nat.le_of_ble_eq_true rfl⟩ ⟨rfl, rfl⟩ ⟨by show _ ≤ 200; (try dsimp only); omega, by show _ ≤ 112000; (try dsimp only); omega⟩ dL_route_422 ?_
                                intro w0 Λ422 I422 J422 hv
                                obtain ⟨rfl, q1, v422, cap422, q2, q3, q4⟩ := hv
                                show am_K G X _ _ _ _ _ _ _ _ _ (.ref b :: _)
                                replace hA := hA.step hB.2.2.2.2 q1
                                replace hB := hB.step q1 q2 q3 (q4.toL rfl (fun _ _ => rfl))
                                replace hlen := len_app hlen (show W5.length ≤ 5 from Nat.le_refl _)
                                clear q1 q2 q3 q4
                                refine k_iload C (i := 7) (p := 2) rfl dL_route_425 ?_
                                refine k_callVl C s_L_173 h_J4_append_bf812 (hB.2.2.2.2.1) rfl (ct_J4_append_bf812 (v0 := 1 + l8) hB.2.2.2.2 (by omega) (by omega) hB.2.2.2.1) rfl rfl (Nat.le_of_ble_eq_true rfl) ⟨Nat.le_of_ble_eq_true rfl, Nat.le_of_ble_eq_true rfl⟩ ⟨rfl, rfl⟩ ⟨by show _ ≤ 200; (try dsimp only); omega, by show _ ≤ 112000; (try dsimp only); omega⟩ dL_route_427 ?_
                                intro w0 Λ427 I427 J427 hv
                                obtain ⟨rfl, q1, v427, cap427, q2, q3, q4⟩ := hv
                                show am_K G X _ _ _ _ _ _ _ _ _ (.ref b :: _)
                                replace hA := hA.step hB.2.2.2.2 q1
                                replace hB := hB.step q1 q2 q3 (q4.toL (DL_len _).symm (fun i hi => DL_get (by rw [← DL_len]; exact hi)))
                                replace hlen := len_app hlen (show (DL (1 + l8)).length ≤ 2 from DL_le2 (by omega))
                                clear q1 q2 q3 q4
                                refine k_bipush C bc_32 dL_route_430 ?_
                                refine k_callVl C s_L_176 h_J4_append_cf468 (hB.2.2.2.2.1) rfl (ct_J4_append_cf468 (c := 32) hB.2.2.2.2 (by omega) (by omega) hB.2.2.2.1) rfl rfl (Nat.le_of_ble_eq_true rfl) ⟨Nat.le_of_ble_eq_true rfl, Nat.le_of_ble_eq_true rfl⟩ ⟨rfl, rfl⟩ ⟨by show _ ≤ 200; (try dsimp only); omega, by show _ ≤ 112000; (try dsimp only); omega⟩ dL_route_432 ?_
                                intro w0 Λ432 I432 J432 hv
                                obtain ⟨rfl, q1, v432, cap432, q2, q3, q4⟩ := hv
                                show am_K G X _ _ _ _ _ _ _ _ _ (.ref b :: _)
                                replace hA := hA.step hB.2.2.2.2 q1
                                replace hB := hB.step q1 q2 q3 (q4.toL (m := [32]) rfl (fun i hi => by obtain rfl : i = 0 := (by simp at hi; omega); rfl))
                                replace hlen := len_app hlen (show [32].length ≤ 1 from Nat.le_refl _)
                                clear q1 q2 q3 q4
                                refine k_iconst C ic_1 dL_route_435 ?_
                                refine k_iload_n C (f := 3) (i := 3) (p := 6) rfl rfl dL_route_436 ?_
                                refine k_bipush C bc_20 dL_route_437 ?_
                                refine k_ishr C dL_route_439 ?_
                                refine k_bipush C bc_31 dL_route_440 ?_
                                refine k_iand C dL_route_442 ?_
                                obtain ⟨l20, hl20, hl209⟩ := and_le (X1 >>> (nI 20 &&& 31)) (M := 31) (by omega)
                                rw [hl20]
                                refine k_iadd C dL_route_443 ?_
                                rw [nI_add]
                                refine k_callVl C s_L_173 h_J4_append_bf812 (hB.2.2.2.2.1) rfl (ct_J4_append_bf812 (v0 := 1 + l20) hB.2.2.2.2 (by omega) (by omega) hB.2.2.2.1) rfl rfl (Nat.le_of_ble_eq_true rfl) ⟨Nat.le_of_ble_eq_true rfl, Nat.le_of_ble_eq_true rfl⟩ ⟨rfl, rfl⟩ ⟨by show _ ≤ 200; (try dsimp only); omega, by show _ ≤ 112000; (try dsimp only); omega⟩ dL_route_444 ?_
                                intro w0 Λ444 I444 J444 hv
                                obtain ⟨rfl, q1, v444, cap444, q2, q3, q4⟩ := hv
                                show am_K G X _ _ _ _ _ _ _ _ _ (.ref b :: _)
                                replace hA := hA.step hB.2.2.2.2 q1
                                replace hB := hB.step q1 q2 q3 (q4.toL (DL_len _).symm (fun i hi => DL_get (by rw [← DL_len]; exact hi)))
                                replace hlen := len_app hlen (show (DL (1 + l20)).length ≤ 2 from DL_le2 (by omega))
                                clear q1 q2 q3 q4
                                refine k_iload C (i := 9) (p := 0) rfl dL_route_447 ?_
                                first
                                | refine k_ifb_eq C (tgt := 480) (by decide) dL_route_449 (fun hc449 => ?_) (fun hc449 => ?_)
                                | refine k_if_eq C (tgt := 480) (by decide) dL_route_449 (fun hc449 => ?_) (fun hc449 => ?_)
                                · skip
                                  first
                                  | omega
                                  | exact absurd hc449 (nI_ge (by omega) (by omega))
                                  | exact absurd hc449 (by decide)
                                  | exact absurd hc449 (nI_pos (by omega))
                                  | exact absurd (nI_pos' (by omega)) hc449
                                  | exact absurd rfl hc449
                                  | exact absurd hc449 (nI_ne0 (by omega) (by omega))
                                  | exact hc449 rfl
                                  | contradiction
                                  | exact absurd hc449 (nI_n101 (by omega))
                                  | exact absurd hc449.symm (nI_n101 (by omega))
                                  | (simp_all; done)
                                · skip
                                  refine k_newC2 C (ci := 6) rfl k_L_166 ii_J4 in_J4 ⟨by show _ ≤ 200; (try dsimp only); omega, by show _ ≤ 112000; (try dsimp only); omega⟩ dL_route_452 (fun b2 hb2 => ?_)
                                  refine k_dup C rfl dL_route_455 ?_
                                  refine k_callIl C s_L_191 h_J4_init_da8c8 (ct_J4_init_da8c8 nS_eq nI_new) rfl rfl (Nat.le_of_ble_eq_true rfl) ⟨Nat.le_of_ble_eq_true rfl, Nat.le_of_ble_eq_true rfl⟩ ⟨rfl, rfl⟩ ⟨by show _ ≤ 200; (try dsimp only); omega, by show _ ≤ 112000; (try dsimp only); omega⟩ dL_route_456 ?_
                                  intro w0 Λ456 I456 J456 hv
                                  have ew : w0 = none := hv.1
                                  subst ew
                                  obtain ⟨v456, cap456, hC⟩ := RB_new (l := []) hb2 hv rfl (fun j hj => absurd hj (Nat.not_lt_zero j))
                                  show am_K G X _ _ _ _ _ _ _ _ _ (.ref b2 :: _)
                                  have hlen3 : ([] : List Nat).length ≤ 0 := Nat.le_refl _
                                  clear hv
                                  refine k_ldcS C 40 (by rfl) dL_route_459 ?_
                                  refine k_callVl C s_L_182 h_J4_append_15ec4 (hC.2.2.2.2.1) rfl (ct_appCs hC.2.2.2.2 cs_6 (show _ + 4 ≤ 300 by omega) hC.2.2.2.1) rfl rfl (Nat.le_of_ble_eq_true rfl) ⟨Nat.le_of_ble_eq_true rfl, Nat.le_of_ble_eq_true rfl⟩ ⟨rfl, rfl⟩ ⟨by show _ ≤ 200; (try dsimp only); omega, by show _ ≤ 112000; (try dsimp only); omega⟩ dL_route_461 ?_
                                  intro w0 Λ461 I461 J461 hv
                                  obtain ⟨rfl, q1, v461, cap461, q2, q3, q4⟩ := hv
                                  show am_K G X _ _ _ _ _ _ _ _ _ (.ref b2 :: _)
                                  replace hC := hC.step q1 q2 q3 (q4.toL rfl (fun _ _ => rfl))
                                  replace hlen3 := len_app hlen3 (show W6.length ≤ 4 from Nat.le_refl _)
                                  clear q1 q2 q3 q4
                                  refine k_iload C (i := 8) (p := 1) rfl dL_route_464 ?_
                                  refine k_callVl C s_L_173 h_J4_append_bf812 (hC.2.2.2.2.1) rfl (ct_J4_append_bf812 (v0 := j) hC.2.2.2.2 (by omega) (by omega) hC.2.2.2.1) rfl rfl (Nat.le_of_ble_eq_true rfl) ⟨Nat.le_of_ble_eq_true rfl, Nat.le_of_ble_eq_true rfl⟩ ⟨rfl, rfl⟩ ⟨by show _ ≤ 200; (try dsimp only); omega, by show _ ≤ 112000; (try dsimp only); omega⟩ dL_route_466 ?_
                                  intro w0 Λ466 I466 J466 hv
                                  obtain ⟨rfl, q1, v466, cap466, q2, q3, q4⟩ := hv
                                  show am_K G X _ _ _ _ _ _ _ _ _ (.ref b2 :: _)
                                  replace hC := hC.step q1 q2 q3 (q4.toL (DL_len _).symm (fun i hi => DL_get (by rw [← DL_len]; exact hi)))
                                  replace hlen3 := len_app hlen3 (show (DL (j)).length ≤ 1 from by rw [DL_1 (by omega)]; exact Nat.le_refl _)
                                  clear q1 q2 q3 q4
                                  refine k_ldcS C 41 (by rfl) dL_route_469 ?_
                                  refine k_callVl C s_L_182 h_J4_append_15ec4 (hC.2.2.2.2.1) rfl (ct_appCs hC.2.2.2.2 cs_7 (show _ + 1 ≤ 300 by omega) hC.2.2.2.1) rfl rfl (Nat.le_of_ble_eq_true rfl) ⟨Nat.le_of_ble_eq_true rfl, Nat.le_of_ble_eq_true rfl⟩ ⟨rfl, rfl⟩ ⟨by show _ ≤ 200; (try dsimp only); omega, by show _ ≤ 112000; (try dsimp only); omega⟩ dL_route_471 ?_
                                  intro w0 Λ471 I471 J471 hv
                                  obtain ⟨rfl, q1, v471, cap471, q2, q3, q4⟩ := hv
                                  show am_K G X _ _ _ _ _ _ _ _ _ (.ref b2 :: _)
                                  replace hC := hC.step q1 q2 q3 (q4.toL rfl (fun _ _ => rfl))
                                  replace hlen3 := len_app hlen3 (show W7.length ≤ 1 from Nat.le_refl _)
                                  clear q1 q2 q3 q4
                                  refine k_callVl C s_L_196 h_J4_toString_0e30d (hC.2.2.2.2.1) rfl (ct_J4_toString_0e30d hC.2.2.2.2) rfl rfl (Nat.le_of_ble_eq_true rfl) ⟨Nat.le_of_ble_eq_true rfl, Nat.le_of_ble_eq_true rfl⟩ ⟨rfl, rfl⟩ ⟨by show _ ≤ 200; (try dsimp only); omega, by show _ ≤ 112000; (try dsimp only); omega⟩ dL_route_474 ?_
                                  intro w0 Λ474 I474 J474 hv
                                  obtain ⟨s, sv, rfl, hkp, hs0, hsv0, hst⟩ := hv
                                  show am_K G X _ _ _ _ _ _ _ _ _ (.ref s :: _)
                                  have hkq := hC.1.tr hkp
                                  have hne : sv ≠ v444 := fun e => by
                                    have e1 := (hC.1 v444 (by rw [hB.2.2.2.2.2.2.2.2.2.1.1]; exact Nat.succ_ne_zero _)).1
                                    rw [e, e1, hB.2.2.2.2.2.2.2.2.2.1.1] at hsv0
                                    exact Nat.succ_ne_zero _ hsv0
                                  replace hB := hB.keep hkq
                                  replace hA := hA.keep hkq
                                  obtain ⟨g6, g128⟩ := gl128 j (by omega)
                                  have hst : StAt Λ474 I474 s sv (W6 ++ DL j ++ [59]).length (gl (W6 ++ DL j ++ [59])) := hst
                                  refine k_goto C (tgt := 482) (by decide) dL_route_477 ?_
                                  refine k_callVl C s_L_182 h_J4_append_15ec4 (hB.2.2.2.2.1) rfl (ct_appDs hB.2.2.2.2 hst hne (fun i hi => g128 i (by omega)) (by rw [g6]; omega) hB.2.2.2.1) rfl rfl (Nat.le_of_ble_eq_true rfl) ⟨Nat.le_of_ble_eq_true rfl, Nat.le_of_ble_eq_true rfl⟩ ⟨rfl, rfl⟩ ⟨by show _ ≤ 200; (try dsimp only); omega, by show _ ≤ 112000; (try dsimp only); omega⟩ dL_route_482 ?_
                                  intro w0 Λ482 I482 J482 hv
                                  obtain ⟨rfl, q1, v482, cap482, q2, q3, q4⟩ := hv
                                  show am_K G X _ _ _ _ _ _ _ _ _ (.ref b :: _)
                                  replace hA := hA.step hB.2.2.2.2 q1
                                  replace hB := hB.step q1 q2 q3 (q4.toL rfl (fun _ _ => rfl))
                                  replace hlen := len_app hlen (show (W6 ++ DL j ++ [59]).length ≤ 6 from Nat.le_of_eq g6)
                                  clear q1 q2 q3 q4
                                  refine k_pop C rfl dL_route_485 ?_
                                  refine k_iinc C (i := 6) (p := 3) (lv := [(6, _), (9, _), (8, _), (7, _), (5, _), (4, _), (3, _), (2, _), (0, _)]) (Nat.le_of_ble_eq_true rfl) rfl (by first | exact am_inc1 _ | rfl) rfl dL_route_486 ?_
                                  refine k_goto C (tgt := 333) (by decide) dL_route_489 ?_
                                  refine k_sub [0, 4, 5, 6, 7, 8] rfl ?_
                                  have hB2 : RB Λ I Λ482 I482 b v482 cap482 (lnR L ++ lnCs cs ++ lnWs ws ++ lnSs ss ++ lnLs (lz ++ [(1 + l8, 1 + l20, some j)])) := by
                                    rw [lnLs_app, ← List.append_assoc]
                                    unfold lnL
                                    simp only [List.append_assoc] at hB ⊢
                                    exact hB
                                  have hlen2 : (lnR L ++ lnCs cs ++ lnWs ws ++ lnSs ss ++ lnLs (lz ++ [(1 + l8, 1 + l20, some j)])).length ≤ 164 + 16 * (k + 1) := by
                                    rw [lnLs_app, ← List.append_assoc]
                                    unfold lnL
                                    simp only [List.append_assoc] at hlen ⊢
                                    exact Nat.le_trans hlen (by omega)
                                  refine k_widen ?_ ?_ (ih333 (k + 1) _ _ _ _ _ _ _ (by omega) hB2 (by rw [frL_app]; exact hA) (by simp [hll]) (GL_app lz _ ⟨by omega, by omega, by omega, by omega, fun q hq => by cases hq; exact ⟨hj0, hfit⟩⟩ hGL) hlen2 (by omega))
                                  · (try dsimp only); omega
                                  · (try dsimp only); omega
                            · skip
                              refine k_iload C (i := 9) (p := 0) rfl dL_route_404 ?_
                              first
                              | refine k_ifb_eq C (tgt := 419) (by decide) dL_route_406 (fun hc406 => ?_) (fun hc406 => ?_)
                              | refine k_if_eq C (tgt := 419) (by decide) dL_route_406 (fun hc406 => ?_) (fun hc406 => ?_)
                              · skip
                                refine k_aload_n C (f := 2) (i := 2) (p := 7) rfl rfl dL_route_419 ?_
                                refine k_ldcS C 39 (by rfl) dL_route_420 ?_
                                refine k_callVl C s_L_182 h_J4_append_15ec4 (hB.2.2.2.2.1) rfl (ct_appCs hB.2.2.2.2 cs_5 (show _ + 5 ≤ 300 by omega) hB.2.2.2.1) rfl rfl (Nat.le_of_ble_eq_true rfl) ⟨Nat.le_of_ble_eq_true rfl, Nat.le_of_ble_eq_true rfl⟩ ⟨rfl, rfl⟩ ⟨by show _ ≤ 200; (try dsimp only); omega, by show _ ≤ 112000; (try dsimp only); omega⟩ dL_route_422 ?_
                                intro w0 Λ422 I422 J422 hv
                                obtain ⟨rfl, q1, v422, cap422, q2, q3, q4⟩ := hv
                                show am_K G X _ _ _ _ _ _ _ _ _ (.ref b :: _)
                                replace hA := hA.step hB.2.2.2.2 q1
                                replace hB := hB.step q1 q2 q3 (q4.toL rfl (fun _ _ => rfl))
                                replace hlen := len_app hlen (show W5.length ≤ 5 from Nat.le_refl _)
                                clear q1 q2 q3 q4
                                refine k_iload C (i := 7) (p := 2) rfl dL_route_425 ?_
                                refine k_callVl C s_L_173 h_J4_append_bf812 (hB.2.2.2.2.1) rfl (ct_J4_append_bf812 (v0 := 1 + l8) hB.2.2.2.2 (by omega) (by omega) hB.2.2.2.1) rfl rfl (Nat.le_of_ble_eq_true rfl) ⟨Nat.le_of_ble_eq_true rfl, Nat.le_of_ble_eq_true rfl⟩ ⟨rfl, rfl⟩ ⟨by show _ ≤ 200; (try dsimp only); omega, by show _ ≤ 112000; (try dsimp only); omega⟩ dL_route_427 ?_
                                intro w0 Λ427 I427 J427 hv
                                obtain ⟨rfl, q1, v427, cap427, q2, q3, q4⟩ := hv
                                show am_K G X _ _ _ _ _ _ _ _ _ (.ref b :: _)
                                replace hA := hA.step hB.2.2.2.2 q1
                                replace hB := hB.step q1 q2 q3 (q4.toL (DL_len _).symm (fun i hi => DL_get (by rw [← DL_len]; exact hi)))
                                replace hlen := len_app hlen (show (DL (1 + l8)).length ≤ 2 from DL_le2 (by omega))
                                clear q1 q2 q3 q4
                                refine k_bipush C bc_32 dL_route_430 ?_
                                refine k_callVl C s_L_176 h_J4_append_cf468 (hB.2.2.2.2.1) rfl (ct_J4_append_cf468 (c := 32) hB.2.2.2.2 (by omega) (by omega) hB.2.2.2.1) rfl rfl (Nat.le_of_ble_eq_true rfl) ⟨Nat.le_of_ble_eq_true rfl, Nat.le_of_ble_eq_true rfl⟩ ⟨rfl, rfl⟩ ⟨by show _ ≤ 200; (try dsimp only); omega, by show _ ≤ 112000; (try dsimp only); omega⟩ dL_route_432 ?_
                                intro w0 Λ432 I432 J432 hv
                                obtain ⟨rfl, q1, v432, cap432, q2, q3, q4⟩ := hv
                                show am_K G X _ _ _ _ _ _ _ _ _ (.ref b :: _)
                                replace hA := hA.step hB.2.2.2.2 q1
                                replace hB := hB.step q1 q2 q3 (q4.toL (m := [32]) rfl (fun i hi => by obtain rfl : i = 0 := (by simp at hi; omega); rfl))
                                replace hlen := len_app hlen (show [32].length ≤ 1 from Nat.le_refl _)
                                clear q1 q2 q3 q4
                                refine k_iconst C ic_1 dL_route_435 ?_
                                refine k_iload_n C (f := 3) (i := 3) (p := 6) rfl rfl dL_route_436 ?_
                                refine k_bipush C bc_20 dL_route_437 ?_
                                refine k_ishr C dL_route_439 ?_
                                refine k_bipush C bc_31 dL_route_440 ?_
                                refine k_iand C dL_route_442 ?_
                                obtain ⟨l20, hl20, hl209⟩ := and_le (X1 >>> (nI 20 &&& 31)) (M := 31) (by omega)
                                rw [hl20]
                                refine k_iadd C dL_route_443 ?_
                                rw [nI_add]
                                refine k_callVl C s_L_173 h_J4_append_bf812 (hB.2.2.2.2.1) rfl (ct_J4_append_bf812 (v0 := 1 + l20) hB.2.2.2.2 (by omega) (by omega) hB.2.2.2.1) rfl rfl (Nat.le_of_ble_eq_true rfl) ⟨Nat.le_of_ble_eq_true rfl, Nat.le_of_ble_eq_true rfl⟩ ⟨rfl, rfl⟩ ⟨by show _ ≤ 200; (try dsimp only); omega, by show _ ≤ 112000; (try dsimp only); omega⟩ dL_route_444 ?_
                                intro w0 Λ444 I444 J444 hv
                                obtain ⟨rfl, q1, v444, cap444, q2, q3, q4⟩ := hv
                                show am_K G X _ _ _ _ _ _ _ _ _ (.ref b :: _)
                                replace hA := hA.step hB.2.2.2.2 q1
                                replace hB := hB.step q1 q2 q3 (q4.toL (DL_len _).symm (fun i hi => DL_get (by rw [← DL_len]; exact hi)))
                                replace hlen := len_app hlen (show (DL (1 + l20)).length ≤ 2 from DL_le2 (by omega))
                                clear q1 q2 q3 q4
                                refine k_iload C (i := 9) (p := 0) rfl dL_route_447 ?_
                                first
                                | refine k_ifb_eq C (tgt := 480) (by decide) dL_route_449 (fun hc449 => ?_) (fun hc449 => ?_)
                                | refine k_if_eq C (tgt := 480) (by decide) dL_route_449 (fun hc449 => ?_) (fun hc449 => ?_)
                                · skip
                                  refine k_ldcS C 41 (by rfl) dL_route_480 ?_
                                  refine k_callVl C s_L_182 h_J4_append_15ec4 (hB.2.2.2.2.1) rfl (ct_appCs hB.2.2.2.2 cs_7 (show _ + 1 ≤ 300 by omega) hB.2.2.2.1) rfl rfl (Nat.le_of_ble_eq_true rfl) ⟨Nat.le_of_ble_eq_true rfl, Nat.le_of_ble_eq_true rfl⟩ ⟨rfl, rfl⟩ ⟨by show _ ≤ 200; (try dsimp only); omega, by show _ ≤ 112000; (try dsimp only); omega⟩ dL_route_482 ?_
                                  intro w0 Λ482 I482 J482 hv
                                  obtain ⟨rfl, q1, v482, cap482, q2, q3, q4⟩ := hv
                                  show am_K G X _ _ _ _ _ _ _ _ _ (.ref b :: _)
                                  replace hA := hA.step hB.2.2.2.2 q1
                                  replace hB := hB.step q1 q2 q3 (q4.toL rfl (fun _ _ => rfl))
                                  replace hlen := len_app hlen (show W7.length ≤ 1 from Nat.le_refl _)
                                  clear q1 q2 q3 q4
                                  refine k_pop C rfl dL_route_485 ?_
                                  refine k_iinc C (i := 6) (p := 3) (lv := [(6, _), (9, _), (8, _), (7, _), (5, _), (4, _), (3, _), (2, _), (0, _)]) (Nat.le_of_ble_eq_true rfl) rfl (by first | exact am_inc1 _ | rfl) rfl dL_route_486 ?_
                                  refine k_goto C (tgt := 333) (by decide) dL_route_489 ?_
                                  refine k_sub [0, 4, 5, 6, 7, 8] rfl ?_
                                  have hB2 : RB Λ I Λ482 I482 b v482 cap482 (lnR L ++ lnCs cs ++ lnWs ws ++ lnSs ss ++ lnLs (lz ++ [(1 + l8, 1 + l20, none)])) := by
                                    rw [lnLs_app, ← List.append_assoc]
                                    unfold lnL
                                    simp only [List.append_assoc] at hB ⊢
                                    exact hB
                                  have hlen2 : (lnR L ++ lnCs cs ++ lnWs ws ++ lnSs ss ++ lnLs (lz ++ [(1 + l8, 1 + l20, none)])).length ≤ 164 + 16 * (k + 1) := by
                                    rw [lnLs_app, ← List.append_assoc]
                                    unfold lnL
                                    simp only [List.append_assoc] at hlen ⊢
                                    exact Nat.le_trans hlen (by omega)
                                  refine k_widen ?_ ?_ (ih333 (k + 1) _ _ _ _ _ _ _ (by omega) hB2 (by rw [frL_app]; exact hA) (by simp [hll]) (GL_app lz _ ⟨by omega, by omega, by omega, by omega, fun q hq => by cases hq⟩ hGL) hlen2 (by omega))
                                  · (try dsimp only); omega
                                  · (try dsimp only); omega
                                · skip
                                  first
                                  | omega
                                  | exact absurd hc449 (nI_ge (by omega) (by omega))
                                  | exact absurd hc449 (by decide)
                                  | exact absurd hc449 (nI_pos (by omega))
                                  | exact absurd (nI_pos' (by omega)) hc449
                                  | exact absurd rfl hc449
                                  | exact absurd hc449 (nI_ne0 (by omega) (by omega))
                                  | exact hc449 rfl
                                  | contradiction
                                  | exact absurd hc449 (nI_n101 (by omega))
                                  | exact absurd hc449.symm (nI_n101 (by omega))
                                  | (simp_all; done)
                              · skip
                                first
                                | omega
                                | exact absurd hc406 (nI_ge (by omega) (by omega))
                                | exact absurd hc406 (by decide)
                                | exact absurd hc406 (nI_pos (by omega))
                                | exact absurd (nI_pos' (by omega)) hc406
                                | exact absurd rfl hc406
                                | exact absurd hc406 (nI_ne0 (by omega) (by omega))
                                | exact hc406 rfl
                                | contradiction
                                | exact absurd hc406 (nI_n101 (by omega))
                                | exact absurd hc406.symm (nI_n101 (by omega))
                                | (simp_all; done)
                          refine k_aload C (i := 5) (p := 4) rfl dL_route_378 ?_
                          refine k_iload C (i := 8) (p := 0) rfl dL_route_380 ?_
                          refine k_iald C (hA.1) (rfl) (by omega) (by decide) (hA.2.2 j (by omega)) dL_route_382 ?_
                          refine k_iload C (i := 7) (p := 1) rfl dL_route_383 ?_
                          first
                          | refine k_icmpN_lt C (tgt := 401) (by omega) (by omega) (by decide) dL_route_385 (fun hc385 => ?_) (fun hc385 => ?_)
                          | refine k_icmp_lt C (tgt := 401) (by decide) dL_route_385 (fun hc385 => ?_) (fun hc385 => ?_)
                          · skip
                            refine k_iconst C ic_0 dL_route_401 ?_
                            refine k_sub [0, 1, 3, 4, 5, 2, 6, 7] rfl ?_
                            refine k_widen ?_ ?_ (join402 _ (by first | exact Or.inl ⟨rfl, by omega⟩ | exact Or.inr rfl))
                            · (try dsimp only); omega
                            · (try dsimp only); omega
                          · skip
                            refine k_iload_n C (f := 3) (i := 3) (p := 2) rfl rfl dL_route_388 ?_
                            refine k_bipush C bc_18 dL_route_389 ?_
                            refine k_ishr C dL_route_391 ?_
                            refine k_iconst C ic_3 dL_route_392 ?_
                            refine k_iand C dL_route_393 ?_
                            obtain ⟨l18, hl18, hl189⟩ := and_le (X1 >>> (nI 18 &&& 31)) (M := 3) (by omega)
                            rw [hl18]
                            refine k_if_le C (tgt := 401) (by decide) dL_route_394 (fun hc394 => ?_) (fun hc394 => ?_)
                            · skip
                              refine k_iconst C ic_0 dL_route_401 ?_
                              refine k_sub [0, 1, 3, 4, 5, 2, 6, 7] rfl ?_
                              refine k_widen ?_ ?_ (join402 _ (by first | exact Or.inl ⟨rfl, by omega⟩ | exact Or.inr rfl))
                              · (try dsimp only); omega
                              · (try dsimp only); omega
                            · skip
                              refine k_iconst C ic_1 dL_route_397 ?_
                              refine k_goto C (tgt := 402) (by decide) dL_route_398 ?_
                              refine k_sub [0, 1, 3, 4, 5, 2, 6, 7] rfl ?_
                              refine k_widen ?_ ?_ (join402 _ (by first | exact Or.inl ⟨rfl, by omega⟩ | exact Or.inr rfl))
                              · (try dsimp only); omega
                              · (try dsimp only); omega
                    refine k_sub [0, 1, 2, 3, 4, 5] rfl ?_
                    refine k_widen ?_ ?_ (loop333 9 0 [] _ _ _ _ _ _ (Nat.zero_le _) (by rw [show lnLs [] = [] from rfl, List.append_nil]; exact hB) hA rfl trivial (by rw [show lnLs [] = [] from rfl, List.append_nil]; exact Nat.le_trans hlen (by omega)) (by omega))
                    · (try dsimp only); omega
                    · (try dsimp only); omega
                  · skip
                    have hk2 : k < 3 := by omega
                    refine k_iload_n C (f := 3) (i := 3) (p := 3) rfl rfl dL_route_250 ?_
                    refine k_ldcI C ki_L_179 dL_route_251 ?_
                    refine k_imul C dL_route_253 ?_
                    refine k_sipush C sc_12345 dL_route_254 ?_
                    refine k_iadd C dL_route_257 ?_
                    refine k_istore_n C (f := 3) (i := 3) (lv := [(3, _), (6, _), (5, _), (4, _), (2, _), (0, _)]) rfl (Nat.le_of_ble_eq_true rfl) rfl dL_route_258 ?_
                    generalize X0 * 1103515245 + nI 12345 = X1
                    refine k_iload_n C (f := 3) (i := 3) (p := 0) rfl rfl dL_route_259 ?_
                    refine k_bipush C bc_8 dL_route_260 ?_
                    refine k_ishr C dL_route_262 ?_
                    refine k_bipush C bc_7 dL_route_263 ?_
                    refine k_iand C dL_route_265 ?_
                    obtain ⟨s8, hs8, hs89⟩ := and_le (X1 >>> (nI 8 &&& 31)) (M := 7) (by omega)
                    rw [hs8]
                    refine k_istore C (i := 7) (lv := [(7, _), (3, _), (6, _), (5, _), (4, _), (2, _), (0, _)]) (Nat.le_of_ble_eq_true rfl) rfl dL_route_266 ?_
                    refine k_aload_n C (f := 2) (i := 2) (p := 5) rfl rfl dL_route_268 ?_
                    refine k_ldcS C 38 (by rfl) dL_route_269 ?_
                    refine k_callVl C s_L_182 h_J4_append_15ec4 (hB.2.2.2.2.1) rfl (ct_appCs hB.2.2.2.2 cs_4 (show _ + 6 ≤ 300 by omega) hB.2.2.2.1) rfl rfl (Nat.le_of_ble_eq_true rfl) ⟨Nat.le_of_ble_eq_true rfl, Nat.le_of_ble_eq_true rfl⟩ ⟨rfl, rfl⟩ ⟨by show _ ≤ 200; (try dsimp only); omega, by show _ ≤ 112000; (try dsimp only); omega⟩ dL_route_271 ?_
                    intro w0 Λ271 I271 J271 hv
                    obtain ⟨rfl, q1, v271, cap271, q2, q3, q4⟩ := hv
                    show am_K G X _ _ _ _ _ _ _ _ _ (.ref b :: _)
                    replace hA := hA.step hB.2.2.2.2 q1
                    replace hB := hB.step q1 q2 q3 (q4.toL rfl (fun _ _ => rfl))
                    replace hlen := len_app hlen (show W4.length ≤ 6 from Nat.le_refl _)
                    clear q1 q2 q3 q4
                    refine k_iload C (i := 7) (p := 0) rfl dL_route_274 ?_
                    refine k_callVl C s_L_173 h_J4_append_bf812 (hB.2.2.2.2.1) rfl (ct_J4_append_bf812 (v0 := s8) hB.2.2.2.2 (by omega) (by omega) hB.2.2.2.1) rfl rfl (Nat.le_of_ble_eq_true rfl) ⟨Nat.le_of_ble_eq_true rfl, Nat.le_of_ble_eq_true rfl⟩ ⟨rfl, rfl⟩ ⟨by show _ ≤ 200; (try dsimp only); omega, by show _ ≤ 112000; (try dsimp only); omega⟩ dL_route_276 ?_
                    intro w0 Λ276 I276 J276 hv
                    obtain ⟨rfl, q1, v276, cap276, q2, q3, q4⟩ := hv
                    show am_K G X _ _ _ _ _ _ _ _ _ (.ref b :: _)
                    replace hA := hA.step hB.2.2.2.2 q1
                    replace hB := hB.step q1 q2 q3 (q4.toL (DL_len _).symm (fun i hi => DL_get (by rw [← DL_len]; exact hi)))
                    replace hlen := len_app hlen (show (DL (s8)).length ≤ 1 from by rw [DL_1 (by omega)]; exact Nat.le_refl _)
                    clear q1 q2 q3 q4
                    refine k_bipush C bc_32 dL_route_279 ?_
                    refine k_callVl C s_L_176 h_J4_append_cf468 (hB.2.2.2.2.1) rfl (ct_J4_append_cf468 (c := 32) hB.2.2.2.2 (by omega) (by omega) hB.2.2.2.1) rfl rfl (Nat.le_of_ble_eq_true rfl) ⟨Nat.le_of_ble_eq_true rfl, Nat.le_of_ble_eq_true rfl⟩ ⟨rfl, rfl⟩ ⟨by show _ ≤ 200; (try dsimp only); omega, by show _ ≤ 112000; (try dsimp only); omega⟩ dL_route_281 ?_
                    intro w0 Λ281 I281 J281 hv
                    obtain ⟨rfl, q1, v281, cap281, q2, q3, q4⟩ := hv
                    show am_K G X _ _ _ _ _ _ _ _ _ (.ref b :: _)
                    replace hA := hA.step hB.2.2.2.2 q1
                    replace hB := hB.step q1 q2 q3 (q4.toL (m := [32]) rfl (fun i hi => by obtain rfl : i = 0 := (by simp at hi; omega); rfl))
                    replace hlen := len_app hlen (show [32].length ≤ 1 from Nat.le_refl _)
                    clear q1 q2 q3 q4
                    refine k_iload C (i := 7) (p := 0) rfl dL_route_284 ?_
                    refine k_iload_n C (f := 3) (i := 3) (p := 1) rfl rfl dL_route_286 ?_
                    refine k_bipush C bc_11 dL_route_287 ?_
                    refine k_ishr C dL_route_289 ?_
                    refine k_bipush C bc_7 dL_route_290 ?_
                    refine k_iand C dL_route_292 ?_
                    obtain ⟨s11, hs11, hs119⟩ := and_le (X1 >>> (nI 11 &&& 31)) (M := 7) (by omega)
                    rw [hs11]
                    refine k_iadd C dL_route_293 ?_
                    rw [nI_add]
                    refine k_callVl C s_L_173 h_J4_append_bf812 (hB.2.2.2.2.1) rfl (ct_J4_append_bf812 (v0 := s8 + s11) hB.2.2.2.2 (by omega) (by omega) hB.2.2.2.1) rfl rfl (Nat.le_of_ble_eq_true rfl) ⟨Nat.le_of_ble_eq_true rfl, Nat.le_of_ble_eq_true rfl⟩ ⟨rfl, rfl⟩ ⟨by show _ ≤ 200; (try dsimp only); omega, by show _ ≤ 112000; (try dsimp only); omega⟩ dL_route_294 ?_
                    intro w0 Λ294 I294 J294 hv
                    obtain ⟨rfl, q1, v294, cap294, q2, q3, q4⟩ := hv
                    show am_K G X _ _ _ _ _ _ _ _ _ (.ref b :: _)
                    replace hA := hA.step hB.2.2.2.2 q1
                    replace hB := hB.step q1 q2 q3 (q4.toL (DL_len _).symm (fun i hi => DL_get (by rw [← DL_len]; exact hi)))
                    replace hlen := len_app hlen (show (DL (s8 + s11)).length ≤ 2 from DL_le2 (by omega))
                    clear q1 q2 q3 q4
                    refine k_bipush C bc_32 dL_route_297 ?_
                    refine k_callVl C s_L_176 h_J4_append_cf468 (hB.2.2.2.2.1) rfl (ct_J4_append_cf468 (c := 32) hB.2.2.2.2 (by omega) (by omega) hB.2.2.2.1) rfl rfl (Nat.le_of_ble_eq_true rfl) ⟨Nat.le_of_ble_eq_true rfl, Nat.le_of_ble_eq_true rfl⟩ ⟨rfl, rfl⟩ ⟨by show _ ≤ 200; (try dsimp only); omega, by show _ ≤ 112000; (try dsimp only); omega⟩ dL_route_299 ?_
                    intro w0 Λ299 I299 J299 hv
                    obtain ⟨rfl, q1, v299, cap299, q2, q3, q4⟩ := hv
                    show am_K G X _ _ _ _ _ _ _ _ _ (.ref b :: _)
                    replace hA := hA.step hB.2.2.2.2 q1
                    replace hB := hB.step q1 q2 q3 (q4.toL (m := [32]) rfl (fun i hi => by obtain rfl : i = 0 := (by simp at hi; omega); rfl))
                    replace hlen := len_app hlen (show [32].length ≤ 1 from Nat.le_refl _)
                    clear q1 q2 q3 q4
                    refine k_iconst C ic_1 dL_route_302 ?_
                    refine k_iload_n C (f := 3) (i := 3) (p := 1) rfl rfl dL_route_303 ?_
                    refine k_bipush C bc_14 dL_route_304 ?_
                    refine k_ishr C dL_route_306 ?_
                    refine k_sipush C sc_255 dL_route_307 ?_
                    refine k_iand C dL_route_310 ?_
                    obtain ⟨s14, hs14, hs149⟩ := and_le (X1 >>> (nI 14 &&& 31)) (M := 255) (by omega)
                    rw [hs14]
                    refine k_bipush C bc_9 dL_route_311 ?_
                    refine k_irem C (by decide) dL_route_313 ?_
                    rw [pk_rem (by omega) (by omega) (by omega)]
                    refine k_iadd C dL_route_314 ?_
                    rw [nI_add]
                    refine k_callVl C s_L_173 h_J4_append_bf812 (hB.2.2.2.2.1) rfl (ct_J4_append_bf812 (v0 := 1 + s14 % 9) hB.2.2.2.2 (by omega) (by omega) hB.2.2.2.1) rfl rfl (Nat.le_of_ble_eq_true rfl) ⟨Nat.le_of_ble_eq_true rfl, Nat.le_of_ble_eq_true rfl⟩ ⟨rfl, rfl⟩ ⟨by show _ ≤ 200; (try dsimp only); omega, by show _ ≤ 112000; (try dsimp only); omega⟩ dL_route_315 ?_
                    intro w0 Λ315 I315 J315 hv
                    obtain ⟨rfl, q1, v315, cap315, q2, q3, q4⟩ := hv
                    show am_K G X _ _ _ _ _ _ _ _ _ (.ref b :: _)
                    replace hA := hA.step hB.2.2.2.2 q1
                    replace hB := hB.step q1 q2 q3 (q4.toL (DL_len _).symm (fun i hi => DL_get (by rw [← DL_len]; exact hi)))
                    replace hlen := len_app hlen (show (DL (1 + s14 % 9)).length ≤ 1 from by rw [DL_1 (by omega)]; exact Nat.le_refl _)
                    clear q1 q2 q3 q4
                    refine k_bipush C bc_59 dL_route_318 ?_
                    refine k_callVl C s_L_176 h_J4_append_cf468 (hB.2.2.2.2.1) rfl (ct_J4_append_cf468 (c := 59) hB.2.2.2.2 (by omega) (by omega) hB.2.2.2.1) rfl rfl (Nat.le_of_ble_eq_true rfl) ⟨Nat.le_of_ble_eq_true rfl, Nat.le_of_ble_eq_true rfl⟩ ⟨rfl, rfl⟩ ⟨by show _ ≤ 200; (try dsimp only); omega, by show _ ≤ 112000; (try dsimp only); omega⟩ dL_route_320 ?_
                    intro w0 Λ320 I320 J320 hv
                    obtain ⟨rfl, q1, v320, cap320, q2, q3, q4⟩ := hv
                    show am_K G X _ _ _ _ _ _ _ _ _ (.ref b :: _)
                    replace hA := hA.step hB.2.2.2.2 q1
                    replace hB := hB.step q1 q2 q3 (q4.toL (m := [59]) rfl (fun i hi => by obtain rfl : i = 0 := (by simp at hi; omega); rfl))
                    replace hlen := len_app hlen (show [59].length ≤ 1 from Nat.le_refl _)
                    clear q1 q2 q3 q4
                    refine k_pop C rfl dL_route_323 ?_
                    refine k_iinc C (i := 6) (p := 2) (lv := [(6, _), (7, _), (3, _), (5, _), (4, _), (2, _), (0, _)]) (Nat.le_of_ble_eq_true rfl) rfl (by first | exact am_inc1 _ | rfl) rfl dL_route_324 ?_
                    refine k_goto C (tgt := 239) (by decide) dL_route_327 ?_
                    refine k_sub [0, 3, 4, 2, 5, 6] rfl ?_
                    have hB2 : RB Λ I Λ320 I320 b v320 cap320 (lnR L ++ lnCs cs ++ lnWs ws ++ lnSs (ss ++ [(s8, s8 + s11, 1 + s14 % 9)])) := by
                      rw [lnSs_app, ← List.append_assoc]
                      unfold lnS
                      simp only [List.append_assoc] at hB ⊢
                      exact hB
                    have hlen2 : (lnR L ++ lnCs cs ++ lnWs ws ++ lnSs (ss ++ [(s8, s8 + s11, 1 + s14 % 9)])).length ≤ 125 + 13 * (k + 1) := by
                      rw [lnSs_app, ← List.append_assoc]
                      unfold lnS
                      simp only [List.append_assoc] at hlen ⊢
                      exact Nat.le_trans hlen (by omega)
                    refine k_widen ?_ ?_ (ih239 (k + 1) _ _ _ _ _ _ _ (by omega) hB2 hA (by simp [hsl]) (GSt_app ⟨by omega, by omega, by omega, by omega⟩ ss hGS) hlen2 (by omega))
                    · (try dsimp only); omega
                    · (try dsimp only); omega
              refine k_sub [0, 1, 2, 3, 4, 5] rfl ?_
              refine k_widen ?_ ?_ (loop239 5 0 [] _ _ _ _ _ _ (Nat.zero_le _) (by rw [show lnSs [] = [] from rfl, List.append_nil]; exact hB) hA rfl trivial (by rw [show lnSs [] = [] from rfl, List.append_nil]; exact Nat.le_trans hlen (by omega)) (by omega))
              · (try dsimp only); omega
              · (try dsimp only); omega
            · skip
              have hk2 : k < 3 := by omega
              refine k_iload_n C (f := 3) (i := 3) (p := 3) rfl rfl dL_route_161 ?_
              refine k_ldcI C ki_L_179 dL_route_162 ?_
              refine k_imul C dL_route_164 ?_
              refine k_sipush C sc_12345 dL_route_165 ?_
              refine k_iadd C dL_route_168 ?_
              refine k_istore_n C (f := 3) (i := 3) (lv := [(3, _), (6, _), (5, _), (4, _), (2, _), (0, _)]) rfl (Nat.le_of_ble_eq_true rfl) rfl dL_route_169 ?_
              generalize X0 * 1103515245 + nI 12345 = X1
              refine k_aload_n C (f := 2) (i := 2) (p := 4) rfl rfl dL_route_170 ?_
              refine k_ldcS C 37 (by rfl) dL_route_171 ?_
              refine k_callVl C s_L_182 h_J4_append_15ec4 (hB.2.2.2.2.1) rfl (ct_appCs hB.2.2.2.2 cs_3 (show _ + 5 ≤ 300 by omega) hB.2.2.2.1) rfl rfl (Nat.le_of_ble_eq_true rfl) ⟨Nat.le_of_ble_eq_true rfl, Nat.le_of_ble_eq_true rfl⟩ ⟨rfl, rfl⟩ ⟨by show _ ≤ 200; (try dsimp only); omega, by show _ ≤ 112000; (try dsimp only); omega⟩ dL_route_173 ?_
              intro w0 Λ173 I173 J173 hv
              obtain ⟨rfl, q1, v173, cap173, q2, q3, q4⟩ := hv
              show am_K G X _ _ _ _ _ _ _ _ _ (.ref b :: _)
              replace hA := hA.step hB.2.2.2.2 q1
              replace hB := hB.step q1 q2 q3 (q4.toL rfl (fun _ _ => rfl))
              replace hlen := len_app hlen (show W3.length ≤ 5 from Nat.le_refl _)
              clear q1 q2 q3 q4
              refine k_bipush C bc_20 dL_route_176 ?_
              refine k_iload C (i := 6) (p := 1) rfl dL_route_178 ?_
              refine k_imul C dL_route_180 ?_
              rw [pk_mul]
              refine k_iload_n C (f := 3) (i := 3) (p := 0) rfl rfl dL_route_181 ?_
              refine k_bipush C bc_8 dL_route_182 ?_
              refine k_ishr C dL_route_184 ?_
              refine k_bipush C bc_15 dL_route_185 ?_
              refine k_iand C dL_route_187 ?_
              obtain ⟨w8, hw8, hw89⟩ := and_le (X1 >>> (nI 8 &&& 31)) (M := 15) (by omega)
              rw [hw8]
              refine k_iadd C dL_route_188 ?_
              rw [nI_add]
              refine k_callVl C s_L_173 h_J4_append_bf812 (hB.2.2.2.2.1) rfl (ct_J4_append_bf812 (v0 := 20 * k + w8) hB.2.2.2.2 (by omega) (by omega) hB.2.2.2.1) rfl rfl (Nat.le_of_ble_eq_true rfl) ⟨Nat.le_of_ble_eq_true rfl, Nat.le_of_ble_eq_true rfl⟩ ⟨rfl, rfl⟩ ⟨by show _ ≤ 200; (try dsimp only); omega, by show _ ≤ 112000; (try dsimp only); omega⟩ dL_route_189 ?_
              intro w0 Λ189 I189 J189 hv
              obtain ⟨rfl, q1, v189, cap189, q2, q3, q4⟩ := hv
              show am_K G X _ _ _ _ _ _ _ _ _ (.ref b :: _)
              replace hA := hA.step hB.2.2.2.2 q1
              replace hB := hB.step q1 q2 q3 (q4.toL (DL_len _).symm (fun i hi => DL_get (by rw [← DL_len]; exact hi)))
              replace hlen := len_app hlen (show (DL (20 * k + w8)).length ≤ 2 from DL_le2 (by omega))
              clear q1 q2 q3 q4
              refine k_bipush C bc_32 dL_route_192 ?_
              refine k_callVl C s_L_176 h_J4_append_cf468 (hB.2.2.2.2.1) rfl (ct_J4_append_cf468 (c := 32) hB.2.2.2.2 (by omega) (by omega) hB.2.2.2.1) rfl rfl (Nat.le_of_ble_eq_true rfl) ⟨Nat.le_of_ble_eq_true rfl, Nat.le_of_ble_eq_true rfl⟩ ⟨rfl, rfl⟩ ⟨by show _ ≤ 200; (try dsimp only); omega, by show _ ≤ 112000; (try dsimp only); omega⟩ dL_route_194 ?_
              intro w0 Λ194 I194 J194 hv
              obtain ⟨rfl, q1, v194, cap194, q2, q3, q4⟩ := hv
              show am_K G X _ _ _ _ _ _ _ _ _ (.ref b :: _)
              replace hA := hA.step hB.2.2.2.2 q1
              replace hB := hB.step q1 q2 q3 (q4.toL (m := [32]) rfl (fun i hi => by obtain rfl : i = 0 := (by simp at hi; omega); rfl))
              replace hlen := len_app hlen (show [32].length ≤ 1 from Nat.le_refl _)
              clear q1 q2 q3 q4
              refine k_iconst C ic_1 dL_route_197 ?_
              refine k_iload_n C (f := 3) (i := 3) (p := 0) rfl rfl dL_route_198 ?_
              refine k_bipush C bc_12 dL_route_199 ?_
              refine k_ishr C dL_route_201 ?_
              refine k_bipush C bc_127 dL_route_202 ?_
              refine k_iand C dL_route_204 ?_
              obtain ⟨w12, hw12, hw129⟩ := and_le (X1 >>> (nI 12 &&& 31)) (M := 127) (by omega)
              rw [hw12]
              refine k_iadd C dL_route_205 ?_
              rw [nI_add]
              refine k_callVl C s_L_173 h_J4_append_bf812 (hB.2.2.2.2.1) rfl (ct_J4_append_bf812 (v0 := 1 + w12) hB.2.2.2.2 (by omega) (by omega) hB.2.2.2.1) rfl rfl (Nat.le_of_ble_eq_true rfl) ⟨Nat.le_of_ble_eq_true rfl, Nat.le_of_ble_eq_true rfl⟩ ⟨rfl, rfl⟩ ⟨by show _ ≤ 200; (try dsimp only); omega, by show _ ≤ 112000; (try dsimp only); omega⟩ dL_route_206 ?_
              intro w0 Λ206 I206 J206 hv
              obtain ⟨rfl, q1, v206, cap206, q2, q3, q4⟩ := hv
              show am_K G X _ _ _ _ _ _ _ _ _ (.ref b :: _)
              replace hA := hA.step hB.2.2.2.2 q1
              replace hB := hB.step q1 q2 q3 (q4.toL (DL_len _).symm (fun i hi => DL_get (by rw [← DL_len]; exact hi)))
              replace hlen := len_app hlen (show (DL (1 + w12)).length ≤ 3 from by rw [DL_len]; exact (dg3_le _).2)
              clear q1 q2 q3 q4
              refine k_bipush C bc_32 dL_route_209 ?_
              refine k_callVl C s_L_176 h_J4_append_cf468 (hB.2.2.2.2.1) rfl (ct_J4_append_cf468 (c := 32) hB.2.2.2.2 (by omega) (by omega) hB.2.2.2.1) rfl rfl (Nat.le_of_ble_eq_true rfl) ⟨Nat.le_of_ble_eq_true rfl, Nat.le_of_ble_eq_true rfl⟩ ⟨rfl, rfl⟩ ⟨by show _ ≤ 200; (try dsimp only); omega, by show _ ≤ 112000; (try dsimp only); omega⟩ dL_route_211 ?_
              intro w0 Λ211 I211 J211 hv
              obtain ⟨rfl, q1, v211, cap211, q2, q3, q4⟩ := hv
              show am_K G X _ _ _ _ _ _ _ _ _ (.ref b :: _)
              replace hA := hA.step hB.2.2.2.2 q1
              replace hB := hB.step q1 q2 q3 (q4.toL (m := [32]) rfl (fun i hi => by obtain rfl : i = 0 := (by simp at hi; omega); rfl))
              replace hlen := len_app hlen (show [32].length ≤ 1 from Nat.le_refl _)
              clear q1 q2 q3 q4
              refine k_iload_n C (f := 3) (i := 3) (p := 0) rfl rfl dL_route_214 ?_
              refine k_bipush C bc_19 dL_route_215 ?_
              refine k_ishr C dL_route_217 ?_
              refine k_bipush C bc_31 dL_route_218 ?_
              refine k_iand C dL_route_220 ?_
              obtain ⟨w19, hw19, hw199⟩ := and_le (X1 >>> (nI 19 &&& 31)) (M := 31) (by omega)
              rw [hw19]
              refine k_callVl C s_L_173 h_J4_append_bf812 (hB.2.2.2.2.1) rfl (ct_J4_append_bf812 (v0 := w19) hB.2.2.2.2 (by omega) (by omega) hB.2.2.2.1) rfl rfl (Nat.le_of_ble_eq_true rfl) ⟨Nat.le_of_ble_eq_true rfl, Nat.le_of_ble_eq_true rfl⟩ ⟨rfl, rfl⟩ ⟨by show _ ≤ 200; (try dsimp only); omega, by show _ ≤ 112000; (try dsimp only); omega⟩ dL_route_221 ?_
              intro w0 Λ221 I221 J221 hv
              obtain ⟨rfl, q1, v221, cap221, q2, q3, q4⟩ := hv
              show am_K G X _ _ _ _ _ _ _ _ _ (.ref b :: _)
              replace hA := hA.step hB.2.2.2.2 q1
              replace hB := hB.step q1 q2 q3 (q4.toL (DL_len _).symm (fun i hi => DL_get (by rw [← DL_len]; exact hi)))
              replace hlen := len_app hlen (show (DL (w19)).length ≤ 2 from DL_le2 (by omega))
              clear q1 q2 q3 q4
              refine k_bipush C bc_59 dL_route_224 ?_
              refine k_callVl C s_L_176 h_J4_append_cf468 (hB.2.2.2.2.1) rfl (ct_J4_append_cf468 (c := 59) hB.2.2.2.2 (by omega) (by omega) hB.2.2.2.1) rfl rfl (Nat.le_of_ble_eq_true rfl) ⟨Nat.le_of_ble_eq_true rfl, Nat.le_of_ble_eq_true rfl⟩ ⟨rfl, rfl⟩ ⟨by show _ ≤ 200; (try dsimp only); omega, by show _ ≤ 112000; (try dsimp only); omega⟩ dL_route_226 ?_
              intro w0 Λ226 I226 J226 hv
              obtain ⟨rfl, q1, v226, cap226, q2, q3, q4⟩ := hv
              show am_K G X _ _ _ _ _ _ _ _ _ (.ref b :: _)
              replace hA := hA.step hB.2.2.2.2 q1
              replace hB := hB.step q1 q2 q3 (q4.toL (m := [59]) rfl (fun i hi => by obtain rfl : i = 0 := (by simp at hi; omega); rfl))
              replace hlen := len_app hlen (show [59].length ≤ 1 from Nat.le_refl _)
              clear q1 q2 q3 q4
              refine k_pop C rfl dL_route_229 ?_
              refine k_iinc C (i := 6) (p := 1) (lv := [(6, _), (3, _), (5, _), (4, _), (2, _), (0, _)]) (Nat.le_of_ble_eq_true rfl) rfl (by first | exact am_inc1 _ | rfl) rfl dL_route_230 ?_
              refine k_goto C (tgt := 150) (by decide) dL_route_233 ?_
              refine k_sub [0, 2, 3, 1, 4, 5] rfl ?_
              have hB2 : RB Λ I Λ226 I226 b v226 cap226 (lnR L ++ lnCs cs ++ lnWs (ws ++ [(20 * k + w8, 1 + w12, w19)])) := by
                rw [lnWs_app, ← List.append_assoc]
                unfold lnW
                simp only [List.append_assoc] at hB ⊢
                exact hB
              have hlen2 : (lnR L ++ lnCs cs ++ lnWs (ws ++ [(20 * k + w8, 1 + w12, w19)])).length ≤ 80 + 15 * (k + 1) := by
                rw [lnWs_app, ← List.append_assoc]
                unfold lnW
                simp only [List.append_assoc] at hlen ⊢
                exact Nat.le_trans hlen (by omega)
              refine k_widen ?_ ?_ (ih150 (k + 1) _ _ _ _ _ _ _ (by omega) hB2 hA (by simp [hwl]) (GW_app ws 0 (by rw [hwl]; omega) hGW) hlen2 (by omega))
              · (try dsimp only); omega
              · (try dsimp only); omega
        refine k_sub [0, 1, 2, 3, 4, 5] rfl ?_
        refine k_widen ?_ ?_ (loop150 5 0 [] _ _ _ _ _ _ (Nat.zero_le _) (by rw [show lnWs [] = [] from rfl, List.append_nil]; exact hB) hA rfl trivial (by rw [show lnWs [] = [] from rfl, List.append_nil]; exact Nat.le_trans hlen (by omega)) (by omega))
        · (try dsimp only); omega
        · (try dsimp only); omega
      · skip
        have hk2 : k < n := by omega
        refine k_iload_n C (f := 3) (i := 3) (p := 3) rfl rfl dL_route_56 ?_
        refine k_ldcI C ki_L_179 dL_route_57 ?_
        refine k_imul C dL_route_59 ?_
        refine k_sipush C sc_12345 dL_route_60 ?_
        refine k_iadd C dL_route_63 ?_
        refine k_istore_n C (f := 3) (i := 3) (lv := [(3, _), (6, _), (5, _), (4, _), (2, _), (0, _)]) rfl (Nat.le_of_ble_eq_true rfl) rfl dL_route_64 ?_
        generalize X0 * 1103515245 + nI 12345 = X1
        refine k_aload C (i := 5) (p := 2) rfl dL_route_65 ?_
        refine k_iload C (i := 6) (p := 1) rfl dL_route_67 ?_
        refine k_bipush C bc_20 dL_route_69 ?_
        refine k_iconst C ic_1 dL_route_71 ?_
        refine k_iload_n C (f := 3) (i := 3) (p := 0) rfl rfl dL_route_72 ?_
        refine k_bipush C bc_15 dL_route_73 ?_
        refine k_ishr C dL_route_75 ?_
        refine k_bipush C bc_7 dL_route_76 ?_
        refine k_iand C dL_route_78 ?_
        obtain ⟨e15, he15, he159⟩ := and_le (X1 >>> (nI 15 &&& 31)) (M := 7) (by omega)
        rw [he15]
        refine k_iadd C dL_route_79 ?_
        rw [nI_add]
        refine k_imul C dL_route_80 ?_
        rw [pk_mul]
        refine k_iast C (hA.1) (rfl) (by omega) (by decide) dL_route_81 ?_
        replace hB := hB.up (k := k) (x := nI (20 * (1 + e15))) hA
        replace hA := hA.up (k := k) (x := 20 * (1 + e15))
        refine k_aload_n C (f := 2) (i := 2) (p := 4) rfl rfl dL_route_82 ?_
        refine k_ldcS C 36 (by rfl) dL_route_83 ?_
        refine k_callVl C s_L_182 h_J4_append_15ec4 (hB.2.2.2.2.1) rfl (ct_appCs hB.2.2.2.2 cs_2 (show _ + 6 ≤ 300 by omega) hB.2.2.2.1) rfl rfl (Nat.le_of_ble_eq_true rfl) ⟨Nat.le_of_ble_eq_true rfl, Nat.le_of_ble_eq_true rfl⟩ ⟨rfl, rfl⟩ ⟨by show _ ≤ 200; (try dsimp only); omega, by show _ ≤ 112000; (try dsimp only); omega⟩ dL_route_85 ?_
        intro w0 Λ85 I85 J85 hv
        obtain ⟨rfl, q1, v85, cap85, q2, q3, q4⟩ := hv
        show am_K G X _ _ _ _ _ _ _ _ _ (.ref b :: _)
        replace hA := hA.step hB.2.2.2.2 q1
        replace hB := hB.step q1 q2 q3 (q4.toL rfl (fun _ _ => rfl))
        replace hlen := len_app hlen (show W2.length ≤ 6 from Nat.le_refl _)
        clear q1 q2 q3 q4
        refine k_bipush C bc_10 dL_route_88 ?_
        refine k_iload_n C (f := 3) (i := 3) (p := 0) rfl rfl dL_route_90 ?_
        refine k_bipush C bc_8 dL_route_91 ?_
        refine k_ishr C dL_route_93 ?_
        refine k_bipush C bc_31 dL_route_94 ?_
        refine k_iand C dL_route_96 ?_
        obtain ⟨e8, he8, he89⟩ := and_le (X1 >>> (nI 8 &&& 31)) (M := 31) (by omega)
        rw [he8]
        refine k_iadd C dL_route_97 ?_
        rw [nI_add]
        refine k_callVl C s_L_173 h_J4_append_bf812 (hB.2.2.2.2.1) rfl (ct_J4_append_bf812 (v0 := 10 + e8) hB.2.2.2.2 (by omega) (by omega) hB.2.2.2.1) rfl rfl (Nat.le_of_ble_eq_true rfl) ⟨Nat.le_of_ble_eq_true rfl, Nat.le_of_ble_eq_true rfl⟩ ⟨rfl, rfl⟩ ⟨by show _ ≤ 200; (try dsimp only); omega, by show _ ≤ 112000; (try dsimp only); omega⟩ dL_route_98 ?_
        intro w0 Λ98 I98 J98 hv
        obtain ⟨rfl, q1, v98, cap98, q2, q3, q4⟩ := hv
        show am_K G X _ _ _ _ _ _ _ _ _ (.ref b :: _)
        replace hA := hA.step hB.2.2.2.2 q1
        replace hB := hB.step q1 q2 q3 (q4.toL (DL_len _).symm (fun i hi => DL_get (by rw [← DL_len]; exact hi)))
        replace hlen := len_app hlen (show (DL (10 + e8)).length ≤ 2 from DL_le2 (by omega))
        clear q1 q2 q3 q4
        refine k_bipush C bc_32 dL_route_101 ?_
        refine k_callVl C s_L_176 h_J4_append_cf468 (hB.2.2.2.2.1) rfl (ct_J4_append_cf468 (c := 32) hB.2.2.2.2 (by omega) (by omega) hB.2.2.2.1) rfl rfl (Nat.le_of_ble_eq_true rfl) ⟨Nat.le_of_ble_eq_true rfl, Nat.le_of_ble_eq_true rfl⟩ ⟨rfl, rfl⟩ ⟨by show _ ≤ 200; (try dsimp only); omega, by show _ ≤ 112000; (try dsimp only); omega⟩ dL_route_103 ?_
        intro w0 Λ103 I103 J103 hv
        obtain ⟨rfl, q1, v103, cap103, q2, q3, q4⟩ := hv
        show am_K G X _ _ _ _ _ _ _ _ _ (.ref b :: _)
        replace hA := hA.step hB.2.2.2.2 q1
        replace hB := hB.step q1 q2 q3 (q4.toL (m := [32]) rfl (fun i hi => by obtain rfl : i = 0 := (by simp at hi; omega); rfl))
        replace hlen := len_app hlen (show [32].length ≤ 1 from Nat.le_refl _)
        clear q1 q2 q3 q4
        refine k_aload C (i := 5) (p := 2) rfl dL_route_106 ?_
        refine k_iload C (i := 6) (p := 1) rfl dL_route_108 ?_
        refine k_iald C (hA.1) (rfl) (by omega) (by decide) ((hA.2.2 k (by omega)).trans (congrArg nI (if_pos rfl))) dL_route_110 ?_
        refine k_bipush C bc_20 dL_route_111 ?_
        refine k_idiv C (by decide) dL_route_113 ?_
        rw [pk_div (by omega) (by omega) (by omega), Nat.mul_div_cancel_left _ (by omega)]
        refine k_callVl C s_L_173 h_J4_append_bf812 (hB.2.2.2.2.1) rfl (ct_J4_append_bf812 (v0 := 1 + e15) hB.2.2.2.2 (by omega) (by omega) hB.2.2.2.1) rfl rfl (Nat.le_of_ble_eq_true rfl) ⟨Nat.le_of_ble_eq_true rfl, Nat.le_of_ble_eq_true rfl⟩ ⟨rfl, rfl⟩ ⟨by show _ ≤ 200; (try dsimp only); omega, by show _ ≤ 112000; (try dsimp only); omega⟩ dL_route_114 ?_
        intro w0 Λ114 I114 J114 hv
        obtain ⟨rfl, q1, v114, cap114, q2, q3, q4⟩ := hv
        show am_K G X _ _ _ _ _ _ _ _ _ (.ref b :: _)
        replace hA := hA.step hB.2.2.2.2 q1
        replace hB := hB.step q1 q2 q3 (q4.toL (DL_len _).symm (fun i hi => DL_get (by rw [← DL_len]; exact hi)))
        replace hlen := len_app hlen (show (DL (1 + e15)).length ≤ 1 from by rw [DL_1 (by omega)]; exact Nat.le_refl _)
        clear q1 q2 q3 q4
        refine k_bipush C bc_32 dL_route_117 ?_
        refine k_callVl C s_L_176 h_J4_append_cf468 (hB.2.2.2.2.1) rfl (ct_J4_append_cf468 (c := 32) hB.2.2.2.2 (by omega) (by omega) hB.2.2.2.1) rfl rfl (Nat.le_of_ble_eq_true rfl) ⟨Nat.le_of_ble_eq_true rfl, Nat.le_of_ble_eq_true rfl⟩ ⟨rfl, rfl⟩ ⟨by show _ ≤ 200; (try dsimp only); omega, by show _ ≤ 112000; (try dsimp only); omega⟩ dL_route_119 ?_
        intro w0 Λ119 I119 J119 hv
        obtain ⟨rfl, q1, v119, cap119, q2, q3, q4⟩ := hv
        show am_K G X _ _ _ _ _ _ _ _ _ (.ref b :: _)
        replace hA := hA.step hB.2.2.2.2 q1
        replace hB := hB.step q1 q2 q3 (q4.toL (m := [32]) rfl (fun i hi => by obtain rfl : i = 0 := (by simp at hi; omega); rfl))
        replace hlen := len_app hlen (show [32].length ≤ 1 from Nat.le_refl _)
        clear q1 q2 q3 q4
        refine k_bipush C bc_10 dL_route_122 ?_
        refine k_iload_n C (f := 3) (i := 3) (p := 0) rfl rfl dL_route_124 ?_
        refine k_bipush C bc_18 dL_route_125 ?_
        refine k_ishr C dL_route_127 ?_
        refine k_bipush C bc_63 dL_route_128 ?_
        refine k_iand C dL_route_130 ?_
        obtain ⟨e18, he18, he189⟩ := and_le (X1 >>> (nI 18 &&& 31)) (M := 63) (by omega)
        rw [he18]
        refine k_iadd C dL_route_131 ?_
        rw [nI_add]
        refine k_callVl C s_L_173 h_J4_append_bf812 (hB.2.2.2.2.1) rfl (ct_J4_append_bf812 (v0 := 10 + e18) hB.2.2.2.2 (by omega) (by omega) hB.2.2.2.1) rfl rfl (Nat.le_of_ble_eq_true rfl) ⟨Nat.le_of_ble_eq_true rfl, Nat.le_of_ble_eq_true rfl⟩ ⟨rfl, rfl⟩ ⟨by show _ ≤ 200; (try dsimp only); omega, by show _ ≤ 112000; (try dsimp only); omega⟩ dL_route_132 ?_
        intro w0 Λ132 I132 J132 hv
        obtain ⟨rfl, q1, v132, cap132, q2, q3, q4⟩ := hv
        show am_K G X _ _ _ _ _ _ _ _ _ (.ref b :: _)
        replace hA := hA.step hB.2.2.2.2 q1
        replace hB := hB.step q1 q2 q3 (q4.toL (DL_len _).symm (fun i hi => DL_get (by rw [← DL_len]; exact hi)))
        replace hlen := len_app hlen (show (DL (10 + e18)).length ≤ 2 from DL_le2 (by omega))
        clear q1 q2 q3 q4
        refine k_bipush C bc_59 dL_route_135 ?_
        refine k_callVl C s_L_176 h_J4_append_cf468 (hB.2.2.2.2.1) rfl (ct_J4_append_cf468 (c := 59) hB.2.2.2.2 (by omega) (by omega) hB.2.2.2.1) rfl rfl (Nat.le_of_ble_eq_true rfl) ⟨Nat.le_of_ble_eq_true rfl, Nat.le_of_ble_eq_true rfl⟩ ⟨rfl, rfl⟩ ⟨by show _ ≤ 200; (try dsimp only); omega, by show _ ≤ 112000; (try dsimp only); omega⟩ dL_route_137 ?_
        intro w0 Λ137 I137 J137 hv
        obtain ⟨rfl, q1, v137, cap137, q2, q3, q4⟩ := hv
        show am_K G X _ _ _ _ _ _ _ _ _ (.ref b :: _)
        replace hA := hA.step hB.2.2.2.2 q1
        replace hB := hB.step q1 q2 q3 (q4.toL (m := [59]) rfl (fun i hi => by obtain rfl : i = 0 := (by simp at hi; omega); rfl))
        replace hlen := len_app hlen (show [59].length ≤ 1 from Nat.le_refl _)
        clear q1 q2 q3 q4
        refine k_pop C rfl dL_route_140 ?_
        refine k_iinc C (i := 6) (p := 1) (lv := [(6, _), (3, _), (5, _), (4, _), (2, _), (0, _)]) (Nat.le_of_ble_eq_true rfl) rfl (by first | exact am_inc1 _ | rfl) rfl dL_route_141 ?_
        refine k_goto C (tgt := 49) (by decide) dL_route_144 ?_
        refine k_sub [0, 2, 3, 1, 4, 5] rfl ?_
        have hB2 : RB Λ I Λ137 I137 b v137 cap137 (lnR L ++ lnCs (cs ++ [(10 + e8, 1 + e15, 10 + e18)])) := by
          rw [lnCs_app, ← List.append_assoc]
          unfold lnC
          simp only [List.append_assoc] at hB ⊢
          exact hB
        have hlen2 : (lnR L ++ lnCs (cs ++ [(10 + e8, 1 + e15, 10 + e18)])).length ≤ 10 + 14 * (k + 1) := by
          rw [lnCs_app, ← List.append_assoc]
          unfold lnC
          simp only [List.append_assoc] at hlen ⊢
          exact Nat.le_trans hlen (by omega)
        have hA2 : AF Λ Λ137 I137 fa (frC (cs ++ [(10 + e8, 1 + e15, 10 + e18)])) := by
          rw [← frC_app, hcl]
          exact hA
        refine k_widen ?_ ?_ (ih49 (k + 1) _ _ _ _ _ _ _ (by omega) hB2 hA2 (by simp [hcl]) (GC_app ⟨by omega, by omega, by omega, by omega, by omega, by omega⟩ cs hG) hlen2 (by omega))
        · (try dsimp only); omega
        · (try dsimp only); omega
  refine k_sub [0, 1, 2, 3, 4, 5] rfl ?_
  refine k_widen ?_ ?_ (loop49 (n + 1) 0 [] _ _ _ _ _ vv (Nat.zero_le _) hB hA rfl trivial (by rw [show lnCs [] = [] from rfl, List.append_nil]; exact hlen) (by omega))
  · (try dsimp only); omega
  · (try dsimp only); omega
