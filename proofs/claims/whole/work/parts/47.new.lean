/-! Making: the constructors of the class. Written by wip/whole/tools/mk_new.py. -/
abbrev z2 : Int → Int → Int := fun _ _ => 0
/-- the kinds of K stand in K' -/
def kE (K K' : List gK) : Prop := ∀ (a : Int) (k : gK), kd (K, z2, z2) a = some k → kd (K', z2, z2) a = some k
theorem kE.rf (K : List gK) : kE K K := fun _ _ h => h
theorem kE.trans {K K1 K2 : List gK} (h : kE K K1) (h2 : kE K1 K2) : kE K K2 := fun a k hk => h2 a k (h a k hk)
theorem kE_app (K X : List gK) : kE K (K ++ X) := by
  intro a k h
  have h1 := kd_get h
  have h0 := kd_pos h
  unfold kd
  rw [if_neg (by omega)]
  show (K ++ X)[a.toNat]? = _
  rw [List.getElem?_append_left (List.getElem?_eq_some_iff.mp h1).1]
  exact h1
theorem kd_new {K : List gK} {k : gK} {a : Int} (h : (K.length : Int) = a) : kd (K ++ [k], z2, z2) a = some k := by
  unfold kd
  rw [if_neg (by omega)]
  show (K ++ [k])[a.toNat]? = _
  rw [show a.toNat = K.length by omega, List.getElem?_append_right (Nat.le_refl _), Nat.sub_self]
  rfl
/-- from a cells on, n new ones; nothing below has changed -/
def nE (K : List gK) (R V : Int → Int → Int) (K' : List gK) (R' V' : Int → Int → Int) (a n : Int) : Prop := kE K K' ∧ (K'.length : Int) = a + n ∧ ∀ x, x < a → R' x = R x ∧ V' x = V x
theorem gadd_ex {K : List gK} (R V : Int → Int → Int) (k : gK) {a : Int} (hl : (K.length : Int) = a) : ∃ K0 R0 V0, gadd (K, R, V) k = (K0, R0, V0) ∧ kd (K0, z2, z2) a = some k ∧ nE K R V K0 R0 V0 a 1 ∧ ∀ j, R0 a j = -1 ∧ V0 a j = 0 := by
  refine ⟨_, _, _, rfl, kd_new hl, ⟨kE_app _ _, by rw [List.length_append]; show ((K.length + 1 : Nat) : Int) = a + 1; omega, fun x hx => ⟨?_, ?_⟩⟩, fun j => ⟨?_, ?_⟩⟩
  · funext j; exact gnw_o (by show x ≠ (K.length : Int); omega)
  · funext j; exact gnw_o (by show x ≠ (K.length : Int); omega)
  · rw [← hl]; exact gnw_s
  · rw [← hl]; exact gnw_s
theorem gadd_is {K : List gK} (R V : Int → Int → Int) (k : gK) {a : Int} (hl : (K.length : Int) = a) : ∃ K0 R0 V0, (K ++ [k] = K0 ∧ gnw R K.length (-1) = R0 ∧ gnw V K.length 0 = V0) ∧ kd (K0, z2, z2) a = some k ∧ nE K R V K0 R0 V0 a 1 ∧ ∀ j, R0 a j = -1 ∧ V0 a j = 0 := by
  obtain ⟨K0, R0, V0, e, h1, h2, h3⟩ := gadd_ex R V k hl
  exact ⟨K0, R0, V0, ⟨congrArg (fun m => m.1) e, congrArg (fun m => m.2.1) e, congrArg (fun m => m.2.2) e⟩, h1, h2, h3⟩
theorem gup_k {V : Int → Int → Int} {a k k' x : Int} (h : k' ≠ k) : gup V a k x a k' = V a k' := if_neg (fun z => h z.2)
theorem gRow.mo {K K' : List gK} {R R' : Int → Int → Int} {r : Int} {n : Nat} (h : gRow K R r n) (he : kE K K') (hr : R' r = R r) : gRow K' R' r n := ⟨he _ _ h.1, he _ _ h.2.1, by rw [hr]; exact h.2.2.1, h.2.2.2⟩
theorem glK.mo {K K' : List gK} {R R' : Int → Int → Int} {a : Int} (h : glK K R a) (he : kE K K') (hr : ∀ x, a ≤ x → x < a + 3 → R' x = R x) : glK K' R' a := ⟨he _ _ h.1, by rw [hr a (by omega) (by omega)]; exact h.2.1, h.2.2.mo he (hr _ (by omega) (by omega))⟩
theorem hdK.mo {K K' : List gK} {R R' : Int → Int → Int} {a : Int} (h : hdK K R a) (he : kE K K') (hr : ∀ x, a ≤ x → x < a + 9 → R' x = R x) : hdK K' R' a := by
  obtain ⟨h1, h2, h3, h4, h5, h6, h7, h8, h9⟩ := h
  have e := hr a (by omega) (by omega)
  exact ⟨he _ _ h1, by rw [e]; exact h2, by rw [e]; exact h3, by rw [e]; exact h4, by rw [e]; exact h5, h6.mo he (hr _ (by omega) (by omega)), h7.mo he (hr _ (by omega) (by omega)), h8.mo he (hr _ (by omega) (by omega)), h9.mo he (hr _ (by omega) (by omega))⟩
theorem toK.mo {K K' : List gK} {R R' : Int → Int → Int} {a : Int} (h : toK K R a) (he : kE K K') (hr : ∀ x, a ≤ x → x < a + 3 → R' x = R x) : toK K' R' a := ⟨he _ _ h.1, by rw [hr a (by omega) (by omega)]; exact h.2.1, h.2.2.mo he (hr _ (by omega) (by omega))⟩
theorem scK.mo {K K' : List gK} {R R' : Int → Int → Int} {a : Int} (h : scK K R a) (he : kE K K') (hr : ∀ x, a ≤ x → x < a + 3 → R' x = R x) : scK K' R' a := ⟨he _ _ h.1, by rw [hr a (by omega) (by omega)]; exact h.2.1, h.2.2.mo he (hr _ (by omega) (by omega))⟩
theorem gAl.mo {K K' : List gK} {R R' : Int → Int → Int} {a : Int} (h : gAl K R a) (he : kE K K') (hr : ∀ x, a ≤ x → x < a + 6 → R' x = R x) : gAl K' R' a := by
  obtain ⟨h1, h2, h3, h4, h5, h6, h7⟩ := h
  have e := hr a (by omega) (by omega)
  exact ⟨he _ _ h1, he _ _ h2, by rw [e]; exact h3, by rw [e]; exact h4, by rw [e]; exact h5, h6.mo he (hr _ (by omega) (by omega)), h7.mo he (hr _ (by omega) (by omega))⟩
theorem wtK.mo {K K' : List gK} {R R' : Int → Int → Int} {a : Int} (h : wtK K R a) (he : kE K K') (hr : ∀ x, a ≤ x → x < a + 7 → R' x = R x) : wtK K' R' a := by
  obtain ⟨h1, h3, h4, h5, h2, h6, h7⟩ := h
  have e := hr a (by omega) (by omega)
  exact ⟨he _ _ h1, by rw [e]; exact h3, by rw [e]; exact h4, by rw [e]; exact h5, h2.mo he (hr _ (by omega) (by omega)), h6.mo he (hr _ (by omega) (by omega)), h7.mo he (hr _ (by omega) (by omega))⟩
theorem trK.mo {K K' : List gK} {R R' : Int → Int → Int} {a : Int} (h : trK K R a) (he : kE K K') (hr : ∀ x, a ≤ x → x < a + 5 → R' x = R x) : trK K' R' a := by
  obtain ⟨h1, h3, h4, h6, h7⟩ := h
  have e := hr a (by omega) (by omega)
  exact ⟨he _ _ h1, by rw [e]; exact h3, by rw [e]; exact h4, h6.mo he (hr _ (by omega) (by omega)), h7.mo he (hr _ (by omega) (by omega))⟩
theorem bkK.mo {K K' : List gK} {R R' : Int → Int → Int} {a : Int} (h : bkK K R a) (he : kE K K') (hr : ∀ x, a ≤ x → x < a + 70 → R' x = R x) : bkK K' R' a := by
  obtain ⟨h1, h2, h3, h4, h5, h6, h7, h8, h9, h10, h11, h12⟩ := h
  have e := hr a (by omega) (by omega)
  exact ⟨he _ _ h1, by rw [e]; exact h2, by rw [e]; exact h3, by rw [e]; exact h4, by rw [e]; exact h5, by rw [e]; exact h6, h7.mo he (hr _ (by omega) (by omega)), he _ _ h8, h9.mo he (hr _ (by omega) (by omega)), h10.mo he (hr _ (by omega) (by omega)), h11.mo he (hr _ (by omega) (by omega)), fun g g0 g1 => ⟨by rw [hr (a + 3) (by omega) (by omega)]; exact (h12 g g0 g1).1, (h12 g g0 g1).2.mo he (fun x x0 x1 => hr x (by omega) (by omega))⟩⟩
section NEW
variable {l : Launch} {E : gE} {d : Nat} {K : List gK} {R V : Int → Int → Int} {O : Int} {Q : gQ}
set_option maxRecDepth 4000 in
theorem c_newRow {n : Nat} (hl : (K.length : Int) = O) (hO : O < 950000) (hn : 0 < n ∧ n ≤ 700) (hQ : ∀ K' R' V', nE K R V K' R' V' O 2 → gRow K' R' O n → V' O 1 = 0 → (∀ j, V' (O + 1) j = 0) → Q none (K', R', V')) : gC l E (d + 1) iX6_init [ga O, gi (n : Int)] (gadd (K, R, V) (.inl 5)) Q := by
  refine gC_of kX6_init (ls := [some (ga O), some (gi (n : Int))]) rfl (Nat.le_of_ble_eq_true rfl) ?_
  obtain ⟨K0, R0, V0, em, hk0, n0, z0⟩ := gadd_ex R V (.inl 5) hl
  rw [em]
  have hO0 : 0 ≤ O := by omega
  have hl0 := n0.2.1
  refine gX_aloadn dX6_init_0 rfl ?_
  refine gX_objInit dX6_init_1 lkX6_3 (by omega) (Nat.le_of_ble_eq_true rfl) (by constructor <;> (show _ ≤ _; simp only [gFm, gRm]; omega)) ?_
  refine gX_aloadn dX6_init_4 rfl ?_
  refine gX_iconst dX6_init_5 ⟨by decide, by decide⟩ ?_
  refine gX_pI 1 dX6_init_6 fdX6_9 fpX6_9 rfl (Or.inl rfl) hk0 ?_
  refine gX_aloadn dX6_init_9 rfl ?_
  refine gX_iloadn dX6_init_10 rfl ?_
  refine gX_ifle (tgt := 18) dX6_init_11 (by decide) (fun w1 => ?_) (fun w1 => ?_)
  · exfalso
    omega
  · refine gX_iloadn dX6_init_14 rfl ?_
    refine gX_goto (tgt := 19) dX6_init_15 (by decide) ?_
    refine gX_newa (t := 0) (n := n) (a := (O + 1)) (m2 := (K0 ++ [Sum.inr (0, n)], gnw R0 K0.length (-1), gnw (gup V0 O 1 0) K0.length 0)) dX6_init_19 (Or.inl ⟨rfl, rfl⟩) ac_int (show K0.length + 1 < 1000000 by omega) rfl (by omega) (show (O + 1) = ((K0.length : Nat) : Int) by omega) rfl (show (1 : Nat) ≤ 1 by omega) (show (n : Nat) ≤ 700 by omega) ?_
    obtain ⟨K1, R1, V1, ⟨e1, e2, e3⟩, ha1, n1, z1⟩ := gadd_is R0 (gup V0 O 1 0) (.inr (0, n)) (a := O + 1) (by omega)
    rw [e1, e2, e3]
    have hk1 := n1.1 _ _ hk0
    refine gX_pR 0 dX6_init_21 fdX6_15 fpX6_15 rfl rfl hk1 ?_
    refine gX_vret dX6_init_24 rfl ?_
    exact hQ K1 _ V1 ⟨n0.1.trans n1.1, by rw [n1.2.1]; omega, (fun x hx => by have a1 := n1.2.2 x (by omega); have a0 := n0.2.2 x hx; exact ⟨by rw [gup_ne (by omega), a1.1, a0.1], by rw [a1.2, gup_ne (by omega), a0.2]⟩)⟩ ⟨hk1, ha1, gup_s, by omega⟩ (by rw [(n1.2.2 O (by omega)).2]; exact gup_s) (fun j => (z1 j).2)
set_option maxRecDepth 4000 in
theorem c_newGloss (hl : (K.length : Int) = O) (hO : O < 900000) (hQ : ∀ K' R' V', nE K R V K' R' V' O 3 → glK K' R' O → Q none (K', R', V')) : gC l E (d + 2) iX3_init [ga O] (gadd (K, R, V) (.inl 3)) Q := by
  refine gC_of kX3_init (ls := [some (ga O)]) rfl (Nat.le_of_ble_eq_true rfl) ?_
  obtain ⟨K0, R0, V0, em, hk0, n0, z0⟩ := gadd_ex R V (.inl 3) hl
  rw [em]
  have hO0 : 0 ≤ O := by omega
  have hl0 := n0.2.1
  refine gX_aloadn dX3_init_0 rfl ?_
  refine gX_objInit dX3_init_1 lkX3_3 (by omega) (Nat.le_of_ble_eq_true rfl) (by constructor <;> (show _ ≤ _; simp only [gFm, gRm]; omega)) ?_
  refine gX_aloadn dX3_init_4 rfl ?_
  refine gX_new (ci := 5) (a := (O + 1)) dX3_init_5 nwX3_9 (show K0.length + 1 < 1000000 by omega) (show (O + 1) = ((K0.length : Nat) : Int) by omega) rfl (Nat.le_of_ble_eq_true rfl) (Nat.le_of_ble_eq_true rfl) ?_
  refine gX_dup dX3_init_8 rfl ?_
  refine gX_bipush dX3_init_9 (by decide) ⟨by decide, by decide⟩ ?_
  refine gX_init (J := iX6_init) (av := [gi 8]) (a := (O + 1)) (st := [ga (O + 1), ga O]) dX3_init_11 lkX3_11 kX6_init rfl rfl vX6_init (gFit_m (by decide)) (by omega) rfl (Nat.le_of_ble_eq_true rfl) (Nat.le_of_ble_eq_true rfl) (Nat.le_of_ble_eq_true rfl) rfl ?_
  refine c_newRow (n := 8) (by omega) (by omega) ⟨by omega, by omega⟩ (fun K1 R1 V1 n1 g1 v1 z1 => ?_)
  show gX l E _ 14 [some (ga O)] [ga (O + 1), ga O] (K1, R1, V1) _ _
  have hk1 := n1.1 _ _ hk0
  have hl1 := n1.2.1
  refine gX_pR 0 dX3_init_14 fdX3_14 fpX3_14 rfl rfl hk1 ?_
  refine gX_aloadn dX3_init_17 rfl ?_
  refine gX_iconst dX3_init_18 ⟨by decide, by decide⟩ ?_
  refine gX_pI 1 dX3_init_19 fdX3_20 fpX3_20 rfl (Or.inl rfl) hk1 ?_
  refine gX_aloadn dX3_init_22 rfl ?_
  refine gX_iconst dX3_init_23 ⟨by decide, by decide⟩ ?_
  refine gX_pI 2 dX3_init_24 fdX3_24 fpX3_24 rfl (Or.inl rfl) hk1 ?_
  refine gX_aloadn dX3_init_27 rfl ?_
  refine gX_iconst dX3_init_28 ⟨by decide, by decide⟩ ?_
  refine gX_pI 3 dX3_init_29 fdX3_27 fpX3_27 rfl (Or.inl rfl) hk1 ?_
  refine gX_aloadn dX3_init_32 rfl ?_
  refine gX_iconst dX3_init_33 ⟨by decide, by decide⟩ ?_
  refine gX_pI 4 dX3_init_34 fdX3_30 fpX3_30 rfl (Or.inl rfl) hk1 ?_
  refine gX_aloadn dX3_init_37 rfl ?_
  refine gX_iconst dX3_init_38 ⟨by decide, by decide⟩ ?_
  refine gX_pI 5 dX3_init_39 fdX3_33 fpX3_33 rfl (Or.inr ⟨rfl, Or.inl rfl⟩) hk1 ?_
  refine gX_vret dX3_init_42 rfl ?_
  exact hQ _ _ _ ⟨(n0.1.trans n1.1), by omega, fun x hx => ⟨by rw [gup_ne (by omega), (n1.2.2 x (by omega)).1, (n0.2.2 x hx).1], by rw [gup_ne (by omega), gup_ne (by omega), gup_ne (by omega), gup_ne (by omega), gup_ne (by omega), (n1.2.2 x (by omega)).2, (n0.2.2 x hx).2]⟩⟩ ⟨hk1, gup_s, (g1.mo (kE.rf K1) (by rw [gup_ne (by omega)]))⟩
set_option maxRecDepth 4000 in
theorem c_newTold (hl : (K.length : Int) = O) (hO : O < 900000) (hQ : ∀ K' R' V', nE K R V K' R' V' O 3 → toK K' R' O → V' (O + 1) 1 = 0 → Q none (K', R', V')) : gC l E (d + 2) iX8_init [ga O] (gadd (K, R, V) (.inl 7)) Q := by
  refine gC_of kX8_init (ls := [some (ga O)]) rfl (Nat.le_of_ble_eq_true rfl) ?_
  obtain ⟨K0, R0, V0, em, hk0, n0, z0⟩ := gadd_ex R V (.inl 7) hl
  rw [em]
  have hO0 : 0 ≤ O := by omega
  have hl0 := n0.2.1
  refine gX_aloadn dX8_init_0 rfl ?_
  refine gX_objInit dX8_init_1 lkX8_3 (by omega) (Nat.le_of_ble_eq_true rfl) (by constructor <;> (show _ ≤ _; simp only [gFm, gRm]; omega)) ?_
  refine gX_aloadn dX8_init_4 rfl ?_
  refine gX_new (ci := 5) (a := (O + 1)) dX8_init_5 nwX8_9 (show K0.length + 1 < 1000000 by omega) (show (O + 1) = ((K0.length : Nat) : Int) by omega) rfl (Nat.le_of_ble_eq_true rfl) (Nat.le_of_ble_eq_true rfl) ?_
  refine gX_dup dX8_init_8 rfl ?_
  refine gX_sipush dX8_init_9 (by decide) ⟨by decide, by decide⟩ ?_
  refine gX_init (J := iX6_init) (av := [gi 320]) (a := (O + 1)) (st := [ga (O + 1), ga O]) dX8_init_12 lkX8_11 kX6_init rfl rfl vX6_init (gFit_m (by decide)) (by omega) rfl (Nat.le_of_ble_eq_true rfl) (Nat.le_of_ble_eq_true rfl) (Nat.le_of_ble_eq_true rfl) rfl ?_
  refine c_newRow (n := 320) (by omega) (by omega) ⟨by omega, by omega⟩ (fun K1 R1 V1 n1 g1 v1 z1 => ?_)
  show gX l E _ 15 [some (ga O)] [ga (O + 1), ga O] (K1, R1, V1) _ _
  have hk1 := n1.1 _ _ hk0
  have hl1 := n1.2.1
  refine gX_pR 0 dX8_init_15 fdX8_14 fpX8_14 rfl rfl hk1 ?_
  refine gX_aloadn dX8_init_18 rfl ?_
  refine gX_iconst dX8_init_19 ⟨by decide, by decide⟩ ?_
  refine gX_pI 1 dX8_init_20 fdX8_20 fpX8_20 rfl (Or.inl rfl) hk1 ?_
  refine gX_aloadn dX8_init_23 rfl ?_
  refine gX_iconst dX8_init_24 ⟨by decide, by decide⟩ ?_
  refine gX_pI 2 dX8_init_25 fdX8_24 fpX8_24 rfl (Or.inl rfl) hk1 ?_
  refine gX_aloadn dX8_init_28 rfl ?_
  refine gX_iconst dX8_init_29 ⟨by decide, by decide⟩ ?_
  refine gX_pI 3 dX8_init_30 fdX8_27 fpX8_27 rfl (Or.inl rfl) hk1 ?_
  refine gX_aloadn dX8_init_33 rfl ?_
  refine gX_iconst dX8_init_34 ⟨by decide, by decide⟩ ?_
  refine gX_pI 4 dX8_init_35 fdX8_30 fpX8_30 rfl (Or.inl rfl) hk1 ?_
  refine gX_vret dX8_init_38 rfl ?_
  exact hQ _ _ _ ⟨(n0.1.trans n1.1), by omega, fun x hx => ⟨by rw [gup_ne (by omega), (n1.2.2 x (by omega)).1, (n0.2.2 x hx).1], by rw [gup_ne (by omega), gup_ne (by omega), gup_ne (by omega), gup_ne (by omega), (n1.2.2 x (by omega)).2, (n0.2.2 x hx).2]⟩⟩ ⟨hk1, gup_s, (g1.mo (kE.rf K1) (by rw [gup_ne (by omega)]))⟩ (by rw [gup_ne (by omega), gup_ne (by omega), gup_ne (by omega), gup_ne (by omega)]; exact v1)
set_option maxRecDepth 4000 in
theorem c_newReader (hl : (K.length : Int) = O) (hO : O < 900000) (hQ : ∀ K' R' V', nE K R V K' R' V' O 1 → rdK K' R' O → Q none (K', R', V')) : gC l E (d + 1) iX2_init [ga O] (gadd (K, R, V) (.inl 2)) Q := by
  refine gC_of kX2_init (ls := [some (ga O)]) rfl (Nat.le_of_ble_eq_true rfl) ?_
  obtain ⟨K0, R0, V0, em, hk0, n0, z0⟩ := gadd_ex R V (.inl 2) hl
  rw [em]
  have hO0 : 0 ≤ O := by omega
  have hl0 := n0.2.1
  refine gX_aloadn dX2_init_0 rfl ?_
  refine gX_objInit dX2_init_1 lkX2_3 (by omega) (Nat.le_of_ble_eq_true rfl) (by constructor <;> (show _ ≤ _; simp only [gFm, gRm]; omega)) ?_
  refine gX_aloadn dX2_init_4 rfl ?_
  refine gX_iconst dX2_init_5 ⟨by decide, by decide⟩ ?_
  refine gX_pI 0 dX2_init_6 fdX2_11 fpX2_11 rfl (Or.inl rfl) hk0 ?_
  refine gX_aloadn dX2_init_9 rfl ?_
  refine gX_iconst dX2_init_10 ⟨by decide, by decide⟩ ?_
  refine gX_pI 1 dX2_init_11 fdX2_15 fpX2_15 rfl (Or.inl rfl) hk0 ?_
  refine gX_aloadn dX2_init_14 rfl ?_
  refine gX_iconst dX2_init_15 ⟨by decide, by decide⟩ ?_
  refine gX_pI 2 dX2_init_16 fdX2_18 fpX2_18 rfl (Or.inl rfl) hk0 ?_
  refine gX_vret dX2_init_19 rfl ?_
  exact hQ _ _ _ ⟨n0.1, by omega, fun x hx => ⟨by rw [(n0.2.2 x hx).1], by rw [gup_ne (by omega), gup_ne (by omega), gup_ne (by omega), (n0.2.2 x hx).2]⟩⟩ hk0
set_option maxRecDepth 4000 in
theorem c_newScribe (hl : (K.length : Int) = O) (hO : O < 900000) (hQ : ∀ K' R' V', nE K R V K' R' V' O 3 → scK K' R' O → Q none (K', R', V')) : gC l E (d + 2) iX7_init [ga O] (gadd (K, R, V) (.inl 6)) Q := by
  refine gC_of kX7_init (ls := [some (ga O)]) rfl (Nat.le_of_ble_eq_true rfl) ?_
  obtain ⟨K0, R0, V0, em, hk0, n0, z0⟩ := gadd_ex R V (.inl 6) hl
  rw [em]
  have hO0 : 0 ≤ O := by omega
  have hl0 := n0.2.1
  refine gX_aloadn dX7_init_0 rfl ?_
  refine gX_objInit dX7_init_1 lkX7_3 (by omega) (Nat.le_of_ble_eq_true rfl) (by constructor <;> (show _ ≤ _; simp only [gFm, gRm]; omega)) ?_
  refine gX_aloadn dX7_init_4 rfl ?_
  refine gX_new (ci := 5) (a := (O + 1)) dX7_init_5 nwX7_9 (show K0.length + 1 < 1000000 by omega) (show (O + 1) = ((K0.length : Nat) : Int) by omega) rfl (Nat.le_of_ble_eq_true rfl) (Nat.le_of_ble_eq_true rfl) ?_
  refine gX_dup dX7_init_8 rfl ?_
  refine gX_iconst dX7_init_9 ⟨by decide, by decide⟩ ?_
  refine gX_init (J := iX6_init) (av := [gi 4]) (a := (O + 1)) (st := [ga (O + 1), ga O]) dX7_init_10 lkX7_11 kX6_init rfl rfl vX6_init (gFit_m (by decide)) (by omega) rfl (Nat.le_of_ble_eq_true rfl) (Nat.le_of_ble_eq_true rfl) (Nat.le_of_ble_eq_true rfl) rfl ?_
  refine c_newRow (n := 4) (by omega) (by omega) ⟨by omega, by omega⟩ (fun K1 R1 V1 n1 g1 v1 z1 => ?_)
  show gX l E _ 13 [some (ga O)] [ga (O + 1), ga O] (K1, R1, V1) _ _
  have hk1 := n1.1 _ _ hk0
  have hl1 := n1.2.1
  refine gX_pR 0 dX7_init_13 fdX7_14 fpX7_14 rfl rfl hk1 ?_
  refine gX_vret dX7_init_16 rfl ?_
  exact hQ _ _ _ ⟨(n0.1.trans n1.1), by omega, fun x hx => ⟨by rw [gup_ne (by omega), (n1.2.2 x (by omega)).1, (n0.2.2 x hx).1], by rw [(n1.2.2 x (by omega)).2, (n0.2.2 x hx).2]⟩⟩ ⟨hk1, gup_s, (g1.mo (kE.rf K1) (by rw [gup_ne (by omega)]))⟩
set_option maxRecDepth 4000 in
theorem c_newTree (hl : (K.length : Int) = O) (hO : O < 900000) (hQ : ∀ K' R' V', nE K R V K' R' V' O 5 → trK K' R' O → Q none (K', R', V')) : gC l E (d + 2) iX9_init [ga O] (gadd (K, R, V) (.inl 8)) Q := by
  refine gC_of kX9_init (ls := [some (ga O)]) rfl (Nat.le_of_ble_eq_true rfl) ?_
  obtain ⟨K0, R0, V0, em, hk0, n0, z0⟩ := gadd_ex R V (.inl 8) hl
  rw [em]
  have hO0 : 0 ≤ O := by omega
  have hl0 := n0.2.1
  refine gX_aloadn dX9_init_0 rfl ?_
  refine gX_objInit dX9_init_1 lkX9_3 (by omega) (Nat.le_of_ble_eq_true rfl) (by constructor <;> (show _ ≤ _; simp only [gFm, gRm]; omega)) ?_
  refine gX_aloadn dX9_init_4 rfl ?_
  refine gX_new (ci := 5) (a := (O + 1)) dX9_init_5 nwX9_9 (show K0.length + 1 < 1000000 by omega) (show (O + 1) = ((K0.length : Nat) : Int) by omega) rfl (Nat.le_of_ble_eq_true rfl) (Nat.le_of_ble_eq_true rfl) ?_
  refine gX_dup dX9_init_8 rfl ?_
  refine gX_bipush dX9_init_9 (by decide) ⟨by decide, by decide⟩ ?_
  refine gX_init (J := iX6_init) (av := [gi 100]) (a := (O + 1)) (st := [ga (O + 1), ga O]) dX9_init_11 lkX9_11 kX6_init rfl rfl vX6_init (gFit_m (by decide)) (by omega) rfl (Nat.le_of_ble_eq_true rfl) (Nat.le_of_ble_eq_true rfl) (Nat.le_of_ble_eq_true rfl) rfl ?_
  refine c_newRow (n := 100) (by omega) (by omega) ⟨by omega, by omega⟩ (fun K1 R1 V1 n1 g1 v1 z1 => ?_)
  show gX l E _ 14 [some (ga O)] [ga (O + 1), ga O] (K1, R1, V1) _ _
  have hk1 := n1.1 _ _ hk0
  have hl1 := n1.2.1
  refine gX_pR 0 dX9_init_14 fdX9_14 fpX9_14 rfl rfl hk1 ?_
  refine gX_aloadn dX9_init_17 rfl ?_
  refine gX_new (ci := 5) (a := (O + 3)) dX9_init_18 nwX9_9 (show K1.length + 1 < 1000000 by omega) (show (O + 3) = ((K1.length : Nat) : Int) by omega) rfl (Nat.le_of_ble_eq_true rfl) (Nat.le_of_ble_eq_true rfl) ?_
  refine gX_dup dX9_init_21 rfl ?_
  refine gX_bipush dX9_init_22 (by decide) ⟨by decide, by decide⟩ ?_
  refine gX_init (J := iX6_init) (av := [gi 10]) (a := (O + 3)) (st := [ga (O + 3), ga O]) dX9_init_24 lkX9_11 kX6_init rfl rfl vX6_init (gFit_m (by decide)) (by omega) rfl (Nat.le_of_ble_eq_true rfl) (Nat.le_of_ble_eq_true rfl) (Nat.le_of_ble_eq_true rfl) rfl ?_
  refine c_newRow (n := 10) (by omega) (by omega) ⟨by omega, by omega⟩ (fun K2 R2 V2 n2 g2 v2 z2 => ?_)
  show gX l E _ 27 [some (ga O)] [ga (O + 3), ga O] (K2, R2, V2) _ _
  have hk2 := n2.1 _ _ hk1
  have hl2 := n2.2.1
  refine gX_pR 1 dX9_init_27 fdX9_20 fpX9_20 rfl rfl hk2 ?_
  refine gX_aloadn dX9_init_30 rfl ?_
  refine gX_iconst dX9_init_31 ⟨by decide, by decide⟩ ?_
  refine gX_pI 2 dX9_init_32 fdX9_23 fpX9_23 rfl (Or.inl rfl) hk2 ?_
  refine gX_vret dX9_init_35 rfl ?_
  exact hQ _ _ _ ⟨(n0.1.trans (n1.1.trans n2.1)), by omega, fun x hx => ⟨by rw [gup_ne (by omega), (n2.2.2 x (by omega)).1, gup_ne (by omega), (n1.2.2 x (by omega)).1, (n0.2.2 x hx).1], by rw [gup_ne (by omega), (n2.2.2 x (by omega)).2, (n1.2.2 x (by omega)).2, (n0.2.2 x hx).2]⟩⟩ ⟨hk2, by rw [gup_k (by decide), (n2.2.2 O (by omega)).1]; exact gup_s, gup_s, (g1.mo n2.1 (by rw [gup_ne (by omega), (n2.2.2 (O + 1) (by omega)).1, gup_ne (by omega)])), (g2.mo (kE.rf K2) (by rw [gup_ne (by omega)]))⟩
set_option maxRecDepth 4000 in
theorem c_newWit (hl : (K.length : Int) = O) (hO : O < 900000) (hQ : ∀ K' R' V', nE K R V K' R' V' O 7 → wtK K' R' O → Q none (K', R', V')) : gC l E (d + 2) iX10_init [ga O] (gadd (K, R, V) (.inl 9)) Q := by
  refine gC_of kX10_init (ls := [some (ga O)]) rfl (Nat.le_of_ble_eq_true rfl) ?_
  obtain ⟨K0, R0, V0, em, hk0, n0, z0⟩ := gadd_ex R V (.inl 9) hl
  rw [em]
  have hO0 : 0 ≤ O := by omega
  have hl0 := n0.2.1
  refine gX_aloadn dX10_init_0 rfl ?_
  refine gX_objInit dX10_init_1 lkX10_3 (by omega) (Nat.le_of_ble_eq_true rfl) (by constructor <;> (show _ ≤ _; simp only [gFm, gRm]; omega)) ?_
  refine gX_aloadn dX10_init_4 rfl ?_
  refine gX_new (ci := 5) (a := (O + 1)) dX10_init_5 nwX10_9 (show K0.length + 1 < 1000000 by omega) (show (O + 1) = ((K0.length : Nat) : Int) by omega) rfl (Nat.le_of_ble_eq_true rfl) (Nat.le_of_ble_eq_true rfl) ?_
  refine gX_dup dX10_init_8 rfl ?_
  refine gX_sipush dX10_init_9 (by decide) ⟨by decide, by decide⟩ ?_
  refine gX_init (J := iX6_init) (av := [gi 400]) (a := (O + 1)) (st := [ga (O + 1), ga O]) dX10_init_12 lkX10_11 kX6_init rfl rfl vX6_init (gFit_m (by decide)) (by omega) rfl (Nat.le_of_ble_eq_true rfl) (Nat.le_of_ble_eq_true rfl) (Nat.le_of_ble_eq_true rfl) rfl ?_
  refine c_newRow (n := 400) (by omega) (by omega) ⟨by omega, by omega⟩ (fun K1 R1 V1 n1 g1 v1 z1 => ?_)
  show gX l E _ 15 [some (ga O)] [ga (O + 1), ga O] (K1, R1, V1) _ _
  have hk1 := n1.1 _ _ hk0
  have hl1 := n1.2.1
  refine gX_pR 0 dX10_init_15 fdX10_14 fpX10_14 rfl rfl hk1 ?_
  refine gX_aloadn dX10_init_18 rfl ?_
  refine gX_new (ci := 5) (a := (O + 3)) dX10_init_19 nwX10_9 (show K1.length + 1 < 1000000 by omega) (show (O + 3) = ((K1.length : Nat) : Int) by omega) rfl (Nat.le_of_ble_eq_true rfl) (Nat.le_of_ble_eq_true rfl) ?_
  refine gX_dup dX10_init_22 rfl ?_
  refine gX_sipush dX10_init_23 (by decide) ⟨by decide, by decide⟩ ?_
  refine gX_init (J := iX6_init) (av := [gi 160]) (a := (O + 3)) (st := [ga (O + 3), ga O]) dX10_init_26 lkX10_11 kX6_init rfl rfl vX6_init (gFit_m (by decide)) (by omega) rfl (Nat.le_of_ble_eq_true rfl) (Nat.le_of_ble_eq_true rfl) (Nat.le_of_ble_eq_true rfl) rfl ?_
  refine c_newRow (n := 160) (by omega) (by omega) ⟨by omega, by omega⟩ (fun K2 R2 V2 n2 g2 v2 z2 => ?_)
  show gX l E _ 29 [some (ga O)] [ga (O + 3), ga O] (K2, R2, V2) _ _
  have hk2 := n2.1 _ _ hk1
  have hl2 := n2.2.1
  refine gX_pR 1 dX10_init_29 fdX10_20 fpX10_20 rfl rfl hk2 ?_
  refine gX_aloadn dX10_init_32 rfl ?_
  refine gX_new (ci := 5) (a := (O + 5)) dX10_init_33 nwX10_9 (show K2.length + 1 < 1000000 by omega) (show (O + 5) = ((K2.length : Nat) : Int) by omega) rfl (Nat.le_of_ble_eq_true rfl) (Nat.le_of_ble_eq_true rfl) ?_
  refine gX_dup dX10_init_36 rfl ?_
  refine gX_sipush dX10_init_37 (by decide) ⟨by decide, by decide⟩ ?_
  refine gX_init (J := iX6_init) (av := [gi 160]) (a := (O + 5)) (st := [ga (O + 5), ga O]) dX10_init_40 lkX10_11 kX6_init rfl rfl vX6_init (gFit_m (by decide)) (by omega) rfl (Nat.le_of_ble_eq_true rfl) (Nat.le_of_ble_eq_true rfl) (Nat.le_of_ble_eq_true rfl) rfl ?_
  refine c_newRow (n := 160) (by omega) (by omega) ⟨by omega, by omega⟩ (fun K3 R3 V3 n3 g3 v3 z3 => ?_)
  show gX l E _ 43 [some (ga O)] [ga (O + 5), ga O] (K3, R3, V3) _ _
  have hk3 := n3.1 _ _ hk2
  have hl3 := n3.2.1
  refine gX_pR 2 dX10_init_43 fdX10_23 fpX10_23 rfl rfl hk3 ?_
  refine gX_aloadn dX10_init_46 rfl ?_
  refine gX_iconst dX10_init_47 ⟨by decide, by decide⟩ ?_
  refine gX_pI 3 dX10_init_48 fdX10_26 fpX10_26 rfl (Or.inl rfl) hk3 ?_
  refine gX_aloadn dX10_init_51 rfl ?_
  refine gX_iconst dX10_init_52 ⟨by decide, by decide⟩ ?_
  refine gX_pI 4 dX10_init_53 fdX10_30 fpX10_30 rfl (Or.inl rfl) hk3 ?_
  refine gX_aloadn dX10_init_56 rfl ?_
  refine gX_iconst dX10_init_57 ⟨by decide, by decide⟩ ?_
  refine gX_pI 5 dX10_init_58 fdX10_33 fpX10_33 rfl (Or.inl rfl) hk3 ?_
  refine gX_vret dX10_init_61 rfl ?_
  exact hQ _ _ _ ⟨(n0.1.trans ((n1.1.trans n2.1).trans n3.1)), by omega, fun x hx => ⟨by rw [gup_ne (by omega), (n3.2.2 x (by omega)).1, gup_ne (by omega), (n2.2.2 x (by omega)).1, gup_ne (by omega), (n1.2.2 x (by omega)).1, (n0.2.2 x hx).1], by rw [gup_ne (by omega), gup_ne (by omega), gup_ne (by omega), (n3.2.2 x (by omega)).2, (n2.2.2 x (by omega)).2, (n1.2.2 x (by omega)).2, (n0.2.2 x hx).2]⟩⟩ ⟨hk3, by rw [gup_k (by decide), (n3.2.2 O (by omega)).1, gup_k (by decide), (n2.2.2 O (by omega)).1]; exact gup_s, by rw [gup_k (by decide), (n3.2.2 O (by omega)).1]; exact gup_s, gup_s, (g1.mo (n2.1.trans n3.1) (by rw [gup_ne (by omega), (n3.2.2 (O + 1) (by omega)).1, gup_ne (by omega), (n2.2.2 (O + 1) (by omega)).1, gup_ne (by omega)])), (g2.mo n3.1 (by rw [gup_ne (by omega), (n3.2.2 (O + 3) (by omega)).1, gup_ne (by omega)])), (g3.mo (kE.rf K3) (by rw [gup_ne (by omega)]))⟩
set_option maxRecDepth 4000 in
theorem c_newAlign (hl : (K.length : Int) = O) (hO : O < 900000) (hQ : ∀ K' R' V', nE K R V K' R' V' O 6 → gAl K' R' O → Q none (K', R', V')) : gC l E (d + 2) iX0_init [ga O] (gadd (K, R, V) (.inl 0)) Q := by
  refine gC_of kX0_init (ls := [some (ga O)]) rfl (Nat.le_of_ble_eq_true rfl) ?_
  obtain ⟨K0, R0, V0, em, hk0, n0, z0⟩ := gadd_ex R V (.inl 0) hl
  rw [em]
  have hO0 : 0 ≤ O := by omega
  have hl0 := n0.2.1
  refine gX_aloadn dX0_init_0 rfl ?_
  refine gX_objInit dX0_init_1 lkX0_3 (by omega) (Nat.le_of_ble_eq_true rfl) (by constructor <;> (show _ ≤ _; simp only [gFm, gRm]; omega)) ?_
  refine gX_aloadn dX0_init_4 rfl ?_
  refine gX_sipush dX0_init_5 (by decide) ⟨by decide, by decide⟩ ?_
  refine gX_newa (t := 0) (n := 1681) (a := (O + 1)) (m2 := (K0 ++ [Sum.inr (0, 1681)], gnw R0 K0.length (-1), gnw V0 K0.length 0)) dX0_init_8 (Or.inl ⟨rfl, rfl⟩) ac_int (show K0.length + 1 < 1000000 by omega) rfl (by omega) (show (O + 1) = ((K0.length : Nat) : Int) by omega) rfl (Nat.le_of_ble_eq_true rfl) (Nat.le_of_ble_eq_true rfl) ?_
  obtain ⟨K1, R1, V1, ⟨e1, e2, e3⟩, g1, n1, z1⟩ := gadd_is (K := K0) R0 V0 (.inr (0, 1681)) (a := O + 1) (by omega)
  rw [e1, e2, e3]
  clear e1 e2 e3
  have hk1 := n1.1 _ _ hk0
  have hl1 := n1.2.1
  refine gX_pR 0 dX0_init_10 fdX0_11 fpX0_11 rfl rfl hk1 ?_
  refine gX_aloadn dX0_init_13 rfl ?_
  refine gX_new (ci := 5) (a := (O + 2)) dX0_init_14 nwX0_15 (show K1.length + 1 < 1000000 by omega) (show (O + 2) = ((K1.length : Nat) : Int) by omega) rfl (Nat.le_of_ble_eq_true rfl) (Nat.le_of_ble_eq_true rfl) ?_
  refine gX_dup dX0_init_17 rfl ?_
  refine gX_bipush dX0_init_18 (by decide) ⟨by decide, by decide⟩ ?_
  refine gX_init (J := iX6_init) (av := [gi 40]) (a := (O + 2)) (st := [ga (O + 2), ga O]) dX0_init_20 lkX0_17 kX6_init rfl rfl vX6_init (gFit_m (by decide)) (by omega) rfl (Nat.le_of_ble_eq_true rfl) (Nat.le_of_ble_eq_true rfl) (Nat.le_of_ble_eq_true rfl) rfl ?_
  refine c_newRow (n := 40) (by omega) (by omega) ⟨by omega, by omega⟩ (fun K2 R2 V2 n2 g2 v2 z2 => ?_)
  show gX l E _ 23 [some (ga O)] [ga (O + 2), ga O] (K2, R2, V2) _ _
  have hk2 := n2.1 _ _ hk1
  have hl2 := n2.2.1
  refine gX_pR 1 dX0_init_23 fdX0_20 fpX0_20 rfl rfl hk2 ?_
  refine gX_aloadn dX0_init_26 rfl ?_
  refine gX_new (ci := 5) (a := (O + 4)) dX0_init_27 nwX0_15 (show K2.length + 1 < 1000000 by omega) (show (O + 4) = ((K2.length : Nat) : Int) by omega) rfl (Nat.le_of_ble_eq_true rfl) (Nat.le_of_ble_eq_true rfl) ?_
  refine gX_dup dX0_init_30 rfl ?_
  refine gX_bipush dX0_init_31 (by decide) ⟨by decide, by decide⟩ ?_
  refine gX_init (J := iX6_init) (av := [gi 40]) (a := (O + 4)) (st := [ga (O + 4), ga O]) dX0_init_33 lkX0_17 kX6_init rfl rfl vX6_init (gFit_m (by decide)) (by omega) rfl (Nat.le_of_ble_eq_true rfl) (Nat.le_of_ble_eq_true rfl) (Nat.le_of_ble_eq_true rfl) rfl ?_
  refine c_newRow (n := 40) (by omega) (by omega) ⟨by omega, by omega⟩ (fun K3 R3 V3 n3 g3 v3 z3 => ?_)
  show gX l E _ 36 [some (ga O)] [ga (O + 4), ga O] (K3, R3, V3) _ _
  have hk3 := n3.1 _ _ hk2
  have hl3 := n3.2.1
  refine gX_pR 2 dX0_init_36 fdX0_24 fpX0_24 rfl rfl hk3 ?_
  refine gX_vret dX0_init_39 rfl ?_
  exact hQ _ _ _ ⟨(n0.1.trans ((n1.1.trans n2.1).trans n3.1)), by omega, fun x hx => ⟨by rw [gup_ne (by omega), (n3.2.2 x (by omega)).1, gup_ne (by omega), (n2.2.2 x (by omega)).1, gup_ne (by omega), (n1.2.2 x (by omega)).1, (n0.2.2 x hx).1], by rw [(n3.2.2 x (by omega)).2, (n2.2.2 x (by omega)).2, (n1.2.2 x (by omega)).2, (n0.2.2 x hx).2]⟩⟩ ⟨hk3, (n2.1.trans n3.1) _ _ g1, by rw [gup_k (by decide), (n3.2.2 O (by omega)).1, gup_k (by decide), (n2.2.2 O (by omega)).1]; exact gup_s, by rw [gup_k (by decide), (n3.2.2 O (by omega)).1]; exact gup_s, gup_s, (g2.mo n3.1 (by rw [gup_ne (by omega), (n3.2.2 (O + 2) (by omega)).1, gup_ne (by omega)])), (g3.mo (kE.rf K3) (by rw [gup_ne (by omega)]))⟩
set_option maxRecDepth 4000 in
theorem c_newHand (hl : (K.length : Int) = O) (hO : O < 900000) (hQ : ∀ K' R' V', nE K R V K' R' V' O 9 → hdK K' R' O → hdIs V' O [] [] [] (List.replicate 6 (-1)) (-1) (-1) → Q none (K', R', V')) : gC l E (d + 3) iX4_init [ga O] (gadd (K, R, V) (.inl 4)) Q := by
  refine gC_of kX4_init (ls := [some (ga O)]) rfl (Nat.le_of_ble_eq_true rfl) ?_
  obtain ⟨K0, R0, V0, em, hk0, n0, z0⟩ := gadd_ex R V (.inl 4) hl
  rw [em]
  have hO0 : 0 ≤ O := by omega
  have hl0 := n0.2.1
  refine gX_aloadn dX4_init_0 rfl ?_
  refine gX_objInit dX4_init_1 lkX4_3 (by omega) (Nat.le_of_ble_eq_true rfl) (by constructor <;> (show _ ≤ _; simp only [gFm, gRm]; omega)) ?_
  refine gX_aloadn dX4_init_4 rfl ?_
  refine gX_new (ci := 5) (a := (O + 1)) dX4_init_5 nwX4_9 (show K0.length + 1 < 1000000 by omega) (show (O + 1) = ((K0.length : Nat) : Int) by omega) rfl (Nat.le_of_ble_eq_true rfl) (Nat.le_of_ble_eq_true rfl) ?_
  refine gX_dup dX4_init_8 rfl ?_
  refine gX_iconst dX4_init_9 ⟨by decide, by decide⟩ ?_
  refine gX_init (J := iX6_init) (av := [gi 4]) (a := (O + 1)) (st := [ga (O + 1), ga O]) dX4_init_10 lkX4_11 kX6_init rfl rfl vX6_init (gFit_m (by decide)) (by omega) rfl (Nat.le_of_ble_eq_true rfl) (Nat.le_of_ble_eq_true rfl) (Nat.le_of_ble_eq_true rfl) rfl ?_
  refine c_newRow (n := 4) (by omega) (by omega) ⟨by omega, by omega⟩ (fun K1 R1 V1 n1 g1 v1 z1 => ?_)
  show gX l E _ 13 [some (ga O)] [ga (O + 1), ga O] (K1, R1, V1) _ _
  have hk1 := n1.1 _ _ hk0
  have hl1 := n1.2.1
  refine gX_pR 0 dX4_init_13 fdX4_14 fpX4_14 rfl rfl hk1 ?_
  refine gX_aloadn dX4_init_16 rfl ?_
  refine gX_new (ci := 5) (a := (O + 3)) dX4_init_17 nwX4_9 (show K1.length + 1 < 1000000 by omega) (show (O + 3) = ((K1.length : Nat) : Int) by omega) rfl (Nat.le_of_ble_eq_true rfl) (Nat.le_of_ble_eq_true rfl) ?_
  refine gX_dup dX4_init_20 rfl ?_
  refine gX_iconst dX4_init_21 ⟨by decide, by decide⟩ ?_
  refine gX_init (J := iX6_init) (av := [gi 4]) (a := (O + 3)) (st := [ga (O + 3), ga O]) dX4_init_22 lkX4_11 kX6_init rfl rfl vX6_init (gFit_m (by decide)) (by omega) rfl (Nat.le_of_ble_eq_true rfl) (Nat.le_of_ble_eq_true rfl) (Nat.le_of_ble_eq_true rfl) rfl ?_
  refine c_newRow (n := 4) (by omega) (by omega) ⟨by omega, by omega⟩ (fun K2 R2 V2 n2 g2 v2 z2 => ?_)
  show gX l E _ 25 [some (ga O)] [ga (O + 3), ga O] (K2, R2, V2) _ _
  have hk2 := n2.1 _ _ hk1
  have hl2 := n2.2.1
  refine gX_pR 1 dX4_init_25 fdX4_20 fpX4_20 rfl rfl hk2 ?_
  refine gX_aloadn dX4_init_28 rfl ?_
  refine gX_new (ci := 5) (a := (O + 5)) dX4_init_29 nwX4_9 (show K2.length + 1 < 1000000 by omega) (show (O + 5) = ((K2.length : Nat) : Int) by omega) rfl (Nat.le_of_ble_eq_true rfl) (Nat.le_of_ble_eq_true rfl) ?_
  refine gX_dup dX4_init_32 rfl ?_
  refine gX_iconst dX4_init_33 ⟨by decide, by decide⟩ ?_
  refine gX_init (J := iX6_init) (av := [gi 4]) (a := (O + 5)) (st := [ga (O + 5), ga O]) dX4_init_34 lkX4_11 kX6_init rfl rfl vX6_init (gFit_m (by decide)) (by omega) rfl (Nat.le_of_ble_eq_true rfl) (Nat.le_of_ble_eq_true rfl) (Nat.le_of_ble_eq_true rfl) rfl ?_
  refine c_newRow (n := 4) (by omega) (by omega) ⟨by omega, by omega⟩ (fun K3 R3 V3 n3 g3 v3 z3 => ?_)
  show gX l E _ 37 [some (ga O)] [ga (O + 5), ga O] (K3, R3, V3) _ _
  have hk3 := n3.1 _ _ hk2
  have hl3 := n3.2.1
  refine gX_pR 2 dX4_init_37 fdX4_23 fpX4_23 rfl rfl hk3 ?_
  refine gX_aloadn dX4_init_40 rfl ?_
  refine gX_new (ci := 5) (a := (O + 7)) dX4_init_41 nwX4_9 (show K3.length + 1 < 1000000 by omega) (show (O + 7) = ((K3.length : Nat) : Int) by omega) rfl (Nat.le_of_ble_eq_true rfl) (Nat.le_of_ble_eq_true rfl) ?_
  refine gX_dup dX4_init_44 rfl ?_
  refine gX_bipush dX4_init_45 (by decide) ⟨by decide, by decide⟩ ?_
  refine gX_init (J := iX6_init) (av := [gi 6]) (a := (O + 7)) (st := [ga (O + 7), ga O]) dX4_init_47 lkX4_11 kX6_init rfl rfl vX6_init (gFit_m (by decide)) (by omega) rfl (Nat.le_of_ble_eq_true rfl) (Nat.le_of_ble_eq_true rfl) (Nat.le_of_ble_eq_true rfl) rfl ?_
  refine c_newRow (n := 6) (by omega) (by omega) ⟨by omega, by omega⟩ (fun K4 R4 V4 n4 g4 v4 z4 => ?_)
  show gX l E _ 50 [some (ga O)] [ga (O + 7), ga O] (K4, R4, V4) _ _
  have hk4 := n4.1 _ _ hk3
  have hl4 := n4.2.1
  refine gX_pR 3 dX4_init_50 fdX4_26 fpX4_26 rfl rfl hk4 ?_
  refine gX_aloadn dX4_init_53 rfl ?_
  refine gX_iconst dX4_init_54 ⟨by decide, by decide⟩ ?_
  refine gX_pI 4 dX4_init_55 fdX4_29 fpX4_29 rfl (Or.inl rfl) hk4 ?_
  refine gX_aloadn dX4_init_58 rfl ?_
  refine gX_iconst dX4_init_59 ⟨by decide, by decide⟩ ?_
  refine gX_pI 5 dX4_init_60 fdX4_33 fpX4_33 rfl (Or.inl rfl) hk4 ?_
  refine gX_aloadn dX4_init_63 rfl ?_
  refine gX_gR 3 dX4_init_64 fdX4_26 rfl rfl hk4 (gup_s) ?_
  refine gX_bipush dX4_init_67 (by decide) ⟨by decide, by decide⟩ ?_
  refine gX_iconst dX4_init_69 ⟨by decide, by decide⟩ ?_
  refine gX_virt (J := iX6_fill) (av := [gi 6, gi (-1)]) (a := (O + 7)) (st := []) dX4_init_70 lkX4_36 kX6_fill vX6_fill (gFit_m (by decide)) g4.1 rfl rfl (Nat.le_of_ble_eq_true rfl) (Nat.zero_le _) (Nat.zero_le _) rfl ?_
  refine q_Row_fill (g4.mo (kE.rf K4) (by rw [gup_ne (by omega)])) (by omega) (by omega) (fun V5 hx5 hf5 => ?_)
  show gX l E _ 73 [some (ga O)] [] (K4, gup R4 O 3 (O + 7), V5) _ _
  refine gX_vret dX4_init_73 rfl ?_
  exact hQ _ _ V5 ⟨n0.1.trans (((n1.1.trans n2.1).trans n3.1).trans n4.1), by omega, fun x hx => ⟨by rw [gup_ne (by omega), (n4.2.2 x (by omega)).1, gup_ne (by omega), (n3.2.2 x (by omega)).1, gup_ne (by omega), (n2.2.2 x (by omega)).1, gup_ne (by omega), (n1.2.2 x (by omega)).1, (n0.2.2 x hx).1], by rw [hf5 x (by omega) (by omega), gup_ne (by omega), gup_ne (by omega), (n4.2.2 x (by omega)).2, (n3.2.2 x (by omega)).2, (n2.2.2 x (by omega)).2, (n1.2.2 x (by omega)).2, (n0.2.2 x hx).2]⟩⟩ ⟨hk4, by rw [gup_k (by decide), (n4.2.2 O (by omega)).1, gup_k (by decide), (n3.2.2 O (by omega)).1, gup_k (by decide), (n2.2.2 O (by omega)).1]; exact gup_s, by rw [gup_k (by decide), (n4.2.2 O (by omega)).1, gup_k (by decide), (n3.2.2 O (by omega)).1]; exact gup_s, by rw [gup_k (by decide), (n4.2.2 O (by omega)).1]; exact gup_s, gup_s, (g1.mo ((n2.1.trans n3.1).trans n4.1) (by rw [gup_ne (by omega), (n4.2.2 (O + 1) (by omega)).1, gup_ne (by omega), (n3.2.2 (O + 1) (by omega)).1, gup_ne (by omega), (n2.2.2 (O + 1) (by omega)).1, gup_ne (by omega)])), (g2.mo (n3.1.trans n4.1) (by rw [gup_ne (by omega), (n4.2.2 (O + 3) (by omega)).1, gup_ne (by omega), (n3.2.2 (O + 3) (by omega)).1, gup_ne (by omega)])), (g3.mo n4.1 (by rw [gup_ne (by omega), (n4.2.2 (O + 5) (by omega)).1, gup_ne (by omega)])), (g4.mo (kE.rf K4) (by rw [gup_ne (by omega)]))⟩ ⟨⟨by rw [hf5 _ (by omega) (by omega), gup_ne (by omega), gup_ne (by omega), (n4.2.2 (O + 1) (by omega)).2, (n3.2.2 (O + 1) (by omega)).2, (n2.2.2 (O + 1) (by omega)).2]; exact v1, Nat.zero_le _, fun j x hj => by simp at hj⟩, ⟨by rw [hf5 _ (by omega) (by omega), gup_ne (by omega), gup_ne (by omega), (n4.2.2 (O + 3) (by omega)).2, (n3.2.2 (O + 3) (by omega)).2]; exact v2, Nat.zero_le _, fun j x hj => by simp at hj⟩, ⟨by rw [hf5 _ (by omega) (by omega), gup_ne (by omega), gup_ne (by omega), (n4.2.2 (O + 5) (by omega)).2]; exact v3, Nat.zero_le _, fun j x hj => by simp at hj⟩, hx5, by rw [hf5 O (by omega) (by omega), gup_k (by decide)]; exact gup_s, by rw [hf5 O (by omega) (by omega)]; exact gup_s⟩
end NEW
