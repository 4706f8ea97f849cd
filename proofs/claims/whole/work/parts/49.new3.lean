/-! Making: GlossedBooks. Written by wip/whole/tools/mk_new3.py. -/
def ghE : gbH := ([], [], [], List.replicate 6 (-1), -1, -1)
def gbE : gbS := ([], [ghE, ghE, ghE, ghE], [], -1)
section NEW3
variable {l : Launch} {E : gE} {d : Nat} {K : List gK} {R V : Int → Int → Int} {O : Int} {Q : gQ}
theorem gbE_hd {K : List gK} {R V : Int → Int → Int} (h : ∀ g : Int, 0 ≤ g → g < 4 → R 2 g = 739 + 9 * g ∧ hdK K R (739 + 9 * g) ∧ hd1 V (739 + 9 * g) ghE) (k : Nat) (q : gbH) (hk : gbE.2.1[k]? = some q) : hd1 V (739 + 9 * k) q := by
  have hkl : k < 4 := (List.getElem?_eq_some_iff.mp hk).1
  have hq : q = ghE := by
    have : ∀ k : Nat, k < 4 → gbE.2.1[k]? = some ghE := fun k hk => by
      have : k = 0 ∨ k = 1 ∨ k = 2 ∨ k = 3 := by omega
      rcases this with e | e | e | e <;> subst e <;> rfl
    rw [this k hkl] at hk
    cases hk
    rfl
  rw [hq]
  exact (h k (by omega) (by omega)).2.2
set_option maxRecDepth 4000 in
theorem c_newGB (hl : (K.length : Int) = O) (eO : O = 0) (hQ : ∀ K' R' V', (K'.length : Int) = 775 → gbK K' R' 3 12 15 16 19 25 32 37 → gbIs V' gbE → Q none (K', R', V')) : gC l E (d + 4) iX11_init [ga O] (gadd (K, R, V) (.inl 10)) Q := by
  refine gC_of kX11_init (ls := [some (ga O), none]) rfl (Nat.le_of_ble_eq_true rfl) ?_
  obtain ⟨K0, R0, V0, em, hk0, n0, z0⟩ := gadd_ex R V (.inl 10) hl
  rw [em]
  have hO0 : 0 ≤ O := by omega
  have hl0 := n0.2.1
  refine gX_aloadn dX11_init_0 rfl ?_
  refine gX_objInit dX11_init_1 lkX11_1 (by omega) (Nat.le_of_ble_eq_true rfl) (by constructor <;> (show _ ≤ _; simp only [gFm, gRm]; omega)) ?_
  refine gX_aloadn dX11_init_4 rfl ?_
  refine gX_bipush dX11_init_5 (by decide) ⟨by decide, by decide⟩ ?_
  refine gX_newq (t := 2) (n := 10) (a := (O + 1)) (m2 := (K0 ++ [Sum.inr (2, 10)], gnw R0 K0.length (-1), gnw V0 K0.length 0)) dX11_init_7 rfl cwX11_9 (show K0.length + 1 < 1000000 by omega) rfl (by omega) (show (O + 1) = ((K0.length : Nat) : Int) by omega) rfl (Nat.le_of_ble_eq_true rfl) (Nat.le_of_ble_eq_true rfl) ?_
  obtain ⟨K1, R1, V1, ⟨e1, e2, e3⟩, g1, n1, z1⟩ := gadd_is (K := K0) R0 V0 (.inr (2, 10)) (a := O + 1) (by omega)
  rw [e1, e2, e3]
  clear e1 e2 e3
  have hk1 := n1.1 _ _ hk0
  have hl1 := n1.2.1
  refine gX_pR 0 dX11_init_10 fdX11_11 fpX11_11 rfl rfl hk1 ?_
  refine gX_aloadn dX11_init_13 rfl ?_
  refine gX_iconst dX11_init_14 ⟨by decide, by decide⟩ ?_
  refine gX_newq (t := 3) (n := 4) (a := (O + 2)) (m2 := (K1 ++ [Sum.inr (3, 4)], gnw (gup R1 O 0 (O + 1)) K1.length (-1), gnw V1 K1.length 0)) dX11_init_15 rfl cwX11_15 (show K1.length + 1 < 1000000 by omega) rfl (by omega) (show (O + 2) = ((K1.length : Nat) : Int) by omega) rfl (Nat.le_of_ble_eq_true rfl) (Nat.le_of_ble_eq_true rfl) ?_
  obtain ⟨K2, R2, V2, ⟨e1, e2, e3⟩, g2, n2, z2⟩ := gadd_is (K := K1) (gup R1 O 0 (O + 1)) V1 (.inr (3, 4)) (a := O + 2) (by omega)
  rw [e1, e2, e3]
  clear e1 e2 e3
  have hk2 := n2.1 _ _ hk1
  have hl2 := n2.2.1
  refine gX_pR 1 dX11_init_18 fdX11_17 fpX11_17 rfl rfl hk2 ?_
  refine gX_aloadn dX11_init_21 rfl ?_
  refine gX_new (ci := 4) (a := (O + 3)) dX11_init_22 nwX11_15 (show K2.length + 1 < 1000000 by omega) (show (O + 3) = ((K2.length : Nat) : Int) by omega) rfl (Nat.le_of_ble_eq_true rfl) (Nat.le_of_ble_eq_true rfl) ?_
  refine gX_dup dX11_init_25 rfl ?_
  refine gX_init (J := iX4_init) (av := []) (a := (O + 3)) (st := [ga (O + 3), ga O]) dX11_init_26 lkX11_21 kX4_init rfl rfl vX4_init (gFit_m (by decide)) (by omega) rfl (Nat.le_of_ble_eq_true rfl) (Nat.le_of_ble_eq_true rfl) (Nat.le_of_ble_eq_true rfl) rfl ?_
  refine c_newHand (by omega) (by omega) (fun K3 R3 V3 n3 g3 h3 => ?_)
  show gX l E _ 29 [some (ga O), none] [ga (O + 3), ga O] (K3, R3, V3) _ _
  have hk3 := n3.1 _ _ hk2
  have hl3 := n3.2.1
  refine gX_pR 2 dX11_init_29 fdX11_22 fpX11_22 rfl rfl hk3 ?_
  refine gX_aloadn dX11_init_32 rfl ?_
  refine gX_new (ci := 7) (a := (O + 12)) dX11_init_33 nwX11_26 (show K3.length + 1 < 1000000 by omega) (show (O + 12) = ((K3.length : Nat) : Int) by omega) rfl (Nat.le_of_ble_eq_true rfl) (Nat.le_of_ble_eq_true rfl) ?_
  refine gX_dup dX11_init_36 rfl ?_
  refine gX_init (J := iX8_init) (av := []) (a := (O + 12)) (st := [ga (O + 12), ga O]) dX11_init_37 lkX11_28 kX8_init rfl rfl vX8_init (gFit_m (by decide)) (by omega) rfl (Nat.le_of_ble_eq_true rfl) (Nat.le_of_ble_eq_true rfl) (Nat.le_of_ble_eq_true rfl) rfl ?_
  refine c_newTold (by omega) (by omega) (fun K4 R4 V4 n4 g4 t4 => ?_)
  show gX l E _ 40 [some (ga O), none] [ga (O + 12), ga O] (K4, R4, V4) _ _
  have hk4 := n4.1 _ _ hk3
  have hl4 := n4.2.1
  refine gX_pR 3 dX11_init_40 fdX11_29 fpX11_29 rfl rfl hk4 ?_
  refine gX_aloadn dX11_init_43 rfl ?_
  refine gX_new (ci := 2) (a := (O + 15)) dX11_init_44 nwX11_33 (show K4.length + 1 < 1000000 by omega) (show (O + 15) = ((K4.length : Nat) : Int) by omega) rfl (Nat.le_of_ble_eq_true rfl) (Nat.le_of_ble_eq_true rfl) ?_
  refine gX_dup dX11_init_47 rfl ?_
  refine gX_init (J := iX2_init) (av := []) (a := (O + 15)) (st := [ga (O + 15), ga O]) dX11_init_48 lkX11_35 kX2_init rfl rfl vX2_init (gFit_m (by decide)) (by omega) rfl (Nat.le_of_ble_eq_true rfl) (Nat.le_of_ble_eq_true rfl) (Nat.le_of_ble_eq_true rfl) rfl ?_
  refine c_newReader (by omega) (by omega) (fun K5 R5 V5 n5 g5  => ?_)
  show gX l E _ 51 [some (ga O), none] [ga (O + 15), ga O] (K5, R5, V5) _ _
  have hk5 := n5.1 _ _ hk4
  have hl5 := n5.2.1
  refine gX_pR 4 dX11_init_51 fdX11_36 fpX11_36 rfl rfl hk5 ?_
  refine gX_aloadn dX11_init_54 rfl ?_
  refine gX_new (ci := 6) (a := (O + 16)) dX11_init_55 nwX11_40 (show K5.length + 1 < 1000000 by omega) (show (O + 16) = ((K5.length : Nat) : Int) by omega) rfl (Nat.le_of_ble_eq_true rfl) (Nat.le_of_ble_eq_true rfl) ?_
  refine gX_dup dX11_init_58 rfl ?_
  refine gX_init (J := iX7_init) (av := []) (a := (O + 16)) (st := [ga (O + 16), ga O]) dX11_init_59 lkX11_42 kX7_init rfl rfl vX7_init (gFit_m (by decide)) (by omega) rfl (Nat.le_of_ble_eq_true rfl) (Nat.le_of_ble_eq_true rfl) (Nat.le_of_ble_eq_true rfl) rfl ?_
  refine c_newScribe (by omega) (by omega) (fun K6 R6 V6 n6 g6  => ?_)
  show gX l E _ 62 [some (ga O), none] [ga (O + 16), ga O] (K6, R6, V6) _ _
  have hk6 := n6.1 _ _ hk5
  have hl6 := n6.2.1
  refine gX_pR 5 dX11_init_62 fdX11_43 fpX11_43 rfl rfl hk6 ?_
  refine gX_aloadn dX11_init_65 rfl ?_
  refine gX_new (ci := 0) (a := (O + 19)) dX11_init_66 nwX11_47 (show K6.length + 1 < 1000000 by omega) (show (O + 19) = ((K6.length : Nat) : Int) by omega) rfl (Nat.le_of_ble_eq_true rfl) (Nat.le_of_ble_eq_true rfl) ?_
  refine gX_dup dX11_init_69 rfl ?_
  refine gX_init (J := iX0_init) (av := []) (a := (O + 19)) (st := [ga (O + 19), ga O]) dX11_init_70 lkX11_49 kX0_init rfl rfl vX0_init (gFit_m (by decide)) (by omega) rfl (Nat.le_of_ble_eq_true rfl) (Nat.le_of_ble_eq_true rfl) (Nat.le_of_ble_eq_true rfl) rfl ?_
  refine c_newAlign (by omega) (by omega) (fun K7 R7 V7 n7 g7  => ?_)
  show gX l E _ 73 [some (ga O), none] [ga (O + 19), ga O] (K7, R7, V7) _ _
  have hk7 := n7.1 _ _ hk6
  have hl7 := n7.2.1
  refine gX_pR 6 dX11_init_73 fdX11_50 fpX11_50 rfl rfl hk7 ?_
  refine gX_aloadn dX11_init_76 rfl ?_
  refine gX_new (ci := 9) (a := (O + 25)) dX11_init_77 nwX11_54 (show K7.length + 1 < 1000000 by omega) (show (O + 25) = ((K7.length : Nat) : Int) by omega) rfl (Nat.le_of_ble_eq_true rfl) (Nat.le_of_ble_eq_true rfl) ?_
  refine gX_dup dX11_init_80 rfl ?_
  refine gX_init (J := iX10_init) (av := []) (a := (O + 25)) (st := [ga (O + 25), ga O]) dX11_init_81 lkX11_56 kX10_init rfl rfl vX10_init (gFit_m (by decide)) (by omega) rfl (Nat.le_of_ble_eq_true rfl) (Nat.le_of_ble_eq_true rfl) (Nat.le_of_ble_eq_true rfl) rfl ?_
  refine c_newWit (by omega) (by omega) (fun K8 R8 V8 n8 g8  => ?_)
  show gX l E _ 84 [some (ga O), none] [ga (O + 25), ga O] (K8, R8, V8) _ _
  have hk8 := n8.1 _ _ hk7
  have hl8 := n8.2.1
  refine gX_pR 7 dX11_init_84 fdX11_57 fpX11_57 rfl rfl hk8 ?_
  refine gX_aloadn dX11_init_87 rfl ?_
  refine gX_new (ci := 8) (a := (O + 32)) dX11_init_88 nwX11_61 (show K8.length + 1 < 1000000 by omega) (show (O + 32) = ((K8.length : Nat) : Int) by omega) rfl (Nat.le_of_ble_eq_true rfl) (Nat.le_of_ble_eq_true rfl) ?_
  refine gX_dup dX11_init_91 rfl ?_
  refine gX_init (J := iX9_init) (av := []) (a := (O + 32)) (st := [ga (O + 32), ga O]) dX11_init_92 lkX11_63 kX9_init rfl rfl vX9_init (gFit_m (by decide)) (by omega) rfl (Nat.le_of_ble_eq_true rfl) (Nat.le_of_ble_eq_true rfl) (Nat.le_of_ble_eq_true rfl) rfl ?_
  refine c_newTree (by omega) (by omega) (fun K9 R9 V9 n9 g9  => ?_)
  show gX l E _ 95 [some (ga O), none] [ga (O + 32), ga O] (K9, R9, V9) _ _
  have hk9 := n9.1 _ _ hk8
  have hl9 := n9.2.1
  refine gX_pR 8 dX11_init_95 fdX11_64 fpX11_64 rfl rfl hk9 ?_
  refine gX_aloadn dX11_init_98 rfl ?_
  refine gX_new (ci := 5) (a := (O + 37)) dX11_init_99 nwX11_68 (show K9.length + 1 < 1000000 by omega) (show (O + 37) = ((K9.length : Nat) : Int) by omega) rfl (Nat.le_of_ble_eq_true rfl) (Nat.le_of_ble_eq_true rfl) ?_
  refine gX_dup dX11_init_102 rfl ?_
  refine gX_sipush dX11_init_103 (by decide) ⟨by decide, by decide⟩ ?_
  refine gX_init (J := iX6_init) (av := [gi 700]) (a := (O + 37)) (st := [ga (O + 37), ga O]) dX11_init_106 lkX11_70 kX6_init rfl rfl vX6_init (gFit_m (by decide)) (by omega) rfl (Nat.le_of_ble_eq_true rfl) (Nat.le_of_ble_eq_true rfl) (Nat.le_of_ble_eq_true rfl) rfl ?_
  refine c_newRow (n := 700) (by omega) (by omega) ⟨by omega, by omega⟩ (fun K10 R10 V10 n10 g10 v10 z10 => ?_)
  show gX l E _ 109 [some (ga O), none] [ga (O + 37), ga O] (K10, R10, V10) _ _
  have hk10 := n10.1 _ _ hk9
  have hl10 := n10.2.1
  refine gX_pR 9 dX11_init_109 fdX11_73 fpX11_73 rfl rfl hk10 ?_
  refine gX_aloadn dX11_init_112 rfl ?_
  refine gX_iconst dX11_init_113 ⟨by decide, by decide⟩ ?_
  refine gX_pI 10 dX11_init_114 fdX11_77 fpX11_77 rfl (Or.inl rfl) hk10 ?_
  refine gX_aloadn dX11_init_117 rfl ?_
  refine gX_iconst dX11_init_118 ⟨by decide, by decide⟩ ?_
  refine gX_pI 11 dX11_init_119 fdX11_81 fpX11_81 rfl (Or.inl rfl) hk10 ?_
  refine gX_iconst dX11_init_122 ⟨by decide, by decide⟩ ?_
  refine gX_istoren dX11_init_123 (show (1 : Nat) < 2 from by decide) (ls2 := [some (ga O), some (gi 0)]) rfl ?_
  have lp : ∀ (jj : Nat) (i : Int) (K11 : List gK) (R11 : Int → Int → Int) (V11 : Int → Int → Int) (bc bs : Nat), (10 : Int) - i < (jj : Int) → 0 ≤ i → i ≤ 10 → (K11.length : Int) = O + 39 + 70 * i → kE K10 K11 → (∀ x, x < O + 39 → x ≠ O + 1 → R11 x = (gup R10 O 9 (O + 37)) x ∧ V11 x = (gup (gup V10 O 10 0) O 11 (-1)) x) → (∀ g, 0 ≤ g → g < i → R11 (O + 1) g = O + 39 + 70 * g ∧ bkK K11 R11 (O + 39 + 70 * g)) → 70 * (10 - i.toNat) + 40 ≤ bc → 17000 * (10 - i.toNat) + 20000 ≤ bs → gX l E (gFm E (d + 4) iX11_init Q) 124 [some (ga O), some (gi i)] [] (K11, R11, V11) bc bs := by
    intro jj
    induction jj with
    | zero =>
      intro i K11 R11 V11 bc bs hj i0 i1 hl11 k11 f11 q11 hb1 hb2
      exfalso; omega
    | succ jj ih =>
      intro i K11 R11 V11 bc bs hj i0 i1 hl11 k11 f11 q11 hb1 hb2
      have hr0 : R11 O 0 = O + 1 := by rw [(f11 O (by omega) (by omega)).1]; exact (by rw [gup_k (by decide), (n10.2.2 O (by omega)).1, gup_k (by decide), (n9.2.2 O (by omega)).1, gup_k (by decide), (n8.2.2 O (by omega)).1, gup_k (by decide), (n7.2.2 O (by omega)).1, gup_k (by decide), (n6.2.2 O (by omega)).1, gup_k (by decide), (n5.2.2 O (by omega)).1, gup_k (by decide), (n4.2.2 O (by omega)).1, gup_k (by decide), (n3.2.2 O (by omega)).1, gup_k (by decide), (n2.2.2 O (by omega)).1]; exact gup_s)
      refine gX_iloadn dX11_init_124 rfl ?_
      refine gX_aloadn dX11_init_125 rfl ?_
      refine gX_gR 0 dX11_init_126 fdX11_11 rfl rfl (k11 _ _ hk10) hr0 ?_
      refine gX_alen dX11_init_129 (k11 _ _ (((((((((n2.1.trans n3.1).trans n4.1).trans n5.1).trans n6.1).trans n7.1).trans n8.1).trans n9.1).trans n10.1) _ _ g1)) (by decide) (by omega) ?_
      refine gX_icmpge (tgt := 152) dX11_init_130 (by decide) (fun w1 => ?_) (fun w1 => ?_)
      · refine gX_iconst dX11_init_152 ⟨by decide, by decide⟩ ?_
        refine gX_istoren dX11_init_153 (show (1 : Nat) < 2 from by decide) (ls2 := [some (ga O), some (gi 0)]) rfl ?_
        have lh : ∀ (jj : Nat) (i : Int) (K13 : List gK) (R13 : Int → Int → Int) (V13 : Int → Int → Int) (bc bs : Nat), (4 : Int) - i < (jj : Int) → 0 ≤ i → i ≤ 4 → (K13.length : Int) = O + 739 + 9 * i → kE K11 K13 → (∀ x, x < O + 739 → x ≠ O + 2 → R13 x = R11 x ∧ V13 x = V11 x) → (∀ g, 0 ≤ g → g < i → R13 (O + 2) g = O + 739 + 9 * g ∧ hdK K13 R13 (O + 739 + 9 * g) ∧ hd1 V13 (O + 739 + 9 * g) ghE) → 9 * (4 - i.toNat) ≤ bc → 2814 * (4 - i.toNat) ≤ bs → gX l E (gFm E (d + 4) iX11_init Q) 154 [some (ga O), some (gi i)] [] (K13, R13, V13) bc bs := by
          intro jj
          induction jj with
          | zero =>
            intro i K13 R13 V13 bc bs hj i0 i1 hl13 k13 f13 q13 hb1 hb2
            exfalso; omega
          | succ jj ih =>
            intro i K13 R13 V13 bc bs hj i0 i1 hl13 k13 f13 q13 hb1 hb2
            have hr1 : R13 O 1 = O + 2 := by rw [(f13 O (by omega) (by omega)).1]; exact (by rw [(f11 O (by omega) (by omega)).1]; exact (by rw [gup_k (by decide), (n10.2.2 O (by omega)).1, gup_k (by decide), (n9.2.2 O (by omega)).1, gup_k (by decide), (n8.2.2 O (by omega)).1, gup_k (by decide), (n7.2.2 O (by omega)).1, gup_k (by decide), (n6.2.2 O (by omega)).1, gup_k (by decide), (n5.2.2 O (by omega)).1, gup_k (by decide), (n4.2.2 O (by omega)).1, gup_k (by decide), (n3.2.2 O (by omega)).1]; exact gup_s))
            refine gX_iloadn dX11_init_154 rfl ?_
            refine gX_aloadn dX11_init_155 rfl ?_
            refine gX_gR 1 dX11_init_156 fdX11_17 rfl rfl (k13 _ _ (k11 _ _ hk10)) hr1 ?_
            refine gX_alen dX11_init_159 (k13 _ _ (k11 _ _ ((((((((n3.1.trans n4.1).trans n5.1).trans n6.1).trans n7.1).trans n8.1).trans n9.1).trans n10.1) _ _ g2))) (by decide) (by omega) ?_
            refine gX_icmpge (tgt := 182) dX11_init_160 (by decide) (fun w1 => ?_) (fun w1 => ?_)
            · refine gX_vret dX11_init_182 rfl ?_
              have e0 : kd (K13, R13, fun _ _ => 0) O = some (.inl 10) := k13 _ _ (k11 _ _ hk10)
              have e1 : kd (K13, R13, fun _ _ => 0) (O + 1) = some (.inr (2, 10)) := k13 _ _ (k11 _ _ (((((((((n2.1.trans n3.1).trans n4.1).trans n5.1).trans n6.1).trans n7.1).trans n8.1).trans n9.1).trans n10.1) _ _ g1))
              have e2 : kd (K13, R13, fun _ _ => 0) (O + 2) = some (.inr (3, 4)) := k13 _ _ (k11 _ _ ((((((((n3.1.trans n4.1).trans n5.1).trans n6.1).trans n7.1).trans n8.1).trans n9.1).trans n10.1) _ _ g2))
              have s3 : hdK K13 R13 (O + 3) := (g3.mo ((((((((n4.1.trans n5.1).trans n6.1).trans n7.1).trans n8.1).trans n9.1).trans n10.1).trans k11).trans k13) (fun x x0 x1 => by rw [(f13 x (by omega) (by omega)).1, (f11 x (by omega) (by omega)).1, gup_ne (by omega), (n10.2.2 x (by omega)).1, gup_ne (by omega), (n9.2.2 x (by omega)).1, gup_ne (by omega), (n8.2.2 x (by omega)).1, gup_ne (by omega), (n7.2.2 x (by omega)).1, gup_ne (by omega), (n6.2.2 x (by omega)).1, gup_ne (by omega), (n5.2.2 x (by omega)).1, gup_ne (by omega), (n4.2.2 x (by omega)).1, gup_ne (by omega)]))
              have s4 : toK K13 R13 (O + 12) := (g4.mo (((((((n5.1.trans n6.1).trans n7.1).trans n8.1).trans n9.1).trans n10.1).trans k11).trans k13) (fun x x0 x1 => by rw [(f13 x (by omega) (by omega)).1, (f11 x (by omega) (by omega)).1, gup_ne (by omega), (n10.2.2 x (by omega)).1, gup_ne (by omega), (n9.2.2 x (by omega)).1, gup_ne (by omega), (n8.2.2 x (by omega)).1, gup_ne (by omega), (n7.2.2 x (by omega)).1, gup_ne (by omega), (n6.2.2 x (by omega)).1, gup_ne (by omega), (n5.2.2 x (by omega)).1, gup_ne (by omega)]))
              have s5 : rdK K13 R13 (O + 15) := (((((((n6.1.trans n7.1).trans n8.1).trans n9.1).trans n10.1).trans k11).trans k13) _ _ g5)
              have s6 : scK K13 R13 (O + 16) := (g6.mo (((((n7.1.trans n8.1).trans n9.1).trans n10.1).trans k11).trans k13) (fun x x0 x1 => by rw [(f13 x (by omega) (by omega)).1, (f11 x (by omega) (by omega)).1, gup_ne (by omega), (n10.2.2 x (by omega)).1, gup_ne (by omega), (n9.2.2 x (by omega)).1, gup_ne (by omega), (n8.2.2 x (by omega)).1, gup_ne (by omega), (n7.2.2 x (by omega)).1, gup_ne (by omega)]))
              have s7 : gAl K13 R13 (O + 19) := (g7.mo ((((n8.1.trans n9.1).trans n10.1).trans k11).trans k13) (fun x x0 x1 => by rw [(f13 x (by omega) (by omega)).1, (f11 x (by omega) (by omega)).1, gup_ne (by omega), (n10.2.2 x (by omega)).1, gup_ne (by omega), (n9.2.2 x (by omega)).1, gup_ne (by omega), (n8.2.2 x (by omega)).1, gup_ne (by omega)]))
              have s8 : wtK K13 R13 (O + 25) := (g8.mo (((n9.1.trans n10.1).trans k11).trans k13) (fun x x0 x1 => by rw [(f13 x (by omega) (by omega)).1, (f11 x (by omega) (by omega)).1, gup_ne (by omega), (n10.2.2 x (by omega)).1, gup_ne (by omega), (n9.2.2 x (by omega)).1, gup_ne (by omega)]))
              have s9 : trK K13 R13 (O + 32) := (g9.mo ((n10.1.trans k11).trans k13) (fun x x0 x1 => by rw [(f13 x (by omega) (by omega)).1, (f11 x (by omega) (by omega)).1, gup_ne (by omega), (n10.2.2 x (by omega)).1, gup_ne (by omega)]))
              have s10 : gRow K13 R13 (O + 37) 700 := (g10.mo (((kE.rf K10).trans k11).trans k13) (by rw [(f13 (O + 37) (by omega) (by omega)).1, (f11 (O + 37) (by omega) (by omega)).1, gup_ne (by omega)]))
              have x1 : R13 O 0 = O + 1 := by rw [(f13 O (by omega) (by omega)).1, (f11 O (by omega) (by omega)).1]; exact (by rw [gup_k (by decide), (n10.2.2 O (by omega)).1, gup_k (by decide), (n9.2.2 O (by omega)).1, gup_k (by decide), (n8.2.2 O (by omega)).1, gup_k (by decide), (n7.2.2 O (by omega)).1, gup_k (by decide), (n6.2.2 O (by omega)).1, gup_k (by decide), (n5.2.2 O (by omega)).1, gup_k (by decide), (n4.2.2 O (by omega)).1, gup_k (by decide), (n3.2.2 O (by omega)).1, gup_k (by decide), (n2.2.2 O (by omega)).1]; exact gup_s)
              have x2 : R13 O 1 = O + 2 := by rw [(f13 O (by omega) (by omega)).1, (f11 O (by omega) (by omega)).1]; exact (by rw [gup_k (by decide), (n10.2.2 O (by omega)).1, gup_k (by decide), (n9.2.2 O (by omega)).1, gup_k (by decide), (n8.2.2 O (by omega)).1, gup_k (by decide), (n7.2.2 O (by omega)).1, gup_k (by decide), (n6.2.2 O (by omega)).1, gup_k (by decide), (n5.2.2 O (by omega)).1, gup_k (by decide), (n4.2.2 O (by omega)).1, gup_k (by decide), (n3.2.2 O (by omega)).1]; exact gup_s)
              have x3 : R13 O 2 = O + 3 := by rw [(f13 O (by omega) (by omega)).1, (f11 O (by omega) (by omega)).1]; exact (by rw [gup_k (by decide), (n10.2.2 O (by omega)).1, gup_k (by decide), (n9.2.2 O (by omega)).1, gup_k (by decide), (n8.2.2 O (by omega)).1, gup_k (by decide), (n7.2.2 O (by omega)).1, gup_k (by decide), (n6.2.2 O (by omega)).1, gup_k (by decide), (n5.2.2 O (by omega)).1, gup_k (by decide), (n4.2.2 O (by omega)).1]; exact gup_s)
              have x4 : R13 O 3 = O + 12 := by rw [(f13 O (by omega) (by omega)).1, (f11 O (by omega) (by omega)).1]; exact (by rw [gup_k (by decide), (n10.2.2 O (by omega)).1, gup_k (by decide), (n9.2.2 O (by omega)).1, gup_k (by decide), (n8.2.2 O (by omega)).1, gup_k (by decide), (n7.2.2 O (by omega)).1, gup_k (by decide), (n6.2.2 O (by omega)).1, gup_k (by decide), (n5.2.2 O (by omega)).1]; exact gup_s)
              have x5 : R13 O 4 = O + 15 := by rw [(f13 O (by omega) (by omega)).1, (f11 O (by omega) (by omega)).1]; exact (by rw [gup_k (by decide), (n10.2.2 O (by omega)).1, gup_k (by decide), (n9.2.2 O (by omega)).1, gup_k (by decide), (n8.2.2 O (by omega)).1, gup_k (by decide), (n7.2.2 O (by omega)).1, gup_k (by decide), (n6.2.2 O (by omega)).1]; exact gup_s)
              have x6 : R13 O 5 = O + 16 := by rw [(f13 O (by omega) (by omega)).1, (f11 O (by omega) (by omega)).1]; exact (by rw [gup_k (by decide), (n10.2.2 O (by omega)).1, gup_k (by decide), (n9.2.2 O (by omega)).1, gup_k (by decide), (n8.2.2 O (by omega)).1, gup_k (by decide), (n7.2.2 O (by omega)).1]; exact gup_s)
              have x7 : R13 O 6 = O + 19 := by rw [(f13 O (by omega) (by omega)).1, (f11 O (by omega) (by omega)).1]; exact (by rw [gup_k (by decide), (n10.2.2 O (by omega)).1, gup_k (by decide), (n9.2.2 O (by omega)).1, gup_k (by decide), (n8.2.2 O (by omega)).1]; exact gup_s)
              have x8 : R13 O 7 = O + 25 := by rw [(f13 O (by omega) (by omega)).1, (f11 O (by omega) (by omega)).1]; exact (by rw [gup_k (by decide), (n10.2.2 O (by omega)).1, gup_k (by decide), (n9.2.2 O (by omega)).1]; exact gup_s)
              have x9 : R13 O 8 = O + 32 := by rw [(f13 O (by omega) (by omega)).1, (f11 O (by omega) (by omega)).1]; exact (by rw [gup_k (by decide), (n10.2.2 O (by omega)).1]; exact gup_s)
              have x10 : R13 O 9 = O + 37 := by rw [(f13 O (by omega) (by omega)).1, (f11 O (by omega) (by omega)).1]; exact (gup_s)
              have sb : ∀ b : Int, 0 ≤ b → b < 10 → R13 (O + 1) b = O + 39 + 70 * b ∧ bkK K13 R13 (O + 39 + 70 * b) := fun b b0 b1 => ⟨by rw [(f13 (O + 1) (by omega) (by omega)).1]; exact (q11 b b0 (by omega)).1, (q11 b b0 (by omega)).2.mo k13 (fun x y0 y1 => (f13 x (by omega) (by omega)).1)⟩
              have sh : ∀ g : Int, 0 ≤ g → g < 4 → R13 (O + 2) g = O + 739 + 9 * g ∧ hdK K13 R13 (O + 739 + 9 * g) ∧ hd1 V13 (O + 739 + 9 * g) ghE := fun g g0 g1 => q13 g g0 (by omega)
              have y10 : V13 O 10 = 0 := by rw [(f13 O (by omega) (by omega)).2, (f11 O (by omega) (by omega)).2, gup_k (by decide)]; exact gup_s
              have y11 : V13 O 11 = -1 := by rw [(f13 O (by omega) (by omega)).2, (f11 O (by omega) (by omega)).2]; exact gup_s
              have yt : rIs V13 (O + 13) 320 [] := ⟨by rw [(f13 (O + 13) (by omega) (by omega)).2, (f11 (O + 13) (by omega) (by omega)).2, gup_ne (by omega), gup_ne (by omega), (n10.2.2 (O + 13) (by omega)).2, (n9.2.2 (O + 13) (by omega)).2, (n8.2.2 (O + 13) (by omega)).2, (n7.2.2 (O + 13) (by omega)).2, (n6.2.2 (O + 13) (by omega)).2, (n5.2.2 (O + 13) (by omega)).2, show O + 13 = O + 12 + 1 by omega]; exact t4, Nat.zero_le _, fun j x hj => by simp at hj⟩
              subst eO
              simp only [Int.zero_add] at *
              exact hQ K13 R13 V13 (by omega) ⟨⟨rfl, rfl, rfl, rfl, rfl, rfl, rfl, rfl⟩, e0, ⟨x1, x2, x3, x4, x5, x6, x7, x8, x9, x10⟩, e1, e2, s3, s4, s5, s6, s7, s8, s9, s10, sb, fun h h0 h1 => ⟨(sh h h0 h1).1, (sh h h0 h1).2.1⟩⟩ ⟨y10, by decide, y11, fun k q hk => absurd hk (by simp [gbE]), rfl, fun k h hk => gbE_hd sh k h hk, yt⟩
            · refine gX_aloadn dX11_init_163 rfl ?_
              refine gX_gR 1 dX11_init_164 fdX11_17 rfl rfl (k13 _ _ (k11 _ _ hk10)) hr1 ?_
              refine gX_iloadn dX11_init_167 rfl ?_
              refine gX_new (ci := 4) (a := (O + 739 + 9 * i)) dX11_init_168 nwX11_15 (show K13.length + 1 < 1000000 by omega) (show (O + 739 + 9 * i) = ((K13.length : Nat) : Int) by omega) rfl (show (1 : Nat) ≤ bc by omega) (show (6 : Nat) ≤ bs by omega) ?_
              refine gX_dup dX11_init_171 rfl ?_
              refine gX_init (J := iX4_init) (av := []) (a := (O + 739 + 9 * i)) (st := [ga (O + 739 + 9 * i), gi i, ga (O + 2)]) dX11_init_172 lkX11_21 kX4_init rfl rfl vX4_init (gFit_m (by decide)) (by omega) rfl (Nat.le_of_ble_eq_true rfl) (show (8 : Nat) ≤ bc - 1 by omega) (show (2808 : Nat) ≤ bs - 6 by omega) rfl ?_
              refine c_newHand (by omega) (by omega) (fun K14 R14 V14 n14 g14 e14 => ?_)
              show gX l E _ 175 [some (ga O), some (gi i)] [ga (O + 739 + 9 * i), gi i, ga (O + 2)] (K14, R14, V14) _ _
              have hl14 := n14.2.1
              refine gX_aast dX11_init_175 (n14.1 _ _ (k13 _ _ (k11 _ _ ((((((((n3.1.trans n4.1).trans n5.1).trans n6.1).trans n7.1).trans n8.1).trans n9.1).trans n10.1) _ _ g2)))) rfl (by omega) (by omega) g14.1 ?_
              refine gX_iinc dX11_init_176 rfl (show (1 : Nat) < 2 from by decide) ⟨by omega, by omega⟩ (ls2 := [some (ga O), some (gi (i + 1))]) rfl ?_
              refine gX_goto (tgt := 154) dX11_init_179 (by decide) ?_
              refine ih (i + 1) K14 _ V14 _ _ (by omega) (by omega) (by omega) (by omega) (k13.trans n14.1) (fun x x0 x1 => ⟨by rw [gup_ne x1, (n14.2.2 x (by omega)).1]; exact (f13 x x0 x1).1, by rw [(n14.2.2 x (by omega)).2]; exact (f13 x x0 x1).2⟩) (fun g g0 g1 => ?_) (show _ ≤ bc - 1 - 8 by omega) (show _ ≤ bs - 6 - 2808 by omega)
              by_cases eg : g = i
              · subst eg
                exact ⟨gup_s, g14.mo (kE.rf _) (fun x x0 x1 => by rw [gup_ne (by omega)]), e14⟩
              · refine ⟨by rw [gup_k eg, (n14.2.2 (O + 2) (by omega)).1]; exact (q13 g g0 (by omega)).1, (q13 g g0 (by omega)).2.1.mo n14.1 (fun x x0 x1 => by rw [gup_ne (by omega), (n14.2.2 x (by omega)).1]), (q13 g g0 (by omega)).2.2.kept (fun x x0 x1 => (n14.2.2 x (by omega)).2)⟩
        refine lh 5 0 K11 R11 V11 _ _ (by omega) (by omega) (by omega) (by omega) (kE.rf _) (fun x _ _ => ⟨rfl, rfl⟩) (fun g g0 g1 => by omega) (by omega) (by omega)
      · refine gX_aloadn dX11_init_133 rfl ?_
        refine gX_gR 0 dX11_init_134 fdX11_11 rfl rfl (k11 _ _ hk10) hr0 ?_
        refine gX_iloadn dX11_init_137 rfl ?_
        refine gX_new (ci := 1) (a := (O + 39 + 70 * i)) dX11_init_138 nwX11_9 (show K11.length + 1 < 1000000 by omega) (show (O + 39 + 70 * i) = ((K11.length : Nat) : Int) by omega) rfl (show (1 : Nat) ≤ bc by omega) (show (8 : Nat) ≤ bs by omega) ?_
        refine gX_dup dX11_init_141 rfl ?_
        refine gX_init (J := iX1_init) (av := []) (a := (O + 39 + 70 * i)) (st := [ga (O + 39 + 70 * i), gi i, ga (O + 1)]) dX11_init_142 lkX11_84 kX1_init rfl rfl vX1_init (gFit_m (by decide)) (by omega) rfl (Nat.le_of_ble_eq_true rfl) (show (69 : Nat) ≤ bc - 1 by omega) (show (16988 : Nat) ≤ bs - 8 by omega) rfl ?_
        refine c_newBook (by omega) (by omega) (fun K12 R12 V12 n12 g12 => ?_)
        show gX l E _ 145 [some (ga O), some (gi i)] [ga (O + 39 + 70 * i), gi i, ga (O + 1)] (K12, R12, V12) _ _
        have hl12 := n12.2.1
        refine gX_aast dX11_init_145 (n12.1 _ _ (k11 _ _ (((((((((n2.1.trans n3.1).trans n4.1).trans n5.1).trans n6.1).trans n7.1).trans n8.1).trans n9.1).trans n10.1) _ _ g1))) rfl (by omega) (by omega) g12.1 ?_
        refine gX_iinc dX11_init_146 rfl (show (1 : Nat) < 2 from by decide) ⟨by omega, by omega⟩ (ls2 := [some (ga O), some (gi (i + 1))]) rfl ?_
        refine gX_goto (tgt := 124) dX11_init_149 (by decide) ?_
        refine ih (i + 1) K12 _ V12 _ _ (by omega) (by omega) (by omega) (by omega) (k11.trans n12.1) (fun x x0 x1 => ⟨by rw [gup_ne x1, (n12.2.2 x (by omega)).1]; exact (f11 x x0 x1).1, by rw [(n12.2.2 x (by omega)).2]; exact (f11 x x0 x1).2⟩) (fun g g0 g1 => ?_) (show _ ≤ bc - 1 - 69 by omega) (show _ ≤ bs - 8 - 16988 by omega)
        by_cases eg : g = i
        · subst eg
          exact ⟨gup_s, g12.mo (kE.rf _) (fun x x0 x1 => by rw [gup_ne (by omega)])⟩
        · refine ⟨by rw [gup_k eg, (n12.2.2 (O + 1) (by omega)).1]; exact (q11 g g0 (by omega)).1, (q11 g g0 (by omega)).2.mo n12.1 (fun x x0 x1 => by rw [gup_ne (by omega), (n12.2.2 x (by omega)).1])⟩
  refine lp 11 0 K10 _ _ _ _ (by omega) (by omega) (by omega) (by omega) (kE.rf _) (fun x _ _ => ⟨rfl, rfl⟩) (fun g g0 g1 => by omega) (Nat.le_of_ble_eq_true rfl) (Nat.le_of_ble_eq_true rfl)
end NEW3
