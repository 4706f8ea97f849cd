/-! Making: Book. Written by wip/whole/tools/mk_new2.py. -/
section NEW2
variable {l : Launch} {E : gE} {d : Nat} {K : List gK} {R V : Int → Int → Int} {O : Int} {Q : gQ}
set_option maxRecDepth 4000 in
theorem c_newBook (hl : (K.length : Int) = O) (hO : O < 800000) (hQ : ∀ K' R' V', nE K R V K' R' V' O 70 → bkK K' R' O → Q none (K', R', V')) : gC l E (d + 3) iX1_init [ga O] (gadd (K, R, V) (.inl 1)) Q := by
  refine gC_of kX1_init (ls := [some (ga O), none]) rfl (Nat.le_of_ble_eq_true rfl) ?_
  obtain ⟨K0, R0, V0, em, hk0, n0, z0⟩ := gadd_ex R V (.inl 1) hl
  rw [em]
  have hO0 : 0 ≤ O := by omega
  have hl0 := n0.2.1
  refine gX_aloadn dX1_init_0 rfl ?_
  refine gX_objInit dX1_init_1 lkX1_3 (by omega) (Nat.le_of_ble_eq_true rfl) (by constructor <;> (show _ ≤ _; simp only [gFm, gRm]; omega)) ?_
  refine gX_aloadn dX1_init_4 rfl ?_
  refine gX_new (ci := 5) (a := (O + 1)) dX1_init_5 nwX1_9 (show K0.length + 1 < 1000000 by omega) (show (O + 1) = ((K0.length : Nat) : Int) by omega) rfl (Nat.le_of_ble_eq_true rfl) (Nat.le_of_ble_eq_true rfl) ?_
  refine gX_dup dX1_init_8 rfl ?_
  refine gX_bipush dX1_init_9 (by decide) ⟨by decide, by decide⟩ ?_
  refine gX_init (J := iX6_init) (av := [gi 40]) (a := (O + 1)) (st := [ga (O + 1), ga O]) dX1_init_11 lkX1_11 kX6_init rfl rfl vX6_init (gFit_m (by decide)) (by omega) rfl (Nat.le_of_ble_eq_true rfl) (Nat.le_of_ble_eq_true rfl) (Nat.le_of_ble_eq_true rfl) rfl ?_
  refine c_newRow (n := 40) (by omega) (by omega) ⟨by omega, by omega⟩ (fun K1 R1 V1 n1 g1 v1 z1 => ?_)
  show gX l E _ 14 [some (ga O), none] [ga (O + 1), ga O] (K1, R1, V1) _ _
  have hk1 := n1.1 _ _ hk0
  have hl1 := n1.2.1
  refine gX_pR 0 dX1_init_14 fdX1_14 fpX1_14 rfl rfl hk1 ?_
  refine gX_aloadn dX1_init_17 rfl ?_
  refine gX_bipush dX1_init_18 (by decide) ⟨by decide, by decide⟩ ?_
  refine gX_newq (t := 4) (n := 20) (a := (O + 3)) (m2 := (K1 ++ [Sum.inr (4, 20)], gnw (gup R1 O 0 (O + 1)) K1.length (-1), gnw V1 K1.length 0)) dX1_init_20 rfl cwX1_20 (show K1.length + 1 < 1000000 by omega) rfl (by omega) (show (O + 3) = ((K1.length : Nat) : Int) by omega) rfl (Nat.le_of_ble_eq_true rfl) (Nat.le_of_ble_eq_true rfl) ?_
  obtain ⟨K2, R2, V2, ⟨e1, e2, e3⟩, g2, n2, z2⟩ := gadd_is (K := K1) (gup R1 O 0 (O + 1)) V1 (.inr (4, 20)) (a := O + 3) (by omega)
  rw [e1, e2, e3]
  clear e1 e2 e3
  have hk2 := n2.1 _ _ hk1
  have hl2 := n2.2.1
  refine gX_pR 1 dX1_init_23 fdX1_22 fpX1_22 rfl rfl hk2 ?_
  refine gX_aloadn dX1_init_26 rfl ?_
  refine gX_new (ci := 5) (a := (O + 4)) dX1_init_27 nwX1_9 (show K2.length + 1 < 1000000 by omega) (show (O + 4) = ((K2.length : Nat) : Int) by omega) rfl (Nat.le_of_ble_eq_true rfl) (Nat.le_of_ble_eq_true rfl) ?_
  refine gX_dup dX1_init_30 rfl ?_
  refine gX_bipush dX1_init_31 (by decide) ⟨by decide, by decide⟩ ?_
  refine gX_init (J := iX6_init) (av := [gi 20]) (a := (O + 4)) (st := [ga (O + 4), ga O]) dX1_init_33 lkX1_11 kX6_init rfl rfl vX6_init (gFit_m (by decide)) (by omega) rfl (Nat.le_of_ble_eq_true rfl) (Nat.le_of_ble_eq_true rfl) (Nat.le_of_ble_eq_true rfl) rfl ?_
  refine c_newRow (n := 20) (by omega) (by omega) ⟨by omega, by omega⟩ (fun K3 R3 V3 n3 g3 v3 z3 => ?_)
  show gX l E _ 36 [some (ga O), none] [ga (O + 4), ga O] (K3, R3, V3) _ _
  have hk3 := n3.1 _ _ hk2
  have hl3 := n3.2.1
  refine gX_pR 2 dX1_init_36 fdX1_26 fpX1_26 rfl rfl hk3 ?_
  refine gX_aloadn dX1_init_39 rfl ?_
  refine gX_new (ci := 5) (a := (O + 6)) dX1_init_40 nwX1_9 (show K3.length + 1 < 1000000 by omega) (show (O + 6) = ((K3.length : Nat) : Int) by omega) rfl (Nat.le_of_ble_eq_true rfl) (Nat.le_of_ble_eq_true rfl) ?_
  refine gX_dup dX1_init_43 rfl ?_
  refine gX_bipush dX1_init_44 (by decide) ⟨by decide, by decide⟩ ?_
  refine gX_init (J := iX6_init) (av := [gi 6]) (a := (O + 6)) (st := [ga (O + 6), ga O]) dX1_init_46 lkX1_11 kX6_init rfl rfl vX6_init (gFit_m (by decide)) (by omega) rfl (Nat.le_of_ble_eq_true rfl) (Nat.le_of_ble_eq_true rfl) (Nat.le_of_ble_eq_true rfl) rfl ?_
  refine c_newRow (n := 6) (by omega) (by omega) ⟨by omega, by omega⟩ (fun K4 R4 V4 n4 g4 v4 z4 => ?_)
  show gX l E _ 49 [some (ga O), none] [ga (O + 6), ga O] (K4, R4, V4) _ _
  have hk4 := n4.1 _ _ hk3
  have hl4 := n4.2.1
  refine gX_pR 3 dX1_init_49 fdX1_29 fpX1_29 rfl rfl hk4 ?_
  refine gX_aloadn dX1_init_52 rfl ?_
  refine gX_new (ci := 5) (a := (O + 8)) dX1_init_53 nwX1_9 (show K4.length + 1 < 1000000 by omega) (show (O + 8) = ((K4.length : Nat) : Int) by omega) rfl (Nat.le_of_ble_eq_true rfl) (Nat.le_of_ble_eq_true rfl) ?_
  refine gX_dup dX1_init_56 rfl ?_
  refine gX_bipush dX1_init_57 (by decide) ⟨by decide, by decide⟩ ?_
  refine gX_init (J := iX6_init) (av := [gi 6]) (a := (O + 8)) (st := [ga (O + 8), ga O]) dX1_init_59 lkX1_11 kX6_init rfl rfl vX6_init (gFit_m (by decide)) (by omega) rfl (Nat.le_of_ble_eq_true rfl) (Nat.le_of_ble_eq_true rfl) (Nat.le_of_ble_eq_true rfl) rfl ?_
  refine c_newRow (n := 6) (by omega) (by omega) ⟨by omega, by omega⟩ (fun K5 R5 V5 n5 g5 v5 z5 => ?_)
  show gX l E _ 62 [some (ga O), none] [ga (O + 8), ga O] (K5, R5, V5) _ _
  have hk5 := n5.1 _ _ hk4
  have hl5 := n5.2.1
  refine gX_pR 4 dX1_init_62 fdX1_32 fpX1_32 rfl rfl hk5 ?_
  refine gX_aloadn dX1_init_65 rfl ?_
  refine gX_iconst dX1_init_66 ⟨by decide, by decide⟩ ?_
  refine gX_pI 5 dX1_init_67 fdX1_35 fpX1_35 rfl (Or.inl rfl) hk5 ?_
  refine gX_aloadn dX1_init_70 rfl ?_
  refine gX_iconst dX1_init_71 ⟨by decide, by decide⟩ ?_
  refine gX_pI 6 dX1_init_72 fdX1_39 fpX1_39 rfl (Or.inl rfl) hk5 ?_
  refine gX_aloadn dX1_init_75 rfl ?_
  refine gX_iconst dX1_init_76 ⟨by decide, by decide⟩ ?_
  refine gX_pI 7 dX1_init_77 fdX1_42 fpX1_42 rfl (Or.inl rfl) hk5 ?_
  refine gX_iconst dX1_init_80 ⟨by decide, by decide⟩ ?_
  refine gX_istoren dX1_init_81 (show (1 : Nat) < 2 from by decide) (ls2 := [some (ga O), some (gi 0)]) rfl ?_
  have lp : ∀ (jj : Nat) (i : Int) (K6 : List gK) (R6 : Int → Int → Int) (V6 : Int → Int → Int) (bc bs : Nat), (20 : Int) - i < (jj : Int) → 0 ≤ i → i ≤ 20 → (K6.length : Int) = O + 10 + 3 * i → kE K5 K6 → (∀ x, x < O + 10 → x ≠ O + 3 → R6 x = (gup R5 O 4 (O + 8)) x ∧ V6 x = (gup (gup (gup V5 O 5 0) O 6 (-1)) O 7 (-1)) x) → (∀ g, 0 ≤ g → g < i → R6 (O + 3) g = O + 10 + 3 * g ∧ glK K6 R6 (O + 10 + 3 * g)) → 3 * (20 - i.toNat) ≤ bc → 708 * (20 - i.toNat) ≤ bs → gX l E (gFm E (d + 3) iX1_init Q) 82 [some (ga O), some (gi i)] [] (K6, R6, V6) bc bs := by
    intro jj
    induction jj with
    | zero =>
      intro i K6 R6 V6 bc bs hj i0 i1 hl6 k6 f6 q6 hb1 hb2
      exfalso; omega
    | succ jj ih =>
      intro i K6 R6 V6 bc bs hj i0 i1 hl6 k6 f6 q6 hb1 hb2
      have hr1 : R6 O 1 = O + 3 := by rw [(f6 O (by omega) (by omega)).1]; exact (by rw [gup_k (by decide), (n5.2.2 O (by omega)).1, gup_k (by decide), (n4.2.2 O (by omega)).1, gup_k (by decide), (n3.2.2 O (by omega)).1]; exact gup_s)
      refine gX_iloadn dX1_init_82 rfl ?_
      refine gX_aloadn dX1_init_83 rfl ?_
      refine gX_gR 1 dX1_init_84 fdX1_22 rfl rfl (k6 _ _ hk5) hr1 ?_
      refine gX_alen dX1_init_87 (k6 _ _ (((n3.1.trans n4.1).trans n5.1) _ _ g2)) (by decide) (by omega) ?_
      refine gX_icmpge (tgt := 110) dX1_init_88 (by decide) (fun w1 => ?_) (fun w1 => ?_)
      · refine gX_vret dX1_init_110 rfl ?_
        exact hQ K6 R6 V6 ⟨n0.1.trans (((((n1.1.trans n2.1).trans n3.1).trans n4.1).trans n5.1).trans k6), by omega, fun x hx => ⟨by rw [(f6 x (by omega) (by omega)).1, gup_ne (by omega), (n5.2.2 x (by omega)).1, gup_ne (by omega), (n4.2.2 x (by omega)).1, gup_ne (by omega), (n3.2.2 x (by omega)).1, gup_ne (by omega), (n2.2.2 x (by omega)).1, gup_ne (by omega), (n1.2.2 x (by omega)).1, (n0.2.2 x hx).1], by rw [(f6 x (by omega) (by omega)).2, gup_ne (by omega), gup_ne (by omega), gup_ne (by omega), (n5.2.2 x (by omega)).2, (n4.2.2 x (by omega)).2, (n3.2.2 x (by omega)).2, (n2.2.2 x (by omega)).2, (n1.2.2 x (by omega)).2, (n0.2.2 x hx).2]⟩⟩ ⟨k6 _ _ hk5, by rw [(f6 O (by omega) (by omega)).1]; exact (by rw [gup_k (by decide), (n5.2.2 O (by omega)).1, gup_k (by decide), (n4.2.2 O (by omega)).1, gup_k (by decide), (n3.2.2 O (by omega)).1, gup_k (by decide), (n2.2.2 O (by omega)).1]; exact gup_s), by rw [(f6 O (by omega) (by omega)).1]; exact (by rw [gup_k (by decide), (n5.2.2 O (by omega)).1, gup_k (by decide), (n4.2.2 O (by omega)).1, gup_k (by decide), (n3.2.2 O (by omega)).1]; exact gup_s), by rw [(f6 O (by omega) (by omega)).1]; exact (by rw [gup_k (by decide), (n5.2.2 O (by omega)).1, gup_k (by decide), (n4.2.2 O (by omega)).1]; exact gup_s), by rw [(f6 O (by omega) (by omega)).1]; exact (by rw [gup_k (by decide), (n5.2.2 O (by omega)).1]; exact gup_s), by rw [(f6 O (by omega) (by omega)).1]; exact (gup_s), (g1.mo ((((n2.1.trans n3.1).trans n4.1).trans n5.1).trans k6) (by rw [(f6 (O + 1) (by omega) (by omega)).1, gup_ne (by omega), (n5.2.2 (O + 1) (by omega)).1, gup_ne (by omega), (n4.2.2 (O + 1) (by omega)).1, gup_ne (by omega), (n3.2.2 (O + 1) (by omega)).1, gup_ne (by omega), (n2.2.2 (O + 1) (by omega)).1, gup_ne (by omega)])), k6 _ _ (((n3.1.trans n4.1).trans n5.1) _ _ g2), (g3.mo ((n4.1.trans n5.1).trans k6) (by rw [(f6 (O + 4) (by omega) (by omega)).1, gup_ne (by omega), (n5.2.2 (O + 4) (by omega)).1, gup_ne (by omega), (n4.2.2 (O + 4) (by omega)).1, gup_ne (by omega)])), (g4.mo (n5.1.trans k6) (by rw [(f6 (O + 6) (by omega) (by omega)).1, gup_ne (by omega), (n5.2.2 (O + 6) (by omega)).1, gup_ne (by omega)])), (g5.mo ((kE.rf K5).trans k6) (by rw [(f6 (O + 8) (by omega) (by omega)).1, gup_ne (by omega)])), fun g g0 g1 => q6 g g0 (by omega)⟩
      · refine gX_aloadn dX1_init_91 rfl ?_
        refine gX_gR 1 dX1_init_92 fdX1_22 rfl rfl (k6 _ _ hk5) hr1 ?_
        refine gX_iloadn dX1_init_95 rfl ?_
        refine gX_new (ci := 3) (a := (O + 10 + 3 * i)) dX1_init_96 nwX1_20 (show K6.length + 1 < 1000000 by omega) (show (O + 10 + 3 * i) = ((K6.length : Nat) : Int) by omega) rfl (show (1 : Nat) ≤ bc by omega) (show (6 : Nat) ≤ bs by omega) ?_
        refine gX_dup dX1_init_99 rfl ?_
        refine gX_init (J := iX3_init) (av := []) (a := (O + 10 + 3 * i)) (st := [ga (O + 10 + 3 * i), gi i, ga (O + 3)]) dX1_init_100 lkX1_45 kX3_init rfl rfl vX3_init (gFit_m (by decide)) (by omega) rfl (Nat.le_of_ble_eq_true rfl) (show (2 : Nat) ≤ bc - 1 by omega) (show (702 : Nat) ≤ bs - 6 by omega) rfl ?_
        refine c_newGloss (by omega) (by omega) (fun K7 R7 V7 n7 g7 => ?_)
        show gX l E _ 103 [some (ga O), some (gi i)] [ga (O + 10 + 3 * i), gi i, ga (O + 3)] (K7, R7, V7) _ _
        have hl7 := n7.2.1
        refine gX_aast dX1_init_103 (n7.1 _ _ (k6 _ _ (((n3.1.trans n4.1).trans n5.1) _ _ g2))) rfl (by omega) (by omega) g7.1 ?_
        refine gX_iinc dX1_init_104 rfl (show (1 : Nat) < 2 from by decide) ⟨by omega, by omega⟩ (ls2 := [some (ga O), some (gi (i + 1))]) rfl ?_
        refine gX_goto (tgt := 82) dX1_init_107 (by decide) ?_
        refine ih (i + 1) K7 _ V7 _ _ (by omega) (by omega) (by omega) (by omega) (k6.trans n7.1) (fun x x0 x1 => ⟨by rw [gup_ne x1, (n7.2.2 x (by omega)).1]; exact (f6 x x0 x1).1, by rw [(n7.2.2 x (by omega)).2]; exact (f6 x x0 x1).2⟩) (fun g g0 g1 => ?_) (show _ ≤ bc - 1 - 2 by omega) (show _ ≤ bs - 6 - 702 by omega)
        by_cases eg : g = i
        · subst eg
          exact ⟨gup_s, g7.mo (kE.rf _) (fun x x0 x1 => by rw [gup_ne (by omega)])⟩
        · refine ⟨by rw [gup_k eg, (n7.2.2 (O + 3) (by omega)).1]; exact (q6 g g0 (by omega)).1, (q6 g g0 (by omega)).2.mo n7.1 (fun x x0 x1 => by rw [gup_ne (by omega), (n7.2.2 x (by omega)).1])⟩
  refine lp 21 0 K5 _ _ _ _ (by omega) (by omega) (by omega) (by omega) (kE.rf _) (fun x _ _ => ⟨rfl, rfl⟩) (fun g g0 g1 => by omega) (Nat.le_of_ble_eq_true rfl) (Nat.le_of_ble_eq_true rfl)
end NEW2
