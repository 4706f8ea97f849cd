/-! Making: the reference. Written by wip/whole/tools/mk_new4.py. -/
theorem mdT_a : ∀ j : Fin 43, ∀ p, mdT[(j : Nat)]? = some p → p.2.1 = 776 + ((j : Nat) : Int) := by
  intro j p h
  have : ∀ j : Fin 43, (mdT[(j : Nat)]?).map (fun p => p.2.1) = some (776 + ((j : Nat) : Int)) := by decide +kernel
  have h2 := this j
  rw [h] at h2
  exact Option.some.inj h2
theorem mdT_f : ∀ i j : Fin 43, (i : Nat) < (j : Nat) → (mdT[(i : Nat)]?).map (fun p => p.1) ≠ (mdT[(j : Nat)]?).map (fun p => p.1) := by decide +kernel
/-- j arrays are made; F: how far faultPlace has been set -/
def mdP (K0 : List gK) (R0 V0 : Int → Int → Int) (j : Nat) (K : List gK) (R V : Int → Int → Int) : Prop := kd (K, z2, z2) 775 = some (.inl 11) ∧ (K.length : Int) = 776 + j ∧ (∀ i : Nat, i < j → ∀ p, mdT[i]? = some p → R 775 p.1 = p.2.1 ∧ kd (K, z2, z2) p.2.1 = some (.inr p.2.2)) ∧ kE K0 K ∧ (∀ x, x < 775 → R x = R0 x ∧ V x = V0 x) ∧ (∀ k, k ≠ 17 → V 775 k = 0) ∧ ∀ x : Int, 776 ≤ x → x < 776 + j → ∀ k, V x k = 0
theorem mdP_ex {K0 K : List gK} {R0 V0 R V : Int → Int → Int} {j : Nat} {f a : Int} {t n : Nat} (h : mdP K0 R0 V0 j K R V) (hj : j < 43) (he : mdT[j]? = some (f, a, t, n)) (ha : a = 776 + (j : Int)) : ∃ K1 R1 V1, (K ++ [Sum.inr (t, n)] = K1 ∧ gup (gnw R K.length (-1)) 775 f a = R1 ∧ gnw V K.length 0 = V1) ∧ mdP K0 R0 V0 (j + 1) K1 R1 V1 ∧ V1 775 17 = V 775 17 := by
  obtain ⟨h1, h2, h3, h4, h5, h6, h7⟩ := h
  refine ⟨_, _, _, ⟨rfl, rfl, rfl⟩, ⟨kE_app _ _ _ _ h1, by rw [List.length_append]; show ((K.length + 1 : Nat) : Int) = 776 + ((j + 1 : Nat) : Int); omega, fun i hi p hp => ?_, h4.trans (kE_app _ _), fun x hx => ⟨?_, ?_⟩, fun k hk => ?_, fun x x0 x1 k => ?_⟩, ?_⟩
  · by_cases e : i = j
    · subst e
      rw [he] at hp
      cases hp
      refine ⟨gup_s, ?_⟩
      show kd (K ++ [Sum.inr (t, n)], z2, z2) a = some (Sum.inr (t, n))
      exact kd_new (by omega)
    · have hp3 := h3 i (by omega) p hp
      have hne : p.1 ≠ f := fun z => by
        have := mdT_f ⟨i, by omega⟩ ⟨j, hj⟩ (by show i < j; omega)
        apply this
        show (mdT[i]?).map _ = (mdT[j]?).map _
        rw [hp, he]
        show some p.1 = some f
        rw [z]
      exact ⟨by rw [gup_k hne, gnw_o (by omega)]; exact hp3.1, kE_app _ _ _ _ hp3.2⟩
  · funext k
    rw [gup_ne (by omega), gnw_o (by omega), (h5 x hx).1]
  · funext k
    rw [gnw_o (by omega), (h5 x hx).2]
  · rw [gnw_o (by omega)]; exact h6 k hk
  · by_cases e : x = K.length
    · rw [e]; exact gnw_s
    · rw [gnw_o e]; exact h7 x x0 (by omega) k
  · rw [gnw_o (by omega)]
theorem mdP.k {K0 K : List gK} {R0 V0 R V : Int → Int → Int} (h : mdP K0 R0 V0 43 K R V) : mdK K R := by
  refine ⟨h.1, fun p hp => ?_⟩
  obtain ⟨i, hi⟩ := List.getElem?_of_mem hp
  have hl : i < 43 := (List.getElem?_eq_some_iff.mp hi).1
  exact h.2.2.1 i hl p hi
section NEW4
variable {l : Launch} {E : gE} {d : Nat} {K : List gK} {R V : Int → Int → Int} {Q : gQ}
theorem ghq_E {h : Int} (h0 : 0 ≤ h) (h1 : h < 4) : ghq gbE h = ghE := by
  have : h = 0 ∨ h = 1 ∨ h = 2 ∨ h = 3 := by omega
  rcases this with e | e | e | e <;> subst e <;> rfl
set_option maxRecDepth 8000 in
set_option maxHeartbeats 4000000 in
theorem m_new (hl : (K.length : Int) = 775) (hQ : ∀ K' R' V', (K'.length : Int) = 819 → kE K K' → mdK K' R' → (∀ x, x < 775 → R' x = R x ∧ V' x = V x) → mdIs V' gbE → Q none (K', R', V')) : gC l E (d + 2) iX12_init [ga 775] (gadd (K, R, V) (.inl 11)) Q := by
  refine gC_of kX12_init (ls := [some (ga 775), none]) rfl (Nat.le_of_ble_eq_true rfl) ?_
  obtain ⟨K0, R0, V0, em, hk0, n0, z0⟩ := gadd_ex R V (.inl 11) hl
  rw [em]
  have h0 : mdP K R V 0 K0 R0 V0 := ⟨hk0, by have := n0.2.1; omega, fun i hi => by omega, n0.1, fun x hx => n0.2.2 x hx, fun k _ => (z0 k).2, fun x x0 x1 => by omega⟩
  have l0 := h0.2.1
  refine gX_aloadn dX12_init_0 rfl ?_
  refine gX_objInit dX12_init_1 lkX12_1 (by omega) (Nat.le_of_ble_eq_true rfl) (by constructor <;> (show _ ≤ _; simp only [gFm, gRm]; omega)) ?_
  refine gX_aloadn dX12_init_4 rfl ?_
  refine gX_bipush dX12_init_5 (by decide) ⟨by decide, by decide⟩ ?_
  refine gX_newa (t := 0) (n := 11) (a := 776) (m2 := (K0 ++ [Sum.inr (0, 11)], gnw R0 K0.length (-1), gnw V0 K0.length 0)) dX12_init_7 (Or.inl ⟨rfl, rfl⟩) ac_int (show K0.length + 1 < 1000000 by omega) rfl (by omega) (show 776 = ((K0.length : Nat) : Int) by omega) rfl (Nat.le_of_ble_eq_true rfl) (Nat.le_of_ble_eq_true rfl) ?_
  refine gX_pR 1 dX12_init_9 fdX12_7 fpX12_7 rfl rfl (kE_app _ _ _ _ h0.1) ?_
  obtain ⟨K1, R1, V1, ⟨e1, e2, e3⟩, h1, f1⟩ := mdP_ex h0 (by decide) (show mdT[0]? = some (1, 776, 0, 11) from rfl) (by decide)
  rw [e1, e2, e3]
  clear e1 e2 e3
  have l1 := h1.2.1
  refine gX_aloadn dX12_init_12 rfl ?_
  refine gX_sipush dX12_init_13 (by decide) ⟨by decide, by decide⟩ ?_
  refine gX_newa (t := 0) (n := 440) (a := 777) (m2 := (K1 ++ [Sum.inr (0, 440)], gnw R1 K1.length (-1), gnw V1 K1.length 0)) dX12_init_16 (Or.inl ⟨rfl, rfl⟩) ac_int (show K1.length + 1 < 1000000 by omega) rfl (by omega) (show 777 = ((K1.length : Nat) : Int) by omega) rfl (Nat.le_of_ble_eq_true rfl) (Nat.le_of_ble_eq_true rfl) ?_
  refine gX_pR 2 dX12_init_18 fdX12_13 fpX12_13 rfl rfl (kE_app _ _ _ _ h1.1) ?_
  obtain ⟨K2, R2, V2, ⟨e1, e2, e3⟩, h2, f2⟩ := mdP_ex h1 (by decide) (show mdT[1]? = some (2, 777, 0, 440) from rfl) (by decide)
  rw [e1, e2, e3]
  clear e1 e2 e3
  have l2 := h2.2.1
  refine gX_aloadn dX12_init_21 rfl ?_
  refine gX_sipush dX12_init_22 (by decide) ⟨by decide, by decide⟩ ?_
  refine gX_newa (t := 0) (n := 440) (a := 778) (m2 := (K2 ++ [Sum.inr (0, 440)], gnw R2 K2.length (-1), gnw V2 K2.length 0)) dX12_init_25 (Or.inl ⟨rfl, rfl⟩) ac_int (show K2.length + 1 < 1000000 by omega) rfl (by omega) (show 778 = ((K2.length : Nat) : Int) by omega) rfl (Nat.le_of_ble_eq_true rfl) (Nat.le_of_ble_eq_true rfl) ?_
  refine gX_pR 3 dX12_init_27 fdX12_16 fpX12_16 rfl rfl (kE_app _ _ _ _ h2.1) ?_
  obtain ⟨K3, R3, V3, ⟨e1, e2, e3⟩, h3, f3⟩ := mdP_ex h2 (by decide) (show mdT[2]? = some (3, 778, 0, 440) from rfl) (by decide)
  rw [e1, e2, e3]
  clear e1 e2 e3
  have l3 := h3.2.1
  refine gX_aloadn dX12_init_30 rfl ?_
  refine gX_bipush dX12_init_31 (by decide) ⟨by decide, by decide⟩ ?_
  refine gX_newa (t := 0) (n := 11) (a := 779) (m2 := (K3 ++ [Sum.inr (0, 11)], gnw R3 K3.length (-1), gnw V3 K3.length 0)) dX12_init_33 (Or.inl ⟨rfl, rfl⟩) ac_int (show K3.length + 1 < 1000000 by omega) rfl (by omega) (show 779 = ((K3.length : Nat) : Int) by omega) rfl (Nat.le_of_ble_eq_true rfl) (Nat.le_of_ble_eq_true rfl) ?_
  refine gX_pR 4 dX12_init_35 fdX12_19 fpX12_19 rfl rfl (kE_app _ _ _ _ h3.1) ?_
  obtain ⟨K4, R4, V4, ⟨e1, e2, e3⟩, h4, f4⟩ := mdP_ex h3 (by decide) (show mdT[3]? = some (4, 779, 0, 11) from rfl) (by decide)
  rw [e1, e2, e3]
  clear e1 e2 e3
  have l4 := h4.2.1
  refine gX_aloadn dX12_init_38 rfl ?_
  refine gX_sipush dX12_init_39 (by decide) ⟨by decide, by decide⟩ ?_
  refine gX_newa (t := 0) (n := 220) (a := 780) (m2 := (K4 ++ [Sum.inr (0, 220)], gnw R4 K4.length (-1), gnw V4 K4.length 0)) dX12_init_42 (Or.inl ⟨rfl, rfl⟩) ac_int (show K4.length + 1 < 1000000 by omega) rfl (by omega) (show 780 = ((K4.length : Nat) : Int) by omega) rfl (Nat.le_of_ble_eq_true rfl) (Nat.le_of_ble_eq_true rfl) ?_
  refine gX_pR 5 dX12_init_44 fdX12_22 fpX12_22 rfl rfl (kE_app _ _ _ _ h4.1) ?_
  obtain ⟨K5, R5, V5, ⟨e1, e2, e3⟩, h5, f5⟩ := mdP_ex h4 (by decide) (show mdT[4]? = some (5, 780, 0, 220) from rfl) (by decide)
  rw [e1, e2, e3]
  clear e1 e2 e3
  have l5 := h5.2.1
  refine gX_aloadn dX12_init_47 rfl ?_
  refine gX_sipush dX12_init_48 (by decide) ⟨by decide, by decide⟩ ?_
  refine gX_newa (t := 0) (n := 220) (a := 781) (m2 := (K5 ++ [Sum.inr (0, 220)], gnw R5 K5.length (-1), gnw V5 K5.length 0)) dX12_init_51 (Or.inl ⟨rfl, rfl⟩) ac_int (show K5.length + 1 < 1000000 by omega) rfl (by omega) (show 781 = ((K5.length : Nat) : Int) by omega) rfl (Nat.le_of_ble_eq_true rfl) (Nat.le_of_ble_eq_true rfl) ?_
  refine gX_pR 6 dX12_init_53 fdX12_25 fpX12_25 rfl rfl (kE_app _ _ _ _ h5.1) ?_
  obtain ⟨K6, R6, V6, ⟨e1, e2, e3⟩, h6, f6⟩ := mdP_ex h5 (by decide) (show mdT[5]? = some (6, 781, 0, 220) from rfl) (by decide)
  rw [e1, e2, e3]
  clear e1 e2 e3
  have l6 := h6.2.1
  refine gX_aloadn dX12_init_56 rfl ?_
  refine gX_sipush dX12_init_57 (by decide) ⟨by decide, by decide⟩ ?_
  refine gX_newa (t := 0) (n := 220) (a := 782) (m2 := (K6 ++ [Sum.inr (0, 220)], gnw R6 K6.length (-1), gnw V6 K6.length 0)) dX12_init_60 (Or.inl ⟨rfl, rfl⟩) ac_int (show K6.length + 1 < 1000000 by omega) rfl (by omega) (show 782 = ((K6.length : Nat) : Int) by omega) rfl (Nat.le_of_ble_eq_true rfl) (Nat.le_of_ble_eq_true rfl) ?_
  refine gX_pR 7 dX12_init_62 fdX12_28 fpX12_28 rfl rfl (kE_app _ _ _ _ h6.1) ?_
  obtain ⟨K7, R7, V7, ⟨e1, e2, e3⟩, h7, f7⟩ := mdP_ex h6 (by decide) (show mdT[6]? = some (7, 782, 0, 220) from rfl) (by decide)
  rw [e1, e2, e3]
  clear e1 e2 e3
  have l7 := h7.2.1
  refine gX_aloadn dX12_init_65 rfl ?_
  refine gX_sipush dX12_init_66 (by decide) ⟨by decide, by decide⟩ ?_
  refine gX_newa (t := 0) (n := 220) (a := 783) (m2 := (K7 ++ [Sum.inr (0, 220)], gnw R7 K7.length (-1), gnw V7 K7.length 0)) dX12_init_69 (Or.inl ⟨rfl, rfl⟩) ac_int (show K7.length + 1 < 1000000 by omega) rfl (by omega) (show 783 = ((K7.length : Nat) : Int) by omega) rfl (Nat.le_of_ble_eq_true rfl) (Nat.le_of_ble_eq_true rfl) ?_
  refine gX_pR 8 dX12_init_71 fdX12_31 fpX12_31 rfl rfl (kE_app _ _ _ _ h7.1) ?_
  obtain ⟨K8, R8, V8, ⟨e1, e2, e3⟩, h8, f8⟩ := mdP_ex h7 (by decide) (show mdT[7]? = some (8, 783, 0, 220) from rfl) (by decide)
  rw [e1, e2, e3]
  clear e1 e2 e3
  have l8 := h8.2.1
  refine gX_aloadn dX12_init_74 rfl ?_
  refine gX_sipush dX12_init_75 (by decide) ⟨by decide, by decide⟩ ?_
  refine gX_newa (t := 0) (n := 1760) (a := 784) (m2 := (K8 ++ [Sum.inr (0, 1760)], gnw R8 K8.length (-1), gnw V8 K8.length 0)) dX12_init_78 (Or.inl ⟨rfl, rfl⟩) ac_int (show K8.length + 1 < 1000000 by omega) rfl (by omega) (show 784 = ((K8.length : Nat) : Int) by omega) rfl (Nat.le_of_ble_eq_true rfl) (Nat.le_of_ble_eq_true rfl) ?_
  refine gX_pR 9 dX12_init_80 fdX12_34 fpX12_34 rfl rfl (kE_app _ _ _ _ h8.1) ?_
  obtain ⟨K9, R9, V9, ⟨e1, e2, e3⟩, h9, f9⟩ := mdP_ex h8 (by decide) (show mdT[8]? = some (9, 784, 0, 1760) from rfl) (by decide)
  rw [e1, e2, e3]
  clear e1 e2 e3
  have l9 := h9.2.1
  refine gX_aloadn dX12_init_83 rfl ?_
  refine gX_sipush dX12_init_84 (by decide) ⟨by decide, by decide⟩ ?_
  refine gX_newa (t := 0) (n := 1760) (a := 785) (m2 := (K9 ++ [Sum.inr (0, 1760)], gnw R9 K9.length (-1), gnw V9 K9.length 0)) dX12_init_87 (Or.inl ⟨rfl, rfl⟩) ac_int (show K9.length + 1 < 1000000 by omega) rfl (by omega) (show 785 = ((K9.length : Nat) : Int) by omega) rfl (Nat.le_of_ble_eq_true rfl) (Nat.le_of_ble_eq_true rfl) ?_
  refine gX_pR 10 dX12_init_89 fdX12_37 fpX12_37 rfl rfl (kE_app _ _ _ _ h9.1) ?_
  obtain ⟨K10, R10, V10, ⟨e1, e2, e3⟩, h10, f10⟩ := mdP_ex h9 (by decide) (show mdT[9]? = some (10, 785, 0, 1760) from rfl) (by decide)
  rw [e1, e2, e3]
  clear e1 e2 e3
  have l10 := h10.2.1
  refine gX_aloadn dX12_init_92 rfl ?_
  refine gX_bipush dX12_init_93 (by decide) ⟨by decide, by decide⟩ ?_
  refine gX_newa (t := 0) (n := 11) (a := 786) (m2 := (K10 ++ [Sum.inr (0, 11)], gnw R10 K10.length (-1), gnw V10 K10.length 0)) dX12_init_95 (Or.inl ⟨rfl, rfl⟩) ac_int (show K10.length + 1 < 1000000 by omega) rfl (by omega) (show 786 = ((K10.length : Nat) : Int) by omega) rfl (Nat.le_of_ble_eq_true rfl) (Nat.le_of_ble_eq_true rfl) ?_
  refine gX_pR 11 dX12_init_97 fdX12_40 fpX12_40 rfl rfl (kE_app _ _ _ _ h10.1) ?_
  obtain ⟨K11, R11, V11, ⟨e1, e2, e3⟩, h11, f11⟩ := mdP_ex h10 (by decide) (show mdT[10]? = some (11, 786, 0, 11) from rfl) (by decide)
  rw [e1, e2, e3]
  clear e1 e2 e3
  have l11 := h11.2.1
  refine gX_aloadn dX12_init_100 rfl ?_
  refine gX_bipush dX12_init_101 (by decide) ⟨by decide, by decide⟩ ?_
  refine gX_newa (t := 0) (n := 11) (a := 787) (m2 := (K11 ++ [Sum.inr (0, 11)], gnw R11 K11.length (-1), gnw V11 K11.length 0)) dX12_init_103 (Or.inl ⟨rfl, rfl⟩) ac_int (show K11.length + 1 < 1000000 by omega) rfl (by omega) (show 787 = ((K11.length : Nat) : Int) by omega) rfl (Nat.le_of_ble_eq_true rfl) (Nat.le_of_ble_eq_true rfl) ?_
  refine gX_pR 12 dX12_init_105 fdX12_43 fpX12_43 rfl rfl (kE_app _ _ _ _ h11.1) ?_
  obtain ⟨K12, R12, V12, ⟨e1, e2, e3⟩, h12, f12⟩ := mdP_ex h11 (by decide) (show mdT[11]? = some (12, 787, 0, 11) from rfl) (by decide)
  rw [e1, e2, e3]
  clear e1 e2 e3
  have l12 := h12.2.1
  refine gX_aloadn dX12_init_108 rfl ?_
  refine gX_bipush dX12_init_109 (by decide) ⟨by decide, by decide⟩ ?_
  refine gX_newa (t := 0) (n := 66) (a := 788) (m2 := (K12 ++ [Sum.inr (0, 66)], gnw R12 K12.length (-1), gnw V12 K12.length 0)) dX12_init_111 (Or.inl ⟨rfl, rfl⟩) ac_int (show K12.length + 1 < 1000000 by omega) rfl (by omega) (show 788 = ((K12.length : Nat) : Int) by omega) rfl (Nat.le_of_ble_eq_true rfl) (Nat.le_of_ble_eq_true rfl) ?_
  refine gX_pR 13 dX12_init_113 fdX12_46 fpX12_46 rfl rfl (kE_app _ _ _ _ h12.1) ?_
  obtain ⟨K13, R13, V13, ⟨e1, e2, e3⟩, h13, f13⟩ := mdP_ex h12 (by decide) (show mdT[12]? = some (13, 788, 0, 66) from rfl) (by decide)
  rw [e1, e2, e3]
  clear e1 e2 e3
  have l13 := h13.2.1
  refine gX_aloadn dX12_init_116 rfl ?_
  refine gX_bipush dX12_init_117 (by decide) ⟨by decide, by decide⟩ ?_
  refine gX_newa (t := 0) (n := 66) (a := 789) (m2 := (K13 ++ [Sum.inr (0, 66)], gnw R13 K13.length (-1), gnw V13 K13.length 0)) dX12_init_119 (Or.inl ⟨rfl, rfl⟩) ac_int (show K13.length + 1 < 1000000 by omega) rfl (by omega) (show 789 = ((K13.length : Nat) : Int) by omega) rfl (Nat.le_of_ble_eq_true rfl) (Nat.le_of_ble_eq_true rfl) ?_
  refine gX_pR 14 dX12_init_121 fdX12_49 fpX12_49 rfl rfl (kE_app _ _ _ _ h13.1) ?_
  obtain ⟨K14, R14, V14, ⟨e1, e2, e3⟩, h14, f14⟩ := mdP_ex h13 (by decide) (show mdT[13]? = some (14, 789, 0, 66) from rfl) (by decide)
  rw [e1, e2, e3]
  clear e1 e2 e3
  have l14 := h14.2.1
  refine gX_aloadn dX12_init_124 rfl ?_
  refine gX_sipush dX12_init_125 (by decide) ⟨by decide, by decide⟩ ?_
  refine gX_newa (t := 0) (n := 320) (a := 790) (m2 := (K14 ++ [Sum.inr (0, 320)], gnw R14 K14.length (-1), gnw V14 K14.length 0)) dX12_init_128 (Or.inl ⟨rfl, rfl⟩) ac_int (show K14.length + 1 < 1000000 by omega) rfl (by omega) (show 790 = ((K14.length : Nat) : Int) by omega) rfl (Nat.le_of_ble_eq_true rfl) (Nat.le_of_ble_eq_true rfl) ?_
  refine gX_pR 15 dX12_init_130 fdX12_52 fpX12_52 rfl rfl (kE_app _ _ _ _ h14.1) ?_
  obtain ⟨K15, R15, V15, ⟨e1, e2, e3⟩, h15, f15⟩ := mdP_ex h14 (by decide) (show mdT[14]? = some (15, 790, 0, 320) from rfl) (by decide)
  rw [e1, e2, e3]
  clear e1 e2 e3
  have l15 := h15.2.1
  refine gX_aloadn dX12_init_133 rfl ?_
  refine gX_iconst dX12_init_134 ⟨by decide, by decide⟩ ?_
  refine gX_pI 17 dX12_init_135 fdX12_55 fpX12_55 rfl (Or.inl rfl) h15.1 ?_
  obtain ⟨Vf, ef⟩ : ∃ Vf, gup V15 775 17 (-1) = Vf := ⟨_, rfl⟩
  rw [ef]
  have h15a := h15
  have h15 : mdP K R V 15 K15 R15 Vf := ⟨h15a.1, h15a.2.1, h15a.2.2.1, h15a.2.2.2.1, fun x hx => ⟨(h15a.2.2.2.2.1 x hx).1, by rw [← ef, gup_ne (by omega)]; exact (h15a.2.2.2.2.1 x hx).2⟩, fun k hk => by rw [← ef, gup_k hk]; exact h15a.2.2.2.2.2.1 k hk, fun x x0 x1 k => by rw [← ef, gup_ne (by omega)]; exact h15a.2.2.2.2.2.2 x x0 x1 k⟩
  have f15 : Vf 775 17 = -1 := by rw [← ef]; exact gup_s
  refine gX_aloadn dX12_init_138 rfl ?_
  refine gX_bipush dX12_init_139 (by decide) ⟨by decide, by decide⟩ ?_
  refine gX_newa (t := 0) (n := 6) (a := 791) (m2 := (K15 ++ [Sum.inr (0, 6)], gnw R15 K15.length (-1), gnw Vf K15.length 0)) dX12_init_141 (Or.inl ⟨rfl, rfl⟩) ac_int (show K15.length + 1 < 1000000 by omega) rfl (by omega) (show 791 = ((K15.length : Nat) : Int) by omega) rfl (Nat.le_of_ble_eq_true rfl) (Nat.le_of_ble_eq_true rfl) ?_
  refine gX_pR 21 dX12_init_143 fdX12_59 fpX12_59 rfl rfl (kE_app _ _ _ _ h15.1) ?_
  obtain ⟨K16, R16, V16, ⟨e1, e2, e3⟩, h16, f16⟩ := mdP_ex h15 (by decide) (show mdT[15]? = some (21, 791, 0, 6) from rfl) (by decide)
  rw [e1, e2, e3]
  clear e1 e2 e3
  have l16 := h16.2.1
  refine gX_aloadn dX12_init_146 rfl ?_
  refine gX_bipush dX12_init_147 (by decide) ⟨by decide, by decide⟩ ?_
  refine gX_newa (t := 0) (n := 6) (a := 792) (m2 := (K16 ++ [Sum.inr (0, 6)], gnw R16 K16.length (-1), gnw V16 K16.length 0)) dX12_init_149 (Or.inl ⟨rfl, rfl⟩) ac_int (show K16.length + 1 < 1000000 by omega) rfl (by omega) (show 792 = ((K16.length : Nat) : Int) by omega) rfl (Nat.le_of_ble_eq_true rfl) (Nat.le_of_ble_eq_true rfl) ?_
  refine gX_pR 22 dX12_init_151 fdX12_62 fpX12_62 rfl rfl (kE_app _ _ _ _ h16.1) ?_
  obtain ⟨K17, R17, V17, ⟨e1, e2, e3⟩, h17, f17⟩ := mdP_ex h16 (by decide) (show mdT[16]? = some (22, 792, 0, 6) from rfl) (by decide)
  rw [e1, e2, e3]
  clear e1 e2 e3
  have l17 := h17.2.1
  refine gX_aloadn dX12_init_154 rfl ?_
  refine gX_iconst dX12_init_155 ⟨by decide, by decide⟩ ?_
  refine gX_newa (t := 0) (n := 4) (a := 793) (m2 := (K17 ++ [Sum.inr (0, 4)], gnw R17 K17.length (-1), gnw V17 K17.length 0)) dX12_init_156 (Or.inl ⟨rfl, rfl⟩) ac_int (show K17.length + 1 < 1000000 by omega) rfl (by omega) (show 793 = ((K17.length : Nat) : Int) by omega) rfl (Nat.le_of_ble_eq_true rfl) (Nat.le_of_ble_eq_true rfl) ?_
  refine gX_pR 29 dX12_init_158 fdX12_65 fpX12_65 rfl rfl (kE_app _ _ _ _ h17.1) ?_
  obtain ⟨K18, R18, V18, ⟨e1, e2, e3⟩, h18, f18⟩ := mdP_ex h17 (by decide) (show mdT[17]? = some (29, 793, 0, 4) from rfl) (by decide)
  rw [e1, e2, e3]
  clear e1 e2 e3
  have l18 := h18.2.1
  refine gX_aloadn dX12_init_161 rfl ?_
  refine gX_bipush dX12_init_162 (by decide) ⟨by decide, by decide⟩ ?_
  refine gX_newa (t := 0) (n := 16) (a := 794) (m2 := (K18 ++ [Sum.inr (0, 16)], gnw R18 K18.length (-1), gnw V18 K18.length 0)) dX12_init_164 (Or.inl ⟨rfl, rfl⟩) ac_int (show K18.length + 1 < 1000000 by omega) rfl (by omega) (show 794 = ((K18.length : Nat) : Int) by omega) rfl (Nat.le_of_ble_eq_true rfl) (Nat.le_of_ble_eq_true rfl) ?_
  refine gX_pR 30 dX12_init_166 fdX12_68 fpX12_68 rfl rfl (kE_app _ _ _ _ h18.1) ?_
  obtain ⟨K19, R19, V19, ⟨e1, e2, e3⟩, h19, f19⟩ := mdP_ex h18 (by decide) (show mdT[18]? = some (30, 794, 0, 16) from rfl) (by decide)
  rw [e1, e2, e3]
  clear e1 e2 e3
  have l19 := h19.2.1
  refine gX_aloadn dX12_init_169 rfl ?_
  refine gX_bipush dX12_init_170 (by decide) ⟨by decide, by decide⟩ ?_
  refine gX_newa (t := 0) (n := 16) (a := 795) (m2 := (K19 ++ [Sum.inr (0, 16)], gnw R19 K19.length (-1), gnw V19 K19.length 0)) dX12_init_172 (Or.inl ⟨rfl, rfl⟩) ac_int (show K19.length + 1 < 1000000 by omega) rfl (by omega) (show 795 = ((K19.length : Nat) : Int) by omega) rfl (Nat.le_of_ble_eq_true rfl) (Nat.le_of_ble_eq_true rfl) ?_
  refine gX_pR 31 dX12_init_174 fdX12_71 fpX12_71 rfl rfl (kE_app _ _ _ _ h19.1) ?_
  obtain ⟨K20, R20, V20, ⟨e1, e2, e3⟩, h20, f20⟩ := mdP_ex h19 (by decide) (show mdT[19]? = some (31, 795, 0, 16) from rfl) (by decide)
  rw [e1, e2, e3]
  clear e1 e2 e3
  have l20 := h20.2.1
  refine gX_aloadn dX12_init_177 rfl ?_
  refine gX_bipush dX12_init_178 (by decide) ⟨by decide, by decide⟩ ?_
  refine gX_newa (t := 0) (n := 16) (a := 796) (m2 := (K20 ++ [Sum.inr (0, 16)], gnw R20 K20.length (-1), gnw V20 K20.length 0)) dX12_init_180 (Or.inl ⟨rfl, rfl⟩) ac_int (show K20.length + 1 < 1000000 by omega) rfl (by omega) (show 796 = ((K20.length : Nat) : Int) by omega) rfl (Nat.le_of_ble_eq_true rfl) (Nat.le_of_ble_eq_true rfl) ?_
  refine gX_pR 32 dX12_init_182 fdX12_74 fpX12_74 rfl rfl (kE_app _ _ _ _ h20.1) ?_
  obtain ⟨K21, R21, V21, ⟨e1, e2, e3⟩, h21, f21⟩ := mdP_ex h20 (by decide) (show mdT[20]? = some (32, 796, 0, 16) from rfl) (by decide)
  rw [e1, e2, e3]
  clear e1 e2 e3
  have l21 := h21.2.1
  refine gX_aloadn dX12_init_185 rfl ?_
  refine gX_bipush dX12_init_186 (by decide) ⟨by decide, by decide⟩ ?_
  refine gX_newa (t := 0) (n := 24) (a := 797) (m2 := (K21 ++ [Sum.inr (0, 24)], gnw R21 K21.length (-1), gnw V21 K21.length 0)) dX12_init_188 (Or.inl ⟨rfl, rfl⟩) ac_int (show K21.length + 1 < 1000000 by omega) rfl (by omega) (show 797 = ((K21.length : Nat) : Int) by omega) rfl (Nat.le_of_ble_eq_true rfl) (Nat.le_of_ble_eq_true rfl) ?_
  refine gX_pR 33 dX12_init_190 fdX12_77 fpX12_77 rfl rfl (kE_app _ _ _ _ h21.1) ?_
  obtain ⟨K22, R22, V22, ⟨e1, e2, e3⟩, h22, f22⟩ := mdP_ex h21 (by decide) (show mdT[21]? = some (33, 797, 0, 24) from rfl) (by decide)
  rw [e1, e2, e3]
  clear e1 e2 e3
  have l22 := h22.2.1
  refine gX_aloadn dX12_init_193 rfl ?_
  refine gX_iconst dX12_init_194 ⟨by decide, by decide⟩ ?_
  refine gX_newa (t := 0) (n := 4) (a := 798) (m2 := (K22 ++ [Sum.inr (0, 4)], gnw R22 K22.length (-1), gnw V22 K22.length 0)) dX12_init_195 (Or.inl ⟨rfl, rfl⟩) ac_int (show K22.length + 1 < 1000000 by omega) rfl (by omega) (show 798 = ((K22.length : Nat) : Int) by omega) rfl (Nat.le_of_ble_eq_true rfl) (Nat.le_of_ble_eq_true rfl) ?_
  refine gX_pR 34 dX12_init_197 fdX12_80 fpX12_80 rfl rfl (kE_app _ _ _ _ h22.1) ?_
  obtain ⟨K23, R23, V23, ⟨e1, e2, e3⟩, h23, f23⟩ := mdP_ex h22 (by decide) (show mdT[22]? = some (34, 798, 0, 4) from rfl) (by decide)
  rw [e1, e2, e3]
  clear e1 e2 e3
  have l23 := h23.2.1
  refine gX_aloadn dX12_init_200 rfl ?_
  refine gX_iconst dX12_init_201 ⟨by decide, by decide⟩ ?_
  refine gX_newa (t := 0) (n := 4) (a := 799) (m2 := (K23 ++ [Sum.inr (0, 4)], gnw R23 K23.length (-1), gnw V23 K23.length 0)) dX12_init_202 (Or.inl ⟨rfl, rfl⟩) ac_int (show K23.length + 1 < 1000000 by omega) rfl (by omega) (show 799 = ((K23.length : Nat) : Int) by omega) rfl (Nat.le_of_ble_eq_true rfl) (Nat.le_of_ble_eq_true rfl) ?_
  refine gX_pR 35 dX12_init_204 fdX12_83 fpX12_83 rfl rfl (kE_app _ _ _ _ h23.1) ?_
  obtain ⟨K24, R24, V24, ⟨e1, e2, e3⟩, h24, f24⟩ := mdP_ex h23 (by decide) (show mdT[23]? = some (35, 799, 0, 4) from rfl) (by decide)
  rw [e1, e2, e3]
  clear e1 e2 e3
  have l24 := h24.2.1
  refine gX_aloadn dX12_init_207 rfl ?_
  refine gX_iconst dX12_init_208 ⟨by decide, by decide⟩ ?_
  refine gX_newa (t := 0) (n := 4) (a := 800) (m2 := (K24 ++ [Sum.inr (0, 4)], gnw R24 K24.length (-1), gnw V24 K24.length 0)) dX12_init_209 (Or.inl ⟨rfl, rfl⟩) ac_int (show K24.length + 1 < 1000000 by omega) rfl (by omega) (show 800 = ((K24.length : Nat) : Int) by omega) rfl (Nat.le_of_ble_eq_true rfl) (Nat.le_of_ble_eq_true rfl) ?_
  refine gX_pR 37 dX12_init_211 fdX12_86 fpX12_86 rfl rfl (kE_app _ _ _ _ h24.1) ?_
  obtain ⟨K25, R25, V25, ⟨e1, e2, e3⟩, h25, f25⟩ := mdP_ex h24 (by decide) (show mdT[24]? = some (37, 800, 0, 4) from rfl) (by decide)
  rw [e1, e2, e3]
  clear e1 e2 e3
  have l25 := h25.2.1
  refine gX_aloadn dX12_init_214 rfl ?_
  refine gX_iconst dX12_init_215 ⟨by decide, by decide⟩ ?_
  refine gX_newa (t := 0) (n := 4) (a := 801) (m2 := (K25 ++ [Sum.inr (0, 4)], gnw R25 K25.length (-1), gnw V25 K25.length 0)) dX12_init_216 (Or.inl ⟨rfl, rfl⟩) ac_int (show K25.length + 1 < 1000000 by omega) rfl (by omega) (show 801 = ((K25.length : Nat) : Int) by omega) rfl (Nat.le_of_ble_eq_true rfl) (Nat.le_of_ble_eq_true rfl) ?_
  refine gX_pR 38 dX12_init_218 fdX12_89 fpX12_89 rfl rfl (kE_app _ _ _ _ h25.1) ?_
  obtain ⟨K26, R26, V26, ⟨e1, e2, e3⟩, h26, f26⟩ := mdP_ex h25 (by decide) (show mdT[25]? = some (38, 801, 0, 4) from rfl) (by decide)
  rw [e1, e2, e3]
  clear e1 e2 e3
  have l26 := h26.2.1
  refine gX_aloadn dX12_init_221 rfl ?_
  refine gX_iconst dX12_init_222 ⟨by decide, by decide⟩ ?_
  refine gX_newa (t := 0) (n := 4) (a := 802) (m2 := (K26 ++ [Sum.inr (0, 4)], gnw R26 K26.length (-1), gnw V26 K26.length 0)) dX12_init_223 (Or.inl ⟨rfl, rfl⟩) ac_int (show K26.length + 1 < 1000000 by omega) rfl (by omega) (show 802 = ((K26.length : Nat) : Int) by omega) rfl (Nat.le_of_ble_eq_true rfl) (Nat.le_of_ble_eq_true rfl) ?_
  refine gX_pR 39 dX12_init_225 fdX12_92 fpX12_92 rfl rfl (kE_app _ _ _ _ h26.1) ?_
  obtain ⟨K27, R27, V27, ⟨e1, e2, e3⟩, h27, f27⟩ := mdP_ex h26 (by decide) (show mdT[26]? = some (39, 802, 0, 4) from rfl) (by decide)
  rw [e1, e2, e3]
  clear e1 e2 e3
  have l27 := h27.2.1
  refine gX_aloadn dX12_init_228 rfl ?_
  refine gX_bipush dX12_init_229 (by decide) ⟨by decide, by decide⟩ ?_
  refine gX_newa (t := 0) (n := 6) (a := 803) (m2 := (K27 ++ [Sum.inr (0, 6)], gnw R27 K27.length (-1), gnw V27 K27.length 0)) dX12_init_231 (Or.inl ⟨rfl, rfl⟩) ac_int (show K27.length + 1 < 1000000 by omega) rfl (by omega) (show 803 = ((K27.length : Nat) : Int) by omega) rfl (Nat.le_of_ble_eq_true rfl) (Nat.le_of_ble_eq_true rfl) ?_
  refine gX_pR 40 dX12_init_233 fdX12_95 fpX12_95 rfl rfl (kE_app _ _ _ _ h27.1) ?_
  obtain ⟨K28, R28, V28, ⟨e1, e2, e3⟩, h28, f28⟩ := mdP_ex h27 (by decide) (show mdT[27]? = some (40, 803, 0, 6) from rfl) (by decide)
  rw [e1, e2, e3]
  clear e1 e2 e3
  have l28 := h28.2.1
  refine gX_aloadn dX12_init_236 rfl ?_
  refine gX_bipush dX12_init_237 (by decide) ⟨by decide, by decide⟩ ?_
  refine gX_newa (t := 1) (n := 20) (a := 804) (m2 := (K28 ++ [Sum.inr (1, 20)], gnw R28 K28.length (-1), gnw V28 K28.length 0)) dX12_init_239 (Or.inr ⟨rfl, rfl⟩) ac_boolean (show K28.length + 1 < 1000000 by omega) rfl (by omega) (show 804 = ((K28.length : Nat) : Int) by omega) rfl (Nat.le_of_ble_eq_true rfl) (Nat.le_of_ble_eq_true rfl) ?_
  refine gX_pR 45 dX12_init_241 fdX12_98 fpX12_98 rfl rfl (kE_app _ _ _ _ h28.1) ?_
  obtain ⟨K29, R29, V29, ⟨e1, e2, e3⟩, h29, f29⟩ := mdP_ex h28 (by decide) (show mdT[28]? = some (45, 804, 1, 20) from rfl) (by decide)
  rw [e1, e2, e3]
  clear e1 e2 e3
  have l29 := h29.2.1
  refine gX_aloadn dX12_init_244 rfl ?_
  refine gX_bipush dX12_init_245 (by decide) ⟨by decide, by decide⟩ ?_
  refine gX_newa (t := 0) (n := 6) (a := 805) (m2 := (K29 ++ [Sum.inr (0, 6)], gnw R29 K29.length (-1), gnw V29 K29.length 0)) dX12_init_247 (Or.inl ⟨rfl, rfl⟩) ac_int (show K29.length + 1 < 1000000 by omega) rfl (by omega) (show 805 = ((K29.length : Nat) : Int) by omega) rfl (Nat.le_of_ble_eq_true rfl) (Nat.le_of_ble_eq_true rfl) ?_
  refine gX_pR 46 dX12_init_249 fdX12_102 fpX12_102 rfl rfl (kE_app _ _ _ _ h29.1) ?_
  obtain ⟨K30, R30, V30, ⟨e1, e2, e3⟩, h30, f30⟩ := mdP_ex h29 (by decide) (show mdT[29]? = some (46, 805, 0, 6) from rfl) (by decide)
  rw [e1, e2, e3]
  clear e1 e2 e3
  have l30 := h30.2.1
  refine gX_aloadn dX12_init_252 rfl ?_
  refine gX_bipush dX12_init_253 (by decide) ⟨by decide, by decide⟩ ?_
  refine gX_newa (t := 0) (n := 6) (a := 806) (m2 := (K30 ++ [Sum.inr (0, 6)], gnw R30 K30.length (-1), gnw V30 K30.length 0)) dX12_init_255 (Or.inl ⟨rfl, rfl⟩) ac_int (show K30.length + 1 < 1000000 by omega) rfl (by omega) (show 806 = ((K30.length : Nat) : Int) by omega) rfl (Nat.le_of_ble_eq_true rfl) (Nat.le_of_ble_eq_true rfl) ?_
  refine gX_pR 47 dX12_init_257 fdX12_105 fpX12_105 rfl rfl (kE_app _ _ _ _ h30.1) ?_
  obtain ⟨K31, R31, V31, ⟨e1, e2, e3⟩, h31, f31⟩ := mdP_ex h30 (by decide) (show mdT[30]? = some (47, 806, 0, 6) from rfl) (by decide)
  rw [e1, e2, e3]
  clear e1 e2 e3
  have l31 := h31.2.1
  refine gX_aloadn dX12_init_260 rfl ?_
  refine gX_bipush dX12_init_261 (by decide) ⟨by decide, by decide⟩ ?_
  refine gX_newa (t := 0) (n := 6) (a := 807) (m2 := (K31 ++ [Sum.inr (0, 6)], gnw R31 K31.length (-1), gnw V31 K31.length 0)) dX12_init_263 (Or.inl ⟨rfl, rfl⟩) ac_int (show K31.length + 1 < 1000000 by omega) rfl (by omega) (show 807 = ((K31.length : Nat) : Int) by omega) rfl (Nat.le_of_ble_eq_true rfl) (Nat.le_of_ble_eq_true rfl) ?_
  refine gX_pR 48 dX12_init_265 fdX12_108 fpX12_108 rfl rfl (kE_app _ _ _ _ h31.1) ?_
  obtain ⟨K32, R32, V32, ⟨e1, e2, e3⟩, h32, f32⟩ := mdP_ex h31 (by decide) (show mdT[31]? = some (48, 807, 0, 6) from rfl) (by decide)
  rw [e1, e2, e3]
  clear e1 e2 e3
  have l32 := h32.2.1
  refine gX_aloadn dX12_init_268 rfl ?_
  refine gX_bipush dX12_init_269 (by decide) ⟨by decide, by decide⟩ ?_
  refine gX_newa (t := 0) (n := 6) (a := 808) (m2 := (K32 ++ [Sum.inr (0, 6)], gnw R32 K32.length (-1), gnw V32 K32.length 0)) dX12_init_271 (Or.inl ⟨rfl, rfl⟩) ac_int (show K32.length + 1 < 1000000 by omega) rfl (by omega) (show 808 = ((K32.length : Nat) : Int) by omega) rfl (Nat.le_of_ble_eq_true rfl) (Nat.le_of_ble_eq_true rfl) ?_
  refine gX_pR 49 dX12_init_273 fdX12_111 fpX12_111 rfl rfl (kE_app _ _ _ _ h32.1) ?_
  obtain ⟨K33, R33, V33, ⟨e1, e2, e3⟩, h33, f33⟩ := mdP_ex h32 (by decide) (show mdT[32]? = some (49, 808, 0, 6) from rfl) (by decide)
  rw [e1, e2, e3]
  clear e1 e2 e3
  have l33 := h33.2.1
  refine gX_aloadn dX12_init_276 rfl ?_
  refine gX_bipush dX12_init_277 (by decide) ⟨by decide, by decide⟩ ?_
  refine gX_newa (t := 0) (n := 20) (a := 809) (m2 := (K33 ++ [Sum.inr (0, 20)], gnw R33 K33.length (-1), gnw V33 K33.length 0)) dX12_init_279 (Or.inl ⟨rfl, rfl⟩) ac_int (show K33.length + 1 < 1000000 by omega) rfl (by omega) (show 809 = ((K33.length : Nat) : Int) by omega) rfl (Nat.le_of_ble_eq_true rfl) (Nat.le_of_ble_eq_true rfl) ?_
  refine gX_pR 51 dX12_init_281 fdX12_114 fpX12_114 rfl rfl (kE_app _ _ _ _ h33.1) ?_
  obtain ⟨K34, R34, V34, ⟨e1, e2, e3⟩, h34, f34⟩ := mdP_ex h33 (by decide) (show mdT[33]? = some (51, 809, 0, 20) from rfl) (by decide)
  rw [e1, e2, e3]
  clear e1 e2 e3
  have l34 := h34.2.1
  refine gX_aloadn dX12_init_284 rfl ?_
  refine gX_bipush dX12_init_285 (by decide) ⟨by decide, by decide⟩ ?_
  refine gX_newa (t := 0) (n := 20) (a := 810) (m2 := (K34 ++ [Sum.inr (0, 20)], gnw R34 K34.length (-1), gnw V34 K34.length 0)) dX12_init_287 (Or.inl ⟨rfl, rfl⟩) ac_int (show K34.length + 1 < 1000000 by omega) rfl (by omega) (show 810 = ((K34.length : Nat) : Int) by omega) rfl (Nat.le_of_ble_eq_true rfl) (Nat.le_of_ble_eq_true rfl) ?_
  refine gX_pR 52 dX12_init_289 fdX12_117 fpX12_117 rfl rfl (kE_app _ _ _ _ h34.1) ?_
  obtain ⟨K35, R35, V35, ⟨e1, e2, e3⟩, h35, f35⟩ := mdP_ex h34 (by decide) (show mdT[34]? = some (52, 810, 0, 20) from rfl) (by decide)
  rw [e1, e2, e3]
  clear e1 e2 e3
  have l35 := h35.2.1
  refine gX_aloadn dX12_init_292 rfl ?_
  refine gX_sipush dX12_init_293 (by decide) ⟨by decide, by decide⟩ ?_
  refine gX_newa (t := 0) (n := 1000) (a := 811) (m2 := (K35 ++ [Sum.inr (0, 1000)], gnw R35 K35.length (-1), gnw V35 K35.length 0)) dX12_init_296 (Or.inl ⟨rfl, rfl⟩) ac_int (show K35.length + 1 < 1000000 by omega) rfl (by omega) (show 811 = ((K35.length : Nat) : Int) by omega) rfl (Nat.le_of_ble_eq_true rfl) (Nat.le_of_ble_eq_true rfl) ?_
  refine gX_pR 54 dX12_init_298 fdX12_120 fpX12_120 rfl rfl (kE_app _ _ _ _ h35.1) ?_
  obtain ⟨K36, R36, V36, ⟨e1, e2, e3⟩, h36, f36⟩ := mdP_ex h35 (by decide) (show mdT[35]? = some (54, 811, 0, 1000) from rfl) (by decide)
  rw [e1, e2, e3]
  clear e1 e2 e3
  have l36 := h36.2.1
  refine gX_aloadn dX12_init_301 rfl ?_
  refine gX_iconst dX12_init_302 ⟨by decide, by decide⟩ ?_
  refine gX_newa (t := 0) (n := 4) (a := 812) (m2 := (K36 ++ [Sum.inr (0, 4)], gnw R36 K36.length (-1), gnw V36 K36.length 0)) dX12_init_303 (Or.inl ⟨rfl, rfl⟩) ac_int (show K36.length + 1 < 1000000 by omega) rfl (by omega) (show 812 = ((K36.length : Nat) : Int) by omega) rfl (Nat.le_of_ble_eq_true rfl) (Nat.le_of_ble_eq_true rfl) ?_
  refine gX_pR 56 dX12_init_305 fdX12_123 fpX12_123 rfl rfl (kE_app _ _ _ _ h36.1) ?_
  obtain ⟨K37, R37, V37, ⟨e1, e2, e3⟩, h37, f37⟩ := mdP_ex h36 (by decide) (show mdT[36]? = some (56, 812, 0, 4) from rfl) (by decide)
  rw [e1, e2, e3]
  clear e1 e2 e3
  have l37 := h37.2.1
  refine gX_aloadn dX12_init_308 rfl ?_
  refine gX_sipush dX12_init_309 (by decide) ⟨by decide, by decide⟩ ?_
  refine gX_newa (t := 0) (n := 1681) (a := 813) (m2 := (K37 ++ [Sum.inr (0, 1681)], gnw R37 K37.length (-1), gnw V37 K37.length 0)) dX12_init_312 (Or.inl ⟨rfl, rfl⟩) ac_int (show K37.length + 1 < 1000000 by omega) rfl (by omega) (show 813 = ((K37.length : Nat) : Int) by omega) rfl (Nat.le_of_ble_eq_true rfl) (Nat.le_of_ble_eq_true rfl) ?_
  refine gX_pR 57 dX12_init_314 fdX12_126 fpX12_126 rfl rfl (kE_app _ _ _ _ h37.1) ?_
  obtain ⟨K38, R38, V38, ⟨e1, e2, e3⟩, h38, f38⟩ := mdP_ex h37 (by decide) (show mdT[37]? = some (57, 813, 0, 1681) from rfl) (by decide)
  rw [e1, e2, e3]
  clear e1 e2 e3
  have l38 := h38.2.1
  refine gX_aloadn dX12_init_317 rfl ?_
  refine gX_bipush dX12_init_318 (by decide) ⟨by decide, by decide⟩ ?_
  refine gX_newa (t := 0) (n := 40) (a := 814) (m2 := (K38 ++ [Sum.inr (0, 40)], gnw R38 K38.length (-1), gnw V38 K38.length 0)) dX12_init_320 (Or.inl ⟨rfl, rfl⟩) ac_int (show K38.length + 1 < 1000000 by omega) rfl (by omega) (show 814 = ((K38.length : Nat) : Int) by omega) rfl (Nat.le_of_ble_eq_true rfl) (Nat.le_of_ble_eq_true rfl) ?_
  refine gX_pR 58 dX12_init_322 fdX12_129 fpX12_129 rfl rfl (kE_app _ _ _ _ h38.1) ?_
  obtain ⟨K39, R39, V39, ⟨e1, e2, e3⟩, h39, f39⟩ := mdP_ex h38 (by decide) (show mdT[38]? = some (58, 814, 0, 40) from rfl) (by decide)
  rw [e1, e2, e3]
  clear e1 e2 e3
  have l39 := h39.2.1
  refine gX_aloadn dX12_init_325 rfl ?_
  refine gX_bipush dX12_init_326 (by decide) ⟨by decide, by decide⟩ ?_
  refine gX_newa (t := 1) (n := 40) (a := 815) (m2 := (K39 ++ [Sum.inr (1, 40)], gnw R39 K39.length (-1), gnw V39 K39.length 0)) dX12_init_328 (Or.inr ⟨rfl, rfl⟩) ac_boolean (show K39.length + 1 < 1000000 by omega) rfl (by omega) (show 815 = ((K39.length : Nat) : Int) by omega) rfl (Nat.le_of_ble_eq_true rfl) (Nat.le_of_ble_eq_true rfl) ?_
  refine gX_pR 59 dX12_init_330 fdX12_132 fpX12_132 rfl rfl (kE_app _ _ _ _ h39.1) ?_
  obtain ⟨K40, R40, V40, ⟨e1, e2, e3⟩, h40, f40⟩ := mdP_ex h39 (by decide) (show mdT[39]? = some (59, 815, 1, 40) from rfl) (by decide)
  rw [e1, e2, e3]
  clear e1 e2 e3
  have l40 := h40.2.1
  refine gX_aloadn dX12_init_333 rfl ?_
  refine gX_sipush dX12_init_334 (by decide) ⟨by decide, by decide⟩ ?_
  refine gX_newa (t := 0) (n := 400) (a := 816) (m2 := (K40 ++ [Sum.inr (0, 400)], gnw R40 K40.length (-1), gnw V40 K40.length 0)) dX12_init_337 (Or.inl ⟨rfl, rfl⟩) ac_int (show K40.length + 1 < 1000000 by omega) rfl (by omega) (show 816 = ((K40.length : Nat) : Int) by omega) rfl (Nat.le_of_ble_eq_true rfl) (Nat.le_of_ble_eq_true rfl) ?_
  refine gX_pR 60 dX12_init_339 fdX12_135 fpX12_135 rfl rfl (kE_app _ _ _ _ h40.1) ?_
  obtain ⟨K41, R41, V41, ⟨e1, e2, e3⟩, h41, f41⟩ := mdP_ex h40 (by decide) (show mdT[40]? = some (60, 816, 0, 400) from rfl) (by decide)
  rw [e1, e2, e3]
  clear e1 e2 e3
  have l41 := h41.2.1
  refine gX_aloadn dX12_init_342 rfl ?_
  refine gX_sipush dX12_init_343 (by decide) ⟨by decide, by decide⟩ ?_
  refine gX_newa (t := 0) (n := 1024) (a := 817) (m2 := (K41 ++ [Sum.inr (0, 1024)], gnw R41 K41.length (-1), gnw V41 K41.length 0)) dX12_init_346 (Or.inl ⟨rfl, rfl⟩) ac_int (show K41.length + 1 < 1000000 by omega) rfl (by omega) (show 817 = ((K41.length : Nat) : Int) by omega) rfl (Nat.le_of_ble_eq_true rfl) (Nat.le_of_ble_eq_true rfl) ?_
  refine gX_pR 61 dX12_init_348 fdX12_138 fpX12_138 rfl rfl (kE_app _ _ _ _ h41.1) ?_
  obtain ⟨K42, R42, V42, ⟨e1, e2, e3⟩, h42, f42⟩ := mdP_ex h41 (by decide) (show mdT[41]? = some (61, 817, 0, 1024) from rfl) (by decide)
  rw [e1, e2, e3]
  clear e1 e2 e3
  have l42 := h42.2.1
  refine gX_aloadn dX12_init_351 rfl ?_
  refine gX_bipush dX12_init_352 (by decide) ⟨by decide, by decide⟩ ?_
  refine gX_newa (t := 0) (n := 10) (a := 818) (m2 := (K42 ++ [Sum.inr (0, 10)], gnw R42 K42.length (-1), gnw V42 K42.length 0)) dX12_init_354 (Or.inl ⟨rfl, rfl⟩) ac_int (show K42.length + 1 < 1000000 by omega) rfl (by omega) (show 818 = ((K42.length : Nat) : Int) by omega) rfl (Nat.le_of_ble_eq_true rfl) (Nat.le_of_ble_eq_true rfl) ?_
  refine gX_pR 63 dX12_init_356 fdX12_141 fpX12_141 rfl rfl (kE_app _ _ _ _ h42.1) ?_
  obtain ⟨K43, R43, V43, ⟨e1, e2, e3⟩, h43, f43⟩ := mdP_ex h42 (by decide) (show mdT[42]? = some (63, 818, 0, 10) from rfl) (by decide)
  rw [e1, e2, e3]
  clear e1 e2 e3
  have l43 := h43.2.1
  refine gX_iconst dX12_init_359 ⟨by decide, by decide⟩ ?_
  refine gX_istoren dX12_init_360 (show (1 : Nat) < 2 from by decide) (ls2 := [some (ga 775), some (gi 0)]) rfl ?_
  have hM : mdK K43 R43 := h43.k
  have f43a : V43 775 17 = -1 := by rw [f43, f42, f41, f40, f39, f38, f37, f36, f35, f34, f33, f32, f31, f30, f29, f28, f27, f26, f25, f24, f23, f22, f21, f20, f19, f18, f17, f16]; exact f15
  have lp : ∀ (jj : Nat) (g : Int) (W : Int → Int → Int) (bc bs : Nat), (4 : Int) - g < (jj : Int) → 0 ≤ g → g ≤ 4 → (∀ h : Int, 0 ≤ h → h < g → rhA W h ghE) → (∀ x, x < 775 → W x = V x) → W 775 0 = 0 ∧ W 775 16 = 0 ∧ W 775 17 = -1 → gX l E (gFm E (d + 2) iX12_init Q) 361 [some (ga 775), some (gi g)] [] (K43, R43, W) bc bs := by
    intro jj
    induction jj with
    | zero =>
      intro g W bc bs hj g0 g1 i1 i2 i3
      exfalso; omega
    | succ jj ih =>
      intro g W bc bs hj g0 g1 i1 i2 i3
      refine gX_iloadn dX12_init_361 rfl ?_
      refine gX_iconst dX12_init_362 ⟨by decide, by decide⟩ ?_
      refine gX_icmpge (tgt := 381) dX12_init_363 (by decide) (fun lo1 => ?_) (fun lo1 => ?_)
      · refine gX_vret dX12_init_381 rfl ?_
        exact hQ K43 R43 W (by rw [l43]; rfl) h43.2.2.2.1 hM (fun x hx => ⟨(h43.2.2.2.2.1 x hx).1, i2 x hx⟩) ⟨i3.1, by decide, i3.2.2, fun b b0 b1 => absurd b1 (by show ¬ b < ((0 : Nat) : Int); omega), rfl, fun h z0 z1 => by rw [show ghq gbE h = ghE from ghq_E z0 z1]; exact i1 h z0 (by omega), ⟨i3.2.1, by decide, fun j x hj => by cases hj⟩⟩
      · refine gX_aloadn dX12_init_366 rfl ?_
        refine gX_virt (J := iX12_bareHand) (av := []) (a := 775) (st := []) dX12_init_367 lkX12_144 kX12_bareHand vX12_bareHand (gFit_m (by decide)) h43.1 rfl rfl (Nat.le_of_ble_eq_true rfl) (Nat.zero_le _) (Nat.zero_le _) rfl ?_
        refine m_bareHand hM (fun Wa hra hfa => ?_)
        show gX l E _ 370 [some (ga 775), some (gi g)] [] (K43, R43, Wa) _ _
        refine gX_aloadn dX12_init_370 rfl ?_
        refine gX_iloadn dX12_init_371 rfl ?_
        refine gX_virt (J := iX12_keepHand) (av := [gi g]) (a := 775) (st := []) dX12_init_372 lkX12_147 kX12_keepHand vX12_keepHand (gFit_m (by decide)) h43.1 rfl rfl (Nat.le_of_ble_eq_true rfl) (Nat.zero_le _) (Nat.zero_le _) rfl ?_
        refine m_keepHand hM ⟨by omega, by omega⟩ hra (fun Wb hrb hfb => ?_)
        show gX l E _ 375 [some (ga 775), some (gi g)] [] (K43, R43, Wb) _ _
        refine gX_iinc dX12_init_375 rfl (show (1 : Nat) < 2 from by decide) ⟨by omega, by omega⟩ (ls2 := [some (ga 775), some (gi (g + 1))]) rfl ?_
        refine gX_goto (tgt := 361) dX12_init_378 (by decide) ?_
        refine ih (g + 1) Wb _ _ (by omega) (by omega) (by omega) (fun h z0 z1 => ?_) (fun x hx => by rw [show Wb x = Wa x from funext fun k => hfb x k (by unfold inHd; omega), hfa.1 x (by omega) (by omega)]; exact i2 x hx) ⟨by rw [hfb 775 0 (by unfold inHd; omega), hfa.2 0 (by omega) (by omega) (by omega)]; exact i3.1, by rw [hfb 775 16 (by unfold inHd; omega), hfa.2 16 (by omega) (by omega) (by omega)]; exact i3.2.1, by rw [hfb 775 17 (by unfold inHd; omega), hfa.2 17 (by omega) (by omega) (by omega)]; exact i3.2.2⟩
        by_cases e9 : h = g
        · rw [e9]; exact hrb
        · refine rhA.of ?_ hfb e9
          have z9 := i1 h z0 (by omega)
          unfold rhA at z9 ⊢
          rw [hfa.1 793 (by omega) (by omega), hfa.1 794 (by omega) (by omega), hfa.1 795 (by omega) (by omega), hfa.1 796 (by omega) (by omega), hfa.1 797 (by omega) (by omega), hfa.1 798 (by omega) (by omega), hfa.1 799 (by omega) (by omega)]
          exact z9
  exact lp 5 0 V43 _ _ (by omega) (by omega) (by omega) (fun h z0 z1 => by omega) (fun x hx => (h43.2.2.2.2.1 x hx).2) ⟨h43.2.2.2.2.2.1 0 (by omega), h43.2.2.2.2.2.1 16 (by omega), f43a⟩
end NEW4
